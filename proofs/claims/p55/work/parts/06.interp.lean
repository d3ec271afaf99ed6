/-! the interpreter: what a method does, as a function; objects have numbers, their places in the list 'w' -/
def xi_get : xi_L → Nat → Option Value
  | [], _ => none
  | q :: r, i => cond (Nat.beq q.1 i) (some q.2) (xi_get r i)
def xi_st1 (l : xi_L) (i : Nat) (v : Value) : xi_L := (i, v) :: l.filter (fun q => !(q.1 == i) && !(q.1 + 1 == i && q.2.category == 2))
def xi_st2 (l : xi_L) (i : Nat) (v : Value) : xi_L := (i, v) :: l.filter (fun q => !(q.1 == i) && (!(q.1 == i + 1) && !(q.1 + 1 == i && q.2.category == 2)))
def xi_jmp (pc : Nat) (off : Int) : Option Nat := match (pc : Int) + off with
  | .ofNat n => some n
  | .negSucc _ => none
def xi_ix (i : Int32) (n : Nat) : Bool := !(decide (i < 0)) && Nat.blt i.toNatClampNeg n
def xi_rf : Option Nat → Value
  | none => .null
  | some i => .ref i
def xi_fit (ty : FieldType) (v : Value) : Bool := match v with
  | .ref _ => (match ty with | .object _ => true | .array _ => true | _ => false)
  | .null => (match ty with | .object _ => true | .array _ => true | _ => false)
  | .int x => (match ty with | .int => true | .boolean => decide (narrow .boolean (.int x) = .int x) && fits .boolean (.int x) | _ => false)
  | .long _ => (match ty with | .long => true | _ => false)
  | _ => false
/-- one number on the stack -/
def xi_u1 (F : Nat → List Value → Option xi_F) (st : List Value) (g : Int32 → Value) (pc : Nat) : Option xi_F := match st with
  | .int x :: r => F (pc + 1) (g x :: r)
  | _ => none
def xi_u1l (F : Nat → List Value → Option xi_F) (st : List Value) (g : Int64 → Value) (pc : Nat) : Option xi_F := match st with
  | .long x :: r => F (pc + 1) (g x :: r)
  | _ => none
def xi_b2 (F : Nat → List Value → Option xi_F) (st : List Value) (g : Int32 → Int32 → Int32) (pc : Nat) : Option xi_F := match st with
  | .int y :: .int x :: r => F (pc + 1) (.int (g x y) :: r)
  | _ => none
def xi_b2l (F : Nat → List Value → Option xi_F) (st : List Value) (g : Int64 → Int64 → Value) (pc : Nat) : Option xi_F := match st with
  | .long y :: .long x :: r => F (pc + 1) (g x y :: r)
  | _ => none
def xi_shl (F : Nat → List Value → Option xi_F) (st : List Value) (g : Int64 → Int32 → Int64) (pc : Nat) : Option xi_F := match st with
  | .int y :: .long x :: r => F (pc + 1) (.long (g x y) :: r)
  | _ => none
def xi_j1 (F : Nat → List Value → Option xi_F) (st : List Value) (t : Int32 → Bool) (pc : Nat) (off : Int) : Option xi_F := match st, xi_jmp pc off with
  | .int x :: r, some tgt => cond (t x) (F tgt r) (F (pc + 3) r)
  | _, _ => none
def xi_j2 (F : Nat → List Value → Option xi_F) (st : List Value) (t : Int32 → Int32 → Bool) (pc : Nat) (off : Int) : Option xi_F := match st, xi_jmp pc off with
  | .int y :: .int x :: r, some tgt => cond (t x y) (F tgt r) (F (pc + 3) r)
  | _, _ => none
def xi_ld (F : Nat → List Value → Option xi_F) (l : xi_L) (st : List Value) (i : Nat) (pc : Nat) (k : Nat) : Option xi_F := match xi_get l i with
  | some v => cond (Nat.beq k (match v with | .int _ => 0 | .long _ => 1 | .ref _ => 2 | .null => 2 | _ => 3)) (F pc (v :: st)) none
  | none => none
def xi_isa (b : Bool) (ty : FieldType) : Bool := match ty with
  | .int => !b
  | .byte => b
  | .boolean => b
  | _ => false
def xi_isr (ty : FieldType) : Bool := match ty with
  | .object _ => true
  | .array .long => true
  | _ => false
/-- Math.floorMod, as its code goes -/
def xi_fm (x y : Int32) : Int32 := if x ^^^ y < 0 then (if x - x / y * y = 0 then x - x / y * y else x - x / y * y + y) else x - x / y * y
/-- an instruction that is no call and no return -/
def xi_stp (i d : Nat) (ins : Jvm.ClassFile.Instr) (pc : Nat) (l : xi_L) (st : List Value) (w : xi_W) (c s : Nat) : Option xi_F :=
  let F : Nat → List Value → Option xi_F := fun pc st => some (pc, l, st, w, c, s)
  match ins with
  | .aconst_null => F (pc + 1) (.null :: st)
  | .iconst n => F (pc + 1) (.int (Int32.ofInt n) :: st)
  | .bipush n => F (pc + 2) (.int (Int8.ofInt n).toInt32 :: st)
  | .sipush n => F (pc + 3) (.int (Int16.ofInt n).toInt32 :: st)
  | .lconst n => F (pc + 1) (.long (Int64.ofNat (n : Nat)) :: st)
  | .ldc k => (match xt_kdp (xt_mo i) k with | some q => F (pc + 2) (.int q.1 :: st) | none => (match xt_qdp (xt_mo i) k with | some q => F (pc + 2) (.ref q.1 :: st) | none => none))
  | .ldc_w k => (match xt_qdp (xt_mo i) k with | some q => F (pc + 3) (.ref q.1 :: st) | none => none)
  | .getstatic k => (match xt_sdp (xt_mo i) k with | some q => cond (Nat.beq q.1 0) (F (pc + 3) (.int 1 :: st)) (cond (Nat.beq q.1 1) (F (pc + 3) (.float 0 :: st)) none) | none => none)
  | .lookupswitch dflt ps => (match st with
    | .int x :: r => cond ((ps.toList.zip (ps.toList.drop 1)).all (fun (a, next) => a.1 < next.1)) (match xi_jmp pc (Op.lookupswitch.offset ps.toList dflt x.toInt) with | some tgt => F tgt r | none => none) none
    | _ => none)
  | .ldc2_w k => (match xt_ldp (xt_mo i) k with | some q => F (pc + 3) (.long q.1 :: st) | none => none)
  | .iload k => xi_ld F l st k (pc + 2) 0
  | .iload_n k => xi_ld F l st k (pc + 1) 0
  | .lload k => xi_ld F l st k (pc + 2) 1
  | .lload_n k => xi_ld F l st k (pc + 1) 1
  | .aload k => xi_ld F l st k (pc + 2) 2
  | .aload_n k => xi_ld F l st k (pc + 1) 2
  | .istore k => (match st with | .int x :: r => cond (Nat.blt k (xt_ml i)) (some (pc + 2, xi_st1 l k (.int x), r, w, c, s)) none | _ => none)
  | .istore_n k => (match st with | .int x :: r => cond (Nat.blt k (xt_ml i)) (some (pc + 1, xi_st1 l k (.int x), r, w, c, s)) none | _ => none)
  | .lstore k => (match st with | .long x :: r => cond (Nat.blt (k + 1) (xt_ml i)) (some (pc + 2, xi_st2 l k (.long x), r, w, c, s)) none | _ => none)
  | .lstore_n k => (match st with | .long x :: r => cond (Nat.blt (k + 1) (xt_ml i)) (some (pc + 1, xi_st2 l k (.long x), r, w, c, s)) none | _ => none)
  | .astore k => (match st with | .ref x :: r => cond (Nat.blt k (xt_ml i)) (some (pc + 2, xi_st1 l k (.ref x), r, w, c, s)) none | .null :: r => cond (Nat.blt k (xt_ml i)) (some (pc + 2, xi_st1 l k .null, r, w, c, s)) none | _ => none)
  | .astore_n k => (match st with | .ref x :: r => cond (Nat.blt k (xt_ml i)) (some (pc + 1, xi_st1 l k (.ref x), r, w, c, s)) none | .null :: r => cond (Nat.blt k (xt_ml i)) (some (pc + 1, xi_st1 l k .null, r, w, c, s)) none | _ => none)
  | .iinc k n => (match xi_get l k with | some (.int x) => cond (Nat.blt k (xt_ml i)) (some (pc + 3, xi_st1 l k (.int (x + Int32.ofInt n)), st, w, c, s)) none | _ => none)
  | .iadd => xi_b2 F st (fun x y => x + y) pc
  | .isub => xi_b2 F st (fun x y => x - y) pc
  | .imul => xi_b2 F st (fun x y => x * y) pc
  | .iand => xi_b2 F st (fun x y => x &&& y) pc
  | .ior => xi_b2 F st (fun x y => x ||| y) pc
  | .ixor => xi_b2 F st (fun x y => x ^^^ y) pc
  | .ishl => xi_b2 F st (fun x y => x <<< (y &&& 31)) pc
  | .ishr => xi_b2 F st (fun x y => x >>> (y &&& 31)) pc
  | .iushr => xi_b2 F st (fun x y => (x.toUInt32 >>> (y.toUInt32 &&& Int32.toUInt32 31)).toInt32) pc
  | .idiv => (match st with | .int y :: .int x :: r => cond (decide (y = 0)) none (F (pc + 1) (.int (x / y) :: r)) | _ => none)
  | .irem => (match st with | .int y :: .int x :: r => cond (decide (y = 0)) none (F (pc + 1) (.int (x - x / y * y) :: r)) | _ => none)
  | .ineg => xi_u1 F st (fun x => .int (-x)) pc
  | .ladd => xi_b2l F st (fun x y => .long (x + y)) pc
  | .lsub => xi_b2l F st (fun x y => .long (x - y)) pc
  | .lmul => xi_b2l F st (fun x y => .long (x * y)) pc
  | .land => xi_b2l F st (fun x y => .long (x &&& y)) pc
  | .lor => xi_b2l F st (fun x y => .long (x ||| y)) pc
  | .lxor => xi_b2l F st (fun x y => .long (x ^^^ y)) pc
  | .lcmp => xi_b2l F st (fun x y => .int (lg_cmp x y)) pc
  | .ldiv => (match st with | .long y :: .long x :: r => cond (decide (y = 0)) none (F (pc + 1) (.long (x / y) :: r)) | _ => none)
  | .lrem => (match st with | .long y :: .long x :: r => cond (decide (y = 0)) none (F (pc + 1) (.long (x - x / y * y) :: r)) | _ => none)
  | .lneg => xi_u1l F st (fun x => .long (-x)) pc
  | .lshl => xi_shl F st (fun x y => x <<< (y.toInt64 &&& 63)) pc
  | .lshr => xi_shl F st (fun x y => x >>> (y.toInt64 &&& 63)) pc
  | .lushr => xi_shl F st (fun x y => (x.toUInt64 >>> (y.toInt64.toUInt64 &&& Int64.toUInt64 63)).toInt64) pc
  | .i2l => xi_u1 F st (fun x => .long x.toInt64) pc
  | .l2i => xi_u1l F st (fun x => .int x.toInt32) pc
  | .i2b => xi_u1 F st (fun x => .int x.toInt8.toInt32) pc
  | .i2c => xi_u1 F st (fun x => .int (x.toUInt32 % 65536).toInt32) pc
  | .dup => (match st with | v :: r => cond (Nat.beq v.category 1) (F (pc + 1) (v :: v :: r)) none | _ => none)
  | .pop => (match st with | v :: r => cond (Nat.beq v.category 1) (F (pc + 1) r) none | _ => none)
  | .dup2 => (match st with | v :: u :: r => cond (Nat.beq v.category 1 && Nat.beq u.category 1) (F (pc + 1) (v :: u :: v :: u :: r)) none | _ => none)
  | .dup_x1 => (match st with | v :: u :: r => cond (Nat.beq v.category 1 && Nat.beq u.category 1) (F (pc + 1) (v :: u :: v :: r)) none | _ => none)
  | .ifCond .eq off => xi_j1 F st (fun x => decide (x = 0)) pc off
  | .ifCond .ne off => xi_j1 F st (fun x => !decide (x = 0)) pc off
  | .ifCond .lt off => xi_j1 F st (fun x => decide (x < 0)) pc off
  | .ifCond .ge off => xi_j1 F st (fun x => decide (0 ≤ x)) pc off
  | .ifCond .gt off => xi_j1 F st (fun x => decide (0 < x)) pc off
  | .ifCond .le off => xi_j1 F st (fun x => decide (x ≤ 0)) pc off
  | .if_icmp .eq off => xi_j2 F st (fun x y => decide (x = y)) pc off
  | .if_icmp .ne off => xi_j2 F st (fun x y => !decide (x = y)) pc off
  | .if_icmp .lt off => xi_j2 F st (fun x y => decide (x < y)) pc off
  | .if_icmp .ge off => xi_j2 F st (fun x y => decide (y ≤ x)) pc off
  | .if_icmp .gt off => xi_j2 F st (fun x y => decide (y < x)) pc off
  | .if_icmp .le off => xi_j2 F st (fun x y => decide (x ≤ y)) pc off
  | .goto off => (match xi_jmp pc off with | some tgt => F tgt st | none => none)
  | .ifnull off => (match st, xi_jmp pc off with | .null :: r, some tgt => F tgt r | .ref _ :: r, _ => F (pc + 3) r | _, _ => none)
  | .ifnonnull off => (match st, xi_jmp pc off with | .null :: r, _ => F (pc + 3) r | .ref _ :: r, some tgt => F tgt r | _, _ => none)
  | .tableswitch dflt lo hi offs => (match st with
    | .int x :: r => cond (decide (x.toInt < lo) || decide (hi < x.toInt)) (match xi_jmp pc dflt with | some tgt => F tgt r | none => none) (match offs.toList[(x.toInt - lo).toNat]? with | some off => (match xi_jmp pc off with | some tgt => F tgt r | none => none) | none => none)
    | _ => none)
  | .getfield k => (match st, xt_fdp (xt_mo i) k with
    | .ref a :: r, some q => (match w[a]? with
      | some (.inr o) => cond (Nat.beq q.1 o.1) (match o.2[q.2.1]? with | some v => F (pc + 3) (v :: r) | none => none) none
      | _ => none)
    | _, _ => none)
  | .putfield k => (match st, xt_fdp (xt_mo i) k with
    | v :: .ref a :: r, some q => (match w[a]? with
      | some (.inr o) => cond (Nat.ble 17 a && Nat.beq q.1 o.1 && (xi_fit (xt_fy q.1 q.2.1) v && (Nat.blt q.2.1 o.2.length && (!xt_ff q.1 q.2.1 || (xt_mi i && Nat.beq q.1 (xt_mo i)))))) (some (pc + 3, l, r, w.set a (.inr (o.1, o.2.set q.2.1 v)), c, s)) none
      | _ => none)
    | _, _ => none)
  | .new k => (match xt_ndp (xt_mo i) k with | some q => some (pc + 3, l, .ref w.length :: st, w ++ [.inr (q.1, xt_df q.1)], c + 1, s + xt_nf q.1) | none => none)
  | .newarray t => (match st with
    | .int n :: r => cond (decide (n < 0) || Nat.blt 1000000 n.toNatClampNeg) none (match t with
      | .int => some (pc + 2, l, .ref w.length :: r, w ++ [.inl (.int, n.toNatClampNeg, .inl (fun _ => 0))], c + 1, s + n.toNatClampNeg)
      | .byte => some (pc + 2, l, .ref w.length :: r, w ++ [.inl (.byte, n.toNatClampNeg, .inl (fun _ => 0))], c + 1, s + n.toNatClampNeg)
      | .long => some (pc + 2, l, .ref w.length :: r, w ++ [.inl (.long, n.toNatClampNeg, .inr (.inl (fun _ => 0)))], c + 1, s + n.toNatClampNeg)
      | _ => none)
    | _ => none)
  | .anewarray k => (match st with
    | .int n :: r => cond (decide (n < 0) || Nat.blt 1000000 n.toNatClampNeg) none (match xt_ndp (xt_mo i) k with
      | some q => cond (Nat.beq q.1 5 || Nat.beq q.1 4) (some (pc + 3, l, .ref w.length :: r, w ++ [.inl (.object (xt_cn q.1), n.toNatClampNeg, .inr (.inr (fun _ => none)))], c + 1, s + n.toNatClampNeg)) none
      | none => (match xt_adp (xt_mo i) k with
        | some q => cond (Nat.beq q.1 1) (some (pc + 3, l, .ref w.length :: r, w ++ [.inl (.array .long, n.toNatClampNeg, .inr (.inr (fun _ => none)))], c + 1, s + n.toNatClampNeg)) none
        | none => none))
    | _ => none)
  | .arraylength => (match st with
    | .ref a :: r => (match w[a]? with | some (.inl o) => F (pc + 1) (.int (Int32.ofNat o.2.1) :: r) | _ => none)
    | _ => none)
  | .iaload => (match st with
    | .int j :: .ref a :: r => (match w[a]? with
      | some (.inl (ty, n, .inl f)) => cond (xi_ix j n && xi_isa false ty) (F (pc + 1) (.int (f j.toNatClampNeg) :: r)) none
      | _ => none)
    | _ => none)
  | .baload => (match st with
    | .int j :: .ref a :: r => (match w[a]? with
      | some (.inl (ty, n, .inl f)) => cond (xi_ix j n && xi_isa true ty) (F (pc + 1) (.int (f j.toNatClampNeg) :: r)) none
      | _ => none)
    | _ => none)
  | .laload => (match st with
    | .int j :: .ref a :: r => (match w[a]? with
      | some (.inl (.long, n, .inr (.inl f))) => cond (Nat.ble 17 a && xi_ix j n) (F (pc + 1) (.long (f j.toNatClampNeg) :: r)) none
      | _ => none)
    | _ => none)
  | .aaload => (match st with
    | .int j :: .ref a :: r => (match w[a]? with
      | some (.inl (ty, n, .inr (.inr f))) => cond (Nat.ble 17 a && (xi_ix j n && xi_isr ty)) (F (pc + 1) (xi_rf (f j.toNatClampNeg) :: r)) none
      | _ => none)
    | _ => none)
  | .iastore => (match st with
    | .int x :: .int j :: .ref a :: r => (match w[a]? with
      | some (.inl (ty, n, .inl f)) => cond (Nat.ble 17 a && (xi_ix j n && xi_isa false ty)) (some (pc + 1, l, r, w.set a (.inl (ty, n, .inl (upd f j.toNatClampNeg x))), c, s)) none
      | _ => none)
    | _ => none)
  | .bastore => (match st with
    | .int x :: .int j :: .ref a :: r => (match w[a]? with
      | some (.inl (ty, n, .inl f)) => cond (Nat.ble 17 a && (xi_ix j n && xi_isa true ty)) (some (pc + 1, l, r, w.set a (.inl (ty, n, .inl (upd f j.toNatClampNeg (vp_nar ty x)))), c, s)) none
      | _ => none)
    | _ => none)
  | .lastore => (match st with
    | .long x :: .int j :: .ref a :: r => (match w[a]? with
      | some (.inl (.long, n, .inr (.inl f))) => cond (Nat.ble 17 a && xi_ix j n) (some (pc + 1, l, r, w.set a (.inl (.long, n, .inr (.inl (vp_updL f j.toNatClampNeg x)))), c, s)) none
      | _ => none)
    | _ => none)
  | .aastore => (match st with
    | .ref v :: .int j :: .ref a :: r => (match w[a]?, w[v]? with
      | some (.inl (.object C, n, .inr (.inr f))), some (.inr o) => cond (Nat.ble 17 a && (Nat.ble 17 v && (xi_ix j n && decide (C = xt_cn o.1)))) (some (pc + 1, l, r, w.set a (.inl (.object C, n, .inr (.inr (va_up f j.toNatClampNeg (some v))))), c, s)) none
      | some (.inl (.array .long, n, .inr (.inr f))), some (.inl (.long, _, .inr (.inl _))) => cond (Nat.ble 17 a && (Nat.ble 17 v && xi_ix j n)) (some (pc + 1, l, r, w.set a (.inl (.array .long, n, .inr (.inr (va_up f j.toNatClampNeg (some v))))), c, s)) none
      | _, _ => none)
    | .null :: .int j :: .ref a :: r => (match w[a]? with
      | some (.inl (.object C, n, .inr (.inr f))) => cond (Nat.ble 17 a && xi_ix j n) (some (pc + 1, l, r, w.set a (.inl (.object C, n, .inr (.inr (va_up f j.toNatClampNeg none)))), c, s)) none
      | _ => none)
    | _ => none)
  | .checkcast k => (match st, xt_adp (xt_mo i) k with
    | .ref a :: r, some q => (match w[a]? with
      | some (.inl (.int, _, .inl _)) => cond (Nat.ble 17 a && Nat.beq q.1 0) (F (pc + 3) (.ref a :: r)) none
      | some (.inl (.long, _, .inr (.inl _))) => cond (Nat.ble 17 a && Nat.beq q.1 1) (F (pc + 3) (.ref a :: r)) none
      | _ => none)
    | _, _ => none)
  | .invokevirtual k => (match st, xt_mdp (xt_mo i) k with
    | .ref a :: r, some q => cond (Nat.ble 17 a && (Nat.blt 0 d && Nat.ble (r.map fun v => v.category).sum 8)) (match w[a]? with
      | some (.inl (.int, n, .inl f)) => cond (Nat.beq q.1 9) (some (pc + 3, l, .ref w.length :: r, w ++ [.inl (.int, n, .inl f)], c + 1, s + n)) none
      | some (.inl (.long, n, .inr (.inl f))) => cond (Nat.beq q.1 10) (some (pc + 3, l, .ref w.length :: r, w ++ [.inl (.long, n, .inr (.inl f))], c + 1, s + n)) none
      | _ => none) none
    | _, _ => none)
  | .invokespecial k => (match st, xt_mdp (xt_mo i) k with
    | .ref _ :: r, some q => cond (Nat.beq q.1 4 && (Nat.blt 0 d && Nat.ble (r.map fun v => v.category).sum 8)) (F (pc + 3) r) none
    | _, _ => none)
  | .invokestatic k => (match xt_mdp (xt_mo i) k with
    | none => none
    | some q => cond (Nat.beq q.1 11) (match st with
        | .long y :: .long x :: r => cond (Nat.blt 0 d && Nat.ble (r.map fun v => v.category).sum 8) (F (pc + 3) (.long (if y < x then x else y) :: r)) none
        | _ => none) (cond (Nat.beq q.1 12) (match st with
        | .long y :: .long x :: r => cond (Nat.blt 0 d && Nat.ble (r.map fun v => v.category).sum 8) (F (pc + 3) (.long (if y < x then y else x) :: r)) none
        | _ => none) (cond (Nat.beq q.1 6) (match st with
        | .int y :: .int x :: r => cond (Nat.blt 0 d && Nat.ble (r.map fun v => v.category).sum 8) (F (pc + 3) (.int (if x < y then y else x) :: r)) none
        | _ => none) (cond (Nat.beq q.1 7) (match st with
        | .int y :: .int x :: r => cond (Nat.blt 0 d && Nat.ble (r.map fun v => v.category).sum 8) (F (pc + 3) (.int (if y < x then y else x) :: r)) none
        | _ => none) (cond (Nat.beq q.1 8) (match st with
        | .int y :: .int x :: r => cond (Nat.blt 0 d && Nat.ble (r.map fun v => v.category).sum 8 && !decide (y = 0)) (F (pc + 3) (.int (xi_fm x y) :: r)) none
        | _ => none) (cond (Nat.beq q.1 5) (match st with
        | .int n :: .int dp :: .ref a :: .int sp :: .ref a0 :: r => cond (Nat.blt 0 d && Nat.ble (r.map fun v => v.category).sum 8 && (!decide (sp < 0) && (!decide (dp < 0) && (!decide (n < 0) && (Nat.ble 17 a && Nat.ble 17 a0))))) (match w[a0]?, w[a]? with
            | some (.inl (.int, n0, .inl f)), some (.inl (.int, n1, .inl g)) => cond (Nat.ble (sp.toNatClampNeg + n.toNatClampNeg) n0 && Nat.ble (dp.toNatClampNeg + n.toNatClampNeg) n1) (some (pc + 3, l, r, w.set a (.inl (.int, n1, .inl (va_cpy f g sp.toNatClampNeg dp.toNatClampNeg n.toNatClampNeg))), c, s)) none
            | some (.inl (.long, n0, .inr (.inl f))), some (.inl (.long, n1, .inr (.inl g))) => cond (Nat.ble (sp.toNatClampNeg + n.toNatClampNeg) n0 && Nat.ble (dp.toNatClampNeg + n.toNatClampNeg) n1) (some (pc + 3, l, r, w.set a (.inl (.long, n1, .inr (.inl (va_cpy f g sp.toNatClampNeg dp.toNatClampNeg n.toNatClampNeg)))), c, s)) none
            | _, _ => none) none
        | _ => none) none))))))
  | _ => none
/-- a return: its value -/
def xi_end (i : Nat) (ins : Jvm.ClassFile.Instr) (st : List Value) : Option (Option Value) := match ins with
  | .return_ => (match st, xt_mr i with | [], none => some none | _, _ => none)
  | .ireturn => (match st, xt_mr i with
    | [.int x], some .int => some (some (.int x))
    | [.int x], some .boolean => cond (decide (narrow .boolean (.int x) = .int x)) (some (some (.int x))) none
    | [.int x], some .char => cond (decide (narrow .char (.int x) = .int x)) (some (some (.int x))) none
    | [.int x], some .byte => cond (decide (narrow .byte (.int x) = .int x)) (some (some (.int x))) none
    | _, _ => none)
  | .lreturn => (match st, xt_mr i with | [.long x], some .long => some (some (.long x)) | _, _ => none)
  | .areturn => (match st, xt_mr i with
    | [.null], some (.object _) => some (some .null)
    | [.ref a], some (.object _) => some (some (.ref a))
    | [.ref a], some (.array _) => some (some (.ref a))
    | _, _ => none)
  | _ => none
/-- the room of a call -/
def xi_rm1 (j : Nat) (av rest : List Value) : Bool := Nat.ble (rest.map fun v => v.category).sum 8 && (Nat.ble (lg_sl av).length (xt_ml j) && Nat.ble (xt_ml j) 45)
/-- a call of a method of the table: which one, its arguments, what stays on the stack -/
def xi_inv (i : Nat) (ins : Jvm.ClassFile.Instr) (st : List Value) (w : xi_W) : Option (Nat × List Value × List Value) := match ins with
  | .invokevirtual k => (match xt_mdp (xt_mo i) k with
    | some (0, j, _) => (match st.drop (xt_mp j) with
      | .ref b :: rest => (match w[b]? with
        | some (.inr o) => cond (Nat.beq o.1 (xt_mo j) && xi_rm1 j (.ref b :: (st.take (xt_mp j)).reverse) rest) (some (j, .ref b :: (st.take (xt_mp j)).reverse, rest)) none
        | _ => none)
      | _ => none)
    | _ => none)
  | .invokestatic k => (match xt_mdp (xt_mo i) k with
    | some (1, j, _) => cond (xi_rm1 j (st.take (xt_mp j)).reverse (st.drop (xt_mp j)) && Nat.ble (xt_mp j) st.length) (some (j, (st.take (xt_mp j)).reverse, st.drop (xt_mp j))) none
    | _ => none)
  | .invokespecial k => (match xt_mdp (xt_mo i) k with
    | some (q, j, _) => cond (Nat.beq q 2 || Nat.beq q 3) (match st.drop (xt_mp j) with
      | .ref b :: rest => cond (xi_rm1 j (.ref b :: (st.take (xt_mp j)).reverse) rest) (some (j, .ref b :: (st.take (xt_mp j)).reverse, rest)) none
      | _ => none) none
    | _ => none)
  | _ => none
/-- a frame to its end: fuel, depth -/
def xi_ev : Nat → Nat → Nat → Nat → xi_L → List Value → xi_W → Nat → Nat → Option xi_R
  | 0, _, _, _, _, _, _, _, _ => none
  | n + 1, d, i, pc, l, st, w, c, s => match xt_cd i pc with
    | none => none
    | some ins => match xi_end i ins st with
      | some v => some (v, w, c, s)
      | none => match xi_inv i ins st w with
        | some (j, av, rest) => (match d with
          | 0 => none
          | d + 1 => match xi_ev n d j 0 (lv_args 0 av) [] w 0 0 with
            | none => none
            | some (v, w', c', s') => xi_ev n (d + 1) i (pc + 3) l (v.toList ++ rest) w' (c + c') (s + s'))
        | none => match xi_stp i d ins pc l st w c s with
          | none => none
          | some (pc', l', st', w', c', s') => xi_ev n d i pc' l' st' w' c' s'
