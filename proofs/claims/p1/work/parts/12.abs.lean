/-! the interpreter over ints of which only bounds are known, and arrays by their few changes -/
abbrev ab_V : Type := Value ⊕ (Int × Int)
abbrev ab_O : Type := ((FieldType × Nat × ab_V × List (Nat × ab_V)) ⊕ ((Nat × Int64 × List (Nat × Int64)) ⊕ (FieldType × Nat × List (Nat × Option Nat)))) ⊕ (Nat × List ab_V)
abbrev ab_W : Type := (Nat → Option ab_O) × List (Nat × ab_O) × Nat
abbrev ab_L : Type := List (Nat × ab_V)
abbrev ab_F : Type := Nat × ab_L × List ab_V × ab_W × Nat × Nat
abbrev ab_R : Type := Option ab_V × ab_W × Nat × Nat
def ab_rd {α : Type} (d : α) : List (Nat × α) → Nat → α
  | [], _ => d
  | q :: r, k => cond (Nat.beq q.1 k) q.2 (ab_rd d r k)
def ab_fd : List (Nat × ab_O) → Nat → Option ab_O
  | [], _ => none
  | q :: r, k => cond (Nat.beq q.1 k) (some q.2) (ab_fd r k)
def ab_ud (k : Nat) (o : ab_O) : List (Nat × ab_O) → List (Nat × ab_O)
  | [] => [(k, o)]
  | q :: r => cond (Nat.beq q.1 k) ((k, o) :: r) (q :: ab_ud k o r)
def ab_g (w : ab_W) (k : Nat) : Option ab_O := match ab_fd w.2.1 k with
  | some o => some o
  | none => w.1 k
def ab_n (w : ab_W) : Nat := w.2.2
def ab_s (w : ab_W) (k : Nat) (o : ab_O) : ab_W := cond (Nat.blt k w.2.2) (w.1, ab_ud k o w.2.1, w.2.2) w
def ab_p (w : ab_W) (o : ab_O) : ab_W := (w.1, (w.2.2, o) :: w.2.1, w.2.2 + 1)
def ab_cat : ab_V → Nat
  | .inl v => v.category
  | .inr _ => 1
def ab_int : ab_V → Option (Int × Int)
  | .inl (.int x) => some (x.toInt, x.toInt)
  | .inr r => some r
  | _ => none
def ab_get : ab_L → Nat → Option ab_V
  | [], _ => none
  | q :: r, i => cond (Nat.beq q.1 i) (some q.2) (ab_get r i)
def ab_st1 (l : ab_L) (i : Nat) (v : ab_V) : ab_L := (i, v) :: l.filter (fun q => !(q.1 == i) && !(q.1 + 1 == i && ab_cat q.2 == 2))
def ab_st2 (l : ab_L) (i : Nat) (v : ab_V) : ab_L := (i, v) :: l.filter (fun q => !(q.1 == i) && (!(q.1 == i + 1) && !(q.1 + 1 == i && ab_cat q.2 == 2)))
def ab_top : Int × Int := (-2147483648, 2147483647)
def ab_in (a b : Int) : Int × Int := cond (decide (-2147483648 ≤ a) && decide (b ≤ 2147483647)) (a, b) ab_top
def ab_hadd (X Y : Int × Int) : Int × Int := ab_in (X.1 + Y.1) (X.2 + Y.2)
def ab_hsub (X Y : Int × Int) : Int × Int := ab_in (X.1 - Y.2) (X.2 - Y.1)
def ab_hmul (X Y : Int × Int) : Int × Int := cond (decide (0 ≤ X.1) && decide (0 ≤ Y.1)) (ab_in (X.1 * Y.1) (X.2 * Y.2)) ab_top
def ab_htop (_ _ : Int × Int) : Int × Int := ab_top
def ab_mk (X : Int × Int) : ab_V := cond (decide (X.1 = X.2)) (.inl (.int (Int32.ofInt X.1))) (.inr X)
def ab_b2 (F : Nat → List ab_V → Option ab_F) (st : List ab_V) (g : Int32 → Int32 → Int32) (h : Int × Int → Int × Int → Int × Int) (pc : Nat) : Option ab_F := match st with
  | .inl (.int y) :: .inl (.int x) :: r => F (pc + 1) (.inl (.int (g x y)) :: r)
  | y :: x :: r => (match ab_int x, ab_int y with
    | some X, some Y => F (pc + 1) (.inr (h X Y) :: r)
    | _, _ => none)
  | _ => none
def ab_u1 (F : Nat → List ab_V → Option ab_F) (st : List ab_V) (g : Int32 → Value) (pc : Nat) : Option ab_F := match st with
  | .inl (.int x) :: r => F (pc + 1) (.inl (g x) :: r)
  | _ => none
def ab_u1l (F : Nat → List ab_V → Option ab_F) (st : List ab_V) (g : Int64 → Value) (pc : Nat) : Option ab_F := match st with
  | .inl (.long x) :: r => F (pc + 1) (.inl (g x) :: r)
  | _ => none
def ab_b2l (F : Nat → List ab_V → Option ab_F) (st : List ab_V) (g : Int64 → Int64 → Value) (pc : Nat) : Option ab_F := match st with
  | .inl (.long y) :: .inl (.long x) :: r => F (pc + 1) (.inl (g x y) :: r)
  | _ => none
def ab_shl (F : Nat → List ab_V → Option ab_F) (st : List ab_V) (g : Int64 → Int32 → Int64) (pc : Nat) : Option ab_F := match st with
  | .inl (.int y) :: .inl (.long x) :: r => F (pc + 1) (.inl (.long (g x y)) :: r)
  | _ => none
def ab_lt (X Y : Int × Int) : Option Bool := cond (decide (X.2 < Y.1)) (some true) (cond (decide (Y.2 ≤ X.1)) (some false) none)
def ab_le (X Y : Int × Int) : Option Bool := cond (decide (X.2 ≤ Y.1)) (some true) (cond (decide (Y.2 < X.1)) (some false) none)
def ab_eq (X Y : Int × Int) : Option Bool := cond (decide (X.2 < Y.1) || decide (Y.2 < X.1)) (some false) (cond (decide (X.1 = X.2) && (decide (Y.1 = Y.2) && decide (X.1 = Y.1))) (some true) none)
def ab_j (F : Nat → List ab_V → Option ab_F) (r : List ab_V) (t : Option Bool) (neg : Bool) (pc : Nat) (off : Int) : Option ab_F := match t, xi_jmp pc off with
  | some b, some tgt => cond (Bool.xor b neg) (F tgt r) (F (pc + 3) r)
  | _, _ => none
def ab_j1 (F : Nat → List ab_V → Option ab_F) (st : List ab_V) (t : Int × Int → Int × Int → Option Bool) (sw neg : Bool) (pc : Nat) (off : Int) : Option ab_F := match st with
  | x :: r => (match ab_int x with
    | some X => ab_j F r (cond sw (t (0, 0) X) (t X (0, 0))) neg pc off
    | none => none)
  | _ => none
def ab_j2 (F : Nat → List ab_V → Option ab_F) (st : List ab_V) (t : Int × Int → Int × Int → Option Bool) (sw neg : Bool) (pc : Nat) (off : Int) : Option ab_F := match st with
  | y :: x :: r => (match ab_int x, ab_int y with
    | some X, some Y => ab_j F r (cond sw (t Y X) (t X Y)) neg pc off
    | _, _ => none)
  | _ => none
/-- what an array holds at a place of which bounds are known: where nothing was changed -/
def ab_rdI {α : Type} (d : α) (u : List (Nat × α)) (n : Nat) (j : ab_V) : Option α := match j with
  | .inl (.int j) => cond (xi_ix j n) (some (ab_rd d u j.toNatClampNeg)) none
  | .inr (lo, hi) => cond (decide (0 ≤ lo) && (decide (hi < (n : Int)) && u.all (fun q => decide ((q.1 : Int) < lo) || decide (hi < (q.1 : Int))))) (some d) none
  | _ => none
def ab_put {α : Type} [DecidableEq α] (d : α) (u : List (Nat × α)) (k : Nat) (x : α) : List (Nat × α) := cond (decide (ab_rd d u k = x)) u ((k, x) :: u)
def ab_ex : ab_V → Bool
  | .inl _ => true
  | .inr _ => false
def ab_isI : ab_V → Bool
  | .inl (.int _) => true
  | .inr _ => true
  | _ => false
def ab_nar (ty : FieldType) (v : ab_V) : ab_V := match v with
  | .inl (.int x) => .inl (.int (vp_nar ty x))
  | v => match ty with
    | .byte => .inr (-128, 127)
    | _ => .inr (0, 1)
def ab_fit (ty : FieldType) (v : ab_V) : Bool := match v with
  | .inl u => xi_fit ty u
  | .inr r => (match ty with | .int => true | _ => false)
/-- arrays alike where neither was changed: the part that is copied -/
def ab_cpy {α : Type} (u v : List (Nat × α)) (sp dp n : Nat) : List (Nat × α) :=
  ((u.filter (fun q => Nat.ble sp q.1 && Nat.blt q.1 (sp + n))).map (fun q => (dp + (q.1 - sp), q.2))) ++ v.filter (fun q => !(Nat.ble dp q.1 && Nat.blt q.1 (dp + n)))
def ab_stp (i d : Nat) (ins : Jvm.ClassFile.Instr) (pc : Nat) (l : ab_L) (st : List ab_V) (w : ab_W) (c s : Nat) : Option ab_F :=
  let F : Nat → List ab_V → Option ab_F := fun pc st => some (pc, l, st, w, c, s)
  match ins with
  | .aconst_null => F (pc + 1) (.inl .null :: st)
  | .iconst n => F (pc + 1) (.inl (.int (Int32.ofInt n)) :: st)
  | .bipush n => F (pc + 2) (.inl (.int (Int8.ofInt n).toInt32) :: st)
  | .sipush n => F (pc + 3) (.inl (.int (Int16.ofInt n).toInt32) :: st)
  | .lconst n => F (pc + 1) (.inl (.long (Int64.ofNat (n : Nat))) :: st)
  | .ldc k => (match xt_kdp (xt_mo i) k with | some q => F (pc + 2) (.inl (.int q.1) :: st) | none => none)
  | .ldc2_w k => (match xt_ldp (xt_mo i) k with | some q => F (pc + 3) (.inl (.long q.1) :: st) | none => none)
  | .iload k => (match ab_get l k with | some v => cond (ab_isI v) (F (pc + 2) (v :: st)) none | none => none)
  | .iload_n k => (match ab_get l k with | some v => cond (ab_isI v) (F (pc + 1) (v :: st)) none | none => none)
  | .lload k => (match ab_get l k with | some (.inl (.long x)) => F (pc + 2) (.inl (.long x) :: st) | _ => none)
  | .lload_n k => (match ab_get l k with | some (.inl (.long x)) => F (pc + 1) (.inl (.long x) :: st) | _ => none)
  | .aload k => (match ab_get l k with | some (.inl (.ref x)) => F (pc + 2) (.inl (.ref x) :: st) | some (.inl .null) => F (pc + 2) (.inl .null :: st) | _ => none)
  | .aload_n k => (match ab_get l k with | some (.inl (.ref x)) => F (pc + 1) (.inl (.ref x) :: st) | some (.inl .null) => F (pc + 1) (.inl .null :: st) | _ => none)
  | .istore k => (match st with | v :: r => cond (ab_isI v && Nat.blt k (xt_ml i)) (some (pc + 2, ab_st1 l k v, r, w, c, s)) none | _ => none)
  | .istore_n k => (match st with | v :: r => cond (ab_isI v && Nat.blt k (xt_ml i)) (some (pc + 1, ab_st1 l k v, r, w, c, s)) none | _ => none)
  | .lstore k => (match st with | .inl (.long x) :: r => cond (Nat.blt (k + 1) (xt_ml i)) (some (pc + 2, ab_st2 l k (.inl (.long x)), r, w, c, s)) none | _ => none)
  | .lstore_n k => (match st with | .inl (.long x) :: r => cond (Nat.blt (k + 1) (xt_ml i)) (some (pc + 1, ab_st2 l k (.inl (.long x)), r, w, c, s)) none | _ => none)
  | .astore k => (match st with | .inl (.ref x) :: r => cond (Nat.blt k (xt_ml i)) (some (pc + 2, ab_st1 l k (.inl (.ref x)), r, w, c, s)) none | .inl .null :: r => cond (Nat.blt k (xt_ml i)) (some (pc + 2, ab_st1 l k (.inl .null), r, w, c, s)) none | _ => none)
  | .astore_n k => (match st with | .inl (.ref x) :: r => cond (Nat.blt k (xt_ml i)) (some (pc + 1, ab_st1 l k (.inl (.ref x)), r, w, c, s)) none | .inl .null :: r => cond (Nat.blt k (xt_ml i)) (some (pc + 1, ab_st1 l k (.inl .null), r, w, c, s)) none | _ => none)
  | .iinc k n => (match ab_get l k with | some (.inl (.int x)) => cond (Nat.blt k (xt_ml i)) (some (pc + 3, ab_st1 l k (.inl (.int (x + Int32.ofInt n))), st, w, c, s)) none | _ => none)
  | .iadd => ab_b2 F st (fun x y => x + y) ab_hadd pc
  | .isub => ab_b2 F st (fun x y => x - y) ab_hsub pc
  | .imul => ab_b2 F st (fun x y => x * y) ab_hmul pc
  | .iand => ab_b2 F st (fun x y => x &&& y) ab_htop pc
  | .ior => ab_b2 F st (fun x y => x ||| y) ab_htop pc
  | .ixor => ab_b2 F st (fun x y => x ^^^ y) ab_htop pc
  | .ishl => ab_b2 F st (fun x y => x <<< (y &&& 31)) ab_htop pc
  | .ishr => ab_b2 F st (fun x y => x >>> (y &&& 31)) ab_htop pc
  | .iushr => ab_b2 F st (fun x y => (x.toUInt32 >>> (y.toUInt32 &&& Int32.toUInt32 31)).toInt32) ab_htop pc
  | .idiv => (match st with | .inl (.int y) :: x :: r => cond (decide (y = 0)) none (match x with | .inl (.int x) => F (pc + 1) (.inl (.int (x / y)) :: r) | .inr X => cond (decide (0 ≤ X.1) && decide (0 < y.toInt)) (F (pc + 1) (ab_mk (X.1 / y.toInt, X.2 / y.toInt) :: r)) none | _ => none) | _ => none)
  | .irem => (match st with | .inl (.int y) :: x :: r => cond (decide (y = 0)) none (match x with | .inl (.int x) => F (pc + 1) (.inl (.int (x - x / y * y)) :: r) | .inr X => cond (decide (0 ≤ X.1) && decide (0 < y.toInt)) (F (pc + 1) (cond (decide (X.1 / y.toInt = X.2 / y.toInt)) (ab_mk (X.1 % y.toInt, X.2 % y.toInt)) (.inr (0, y.toInt - 1)) :: r)) none | _ => none) | _ => none)
  | .ineg => ab_u1 F st (fun x => .int (-x)) pc
  | .ladd => ab_b2l F st (fun x y => .long (x + y)) pc
  | .lsub => ab_b2l F st (fun x y => .long (x - y)) pc
  | .lmul => ab_b2l F st (fun x y => .long (x * y)) pc
  | .land => ab_b2l F st (fun x y => .long (x &&& y)) pc
  | .lor => ab_b2l F st (fun x y => .long (x ||| y)) pc
  | .lxor => ab_b2l F st (fun x y => .long (x ^^^ y)) pc
  | .lcmp => ab_b2l F st (fun x y => .int (lg_cmp x y)) pc
  | .lneg => ab_u1l F st (fun x => .long (-x)) pc
  | .lshl => ab_shl F st (fun x y => x <<< (y.toInt64 &&& 63)) pc
  | .lshr => ab_shl F st (fun x y => x >>> (y.toInt64 &&& 63)) pc
  | .lushr => ab_shl F st (fun x y => (x.toUInt64 >>> (y.toInt64.toUInt64 &&& Int64.toUInt64 63)).toInt64) pc
  | .i2l => ab_u1 F st (fun x => .long x.toInt64) pc
  | .l2i => ab_u1l F st (fun x => .int x.toInt32) pc
  | .i2b => (match st with | .inl (.int x) :: r => F (pc + 1) (.inl (.int x.toInt8.toInt32) :: r) | .inr _ :: r => F (pc + 1) (.inr ab_top :: r) | _ => none)
  | .i2c => (match st with | .inl (.int x) :: r => F (pc + 1) (.inl (.int (x.toUInt32 % 65536).toInt32) :: r) | .inr _ :: r => F (pc + 1) (.inr ab_top :: r) | _ => none)
  | .dup => (match st with | v :: r => cond (Nat.beq (ab_cat v) 1) (F (pc + 1) (v :: v :: r)) none | _ => none)
  | .pop => (match st with | v :: r => cond (Nat.beq (ab_cat v) 1) (F (pc + 1) r) none | _ => none)
  | .dup2 => (match st with | v :: u :: r => cond (Nat.beq (ab_cat v) 1 && Nat.beq (ab_cat u) 1) (F (pc + 1) (v :: u :: v :: u :: r)) none | _ => none)
  | .dup_x1 => (match st with | v :: u :: r => cond (Nat.beq (ab_cat v) 1 && Nat.beq (ab_cat u) 1) (F (pc + 1) (v :: u :: v :: r)) none | _ => none)
  | .ifCond .eq off => ab_j1 F st ab_eq false false pc off
  | .ifCond .ne off => ab_j1 F st ab_eq false true pc off
  | .ifCond .lt off => ab_j1 F st ab_lt false false pc off
  | .ifCond .ge off => ab_j1 F st ab_le true false pc off
  | .ifCond .gt off => ab_j1 F st ab_lt true false pc off
  | .ifCond .le off => ab_j1 F st ab_le false false pc off
  | .if_icmp .eq off => ab_j2 F st ab_eq false false pc off
  | .if_icmp .ne off => ab_j2 F st ab_eq false true pc off
  | .if_icmp .lt off => ab_j2 F st ab_lt false false pc off
  | .if_icmp .ge off => ab_j2 F st ab_le true false pc off
  | .if_icmp .gt off => ab_j2 F st ab_lt true false pc off
  | .if_icmp .le off => ab_j2 F st ab_le false false pc off
  | .goto off => (match xi_jmp pc off with | some tgt => F tgt st | none => none)
  | .ifnull off => (match st, xi_jmp pc off with | .inl .null :: r, some tgt => F tgt r | .inl (.ref _) :: r, _ => F (pc + 3) r | _, _ => none)
  | .ifnonnull off => (match st, xi_jmp pc off with | .inl .null :: r, _ => F (pc + 3) r | .inl (.ref _) :: r, some tgt => F tgt r | _, _ => none)
  | .tableswitch dflt lo hi offs => (match st with
    | .inl (.int x) :: r => cond (decide (x.toInt < lo) || decide (hi < x.toInt)) (match xi_jmp pc dflt with | some tgt => F tgt r | none => none) (match offs.toList[(x.toInt - lo).toNat]? with | some off => (match xi_jmp pc off with | some tgt => F tgt r | none => none) | none => none)
    | .inr X :: r => cond (decide (X.2 < lo) || decide (hi < X.1)) (match xi_jmp pc dflt with | some tgt => F tgt r | none => none) none
    | _ => none)
  | .getfield k => (match st, xt_fdp (xt_mo i) k with
    | .inl (.ref a) :: r, some q => (match ab_g w a with
      | some (.inr o) => cond (Nat.beq q.1 o.1) (match o.2[q.2.1]? with | some v => F (pc + 3) (v :: r) | none => none) none
      | _ => none)
    | _, _ => none)
  | .putfield k => (match st, xt_fdp (xt_mo i) k with
    | v :: .inl (.ref a) :: r, some q => (match ab_g w a with
      | some (.inr o) => cond (Nat.beq q.1 o.1 && (ab_fit (xt_fy q.1 q.2.1) v && (Nat.blt q.2.1 o.2.length && (!xt_ff q.1 q.2.1 || (xt_mi i && Nat.beq q.1 (xt_mo i)))))) (some (pc + 3, l, r, ab_s w a (.inr (o.1, o.2.set q.2.1 v)), c, s)) none
      | _ => none)
    | _, _ => none)
  | .new k => (match xt_ndp (xt_mo i) k with | some q => some (pc + 3, l, .inl (.ref (ab_n w)) :: st, ab_p w (.inr (q.1, (xt_df q.1).map .inl)), c + 1, s + xt_nf q.1) | none => none)
  | .newarray t => (match st with
    | .inl (.int n) :: r => cond (decide (n < 0) || Nat.blt 1000000 n.toNatClampNeg) none (match t with
      | .int => some (pc + 2, l, .inl (.ref (ab_n w)) :: r, ab_p w (.inl (.inl (.int, n.toNatClampNeg, .inl (.int 0), []))), c + 1, s + n.toNatClampNeg)
      | .byte => some (pc + 2, l, .inl (.ref (ab_n w)) :: r, ab_p w (.inl (.inl (.byte, n.toNatClampNeg, .inl (.int 0), []))), c + 1, s + n.toNatClampNeg)
      | .boolean => some (pc + 2, l, .inl (.ref (ab_n w)) :: r, ab_p w (.inl (.inl (.boolean, n.toNatClampNeg, .inl (.int 0), []))), c + 1, s + n.toNatClampNeg)
      | .long => some (pc + 2, l, .inl (.ref (ab_n w)) :: r, ab_p w (.inl (.inr (.inl (n.toNatClampNeg, 0, [])))), c + 1, s + n.toNatClampNeg)
      | _ => none)
    | _ => none)
  | .anewarray k => (match st, xt_ndp (xt_mo i) k with
    | .inl (.int n) :: r, some q => cond (decide (n < 0) || Nat.blt 1000000 n.toNatClampNeg || !(Nat.beq q.1 5 || Nat.beq q.1 4)) none (some (pc + 3, l, .inl (.ref (ab_n w)) :: r, ab_p w (.inl (.inr (.inr (.object (xt_cn q.1), n.toNatClampNeg, [])))), c + 1, s + n.toNatClampNeg))
    | _, _ => none)
  | .arraylength => (match st with
    | .inl (.ref a) :: r => (match ab_g w a with
      | some (.inl (.inl o)) => F (pc + 1) (.inl (.int (Int32.ofNat o.2.1)) :: r)
      | some (.inl (.inr (.inl o))) => F (pc + 1) (.inl (.int (Int32.ofNat o.1)) :: r)
      | some (.inl (.inr (.inr o))) => F (pc + 1) (.inl (.int (Int32.ofNat o.2.1)) :: r)
      | _ => none)
    | _ => none)
  | .iaload => (match st with
    | j :: .inl (.ref a) :: r => (match ab_g w a with
      | some (.inl (.inl (ty, n, dv, u))) => cond (xi_isa false ty) (match ab_rdI dv u n j with | some v => cond (ab_isI v) (F (pc + 1) (v :: r)) none | none => none) none
      | _ => none)
    | _ => none)
  | .baload => (match st with
    | j :: .inl (.ref a) :: r => (match ab_g w a with
      | some (.inl (.inl (ty, n, dv, u))) => cond (xi_isa true ty) (match ab_rdI dv u n j with | some v => cond (ab_isI v) (F (pc + 1) (v :: r)) none | none => none) none
      | _ => none)
    | _ => none)
  | .laload => (match st with
    | j :: .inl (.ref a) :: r => (match ab_g w a with
      | some (.inl (.inr (.inl (n, dv, u)))) => (match ab_rdI dv u n j with | some v => F (pc + 1) (.inl (.long v) :: r) | none => none)
      | _ => none)
    | _ => none)
  | .aaload => (match st with
    | .inl (.int j) :: .inl (.ref a) :: r => (match ab_g w a with
      | some (.inl (.inr (.inr (.object _, n, u)))) => cond (xi_ix j n) (F (pc + 1) (.inl (xi_rf (ab_rd none u j.toNatClampNeg)) :: r)) none
      | _ => none)
    | _ => none)
  | .iastore => (match st with
    | x :: .inl (.int j) :: .inl (.ref a) :: r => (match ab_g w a with
      | some (.inl (.inl (ty, n, dv, u))) => cond (ab_isI x && (xi_ix j n && xi_isa false ty)) (some (pc + 1, l, r, ab_s w a (.inl (.inl (ty, n, dv, cond (ab_ex x) (ab_put dv u j.toNatClampNeg x) ((j.toNatClampNeg, x) :: u)))), c, s)) none
      | _ => none)
    | _ => none)
  | .bastore => (match st with
    | x :: .inl (.int j) :: .inl (.ref a) :: r => (match ab_g w a with
      | some (.inl (.inl (ty, n, dv, u))) => cond (ab_isI x && (xi_ix j n && xi_isa true ty)) (some (pc + 1, l, r, ab_s w a (.inl (.inl (ty, n, dv, (j.toNatClampNeg, ab_nar ty x) :: u))), c, s)) none
      | _ => none)
    | _ => none)
  | .lastore => (match st with
    | .inl (.long x) :: .inl (.int j) :: .inl (.ref a) :: r => (match ab_g w a with
      | some (.inl (.inr (.inl (n, dv, u)))) => cond (xi_ix j n) (some (pc + 1, l, r, ab_s w a (.inl (.inr (.inl (n, dv, ab_put dv u j.toNatClampNeg x)))), c, s)) none
      | _ => none)
    | _ => none)
  | .aastore => (match st with
    | .inl (.ref v) :: .inl (.int j) :: .inl (.ref a) :: r => (match ab_g w a, ab_g w v with
      | some (.inl (.inr (.inr (.object C, n, u)))), some (.inr o) => cond (xi_ix j n && decide (C = xt_cn o.1)) (some (pc + 1, l, r, ab_s w a (.inl (.inr (.inr (.object C, n, (j.toNatClampNeg, some v) :: u)))), c, s)) none
      | _, _ => none)
    | .inl .null :: .inl (.int j) :: .inl (.ref a) :: r => (match ab_g w a with
      | some (.inl (.inr (.inr (.object C, n, u)))) => cond (xi_ix j n) (some (pc + 1, l, r, ab_s w a (.inl (.inr (.inr (.object C, n, ab_put none u j.toNatClampNeg none)))), c, s)) none
      | _ => none)
    | _ => none)
  | .checkcast k => (match st, xt_adp (xt_mo i) k with
    | .inl (.ref a) :: r, some _ => (match ab_g w a with | some (.inl (.inl (.int, _))) => F (pc + 3) (.inl (.ref a) :: r) | _ => none)
    | _, _ => none)
  | .invokevirtual k => (match st, xt_mdp (xt_mo i) k with
    | .inl (.ref a) :: r, some q => cond (Nat.beq q.1 9 && (Nat.blt 0 d && Nat.ble (r.map ab_cat).sum 8)) (match ab_g w a with
      | some (.inl (.inl (.int, n, dv, u))) => some (pc + 3, l, .inl (.ref (ab_n w)) :: r, ab_p w (.inl (.inl (.int, n, dv, u))), c + 1, s + n)
      | _ => none) none
    | _, _ => none)
  | .invokespecial k => (match st, xt_mdp (xt_mo i) k with
    | .inl (.ref _) :: r, some q => cond (Nat.beq q.1 4 && (Nat.blt 0 d && Nat.ble (r.map ab_cat).sum 8)) (F (pc + 3) r) none
    | _, _ => none)
  | .invokestatic k => (match xt_mdp (xt_mo i) k with
    | none => none
    | some q => cond (Nat.beq q.1 6) (match st with
        | .inl (.int y) :: .inl (.int x) :: r => cond (Nat.blt 0 d && Nat.ble (r.map ab_cat).sum 8) (F (pc + 3) (.inl (.int (if x < y then y else x)) :: r)) none
        | _ => none) (cond (Nat.beq q.1 7) (match st with
        | .inl (.int y) :: .inl (.int x) :: r => cond (Nat.blt 0 d && Nat.ble (r.map ab_cat).sum 8) (F (pc + 3) (.inl (.int (if y < x then y else x)) :: r)) none
        | _ => none) (cond (Nat.beq q.1 8) (match st with
        | .inl (.int y) :: .inl (.int x) :: r => cond (Nat.blt 0 d && Nat.ble (r.map ab_cat).sum 8 && !decide (y = 0)) (F (pc + 3) (.inl (.int (xi_fm x y)) :: r)) none
        | _ => none) (cond (Nat.beq q.1 5) (match st with
        | .inl (.int n) :: .inl (.int dp) :: .inl (.ref a) :: .inl (.int sp) :: .inl (.ref a0) :: r => cond (Nat.blt 0 d && Nat.ble (r.map ab_cat).sum 8 && (!decide (sp < 0) && (!decide (dp < 0) && !decide (n < 0)))) (match ab_g w a0, ab_g w a with
            | some (.inl (.inl (.int, n0, d0, u0))), some (.inl (.inl (.int, n1, d1, u1))) => cond (Nat.ble (sp.toNatClampNeg + n.toNatClampNeg) n0 && (Nat.ble (dp.toNatClampNeg + n.toNatClampNeg) n1 && decide (d0 = d1))) (some (pc + 3, l, r, ab_s w a (.inl (.inl (.int, n1, d1, ab_cpy u0 u1 sp.toNatClampNeg dp.toNatClampNeg n.toNatClampNeg))), c, s)) none
            | some (.inl (.inr (.inl (n0, d0, u0)))), some (.inl (.inr (.inl (n1, d1, u1)))) => cond (Nat.ble (sp.toNatClampNeg + n.toNatClampNeg) n0 && (Nat.ble (dp.toNatClampNeg + n.toNatClampNeg) n1 && decide (d0 = d1))) (some (pc + 3, l, r, ab_s w a (.inl (.inr (.inl (n1, d1, ab_cpy u0 u1 sp.toNatClampNeg dp.toNatClampNeg n.toNatClampNeg)))), c, s)) none
            | _, _ => none) none
        | _ => none) none))))
  | _ => none
def ab_end (i : Nat) (ins : Jvm.ClassFile.Instr) (st : List ab_V) : Option (Option ab_V) := match ins with
  | .return_ => (match st, xt_mr i with | [], none => some none | _, _ => none)
  | .ireturn => (match st, xt_mr i with
    | [v], some .int => cond (ab_isI v) (some (some v)) none
    | [.inl (.int x)], some .boolean => cond (decide (narrow .boolean (.int x) = .int x)) (some (some (.inl (.int x)))) none
    | _, _ => none)
  | .lreturn => (match st, xt_mr i with | [.inl (.long x)], some .long => some (some (.inl (.long x))) | _, _ => none)
  | .areturn => (match st, xt_mr i with
    | [.inl .null], some (.object _) => some (some (.inl .null))
    | [.inl (.ref a)], some (.object _) => some (some (.inl (.ref a)))
    | [.inl (.ref a)], some (.array _) => some (some (.inl (.ref a)))
    | _, _ => none)
  | _ => none
def ab_rm1 (j : Nat) (av rest : List ab_V) : Bool := Nat.ble (rest.map ab_cat).sum 8 && (Nat.ble (av.map ab_cat).sum (xt_ml j) && Nat.ble (xt_ml j) 45)
def ab_inv (i : Nat) (ins : Jvm.ClassFile.Instr) (st : List ab_V) (w : ab_W) : Option (Nat × List ab_V × List ab_V) := match ins with
  | .invokevirtual k => (match xt_mdp (xt_mo i) k with
    | some (0, j, _) => (match st.drop (xt_mp j) with
      | .inl (.ref b) :: rest => (match ab_g w b with
        | some (.inr o) => cond (Nat.beq o.1 (xt_mo j) && ab_rm1 j (.inl (.ref b) :: (st.take (xt_mp j)).reverse) rest) (some (j, .inl (.ref b) :: (st.take (xt_mp j)).reverse, rest)) none
        | _ => none)
      | _ => none)
    | _ => none)
  | .invokestatic k => (match xt_mdp (xt_mo i) k with
    | some (1, j, _) => cond (ab_rm1 j (st.take (xt_mp j)).reverse (st.drop (xt_mp j)) && Nat.ble (xt_mp j) st.length) (some (j, (st.take (xt_mp j)).reverse, st.drop (xt_mp j))) none
    | _ => none)
  | .invokespecial k => (match xt_mdp (xt_mo i) k with
    | some (q, j, _) => cond (Nat.beq q 2 || Nat.beq q 3) (match st.drop (xt_mp j) with
      | .inl (.ref b) :: rest => cond (ab_rm1 j (.inl (.ref b) :: (st.take (xt_mp j)).reverse) rest) (some (j, .inl (.ref b) :: (st.take (xt_mp j)).reverse, rest)) none
      | _ => none) none
    | _ => none)
  | _ => none
def ab_args : Nat → List ab_V → ab_L
  | _, [] => []
  | i, v :: r => (i, v) :: ab_args (i + ab_cat v) r
abbrev ab_S : Type := Nat → List ab_V → ab_W → Option (Option (Option ab_V × ab_W))
/-- a frame to its end; of some methods it is known what they do -/
def ab_ev (S : ab_S) : Nat → Nat → Nat → Nat → ab_L → List ab_V → ab_W → Nat → Nat → Option ab_R
  | 0, _, _, _, _, _, _, _, _ => none
  | n + 1, d, i, pc, l, st, w, c, s => match xt_cd i pc with
    | none => none
    | some ins => match ab_end i ins st with
      | some v => some (v, w, c, s)
      | none => match ab_inv i ins st w with
        | some (j, av, rest) => (match d with
          | 0 => none
          | d + 1 => match cond (Nat.ble 9 d) (S j av w) none with
            | some (some (v, w')) => ab_ev S n (d + 1) i (pc + 3) l (v.toList ++ rest) w' c s
            | some none => none
            | none => match ab_ev S n d j 0 (ab_args 0 av) [] w 0 0 with
              | none => none
              | some (v, w', c', s') => ab_ev S n (d + 1) i (pc + 3) l (v.toList ++ rest) w' (c + c') (s + s'))
        | none => match ab_stp i d ins pc l st w c s with
          | none => none
          | some (pc', l', st', w', c', s') => ab_ev S n d i pc' l' st' w' c' s'
