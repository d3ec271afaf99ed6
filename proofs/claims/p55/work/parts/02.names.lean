/-! names, tables of the code and of the links, as functions that a program can look up fast; each fact of them is decided in bulk -/
abbrev xi_O : Type := (FieldType × Nat × ((Nat → Int32) ⊕ ((Nat → Int64) ⊕ (Nat → Option Nat)))) ⊕ (Nat × List Value)
abbrev xi_W : Type := List xi_O
abbrev xi_L : Type := List (Nat × Value)
abbrev xi_F : Type := Nat × xi_L × List Value × xi_W × Nat × Nat
abbrev xi_R : Type := Option Value × xi_W × Nat × Nat
abbrev xi_M : Type := MethodName × ByteArray × (Nat → Option Jvm.ClassFile.Instr) × Nat × Nat × Nat × Option FieldType × Bool
def xi_t0 {α : Type} : Nat → Option α := fun _ => none
def xi_tl {α : Type} (k : Nat) (x : α) : Nat → Option α := fun i => cond (Nat.beq i k) (some x) none
def xi_tn {α : Type} (k : Nat) (a b : Nat → Option α) : Nat → Option α := fun i => cond (Nat.ble i k) (a i) (b i)
def xi_bl {α : Type} (x : α) : Nat → α := fun _ => x
def xi_bn {α : Type} (k : Nat) (a b : Nat → α) : Nat → α := fun i => cond (Nat.ble i k) (a i) (b i)
def xi_lim {α : Type} (n : Nat) (f : Nat → Option α) : Nat → Option α := fun i => cond (Nat.blt i n) (f i) none
theorem xi_bn_all {α : Type} {Q : α → Prop} {k : Nat} {a b : Nat → α} (ha : ∀ i, Q (a i)) (hb : ∀ i, Q (b i)) : ∀ i, Q (xi_bn k a b i) := by
  intro i
  unfold xi_bn
  cases Nat.ble i k
  · exact hb i
  · exact ha i
theorem xi_bl_all {α : Type} {Q : α → Prop} {x : α} (h : Q x) : ∀ i, Q (xi_bl x i) := fun _ => h
theorem xi_all {n : Nat} {p : Nat → Bool} (h : (List.range n).all p = true) {i : Nat} (hi : i < n) : p i = true := List.all_eq_true.mp h i (List.mem_range.mpr hi)
theorem xi_lim_some {α : Type} {n i : Nat} {f : Nat → Option α} {x : α} (h : xi_lim n f i = some x) : i < n ∧ f i = some x := by
  unfold xi_lim at h
  cases hb : Nat.blt i n with
  | true => rw [hb] at h; exact ⟨Nat.lt_of_succ_le (by simpa [Nat.blt] using hb), h⟩
  | false => rw [hb] at h; cases h
def xt_G : List Cond := lw_tb2.filter goodWord
def xi_at (p : Nat) (w : Cond) : Bool := decide (lw_tb2[p]? = some w) && goodWord w
theorem xi_at_in {p : Nat} {w : Cond} (h : xi_at p w = true) : w ∈ xt_G := by
  unfold xi_at at h
  rw [Bool.and_eq_true] at h
  exact List.mem_filter.mpr ⟨List.mem_of_getElem? (of_decide_eq_true h.1), h.2⟩
theorem xi_good {w : Cond} (h : w ∈ xt_G) : (w.onTables && w.keeps) = true ∨ ∃ ty, w = .arrayClass ty := good_of_word (List.mem_filter.mp h).2
theorem xi_tbl {w : Cond} (h : w ∈ xt_G) : w ∈ lw_tb2 := (List.mem_filter.mp h).1
/-- how long an instruction is; a switch has its own length -/
def xi_sw (i : Jvm.ClassFile.Instr) : Bool := match i with
  | .tableswitch .. => true
  | .lookupswitch .. => true
  | _ => false
def xi_ln (i : Jvm.ClassFile.Instr) : Nat := match i with
  | .aload _ | .astore _ | .bipush _ | .iload _ | .istore _ | .ldc _ | .lload _ | .lstore _ | .newarray _ => 2
  | .anewarray _ | .checkcast _ | .getfield _ | .goto _ | .if_acmp .. | .if_icmp .. | .ifCond .. | .ifnonnull _ | .ifnull _ | .iinc .. | .invokespecial _ | .invokestatic _ | .invokevirtual _ | .ldc_w _ | .ldc2_w _ | .new _ | .putfield _ | .sipush _ | .getstatic _ => 3
  | _ => 1
def xi_okc (b : ByteArray) (pc : Nat) (x : Option Jvm.ClassFile.Instr) : Bool := match x with
  | none => true
  | some ins => match decode b pc with
    | .ok (j, len) => decide (j = ins) && (xi_sw ins || Nat.beq len (xi_ln ins))
    | .error _ => false
theorem xi_okc_spec {b : ByteArray} {pc : Nat} {ins : Jvm.ClassFile.Instr} (h : xi_okc b pc (some ins) = true) : ∃ len, decode b pc = .ok (ins, len) ∧ (xi_sw ins = true ∨ len = xi_ln ins) := by
  unfold xi_okc at h
  cases hd : decode b pc with
  | error e => simp [hd] at h
  | ok x =>
    obtain ⟨j, len⟩ := x
    simp only [hd, Bool.and_eq_true, Bool.or_eq_true] at h
    obtain ⟨h1, h2⟩ := h
    have h1 := of_decide_eq_true h1
    subst h1
    exact ⟨len, rfl, h2.imp id (fun q => Nat.eq_of_beq_eq_true q)⟩
def xt_F0 : u_T := fun k => match k with
  | 0 => ("DeltaNests$Nests", "known", "[J", true)
  | 1 => ("DeltaNests$Nests", "alive", "[J", true)
  | _ => ("DeltaNests$Nests", "contents", "[I", true)
def xt_y0 : Nat → FieldType := fun k => match k with
  | 0 => .array .long
  | 1 => .array .long
  | _ => .array .int
def xt_F1 : u_T := fun k => match k with
  | 0 => ("DeltaNests$Reader", "tape", "[B", true)
  | 1 => ("DeltaNests$Reader", "taped", "I", false)
  | 2 => ("DeltaNests$Reader", "start", "I", false)
  | 3 => ("DeltaNests$Reader", "next", "I", false)
  | 4 => ("DeltaNests$Reader", "token", "I", false)
  | 5 => ("DeltaNests$Reader", "number", "I", false)
  | 6 => ("DeltaNests$Reader", "fault", "I", false)
  | 7 => ("DeltaNests$Reader", "place", "I", false)
  | 8 => ("DeltaNests$Reader", "clauses", "[I", true)
  | 9 => ("DeltaNests$Reader", "many", "I", false)
  | 10 => ("DeltaNests$Reader", "parts", "I", false)
  | 11 => ("DeltaNests$Reader", "code", "[I", true)
  | 12 => ("DeltaNests$Reader", "coded", "I", false)
  | 13 => ("DeltaNests$Reader", "bounds", "[I", true)
  | _ => ("DeltaNests$Reader", "law", "I", false)
def xt_y1 : Nat → FieldType := fun k => match k with
  | 0 => .array .byte
  | 1 => .int
  | 2 => .int
  | 3 => .int
  | 4 => .int
  | 5 => .int
  | 6 => .int
  | 7 => .int
  | 8 => .array .int
  | 9 => .int
  | 10 => .int
  | 11 => .array .int
  | 12 => .int
  | 13 => .array .int
  | _ => .int
def xt_F2 : u_T := fun k => match k with
  | 0 => ("DeltaNests$Rules", "read", "[LDeltaNests$Text;", true)
  | 1 => ("DeltaNests$Rules", "texts", "I", false)
  | 2 => ("DeltaNests$Rules", "ruling", "I", false)
  | 3 => ("DeltaNests$Rules", "delay", "I", false)
  | 4 => ("DeltaNests$Rules", "told", "[I", true)
  | 5 => ("DeltaNests$Rules", "sayings", "I", false)
  | 6 => ("DeltaNests$Rules", "named", "[I", true)
  | _ => ("DeltaNests$Rules", "stack", "[I", true)
def xt_y2 : Nat → FieldType := fun k => match k with
  | 0 => .array (.object "DeltaNests$Text")
  | 1 => .int
  | 2 => .int
  | 3 => .int
  | 4 => .array .int
  | 5 => .int
  | 6 => .array .int
  | _ => .array .int
def xt_F3 : u_T := fun k => match k with
  | 0 => ("DeltaNests$Steps", "worlds", "[LDeltaNests$World;", true)
  | 1 => ("DeltaNests$Steps", "first", "I", false)
  | _ => ("DeltaNests$Steps", "many", "I", false)
def xt_y3 : Nat → FieldType := fun k => match k with
  | 0 => .array (.object "DeltaNests$World")
  | 1 => .int
  | _ => .int
def xt_F4 : u_T := fun k => match k with
  | 0 => ("DeltaNests$Text", "many", "I", true)
  | 1 => ("DeltaNests$Text", "clauses", "[I", true)
  | 2 => ("DeltaNests$Text", "code", "[I", true)
  | _ => ("DeltaNests$Text", "bounds", "[I", true)
def xt_y4 : Nat → FieldType := fun k => match k with
  | 0 => .int
  | 1 => .array .int
  | 2 => .array .int
  | _ => .array .int
def xt_F5 : u_T := fun k => match k with
  | 0 => ("DeltaNests$World", "nests", "LDeltaNests$Nests;", true)
  | 1 => ("DeltaNests$World", "acked", "[I", true)
  | 2 => ("DeltaNests$World", "made", "[I", true)
  | 3 => ("DeltaNests$World", "dropped", "[I", true)
  | 4 => ("DeltaNests$World", "flights", "[I", true)
  | 5 => ("DeltaNests$World", "lines", "[I", true)
  | 6 => ("DeltaNests$World", "flying", "I", false)
  | 7 => ("DeltaNests$World", "written", "I", false)
  | 8 => ("DeltaNests$World", "clock", "I", false)
  | 9 => ("DeltaNests$World", "x", "I", false)
  | 10 => ("DeltaNests$World", "sent", "I", false)
  | _ => ("DeltaNests$World", "lost", "I", false)
def xt_y5 : Nat → FieldType := fun k => match k with
  | 0 => .object "DeltaNests$Nests"
  | 1 => .array .int
  | 2 => .array .int
  | 3 => .array .int
  | 4 => .array .int
  | 5 => .array .int
  | 6 => .int
  | 7 => .int
  | 8 => .int
  | 9 => .int
  | 10 => .int
  | _ => .int
def xt_F6 : u_T := fun k => match k with
  | 0 => ("DeltaNests", "reader", "LDeltaNests$Reader;", true)
  | 1 => ("DeltaNests", "latestFault", "I", false)
  | 2 => ("DeltaNests", "latestPlace", "I", false)
  | 3 => ("DeltaNests", "now", "LDeltaNests$World;", true)
  | 4 => ("DeltaNests", "trial", "LDeltaNests$World;", true)
  | 5 => ("DeltaNests", "steps", "LDeltaNests$Steps;", true)
  | 6 => ("DeltaNests", "rules", "LDeltaNests$Rules;", true)
  | 7 => ("DeltaNests", "imageNow", "LDeltaNests$World;", true)
  | 8 => ("DeltaNests", "imageSteps", "LDeltaNests$Steps;", true)
  | _ => ("DeltaNests", "imageRules", "LDeltaNests$Rules;", true)
def xt_y6 : Nat → FieldType := fun k => match k with
  | 0 => .object "DeltaNests$Reader"
  | 1 => .int
  | 2 => .int
  | 3 => .object "DeltaNests$World"
  | 4 => .object "DeltaNests$World"
  | 5 => .object "DeltaNests$Steps"
  | 6 => .object "DeltaNests$Rules"
  | 7 => .object "DeltaNests$World"
  | 8 => .object "DeltaNests$Steps"
  | _ => .object "DeltaNests$Rules"
def xt_cl : List vw_C := [("DeltaNests$Nests", xt_F0, 3), ("DeltaNests$Reader", xt_F1, 15), ("DeltaNests$Rules", xt_F2, 8), ("DeltaNests$Steps", xt_F3, 3), ("DeltaNests$Text", xt_F4, 4), ("DeltaNests$World", xt_F5, 12), ("DeltaNests", xt_F6, 10)]
def xt_on : Nat → String := (xi_bn 5 (xi_bn 2 (xi_bn 0 (xi_bl "DeltaNests$Nests") (xi_bn 1 (xi_bl "DeltaNests$Reader") (xi_bl "DeltaNests$Rules"))) (xi_bn 3 (xi_bl "DeltaNests$Steps") (xi_bn 4 (xi_bl "DeltaNests$Text") (xi_bl "DeltaNests$World")))) (xi_bn 8 (xi_bn 6 (xi_bl "DeltaNests") (xi_bn 7 (xi_bl "java/lang/String") (xi_bl "java/lang/StringLatin1"))) (xi_bn 10 (xi_bn 9 (xi_bl "java/lang/Long") (xi_bl "java/util/Arrays")) (xi_bn 11 (xi_bl "jdk/internal/util/Preconditions") (xi_bl "DeltaNestsLaw")))))
def xt_df : Nat → List Value := (xi_bn 2 (xi_bn 0 (xi_bl [.null, .null, .null]) (xi_bn 1 (xi_bl [.null, .int 0, .int 0, .int 0, .int 0, .int 0, .int 0, .int 0, .null, .int 0, .int 0, .null, .int 0, .null, .int 0]) (xi_bl [.null, .int 0, .int 0, .int 0, .null, .int 0, .null, .null]))) (xi_bn 4 (xi_bn 3 (xi_bl [.null, .int 0, .int 0]) (xi_bl [.int 0, .null, .null, .null])) (xi_bn 5 (xi_bl [.null, .null, .null, .null, .null, .null, .int 0, .int 0, .int 0, .int 0, .int 0, .int 0]) (xi_bl [.null, .int 0, .int 0, .null, .null, .null, .null, .null, .null, .null]))))
def xt_fy (ci k : Nat) : FieldType := (xi_bn 2 (xi_bn 0 (xi_bl xt_y0) (xi_bn 1 (xi_bl xt_y1) (xi_bl xt_y2))) (xi_bn 4 (xi_bn 3 (xi_bl xt_y3) (xi_bl xt_y4)) (xi_bn 5 (xi_bl xt_y5) (xi_bl xt_y6)))) ci k
def xt_cn : Nat → String := (xi_bn 2 (xi_bn 0 (xi_bl "DeltaNests$Nests") (xi_bn 1 (xi_bl "DeltaNests$Reader") (xi_bl "DeltaNests$Rules"))) (xi_bn 4 (xi_bn 3 (xi_bl "DeltaNests$Steps") (xi_bl "DeltaNests$Text")) (xi_bn 5 (xi_bl "DeltaNests$World") (xi_bl "DeltaNests"))))
def xt_nf : Nat → Nat := (xi_bn 2 (xi_bn 0 (xi_bl 3) (xi_bn 1 (xi_bl 15) (xi_bl 8))) (xi_bn 4 (xi_bn 3 (xi_bl 3) (xi_bl 4)) (xi_bn 5 (xi_bl 12) (xi_bl 10))))
def xt_ff (ci k : Nat) : Bool := match xt_cl[ci]? with | some q => (q.2.1 k).2.2.2 | none => false
