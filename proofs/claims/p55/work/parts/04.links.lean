def xt_NL : List (String × Nat × MethodName × String) := [("DeltaNests$Steps", 24, ⟨"DeltaNests$World", "<init>", "()V"⟩, "DeltaNests"), ("DeltaNests$World", 11, ⟨"DeltaNests$Nests", "<init>", "()V"⟩, "DeltaNests"), ("DeltaNests", 11, ⟨"DeltaNests$Reader", "<init>", "()V"⟩, "DeltaNests"), ("DeltaNests", 25, ⟨"DeltaNests$World", "<init>", "()V"⟩, "DeltaNests"), ("DeltaNests", 42, ⟨"DeltaNests$Rules", "<init>", "()V"⟩, "DeltaNests")]
theorem xf_NL : (xt_NL.zip [200, 126, 63, 120, 214]).all (fun x => decide (lw_tb2[x.2]? = some (.methodLinkNest x.1.1 x.1.2.1 x.1.2.2.1 x.1.2.2.2))) = true := by decide +kernel
theorem xf_oW : Cond.arrayOver (.object "DeltaNests$World") ∈ lw_tb2 := List.mem_of_getElem? (i := 199) (by decide +kernel)
theorem xf_oT : Cond.arrayOver (.object "DeltaNests$Text") ∈ lw_tb2 := List.mem_of_getElem? (i := 219) (by decide +kernel)
theorem xf_oJ : Cond.arrayOver (.array .long) ∈ lw_tb2 := List.mem_of_getElem? (i := 1204) (by decide +kernel)
theorem xf_cC : Cond.castable "[I" "java/lang/Cloneable" ∈ lw_tb2 := List.mem_of_getElem? (i := 499) (by decide +kernel)
theorem xf_cJ : Cond.castable "[J" "java/lang/Cloneable" ∈ lw_tb2 := List.mem_of_getElem? (i := 1011) (by decide +kernel)
def xi_fmc : ByteArray := ⟨#[0x1a, 0x1b, 0x70, 0x3d, 0x1a, 0x1b, 0x82, 0x9c, 0x00, 0x0b, 0x1c, 0x99, 0x00, 0x07, 0x1c, 0x1b, 0x60, 0xac, 0x1c, 0xac]⟩
def xi_ckf (o i : Nat) : Bool := match xt_fdp o i with
  | none => true
  | some (ci, k, p) => match xt_cl[ci]? with
    | none => decide (ci = 7) && ((decide (k = 0) && xi_at p (.fieldLink (xt_on o) i "java/lang/String" "value" "[B")) || (decide (k = 1) && xi_at p (.fieldLink (xt_on o) i "java/lang/String" "coder" "B")))
    | some (C, F, N) => Nat.blt k N && xi_at p (.fieldLink (xt_on o) i (F k).1 (F k).2.1 (F k).2.2.1) && decide ((F k).1 = C) && decide (parseFieldDescriptor (F k).2.2.1 = some (xt_fy ci k))
def xi_ckl (o i : Nat) : Bool := match xt_mdp o i with
  | none => true
  | some (0, j, ps) => xi_at (ps.getD 0 0) (.methodLink (xt_on o) i (xt_my j)) && xi_at (ps.getD 1 0) (.instanceMethod (xt_my j)) && xi_at (ps.getD 2 0) (.selects (xt_my j).cls (xt_my j) (xt_my j))
  | some (1, j, ps) => xi_at (ps.getD 0 0) (.methodLink (xt_on o) i (xt_my j)) && xi_at (ps.getD 1 0) (.static (xt_my j))
  | some (2, j, ps) => xi_at (ps.getD 0 0) (.methodLink (xt_on o) i (xt_my j)) && xi_at (ps.getD 1 0) (.instanceMethod (xt_my j)) && xt_mi j && decide (xt_mr j = none)
  | some (3, j, ps) => decide ((xt_on o, i, xt_my j, "DeltaNests") ∈ xt_NL) && xi_at (ps.getD 1 0) (.instanceMethod (xt_my j)) && xt_mi j && decide (xt_mr j = none)
  | some (4, _, ps) => xi_at (ps.getD 0 0) (.methodLink (xt_on o) i objectInit) && xi_at (ps.getD 1 0) (.instanceMethod objectInit)
  | some (5, _, ps) => xi_at (ps.getD 0 0) (.methodLink (xt_on o) i arraycopyName) && xi_at (ps.getD 1 0) (.native arraycopyName) && xi_at (ps.getD 2 0) (.static arraycopyName) && xi_at (ps.getD 3 0) (.initialized "java/lang/System")
  | some (6, _, ps) => xi_at (ps.getD 0 0) (.methodLink (xt_on o) i Lib.Math.max.name) && xi_at (ps.getD 1 0) (.static Lib.Math.max.name) && xi_at (ps.getD 2 0) (.initialized "java/lang/Math") && xi_at (ps.getD 3 0) (.code Lib.Math.max.name Lib.Math.max.code 2 (some .int))
  | some (7, _, ps) => xi_at (ps.getD 0 0) (.methodLink (xt_on o) i Lib.Math.min.name) && xi_at (ps.getD 1 0) (.static Lib.Math.min.name) && xi_at (ps.getD 2 0) (.initialized "java/lang/Math") && xi_at (ps.getD 3 0) (.code Lib.Math.min.name Lib.Math.min.code 2 (some .int))
  | some (8, _, ps) => xi_at (ps.getD 0 0) (.methodLink (xt_on o) i ⟨"java/lang/Math", "floorMod", "(II)I"⟩) && xi_at (ps.getD 1 0) (.static ⟨"java/lang/Math", "floorMod", "(II)I"⟩) && xi_at (ps.getD 2 0) (.initialized "java/lang/Math") && xi_at (ps.getD 3 0) (.code ⟨"java/lang/Math", "floorMod", "(II)I"⟩ xi_fmc 3 (some .int))
  | some (9, _, ps) => xi_at (ps.getD 0 0) (.methodLink (xt_on o) i ⟨"[I", "clone", "()Ljava/lang/Object;"⟩) && xi_at (ps.getD 1 0) (.sameMethod "[I" "java/lang/Object" "clone" "()Ljava/lang/Object;") && xi_at (ps.getD 2 0) (.native ⟨"java/lang/Object", "clone", "()Ljava/lang/Object;"⟩) && xi_at (ps.getD 3 0) (.instanceMethod ⟨"java/lang/Object", "clone", "()Ljava/lang/Object;"⟩) && xi_at (ps.getD 4 0) (.selects "[I" ⟨"[I", "clone", "()Ljava/lang/Object;"⟩ ⟨"java/lang/Object", "clone", "()Ljava/lang/Object;"⟩)
  | some (10, _, ps) => xi_at (ps.getD 0 0) (.methodLink (xt_on o) i ⟨"[J", "clone", "()Ljava/lang/Object;"⟩) && xi_at (ps.getD 1 0) (.sameMethod "[J" "java/lang/Object" "clone" "()Ljava/lang/Object;") && xi_at (ps.getD 2 0) (.native ⟨"java/lang/Object", "clone", "()Ljava/lang/Object;"⟩) && xi_at (ps.getD 3 0) (.instanceMethod ⟨"java/lang/Object", "clone", "()Ljava/lang/Object;"⟩) && xi_at (ps.getD 4 0) (.selects "[J" ⟨"[J", "clone", "()Ljava/lang/Object;"⟩ ⟨"java/lang/Object", "clone", "()Ljava/lang/Object;"⟩)
  | some (11, _, ps) => xi_at (ps.getD 0 0) (.methodLink (xt_on o) i Lib.MathLoose.max_long.x) && xi_at (ps.getD 1 0) (.static Lib.MathLoose.max_long.x) && xi_at (ps.getD 2 0) (.initialized "java/lang/Math") && xi_at (ps.getD 3 0) (.code Lib.MathLoose.max_long.x Lib.MathLoose.max_long.code 4 (some .long))
  | some (12, _, ps) => xi_at (ps.getD 0 0) (.methodLink (xt_on o) i Lib.MathLoose.min_long.x) && xi_at (ps.getD 1 0) (.static Lib.MathLoose.min_long.x) && xi_at (ps.getD 2 0) (.initialized "java/lang/Math") && xi_at (ps.getD 3 0) (.code Lib.MathLoose.min_long.x Lib.MathLoose.min_long.code 4 (some .long))
  | some _ => false
def xi_cka (o i : Nat) : Bool := match xt_adp o i with
  | none => true
  | some (0, p) => xi_at p (.classLink (xt_on o) i "[I")
  | some (1, p) => xi_at p (.classLink (xt_on o) i "[J")
  | some _ => false
def xi_ckk (o i : Nat) : Bool := match xt_kdp o i with
  | none => true
  | some (v, p) => xi_at p (.constant (xt_on o) i v)
def xi_ckj (o i : Nat) : Bool := match xt_ldp o i with
  | none => true
  | some (v, p) => xi_at p (.constantLong (xt_on o) i v)
def xi_ckn (o i : Nat) : Bool := match xt_ndp o i with
  | none => true
  | some (ci, ps) => match xt_cl[ci]? with
    | none => false
    | some (C, _, N) => xi_at (ps.getD 0 0) (.classLink (xt_on o) i C) && xi_at (ps.getD 1 0) (.instantiable C N) && xi_at (ps.getD 2 0) (.initialized C)
def xi_cks (o i : Nat) : Bool := match xt_sdp o i with
  | none => true
  | some (0, p) => xi_at p (.fieldLink (xt_on o) i "java/lang/String" "COMPACT_STRINGS" "Z")
  | some (1, p) => xi_at p (.fieldLink (xt_on o) i "jdk/internal/util/Preconditions" "SIOOBE_FORMATTER" "Ljava/util/function/BiFunction;")
  | some _ => false
def xi_ckq (o i : Nat) : Bool := match xt_qdp o i with
  | none => true
  | some (n, p) => Nat.blt n 8 && decide (xt_so[n]? = some (o, i)) && match xt_st[n]? with
    | none => false
    | some t => decide (lw_tb2[p]? = some (.stringRef (xt_on o) i t))
theorem xf_f0 : (List.range 1100).all (xi_ckf 0) = true := by decide +kernel
theorem xf_f1 : (List.range 1100).all (xi_ckf 1) = true := by decide +kernel
theorem xf_f2 : (List.range 1100).all (xi_ckf 2) = true := by decide +kernel
theorem xf_f3 : (List.range 1100).all (xi_ckf 3) = true := by decide +kernel
theorem xf_f4 : (List.range 1100).all (xi_ckf 4) = true := by decide +kernel
theorem xf_f5 : (List.range 1100).all (xi_ckf 5) = true := by decide +kernel
theorem xf_f6 : (List.range 1100).all (xi_ckf 6) = true := by decide +kernel
theorem xf_f7 : (List.range 1100).all (xi_ckf 7) = true := by decide +kernel
theorem xf_f8 : (List.range 1100).all (xi_ckf 8) = true := by decide +kernel
theorem xf_f9 : (List.range 1100).all (xi_ckf 9) = true := by decide +kernel
theorem xf_f10 : (List.range 1100).all (xi_ckf 10) = true := by decide +kernel
theorem xf_f11 : (List.range 1100).all (xi_ckf 11) = true := by decide +kernel
theorem xf_f12 : (List.range 1100).all (xi_ckf 12) = true := by decide +kernel
theorem xf_l0 : (List.range 1100).all (xi_ckl 0) = true := by decide +kernel
theorem xf_l1 : (List.range 1100).all (xi_ckl 1) = true := by decide +kernel
theorem xf_l2 : (List.range 1100).all (xi_ckl 2) = true := by decide +kernel
theorem xf_l3 : (List.range 1100).all (xi_ckl 3) = true := by decide +kernel
theorem xf_l4 : (List.range 1100).all (xi_ckl 4) = true := by decide +kernel
theorem xf_l5 : (List.range 1100).all (xi_ckl 5) = true := by decide +kernel
theorem xf_l6 : (List.range 1100).all (xi_ckl 6) = true := by decide +kernel
theorem xf_l7 : (List.range 1100).all (xi_ckl 7) = true := by decide +kernel
theorem xf_l8 : (List.range 1100).all (xi_ckl 8) = true := by decide +kernel
theorem xf_l9 : (List.range 1100).all (xi_ckl 9) = true := by decide +kernel
theorem xf_l10 : (List.range 1100).all (xi_ckl 10) = true := by decide +kernel
theorem xf_l11 : (List.range 1100).all (xi_ckl 11) = true := by decide +kernel
theorem xf_l12 : (List.range 1100).all (xi_ckl 12) = true := by decide +kernel
theorem xf_k0 : (List.range 1100).all (xi_ckk 0) = true := by decide +kernel
theorem xf_k1 : (List.range 1100).all (xi_ckk 1) = true := by decide +kernel
theorem xf_k2 : (List.range 1100).all (xi_ckk 2) = true := by decide +kernel
theorem xf_k3 : (List.range 1100).all (xi_ckk 3) = true := by decide +kernel
theorem xf_k4 : (List.range 1100).all (xi_ckk 4) = true := by decide +kernel
theorem xf_k5 : (List.range 1100).all (xi_ckk 5) = true := by decide +kernel
theorem xf_k6 : (List.range 1100).all (xi_ckk 6) = true := by decide +kernel
theorem xf_k7 : (List.range 1100).all (xi_ckk 7) = true := by decide +kernel
theorem xf_k8 : (List.range 1100).all (xi_ckk 8) = true := by decide +kernel
theorem xf_k9 : (List.range 1100).all (xi_ckk 9) = true := by decide +kernel
theorem xf_k10 : (List.range 1100).all (xi_ckk 10) = true := by decide +kernel
theorem xf_k11 : (List.range 1100).all (xi_ckk 11) = true := by decide +kernel
theorem xf_k12 : (List.range 1100).all (xi_ckk 12) = true := by decide +kernel
theorem xf_j0 : (List.range 1100).all (xi_ckj 0) = true := by decide +kernel
theorem xf_j1 : (List.range 1100).all (xi_ckj 1) = true := by decide +kernel
theorem xf_j2 : (List.range 1100).all (xi_ckj 2) = true := by decide +kernel
theorem xf_j3 : (List.range 1100).all (xi_ckj 3) = true := by decide +kernel
theorem xf_j4 : (List.range 1100).all (xi_ckj 4) = true := by decide +kernel
theorem xf_j5 : (List.range 1100).all (xi_ckj 5) = true := by decide +kernel
theorem xf_j6 : (List.range 1100).all (xi_ckj 6) = true := by decide +kernel
theorem xf_j7 : (List.range 1100).all (xi_ckj 7) = true := by decide +kernel
theorem xf_j8 : (List.range 1100).all (xi_ckj 8) = true := by decide +kernel
theorem xf_j9 : (List.range 1100).all (xi_ckj 9) = true := by decide +kernel
theorem xf_j10 : (List.range 1100).all (xi_ckj 10) = true := by decide +kernel
theorem xf_j11 : (List.range 1100).all (xi_ckj 11) = true := by decide +kernel
theorem xf_j12 : (List.range 1100).all (xi_ckj 12) = true := by decide +kernel
theorem xf_n0 : (List.range 1100).all (xi_ckn 0) = true := by decide +kernel
theorem xf_n1 : (List.range 1100).all (xi_ckn 1) = true := by decide +kernel
theorem xf_n2 : (List.range 1100).all (xi_ckn 2) = true := by decide +kernel
theorem xf_n3 : (List.range 1100).all (xi_ckn 3) = true := by decide +kernel
theorem xf_n4 : (List.range 1100).all (xi_ckn 4) = true := by decide +kernel
theorem xf_n5 : (List.range 1100).all (xi_ckn 5) = true := by decide +kernel
theorem xf_n6 : (List.range 1100).all (xi_ckn 6) = true := by decide +kernel
theorem xf_n7 : (List.range 1100).all (xi_ckn 7) = true := by decide +kernel
theorem xf_n8 : (List.range 1100).all (xi_ckn 8) = true := by decide +kernel
theorem xf_n9 : (List.range 1100).all (xi_ckn 9) = true := by decide +kernel
theorem xf_n10 : (List.range 1100).all (xi_ckn 10) = true := by decide +kernel
theorem xf_n11 : (List.range 1100).all (xi_ckn 11) = true := by decide +kernel
theorem xf_n12 : (List.range 1100).all (xi_ckn 12) = true := by decide +kernel
theorem xf_a0 : (List.range 1100).all (xi_cka 0) = true := by decide +kernel
theorem xf_a1 : (List.range 1100).all (xi_cka 1) = true := by decide +kernel
theorem xf_a2 : (List.range 1100).all (xi_cka 2) = true := by decide +kernel
theorem xf_a3 : (List.range 1100).all (xi_cka 3) = true := by decide +kernel
theorem xf_a4 : (List.range 1100).all (xi_cka 4) = true := by decide +kernel
theorem xf_a5 : (List.range 1100).all (xi_cka 5) = true := by decide +kernel
theorem xf_a6 : (List.range 1100).all (xi_cka 6) = true := by decide +kernel
theorem xf_a7 : (List.range 1100).all (xi_cka 7) = true := by decide +kernel
theorem xf_a8 : (List.range 1100).all (xi_cka 8) = true := by decide +kernel
theorem xf_a9 : (List.range 1100).all (xi_cka 9) = true := by decide +kernel
theorem xf_a10 : (List.range 1100).all (xi_cka 10) = true := by decide +kernel
theorem xf_a11 : (List.range 1100).all (xi_cka 11) = true := by decide +kernel
theorem xf_a12 : (List.range 1100).all (xi_cka 12) = true := by decide +kernel
theorem xf_s0 : (List.range 1100).all (xi_cks 0) = true := by decide +kernel
theorem xf_s1 : (List.range 1100).all (xi_cks 1) = true := by decide +kernel
theorem xf_s2 : (List.range 1100).all (xi_cks 2) = true := by decide +kernel
theorem xf_s3 : (List.range 1100).all (xi_cks 3) = true := by decide +kernel
theorem xf_s4 : (List.range 1100).all (xi_cks 4) = true := by decide +kernel
theorem xf_s5 : (List.range 1100).all (xi_cks 5) = true := by decide +kernel
theorem xf_s6 : (List.range 1100).all (xi_cks 6) = true := by decide +kernel
theorem xf_s7 : (List.range 1100).all (xi_cks 7) = true := by decide +kernel
theorem xf_s8 : (List.range 1100).all (xi_cks 8) = true := by decide +kernel
theorem xf_s9 : (List.range 1100).all (xi_cks 9) = true := by decide +kernel
theorem xf_s10 : (List.range 1100).all (xi_cks 10) = true := by decide +kernel
theorem xf_s11 : (List.range 1100).all (xi_cks 11) = true := by decide +kernel
theorem xf_s12 : (List.range 1100).all (xi_cks 12) = true := by decide +kernel
theorem xf_q0 : (List.range 1100).all (xi_ckq 0) = true := by decide +kernel
theorem xf_q1 : (List.range 1100).all (xi_ckq 1) = true := by decide +kernel
theorem xf_q2 : (List.range 1100).all (xi_ckq 2) = true := by decide +kernel
theorem xf_q3 : (List.range 1100).all (xi_ckq 3) = true := by decide +kernel
theorem xf_q4 : (List.range 1100).all (xi_ckq 4) = true := by decide +kernel
theorem xf_q5 : (List.range 1100).all (xi_ckq 5) = true := by decide +kernel
theorem xf_q6 : (List.range 1100).all (xi_ckq 6) = true := by decide +kernel
theorem xf_q7 : (List.range 1100).all (xi_ckq 7) = true := by decide +kernel
theorem xf_q8 : (List.range 1100).all (xi_ckq 8) = true := by decide +kernel
theorem xf_q9 : (List.range 1100).all (xi_ckq 9) = true := by decide +kernel
theorem xf_q10 : (List.range 1100).all (xi_ckq 10) = true := by decide +kernel
theorem xf_q11 : (List.range 1100).all (xi_ckq 11) = true := by decide +kernel
theorem xf_q12 : (List.range 1100).all (xi_ckq 12) = true := by decide +kernel
theorem xf_w0 : ((List.range 3).zip [135, 137, 139]).all (fun x => xi_at x.2 (u_lay "DeltaNests$Nests" xt_F0 x.1)) = true := by decide +kernel
theorem xf_e0 : ∀ a, a < 3 → ∀ b, b < 3 → a ≠ b → (xt_F0 a).2.1 ≠ (xt_F0 b).2.1 := by decide +kernel
theorem xf_y0 : ∀ k, k < 3 → parseFieldDescriptor (xt_F0 k).2.2.1 = some (xt_y0 k) := by decide +kernel
theorem xf_d0 : ∀ k, k < 3 → defaultValue (xt_y0 k) = vp_V (xt_df 0) k := by decide +kernel
theorem xf_w1 : ((List.range 15).zip [85, 87, 89, 91, 93, 95, 97, 99, 101, 103, 105, 107, 109, 111, 113]).all (fun x => xi_at x.2 (u_lay "DeltaNests$Reader" xt_F1 x.1)) = true := by decide +kernel
theorem xf_e1 : ∀ a, a < 15 → ∀ b, b < 15 → a ≠ b → (xt_F1 a).2.1 ≠ (xt_F1 b).2.1 := by decide +kernel
theorem xf_y1 : ∀ k, k < 15 → parseFieldDescriptor (xt_F1 k).2.2.1 = some (xt_y1 k) := by decide +kernel
theorem xf_d1 : ∀ k, k < 15 → defaultValue (xt_y1 k) = vp_V (xt_df 1) k := by decide +kernel
theorem xf_w2 : ((List.range 8).zip [234, 236, 238, 240, 242, 244, 246, 248]).all (fun x => xi_at x.2 (u_lay "DeltaNests$Rules" xt_F2 x.1)) = true := by decide +kernel
theorem xf_e2 : ∀ a, a < 8 → ∀ b, b < 8 → a ≠ b → (xt_F2 a).2.1 ≠ (xt_F2 b).2.1 := by decide +kernel
theorem xf_y2 : ∀ k, k < 8 → parseFieldDescriptor (xt_F2 k).2.2.1 = some (xt_y2 k) := by decide +kernel
theorem xf_d2 : ∀ k, k < 8 → defaultValue (xt_y2 k) = vp_V (xt_df 2) k := by decide +kernel
theorem xf_w3 : ((List.range 3).zip [205, 207, 209]).all (fun x => xi_at x.2 (u_lay "DeltaNests$Steps" xt_F3 x.1)) = true := by decide +kernel
theorem xf_e3 : ∀ a, a < 3 → ∀ b, b < 3 → a ≠ b → (xt_F3 a).2.1 ≠ (xt_F3 b).2.1 := by decide +kernel
theorem xf_y3 : ∀ k, k < 3 → parseFieldDescriptor (xt_F3 k).2.2.1 = some (xt_y3 k) := by decide +kernel
theorem xf_d3 : ∀ k, k < 3 → defaultValue (xt_y3 k) = vp_V (xt_df 3) k := by decide +kernel
theorem xf_w4 : ((List.range 4).zip [516, 518, 520, 522]).all (fun x => xi_at x.2 (u_lay "DeltaNests$Text" xt_F4 x.1)) = true := by decide +kernel
theorem xf_e4 : ∀ a, a < 4 → ∀ b, b < 4 → a ≠ b → (xt_F4 a).2.1 ≠ (xt_F4 b).2.1 := by decide +kernel
theorem xf_y4 : ∀ k, k < 4 → parseFieldDescriptor (xt_F4 k).2.2.1 = some (xt_y4 k) := by decide +kernel
theorem xf_d4 : ∀ k, k < 4 → defaultValue (xt_y4 k) = vp_V (xt_df 4) k := by decide +kernel
theorem xf_w5 : ((List.range 12).zip [167, 169, 171, 173, 175, 177, 179, 181, 183, 185, 187, 189]).all (fun x => xi_at x.2 (u_lay "DeltaNests$World" xt_F5 x.1)) = true := by decide +kernel
theorem xf_e5 : ∀ a, a < 12 → ∀ b, b < 12 → a ≠ b → (xt_F5 a).2.1 ≠ (xt_F5 b).2.1 := by decide +kernel
theorem xf_y5 : ∀ k, k < 12 → parseFieldDescriptor (xt_F5 k).2.2.1 = some (xt_y5 k) := by decide +kernel
theorem xf_d5 : ∀ k, k < 12 → defaultValue (xt_y5 k) = vp_V (xt_df 5) k := by decide +kernel
theorem xf_w6 : ((List.range 10).zip [261, 263, 265, 267, 269, 271, 273, 275, 277, 279]).all (fun x => xi_at x.2 (u_lay "DeltaNests" xt_F6 x.1)) = true := by decide +kernel
theorem xf_e6 : ∀ a, a < 10 → ∀ b, b < 10 → a ≠ b → (xt_F6 a).2.1 ≠ (xt_F6 b).2.1 := by decide +kernel
theorem xf_y6 : ∀ k, k < 10 → parseFieldDescriptor (xt_F6 k).2.2.1 = some (xt_y6 k) := by decide +kernel
theorem xf_d6 : ∀ k, k < 10 → defaultValue (xt_y6 k) = vp_V (xt_df 6) k := by decide +kernel
theorem xf_aI : Cond.arrayClass .int ∈ xt_G := xi_at_in (p := 117) (by decide +kernel)
theorem xf_aL : Cond.arrayClass .long ∈ xt_G := xi_at_in (p := 142) (by decide +kernel)
theorem xf_aB : Cond.arrayClass .byte ∈ xt_G := xi_at_in (p := 116) (by decide +kernel)
theorem xf_ob : Cond.code objectInit ⟨#[0xb1]⟩ 1 none ∈ xt_G := xi_at_in (p := 60) (by decide +kernel)
