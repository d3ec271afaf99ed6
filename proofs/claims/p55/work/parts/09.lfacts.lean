/-! facts of the links, out of the tables -/
theorem xi_two {α : Type} {T : Nat → Nat → Option α} {F : Nat → Nat → Option α} {K : Nat} (hT : ∀ o i, T o i = cond (Nat.blt o K) (xi_lim 1100 (F o) i) none) {o i : Nat} {x : α} (h : T o i = some x) : o < K ∧ i < 1100 := by
  rw [hT] at h
  obtain ⟨h1, h2⟩ := xi_cond h
  exact ⟨xi_blt h1, (xi_lim_some h2).1⟩
theorem xf_f_all {o i : Nat} (ho : o < 13) (hi : i < 1100) : xi_ckf o i = true := by
  match o, ho with
  | 0, _ => exact xi_all xf_f0 hi
  | 1, _ => exact xi_all xf_f1 hi
  | 2, _ => exact xi_all xf_f2 hi
  | 3, _ => exact xi_all xf_f3 hi
  | 4, _ => exact xi_all xf_f4 hi
  | 5, _ => exact xi_all xf_f5 hi
  | 6, _ => exact xi_all xf_f6 hi
  | 7, _ => exact xi_all xf_f7 hi
  | 8, _ => exact xi_all xf_f8 hi
  | 9, _ => exact xi_all xf_f9 hi
  | 10, _ => exact xi_all xf_f10 hi
  | 11, _ => exact xi_all xf_f11 hi
  | 12, _ => exact xi_all xf_f12 hi
  | n + 13, h => exact absurd h (by omega)
theorem xf_l_all {o i : Nat} (ho : o < 13) (hi : i < 1100) : xi_ckl o i = true := by
  match o, ho with
  | 0, _ => exact xi_all xf_l0 hi
  | 1, _ => exact xi_all xf_l1 hi
  | 2, _ => exact xi_all xf_l2 hi
  | 3, _ => exact xi_all xf_l3 hi
  | 4, _ => exact xi_all xf_l4 hi
  | 5, _ => exact xi_all xf_l5 hi
  | 6, _ => exact xi_all xf_l6 hi
  | 7, _ => exact xi_all xf_l7 hi
  | 8, _ => exact xi_all xf_l8 hi
  | 9, _ => exact xi_all xf_l9 hi
  | 10, _ => exact xi_all xf_l10 hi
  | 11, _ => exact xi_all xf_l11 hi
  | 12, _ => exact xi_all xf_l12 hi
  | n + 13, h => exact absurd h (by omega)
theorem xf_k_all {o i : Nat} (ho : o < 13) (hi : i < 1100) : xi_ckk o i = true := by
  match o, ho with
  | 0, _ => exact xi_all xf_k0 hi
  | 1, _ => exact xi_all xf_k1 hi
  | 2, _ => exact xi_all xf_k2 hi
  | 3, _ => exact xi_all xf_k3 hi
  | 4, _ => exact xi_all xf_k4 hi
  | 5, _ => exact xi_all xf_k5 hi
  | 6, _ => exact xi_all xf_k6 hi
  | 7, _ => exact xi_all xf_k7 hi
  | 8, _ => exact xi_all xf_k8 hi
  | 9, _ => exact xi_all xf_k9 hi
  | 10, _ => exact xi_all xf_k10 hi
  | 11, _ => exact xi_all xf_k11 hi
  | 12, _ => exact xi_all xf_k12 hi
  | n + 13, h => exact absurd h (by omega)
theorem xf_j_all {o i : Nat} (ho : o < 13) (hi : i < 1100) : xi_ckj o i = true := by
  match o, ho with
  | 0, _ => exact xi_all xf_j0 hi
  | 1, _ => exact xi_all xf_j1 hi
  | 2, _ => exact xi_all xf_j2 hi
  | 3, _ => exact xi_all xf_j3 hi
  | 4, _ => exact xi_all xf_j4 hi
  | 5, _ => exact xi_all xf_j5 hi
  | 6, _ => exact xi_all xf_j6 hi
  | 7, _ => exact xi_all xf_j7 hi
  | 8, _ => exact xi_all xf_j8 hi
  | 9, _ => exact xi_all xf_j9 hi
  | 10, _ => exact xi_all xf_j10 hi
  | 11, _ => exact xi_all xf_j11 hi
  | 12, _ => exact xi_all xf_j12 hi
  | n + 13, h => exact absurd h (by omega)
theorem xf_n_all {o i : Nat} (ho : o < 13) (hi : i < 1100) : xi_ckn o i = true := by
  match o, ho with
  | 0, _ => exact xi_all xf_n0 hi
  | 1, _ => exact xi_all xf_n1 hi
  | 2, _ => exact xi_all xf_n2 hi
  | 3, _ => exact xi_all xf_n3 hi
  | 4, _ => exact xi_all xf_n4 hi
  | 5, _ => exact xi_all xf_n5 hi
  | 6, _ => exact xi_all xf_n6 hi
  | 7, _ => exact xi_all xf_n7 hi
  | 8, _ => exact xi_all xf_n8 hi
  | 9, _ => exact xi_all xf_n9 hi
  | 10, _ => exact xi_all xf_n10 hi
  | 11, _ => exact xi_all xf_n11 hi
  | 12, _ => exact xi_all xf_n12 hi
  | n + 13, h => exact absurd h (by omega)
theorem xf_a_all {o i : Nat} (ho : o < 13) (hi : i < 1100) : xi_cka o i = true := by
  match o, ho with
  | 0, _ => exact xi_all xf_a0 hi
  | 1, _ => exact xi_all xf_a1 hi
  | 2, _ => exact xi_all xf_a2 hi
  | 3, _ => exact xi_all xf_a3 hi
  | 4, _ => exact xi_all xf_a4 hi
  | 5, _ => exact xi_all xf_a5 hi
  | 6, _ => exact xi_all xf_a6 hi
  | 7, _ => exact xi_all xf_a7 hi
  | 8, _ => exact xi_all xf_a8 hi
  | 9, _ => exact xi_all xf_a9 hi
  | 10, _ => exact xi_all xf_a10 hi
  | 11, _ => exact xi_all xf_a11 hi
  | 12, _ => exact xi_all xf_a12 hi
  | n + 13, h => exact absurd h (by omega)
theorem xf_s_all {o i : Nat} (ho : o < 13) (hi : i < 1100) : xi_cks o i = true := by
  match o, ho with
  | 0, _ => exact xi_all xf_s0 hi
  | 1, _ => exact xi_all xf_s1 hi
  | 2, _ => exact xi_all xf_s2 hi
  | 3, _ => exact xi_all xf_s3 hi
  | 4, _ => exact xi_all xf_s4 hi
  | 5, _ => exact xi_all xf_s5 hi
  | 6, _ => exact xi_all xf_s6 hi
  | 7, _ => exact xi_all xf_s7 hi
  | 8, _ => exact xi_all xf_s8 hi
  | 9, _ => exact xi_all xf_s9 hi
  | 10, _ => exact xi_all xf_s10 hi
  | 11, _ => exact xi_all xf_s11 hi
  | 12, _ => exact xi_all xf_s12 hi
  | n + 13, h => exact absurd h (by omega)
theorem xf_q_all {o i : Nat} (ho : o < 13) (hi : i < 1100) : xi_ckq o i = true := by
  match o, ho with
  | 0, _ => exact xi_all xf_q0 hi
  | 1, _ => exact xi_all xf_q1 hi
  | 2, _ => exact xi_all xf_q2 hi
  | 3, _ => exact xi_all xf_q3 hi
  | 4, _ => exact xi_all xf_q4 hi
  | 5, _ => exact xi_all xf_q5 hi
  | 6, _ => exact xi_all xf_q6 hi
  | 7, _ => exact xi_all xf_q7 hi
  | 8, _ => exact xi_all xf_q8 hi
  | 9, _ => exact xi_all xf_q9 hi
  | 10, _ => exact xi_all xf_q10 hi
  | 11, _ => exact xi_all xf_q11 hi
  | 12, _ => exact xi_all xf_q12 hi
  | n + 13, h => exact absurd h (by omega)
theorem xf_f {o i : Nat} {q : Nat × Nat × Nat} (h : xt_fdp o i = some q) (h7 : q.1 ≠ 7) : ∃ C F N, xt_cl[q.1]? = some (C, F, N) ∧ q.2.1 < N ∧ Cond.fieldLink (xt_on o) i (F q.2.1).1 (F q.2.1).2.1 (F q.2.1).2.2.1 ∈ xt_G ∧ (F q.2.1).1 = C ∧ parseFieldDescriptor (F q.2.1).2.2.1 = some (xt_fy q.1 q.2.1) := by
  obtain ⟨ho, hi⟩ := xi_two (T := xt_fdp) (fun _ _ => rfl) h
  have hc := xf_f_all ho hi
  unfold xi_ckf at hc
  rw [h] at hc
  obtain ⟨ci, k, p⟩ := q
  dsimp only at hc ⊢
  split at hc
  · simp only [Bool.and_eq_true, decide_eq_true_eq] at hc
    exact absurd hc.1 h7
  · rename_i C F N hcl
    simp only [Bool.and_eq_true] at hc
    obtain ⟨⟨⟨h1, h2⟩, h3⟩, h4⟩ := hc
    exact ⟨C, F, N, hcl, xi_blt h1, xi_at_in h2, of_decide_eq_true h3, of_decide_eq_true h4⟩
theorem xf_fs {o i : Nat} {q : Nat × Nat × Nat} (h : xt_fdp o i = some q) (h7 : q.1 = 7) : (q.2.1 = 0 ∧ Cond.fieldLink (xt_on o) i "java/lang/String" "value" "[B" ∈ xt_G) ∨ (q.2.1 = 1 ∧ Cond.fieldLink (xt_on o) i "java/lang/String" "coder" "B" ∈ xt_G) := by
  obtain ⟨ho, hi⟩ := xi_two (T := xt_fdp) (fun _ _ => rfl) h
  have hc := xf_f_all ho hi
  unfold xi_ckf at hc
  rw [h] at hc
  obtain ⟨ci, k, p⟩ := q
  dsimp only at h7 hc ⊢
  subst h7
  split at hc
  · simp only [Bool.and_eq_true, Bool.or_eq_true, decide_eq_true_eq] at hc
    exact hc.2.imp (fun z => ⟨z.1, xi_at_in z.2⟩) (fun z => ⟨z.1, xi_at_in z.2⟩)
  · rename_i C F N hcl
    cases hcl
theorem xf_k {o i : Nat} {q : Int32 × Nat} (h : xt_kdp o i = some q) : Cond.constant (xt_on o) i q.1 ∈ xt_G := by
  obtain ⟨ho, hi⟩ := xi_two (T := xt_kdp) (fun _ _ => rfl) h
  have hc := xf_k_all ho hi
  unfold xi_ckk at hc
  rw [h] at hc
  exact xi_at_in hc
theorem xf_j {o i : Nat} {q : Int64 × Nat} (h : xt_ldp o i = some q) : Cond.constantLong (xt_on o) i q.1 ∈ xt_G := by
  obtain ⟨ho, hi⟩ := xi_two (T := xt_ldp) (fun _ _ => rfl) h
  have hc := xf_j_all ho hi
  unfold xi_ckj at hc
  rw [h] at hc
  exact xi_at_in hc
theorem xf_n {o i : Nat} {q : Nat × List Nat} (h : xt_ndp o i = some q) : ∃ C F N, xt_cl[q.1]? = some (C, F, N) ∧ Cond.classLink (xt_on o) i C ∈ xt_G ∧ Cond.instantiable C N ∈ xt_G ∧ Cond.initialized C ∈ xt_G := by
  obtain ⟨ho, hi⟩ := xi_two (T := xt_ndp) (fun _ _ => rfl) h
  have hc := xf_n_all ho hi
  unfold xi_ckn at hc
  rw [h] at hc
  dsimp only at hc
  split at hc
  · cases hc
  · rename_i C F N hcl
    simp only [Bool.and_eq_true] at hc
    exact ⟨C, F, N, hcl, xi_at_in hc.1.1, xi_at_in hc.1.2, xi_at_in hc.2⟩
theorem xf_a {o i : Nat} {q : Nat × Nat} (h : xt_adp o i = some q) : (q.1 = 0 → Cond.classLink (xt_on o) i "[I" ∈ xt_G) ∧ (q.1 = 1 → Cond.classLink (xt_on o) i "[J" ∈ xt_G) := by
  obtain ⟨ho, hi⟩ := xi_two (T := xt_adp) (fun _ _ => rfl) h
  have hc := xf_a_all ho hi
  unfold xi_cka at hc
  rw [h] at hc
  obtain ⟨t, p⟩ := q
  refine ⟨fun e => ?_, fun e => ?_⟩
  · have e : t = 0 := e
    subst e
    exact xi_at_in hc
  · have e : t = 1 := e
    subst e
    exact xi_at_in hc
theorem xf_s {o i : Nat} {q : Nat × Nat} (h : xt_sdp o i = some q) : (q.1 = 0 → Cond.fieldLink (xt_on o) i "java/lang/String" "COMPACT_STRINGS" "Z" ∈ xt_G) ∧ (q.1 = 1 → Cond.fieldLink (xt_on o) i "jdk/internal/util/Preconditions" "SIOOBE_FORMATTER" "Ljava/util/function/BiFunction;" ∈ xt_G) := by
  obtain ⟨ho, hi⟩ := xi_two (T := xt_sdp) (fun _ _ => rfl) h
  have hc := xf_s_all ho hi
  unfold xi_cks at hc
  rw [h] at hc
  obtain ⟨t, p⟩ := q
  refine ⟨fun e => ?_, fun e => ?_⟩
  · have e : t = 0 := e
    subst e
    exact xi_at_in hc
  · have e : t = 1 := e
    subst e
    exact xi_at_in hc
theorem xf_q {o i : Nat} {q : Nat × Nat} (h : xt_qdp o i = some q) : q.1 < 8 ∧ xt_so[q.1]? = some (o, i) ∧ ∃ t, xt_st[q.1]? = some t := by
  obtain ⟨ho, hi⟩ := xi_two (T := xt_qdp) (fun _ _ => rfl) h
  have hc := xf_q_all ho hi
  unfold xi_ckq at hc
  rw [h] at hc
  obtain ⟨n, p⟩ := q
  simp only [Bool.and_eq_true] at hc
  obtain ⟨⟨h1, h2⟩, h3⟩ := hc
  split at h3
  · cases h3
  · rename_i t ht
    exact ⟨xi_blt h1, of_decide_eq_true h2, t, ht⟩
theorem xi_fits_arl {cA : ClassId} (n : Nat) (f : Nat → Int64) : ∀ (i : Nat) (v : Value), (vp_cell cA (n, .inr (.inl f))).slots[i]? = some v → fits .long v = true := by
  intro i v h
  by_cases hi : i < n
  · rw [show (vp_cell cA (n, .inr (.inl f))) = arrV cA n (fun j => .long (f j)) from rfl, arrV_read _ _ hi] at h
    cases h
    rfl
  · have hz : (vp_cell cA (n, .inr (.inl f))).slots[i]? = none := by
      rw [show (vp_cell cA (n, .inr (.inl f))) = arrV cA n (fun j => .long (f j)) from rfl]
      exact Array.getElem?_eq_none (by rw [arrV_size]; omega)
    rw [hz] at h
    cases h
theorem xi_fits_arr {cA : ClassId} (n : Nat) (f : Nat → Int32) : ∀ (i : Nat) (v : Value), (vp_cell cA (n, .inl f)).slots[i]? = some v → fits .int v = true := by
  intro i v h
  by_cases hi : i < n
  · rw [vp_cell_i, arrV_read _ _ hi] at h
    cases h
    rfl
  · have hz : (vp_cell cA (n, .inl f)).slots[i]? = none := by
      rw [vp_cell_i]
      exact Array.getElem?_eq_none (by rw [arrV_size]; omega)
    rw [hz] at h
    cases h
theorem xf_l {o i : Nat} {q : Nat × Nat × List Nat} (h : xt_mdp o i = some q) : xi_ckl o i = true := by
  obtain ⟨ho, hi⟩ := xi_two (T := xt_mdp) (fun _ _ => rfl) h
  exact xf_l_all ho hi
theorem xf_c0 {o i j : Nat} {ps : List Nat} (h : xt_mdp o i = some (0, j, ps)) : Cond.methodLink (xt_on o) i (xt_my j) ∈ xt_G ∧ Cond.instanceMethod (xt_my j) ∈ xt_G ∧ Cond.selects (xt_my j).cls (xt_my j) (xt_my j) ∈ xt_G := by
  have hc := xf_l h
  unfold xi_ckl at hc
  rw [h] at hc
  simp only [Bool.and_eq_true] at hc
  exact ⟨xi_at_in hc.1.1, xi_at_in hc.1.2, xi_at_in hc.2⟩
theorem xf_c1 {o i j : Nat} {ps : List Nat} (h : xt_mdp o i = some (1, j, ps)) : Cond.methodLink (xt_on o) i (xt_my j) ∈ xt_G ∧ Cond.static (xt_my j) ∈ xt_G := by
  have hc := xf_l h
  unfold xi_ckl at hc
  rw [h] at hc
  simp only [Bool.and_eq_true] at hc
  exact ⟨xi_at_in hc.1, xi_at_in hc.2⟩
theorem xf_c2 {o i j : Nat} {ps : List Nat} (h : xt_mdp o i = some (2, j, ps)) : Cond.methodLink (xt_on o) i (xt_my j) ∈ xt_G ∧ Cond.instanceMethod (xt_my j) ∈ xt_G ∧ xt_mi j = true ∧ xt_mr j = none := by
  have hc := xf_l h
  unfold xi_ckl at hc
  rw [h] at hc
  simp only [Bool.and_eq_true] at hc
  exact ⟨xi_at_in hc.1.1.1, xi_at_in hc.1.1.2, hc.1.2, of_decide_eq_true hc.2⟩
theorem xf_c3 {o i j : Nat} {ps : List Nat} (h : xt_mdp o i = some (3, j, ps)) : (xt_on o, i, xt_my j, "DeltaNests") ∈ xt_NL ∧ Cond.instanceMethod (xt_my j) ∈ xt_G ∧ xt_mi j = true ∧ xt_mr j = none := by
  have hc := xf_l h
  unfold xi_ckl at hc
  rw [h] at hc
  simp only [Bool.and_eq_true] at hc
  exact ⟨of_decide_eq_true hc.1.1.1, xi_at_in hc.1.1.2, hc.1.2, of_decide_eq_true hc.2⟩
theorem xf_c4 {o i : Nat} {q : Nat × Nat × List Nat} (h : xt_mdp o i = some q) (h4 : q.1 = 4) : Cond.methodLink (xt_on o) i objectInit ∈ xt_G ∧ Cond.instanceMethod objectInit ∈ xt_G := by
  obtain ⟨k, j, ps⟩ := q
  subst h4
  have hc := xf_l h
  unfold xi_ckl at hc
  rw [h] at hc
  simp only [Bool.and_eq_true] at hc
  exact ⟨xi_at_in hc.1, xi_at_in hc.2⟩
theorem xf_c5 {o i : Nat} {q : Nat × Nat × List Nat} (h : xt_mdp o i = some q) (h4 : q.1 = 5) : Cond.methodLink (xt_on o) i arraycopyName ∈ xt_G ∧ Cond.native arraycopyName ∈ xt_G ∧ Cond.static arraycopyName ∈ xt_G ∧ Cond.initialized "java/lang/System" ∈ xt_G := by
  obtain ⟨k, j, ps⟩ := q
  subst h4
  have hc := xf_l h
  unfold xi_ckl at hc
  rw [h] at hc
  simp only [Bool.and_eq_true] at hc
  exact ⟨xi_at_in hc.1.1.1, xi_at_in hc.1.1.2, xi_at_in hc.1.2, xi_at_in hc.2⟩
theorem xf_c6 {o i : Nat} {q : Nat × Nat × List Nat} (h : xt_mdp o i = some q) (h4 : q.1 = 6) : Cond.methodLink (xt_on o) i Lib.Math.max.name ∈ xt_G ∧ Cond.static Lib.Math.max.name ∈ xt_G ∧ Cond.initialized "java/lang/Math" ∈ xt_G ∧ Cond.code Lib.Math.max.name Lib.Math.max.code 2 (some .int) ∈ xt_G := by
  obtain ⟨k, j, ps⟩ := q
  subst h4
  have hc := xf_l h
  unfold xi_ckl at hc
  rw [h] at hc
  simp only [Bool.and_eq_true] at hc
  exact ⟨xi_at_in hc.1.1.1, xi_at_in hc.1.1.2, xi_at_in hc.1.2, xi_at_in hc.2⟩
theorem xf_c12 {o i : Nat} {q : Nat × Nat × List Nat} (h : xt_mdp o i = some q) (h4 : q.1 = 12) : Cond.methodLink (xt_on o) i Lib.MathLoose.min_long.x ∈ xt_G ∧ Cond.static Lib.MathLoose.min_long.x ∈ xt_G ∧ Cond.initialized "java/lang/Math" ∈ xt_G ∧ Cond.code Lib.MathLoose.min_long.x Lib.MathLoose.min_long.code 4 (some .long) ∈ xt_G := by
  obtain ⟨k, j, ps⟩ := q
  subst h4
  have hc := xf_l h
  unfold xi_ckl at hc
  rw [h] at hc
  simp only [Bool.and_eq_true] at hc
  exact ⟨xi_at_in hc.1.1.1, xi_at_in hc.1.1.2, xi_at_in hc.1.2, xi_at_in hc.2⟩
theorem xf_c11 {o i : Nat} {q : Nat × Nat × List Nat} (h : xt_mdp o i = some q) (h4 : q.1 = 11) : Cond.methodLink (xt_on o) i Lib.MathLoose.max_long.x ∈ xt_G ∧ Cond.static Lib.MathLoose.max_long.x ∈ xt_G ∧ Cond.initialized "java/lang/Math" ∈ xt_G ∧ Cond.code Lib.MathLoose.max_long.x Lib.MathLoose.max_long.code 4 (some .long) ∈ xt_G := by
  obtain ⟨k, j, ps⟩ := q
  subst h4
  have hc := xf_l h
  unfold xi_ckl at hc
  rw [h] at hc
  simp only [Bool.and_eq_true] at hc
  exact ⟨xi_at_in hc.1.1.1, xi_at_in hc.1.1.2, xi_at_in hc.1.2, xi_at_in hc.2⟩
theorem xf_c7 {o i : Nat} {q : Nat × Nat × List Nat} (h : xt_mdp o i = some q) (h4 : q.1 = 7) : Cond.methodLink (xt_on o) i Lib.Math.min.name ∈ xt_G ∧ Cond.static Lib.Math.min.name ∈ xt_G ∧ Cond.initialized "java/lang/Math" ∈ xt_G ∧ Cond.code Lib.Math.min.name Lib.Math.min.code 2 (some .int) ∈ xt_G := by
  obtain ⟨k, j, ps⟩ := q
  subst h4
  have hc := xf_l h
  unfold xi_ckl at hc
  rw [h] at hc
  simp only [Bool.and_eq_true] at hc
  exact ⟨xi_at_in hc.1.1.1, xi_at_in hc.1.1.2, xi_at_in hc.1.2, xi_at_in hc.2⟩
theorem xf_c8 {o i : Nat} {q : Nat × Nat × List Nat} (h : xt_mdp o i = some q) (h4 : q.1 = 8) : Cond.methodLink (xt_on o) i ⟨"java/lang/Math", "floorMod", "(II)I"⟩ ∈ xt_G ∧ Cond.static ⟨"java/lang/Math", "floorMod", "(II)I"⟩ ∈ xt_G ∧ Cond.initialized "java/lang/Math" ∈ xt_G ∧ Cond.code ⟨"java/lang/Math", "floorMod", "(II)I"⟩ xi_fmc 3 (some .int) ∈ xt_G := by
  obtain ⟨k, j, ps⟩ := q
  subst h4
  have hc := xf_l h
  unfold xi_ckl at hc
  rw [h] at hc
  simp only [Bool.and_eq_true] at hc
  exact ⟨xi_at_in hc.1.1.1, xi_at_in hc.1.1.2, xi_at_in hc.1.2, xi_at_in hc.2⟩
theorem xf_c9 {o i : Nat} {q : Nat × Nat × List Nat} (h : xt_mdp o i = some q) (h4 : q.1 = 9) : Cond.methodLink (xt_on o) i ⟨"[I", "clone", "()Ljava/lang/Object;"⟩ ∈ xt_G ∧ Cond.sameMethod "[I" "java/lang/Object" "clone" "()Ljava/lang/Object;" ∈ xt_G ∧ Cond.native ⟨"java/lang/Object", "clone", "()Ljava/lang/Object;"⟩ ∈ xt_G ∧ Cond.instanceMethod ⟨"java/lang/Object", "clone", "()Ljava/lang/Object;"⟩ ∈ xt_G ∧ Cond.selects "[I" ⟨"[I", "clone", "()Ljava/lang/Object;"⟩ ⟨"java/lang/Object", "clone", "()Ljava/lang/Object;"⟩ ∈ xt_G := by
  obtain ⟨k, j, ps⟩ := q
  subst h4
  have hc := xf_l h
  unfold xi_ckl at hc
  rw [h] at hc
  simp only [Bool.and_eq_true] at hc
  exact ⟨xi_at_in hc.1.1.1.1, xi_at_in hc.1.1.1.2, xi_at_in hc.1.1.2, xi_at_in hc.1.2, xi_at_in hc.2⟩
theorem xf_c10 {o i : Nat} {q : Nat × Nat × List Nat} (h : xt_mdp o i = some q) (h4 : q.1 = 10) : Cond.methodLink (xt_on o) i ⟨"[J", "clone", "()Ljava/lang/Object;"⟩ ∈ xt_G ∧ Cond.sameMethod "[J" "java/lang/Object" "clone" "()Ljava/lang/Object;" ∈ xt_G ∧ Cond.native ⟨"java/lang/Object", "clone", "()Ljava/lang/Object;"⟩ ∈ xt_G ∧ Cond.instanceMethod ⟨"java/lang/Object", "clone", "()Ljava/lang/Object;"⟩ ∈ xt_G ∧ Cond.selects "[J" ⟨"[J", "clone", "()Ljava/lang/Object;"⟩ ⟨"java/lang/Object", "clone", "()Ljava/lang/Object;"⟩ ∈ xt_G := by
  obtain ⟨k, j, ps⟩ := q
  subst h4
  have hc := xf_l h
  unfold xi_ckl at hc
  rw [h] at hc
  simp only [Bool.and_eq_true] at hc
  exact ⟨xi_at_in hc.1.1.1.1, xi_at_in hc.1.1.1.2, xi_at_in hc.1.1.2, xi_at_in hc.1.2, xi_at_in hc.2⟩
theorem xi_KA2 {D : va_G} {s : State} {cA cB : ClassId} {ty tz : FieldType} (hK : va_K D xt_cl [] s) (h : xi_AT s cA ty) (h2 : xi_AT s cB tz) : va_K D xt_cl [(cA, ty), (cB, tz)] s :=
  ⟨hK.1, fun k q hk => by
    match k, hk with
    | 0, hk => cases hk; exact h
    | 1, hk => cases hk; exact h2
    | k + 2, hk => simp at hk⟩
