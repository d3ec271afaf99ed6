/-! locals: a run needs those that it reads alone, in any order -/
def lc_sub (l' l : xi_L) : Prop := ∀ k v, xi_get l' k = some v → xi_get l k = some v
def lc_nd : xi_L → Bool
  | [] => true
  | q :: r => r.all (fun p => !(Nat.beq p.1 q.1)) && lc_nd r
def lc_in (l : xi_L) : xi_L → Prop
  | [] => True
  | q :: r => xi_get l q.1 = some q.2 ∧ lc_in l r
theorem lc_in.sub {l : xi_L} : ∀ {l' : xi_L}, lc_in l l' → lc_sub l' l
  | [], _ => fun k v h => by cases h
  | q :: r, h => fun k v e => by
    unfold xi_get at e
    cases z : Nat.beq q.1 k
    · rw [z, cond_false] at e
      exact lc_in.sub h.2 k v e
    · rw [z, cond_true] at e
      have e2 : q.1 = k := Nat.eq_of_beq_eq_true z
      rw [← e2, ← Option.some.inj e]
      exact h.1
theorem lc_none {r : xi_L} {k : Nat} (h : r.all (fun p => !(Nat.beq p.1 k)) = true) : xi_get r k = none := by
  induction r with
  | nil => rfl
  | cons q r ih =>
    rw [List.all_cons, Bool.and_eq_true] at h
    unfold xi_get
    cases z : Nat.beq q.1 k
    · rw [cond_false]; exact ih h.2
    · rw [z] at h; exact absurd h.1 (by decide)
theorem lc_flt {P : Nat × Value → Bool} : ∀ {l : xi_L} {j : Nat} {u : Value}, xi_get l j = some u → P (j, u) = true → xi_get (l.filter P) j = some u
  | [], _, _, h, _ => by cases h
  | q :: r, j, u, h, hp => by
    unfold xi_get at h
    rw [List.filter_cons]
    cases z : Nat.beq q.1 j
    · rw [z, cond_false] at h
      have ih := lc_flt (P := P) h hp
      by_cases y : P q = true
      · rw [if_pos y]; unfold xi_get; rw [z, cond_false]; exact ih
      · rw [if_neg y]; exact ih
    · rw [z, cond_true] at h
      have e2 : q.1 = j := Nat.eq_of_beq_eq_true z
      have e3 : q = (j, u) := by rw [← e2, ← Option.some.inj h]
      rw [e3, if_pos hp]
      unfold xi_get
      rw [show Nat.beq (j, u).1 j = true from Nat.beq_refl j, cond_true]
theorem lc_fl2 {P : Nat × Value → Bool} : ∀ {l : xi_L} {j : Nat} {u : Value}, lc_nd l = true → xi_get (l.filter P) j = some u → xi_get l j = some u ∧ P (j, u) = true
  | [], _, _, _, h => by cases h
  | q :: r, j, u, hn, h => by
    unfold lc_nd at hn
    rw [Bool.and_eq_true] at hn
    rw [List.filter_cons] at h
    by_cases y : P q = true
    · rw [if_pos y] at h
      unfold xi_get at h ⊢
      cases z : Nat.beq q.1 j
      · rw [z, cond_false] at h
        rw [cond_false]
        exact lc_fl2 hn.2 h
      · rw [z, cond_true] at h
        rw [cond_true]
        have e2 : q.1 = j := Nat.eq_of_beq_eq_true z
        have e3 : q = (j, u) := by rw [← e2, ← Option.some.inj h]
        rw [e3] at y
        exact ⟨h, y⟩
    · rw [if_neg y] at h
      have ih := lc_fl2 hn.2 h
      unfold xi_get
      cases z : Nat.beq q.1 j
      · rw [cond_false]; exact ih
      · have e2 : q.1 = j := Nat.eq_of_beq_eq_true z
        rw [e2] at hn
        rw [lc_none hn.1] at ih
        exact absurd ih.1 (by simp)
theorem lc_ndf {P : Nat × Value → Bool} : ∀ {l : xi_L}, lc_nd l = true → lc_nd (l.filter P) = true
  | [], _ => rfl
  | q :: r, h => by
    unfold lc_nd at h
    rw [Bool.and_eq_true] at h
    rw [List.filter_cons]
    by_cases y : P q = true
    · rw [if_pos y]
      unfold lc_nd
      rw [Bool.and_eq_true]
      refine ⟨?_, lc_ndf h.2⟩
      rw [List.all_eq_true] at h ⊢
      exact fun p hp => h.1 p (List.mem_filter.mp hp).1
    · rw [if_neg y]; exact lc_ndf h.2
theorem lc_all {P : Nat × Value → Bool} {l : xi_L} {k : Nat} (h : ∀ q, P q = true → Nat.beq q.1 k = false) : (l.filter P).all (fun p => !(Nat.beq p.1 k)) = true := by
  rw [List.all_eq_true]
  intro p hp
  rw [h p (List.mem_filter.mp hp).2]
  rfl
theorem lc_st {P : Nat × Value → Bool} {l' l : xi_L} {k : Nat} {v : Value} (h : lc_sub l' l) (hn : lc_nd l' = true) (hP : ∀ q, P q = true → Nat.beq q.1 k = false) : lc_sub ((k, v) :: l'.filter P) ((k, v) :: l.filter P) ∧ lc_nd ((k, v) :: l'.filter P) = true := by
  refine ⟨fun j u e => ?_, ?_⟩
  · unfold xi_get at e ⊢
    cases z : Nat.beq (k, v).1 j
    · rw [z, cond_false] at e
      rw [cond_false]
      have a := lc_fl2 hn e
      exact lc_flt (h j u a.1) a.2
    · rw [z] at e
      exact e
  · unfold lc_nd
    rw [Bool.and_eq_true]
    exact ⟨lc_all hP, lc_ndf hn⟩
theorem lc_st1 {l' l : xi_L} (k : Nat) (v : Value) (h : lc_sub l' l) (hn : lc_nd l' = true) : lc_sub (xi_st1 l' k v) (xi_st1 l k v) ∧ lc_nd (xi_st1 l' k v) = true :=
  lc_st h hn (fun q hq => by
    rw [Bool.and_eq_true] at hq
    have := hq.1
    cases z : Nat.beq q.1 k
    · rfl
    · rw [Nat.eq_of_beq_eq_true z, beq_self_eq_true] at this
      exact absurd this (by decide))
theorem lc_st2 {l' l : xi_L} (k : Nat) (v : Value) (h : lc_sub l' l) (hn : lc_nd l' = true) : lc_sub (xi_st2 l' k v) (xi_st2 l k v) ∧ lc_nd (xi_st2 l' k v) = true :=
  lc_st h hn (fun q hq => by
    rw [Bool.and_eq_true] at hq
    have := hq.1
    cases z : Nat.beq q.1 k
    · rfl
    · rw [Nat.eq_of_beq_eq_true z, beq_self_eq_true] at this
      exact absurd this (by decide))
def lcS (o' o : Option xi_F) : Prop := ∀ p l1' st w c s, o' = some (p, l1', st, w, c, s) → ∃ l1, o = some (p, l1, st, w, c, s) ∧ lc_sub l1' l1 ∧ lc_nd l1' = true
theorem lcS.n (o : Option xi_F) : lcS none o := fun _ _ _ _ _ _ h => by cases h
theorem lcS.s {l' l : xi_L} (h : lc_sub l' l) (hn : lc_nd l' = true) (p : Nat) (st : List Value) (w : xi_W) (c s : Nat) : lcS (some (p, l', st, w, c, s)) (some (p, l, st, w, c, s)) := fun p1 l1 st1 w1 c1 s1 e => by
  have e := Option.some.inj e
  injection e with e1 e2
  injection e2 with e2 e3
  injection e3 with e3 e4
  injection e4 with e4 e5
  injection e5 with e5 e6
  subst e1 e2 e3 e4 e5 e6
  exact ⟨l, rfl, h, hn⟩
theorem lcS.c {b : Bool} {x' x y' y : Option xi_F} (h1 : lcS x' x) (h2 : lcS y' y) : lcS (cond b x' y') (cond b x y) := by
  cases b
  · exact h2
  · exact h1
theorem lcS.ld {l' l : xi_L} (h : lc_sub l' l) (hn : lc_nd l' = true) (w : xi_W) (c s : Nat) (st : List Value) (i pc k : Nat) : lcS (xi_ld (fun pc st => some (pc, l', st, w, c, s)) l' st i pc k) (xi_ld (fun pc st => some (pc, l, st, w, c, s)) l st i pc k) := by
  unfold xi_ld
  cases z : xi_get l' i with
  | none => exact lcS.n _
  | some v =>
    rw [h i v z]
    exact lcS.c (lcS.s h hn _ _ _ _ _) (lcS.n _)
theorem lc_stp {l' l : xi_L} (h : lc_sub l' l) (hn : lc_nd l' = true) (i d : Nat) (ins : Jvm.ClassFile.Instr) (pc : Nat) (st : List Value) (w : xi_W) (c s : Nat) : lcS (xi_stp i d ins pc l' st w c s) (xi_stp i d ins pc l st w c s) := by
  have S := fun p st w c s => lcS.s h hn p st w c s
  have S1 : ∀ k v p st w c s, lcS (some (p, xi_st1 l' k v, st, w, c, s)) (some (p, xi_st1 l k v, st, w, c, s)) := fun k v p st w c s => lcS.s (lc_st1 k v h hn).1 (lc_st1 k v h hn).2 p st w c s
  have S2 : ∀ k v p st w c s, lcS (some (p, xi_st2 l' k v, st, w, c, s)) (some (p, xi_st2 l k v, st, w, c, s)) := fun k v p st w c s => lcS.s (lc_st2 k v h hn).1 (lc_st2 k v h hn).2 p st w c s
  have D := fun st i pc k => lcS.ld h hn w c s st i pc k
  have I : ∀ k n, lcS (match xi_get l' k with | some (.int x) => cond (Nat.blt k (xt_ml i)) (some (pc + 3, xi_st1 l' k (.int (x + Int32.ofInt n)), st, w, c, s)) none | _ => none) (match xi_get l k with | some (.int x) => cond (Nat.blt k (xt_ml i)) (some (pc + 3, xi_st1 l k (.int (x + Int32.ofInt n)), st, w, c, s)) none | _ => none) := fun k n => by
    cases z : xi_get l' k with
    | none => exact lcS.n _
    | some v =>
      rw [h k v z]
      cases v <;> first | exact lcS.n _ | exact lcS.c (S1 _ _ _ _ _ _ _) (lcS.n _)
  unfold xi_stp
  cases ins
  case ifCond a b => cases a <;> dsimp only <;> unfold xi_j1 <;> repeat' (first | exact lcS.n _ | exact S _ _ _ _ _ | apply lcS.c | split)
  case if_icmp a b => cases a <;> dsimp only <;> unfold xi_j2 <;> repeat' (first | exact lcS.n _ | exact S _ _ _ _ _ | apply lcS.c | split)
  all_goals dsimp only
  all_goals try first | exact lcS.n _ | exact S _ _ _ _ _ | exact D _ _ _ _ | exact I _ _
  all_goals (try unfold xi_u1)
  all_goals (try unfold xi_u1l)
  all_goals (try unfold xi_b2)
  all_goals (try unfold xi_b2l)
  all_goals (try unfold xi_shl)
  all_goals (try unfold xi_j1)
  all_goals (try unfold xi_j2)
  all_goals repeat' (first | contradiction | exact lcS.n _ | exact S _ _ _ _ _ | exact S1 _ _ _ _ _ _ _ | exact S2 _ _ _ _ _ _ _ | apply lcS.c | split)
theorem xi_loc : ∀ (n : Nat) {d i pc : Nat} {l' l : xi_L} {st : List Value} {w : xi_W} {c s : Nat} {r : xi_R}, lc_sub l' l → lc_nd l' = true → xi_ev n d i pc l' st w c s = some r → xi_ev n d i pc l st w c s = some r
  | 0, d, i, pc, l', l, st, w, c, s, r, _, _, h => by simp [xi_ev] at h
  | n + 1, d, i, pc, l', l, st, w, c, s, r, hs, hn, h => by
    rw [xi_ev] at h ⊢
    cases hc : xt_cd i pc with
    | none => rw [hc] at h; cases h
    | some ins =>
      rw [hc] at h
      simp only at h ⊢
      cases he : xi_end i ins st with
      | some v => rw [he] at h; exact h
      | none =>
        rw [he] at h
        simp only at h ⊢
        cases hi : xi_inv i ins st w with
        | some q =>
          obtain ⟨j, av, rest⟩ := q
          rw [hi] at h
          simp only at h ⊢
          cases d with
          | zero => cases h
          | succ d =>
            simp only at h ⊢
            cases hv : xi_ev n d j 0 (lv_args 0 av) [] w 0 0 with
            | none => rw [hv] at h; cases h
            | some q =>
              obtain ⟨v, w', c', s'⟩ := q
              rw [hv] at h
              exact xi_loc n hs hn h
        | none =>
          rw [hi] at h
          simp only at h ⊢
          cases hq : xi_stp i d ins pc l' st w c s with
          | none => rw [hq] at h; cases h
          | some q =>
            obtain ⟨pc', l1, st', w', c', s'⟩ := q
            rw [hq] at h
            obtain ⟨l2, e1, e2, e3⟩ := lc_stp hs hn i d ins pc st w c s _ _ _ _ _ _ hq
            rw [e1]
            exact xi_loc n e2 e3 h
/-- a run told with locals in another order, or with fewer -/
theorem xr_loc {d i pc : Nat} {l : xi_L} {st : List Value} {w : xi_W} {c s : Nat} {r : xi_R → Prop} (l' : xi_L) (hs : lc_in l l') (hn : lc_nd l' = true) (h : xr d i pc l' st w c s r) : xr d i pc l st w c s r := by
  obtain ⟨q, ⟨n, h1⟩, h2⟩ := h
  exact ⟨q, ⟨n, xi_loc n hs.sub hn h1⟩, h2⟩
