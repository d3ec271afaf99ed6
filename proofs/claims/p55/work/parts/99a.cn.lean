/-! a run makes as many objects as its count of cells says -/
def cnS (w0 : xi_W) (c0 : Nat) (o : Option xi_F) : Prop := ∀ p l st w c s, o = some (p, l, st, w, c, s) → w.length + c0 = w0.length + c
theorem cnS.n (w : xi_W) (c : Nat) : cnS w c none := fun _ _ _ _ _ _ h => by cases h
theorem cnS.s (w : xi_W) (c p : Nat) (l : xi_L) (st : List Value) (s : Nat) : cnS w c (some (p, l, st, w, c, s)) := fun p1 l1 st1 w1 c1 s1 e => by
  cases e
  rfl
theorem cnS.t (w : xi_W) (c p a : Nat) (o : xi_O) (l : xi_L) (st : List Value) (s : Nat) : cnS w c (some (p, l, st, w.set a o, c, s)) := fun p1 l1 st1 w1 c1 s1 e => by
  cases e
  rw [List.length_set]
theorem cnS.p (w : xi_W) (c p : Nat) (o : xi_O) (l : xi_L) (st : List Value) (s : Nat) : cnS w c (some (p, l, st, w ++ [o], c + 1, s)) := fun p1 l1 st1 w1 c1 s1 e => by
  cases e
  rw [List.length_append]
  show w.length + 1 + c = w.length + (c + 1)
  omega
theorem cnS.c {w : xi_W} {c : Nat} {b : Bool} {x y : Option xi_F} (h1 : cnS w c x) (h2 : cnS w c y) : cnS w c (cond b x y) := by
  cases b
  · exact h2
  · exact h1
theorem cnS.ld (l : xi_L) (w : xi_W) (c s : Nat) (st : List Value) (i pc k : Nat) : cnS w c (xi_ld (fun pc st => some (pc, l, st, w, c, s)) l st i pc k) := by
  unfold xi_ld
  cases z : xi_get l i with
  | none => exact cnS.n _ _
  | some v => exact cnS.c (cnS.s _ _ _ _ _ _) (cnS.n _ _)
theorem cn_stp (l : xi_L) (i d : Nat) (ins : Jvm.ClassFile.Instr) (pc : Nat) (st : List Value) (w : xi_W) (c s : Nat) : cnS w c (xi_stp i d ins pc l st w c s) := by
  have S := fun p l st s => cnS.s w c p l st s
  have D := fun st i pc k => cnS.ld l w c s st i pc k
  unfold xi_stp
  cases ins
  case ifCond a b => cases a <;> dsimp only <;> unfold xi_j1 <;> repeat' (first | exact cnS.n _ _ | exact S _ _ _ _ | apply cnS.c | split)
  case if_icmp a b => cases a <;> dsimp only <;> unfold xi_j2 <;> repeat' (first | exact cnS.n _ _ | exact S _ _ _ _ | apply cnS.c | split)
  all_goals dsimp only
  all_goals try first | exact cnS.n _ _ | exact S _ _ _ _ | exact D _ _ _ _
  all_goals (try unfold xi_u1)
  all_goals (try unfold xi_u1l)
  all_goals (try unfold xi_b2)
  all_goals (try unfold xi_b2l)
  all_goals (try unfold xi_shl)
  all_goals (try unfold xi_j1)
  all_goals (try unfold xi_j2)
  all_goals repeat' (first | contradiction | exact cnS.n _ _ | exact S _ _ _ _ | exact cnS.t _ _ _ _ _ _ _ _ | exact cnS.p _ _ _ _ _ _ _ | apply cnS.c | split)
theorem cn_ev : ∀ (n : Nat) {d i pc : Nat} {l : xi_L} {st : List Value} {w : xi_W} {c s : Nat} {r : xi_R}, xi_ev n d i pc l st w c s = some r → r.2.1.length + c = w.length + r.2.2.1
  | 0, d, i, pc, l, st, w, c, s, r, h => by simp [xi_ev] at h
  | n + 1, d, i, pc, l, st, w, c, s, r, h => by
    rw [xi_ev] at h
    cases hc : xt_cd i pc with
    | none => rw [hc] at h; cases h
    | some ins =>
      rw [hc] at h
      simp only at h
      cases he : xi_end i ins st with
      | some v =>
        rw [he] at h
        cases h
        rfl
      | none =>
        rw [he] at h
        simp only at h
        cases hi : xi_inv i ins st w with
        | some q =>
          obtain ⟨j, av, rest⟩ := q
          rw [hi] at h
          simp only at h
          cases d with
          | zero => cases h
          | succ d =>
            simp only at h
            cases hv : xi_ev n d j 0 (lv_args 0 av) [] w 0 0 with
            | none => rw [hv] at h; cases h
            | some q =>
              obtain ⟨v, w', c', s'⟩ := q
              rw [hv] at h
              have e1 := cn_ev n hv
              have e2 := cn_ev n h
              simp only at e1
              omega
        | none =>
          rw [hi] at h
          simp only at h
          cases hq : xi_stp i d ins pc l st w c s with
          | none => rw [hq] at h; cases h
          | some q =>
            obtain ⟨pc', l1, st', w', c', s'⟩ := q
            rw [hq] at h
            have e1 := cn_stp l i d ins pc st w c s _ _ _ _ _ _ hq
            have e2 := cn_ev n h
            omega
theorem xr_cnt {d i pc : Nat} {l : xi_L} {st : List Value} {w : xi_W} {c s : Nat} {r : xi_R → Prop} (h : xr d i pc l st w c s (fun q => q.2.1.length + c = w.length + q.2.2.1 → r q)) : xr d i pc l st w c s r := by
  obtain ⟨q, ⟨n, h1⟩, h2⟩ := h
  exact ⟨q, ⟨n, h1⟩, h2 (cn_ev n h1)⟩
