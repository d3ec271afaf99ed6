/-! runs of the interpreter told step by step, over ints and arrays of which nothing need be known -/
theorem xg_up : ∀ (n : Nat) {d i pc : Nat} {l : xi_L} {st : List Value} {w : xi_W} {c s : Nat} {r : xi_R}, xi_ev n d i pc l st w c s = some r → xi_ev (n + 1) d i pc l st w c s = some r
  | 0, d, i, pc, l, st, w, c, s, r => fun h => by simp [xi_ev] at h
  | n + 1, d, i, pc, l, st, w, c, s, r => fun h => by
    rw [xi_ev] at h ⊢
    cases hc : xt_cd i pc with
    | none => rw [hc] at h; cases h
    | some ins =>
      rw [hc] at h
      simp only at h ⊢
      cases he : xi_end i ins st with
      | some v => rw [he] at h; exact h
      | none =>
        rw [he] at h
        simp only at h ⊢
        cases hi : xi_inv i ins st w with
        | some q =>
          obtain ⟨j, av, rest⟩ := q
          rw [hi] at h
          simp only at h ⊢
          cases d with
          | zero => cases h
          | succ d =>
            simp only at h ⊢
            cases hv : xi_ev n d j 0 (lv_args 0 av) [] w 0 0 with
            | none => rw [hv] at h; cases h
            | some q =>
              obtain ⟨v, w', c', s'⟩ := q
              rw [hv] at h
              rw [xg_up n hv]
              exact xg_up n h
        | none =>
          rw [hi] at h
          simp only at h ⊢
          cases hs : xi_stp i d ins pc l st w c s with
          | none => rw [hs] at h; cases h
          | some q =>
            obtain ⟨pc', l', st', w', c', s'⟩ := q
            rw [hs] at h
            exact xg_up n h
theorem xg_more {n d i pc : Nat} {l : xi_L} {st : List Value} {w : xi_W} {c s : Nat} {r : xi_R} (h : xi_ev n d i pc l st w c s = some r) : ∀ k, xi_ev (n + k) d i pc l st w c s = some r
  | 0 => h
  | k + 1 => xg_up (n + k) (xg_more h k)
/-- with fuel enough -/
def xg (d i pc : Nat) (l : xi_L) (st : List Value) (w : xi_W) (c s : Nat) (r : xi_R) : Prop := ∃ n, xi_ev n d i pc l st w c s = some r
theorem xg_stp {d i pc pc' : Nat} {l l' : xi_L} {st st' : List Value} {w w' : xi_W} {c s c' s' : Nat} {r : xi_R} {ins : Jvm.ClassFile.Instr} (hc : xt_cd i pc = some ins) (he : xi_end i ins st = none) (hi : xi_inv i ins st w = none) (hs : xi_stp i d ins pc l st w c s = some (pc', l', st', w', c', s')) (h : xg d i pc' l' st' w' c' s' r) : xg d i pc l st w c s r := by
  obtain ⟨n, h⟩ := h
  refine ⟨n + 1, ?_⟩
  rw [xi_ev, hc]
  simp only [he, hi, hs]
  exact h
theorem xg_ret {d i pc : Nat} {l : xi_L} {st : List Value} {w : xi_W} {c s : Nat} {v : Option Value} {ins : Jvm.ClassFile.Instr} (hc : xt_cd i pc = some ins) (he : xi_end i ins st = some v) : xg d i pc l st w c s (v, w, c, s) := by
  refine ⟨1, ?_⟩
  rw [xi_ev, hc]
  simp only [he]
theorem xg_call {d i pc j : Nat} {l : xi_L} {st av rest : List Value} {w w' : xi_W} {c s c' s' : Nat} {v : Option Value} {r : xi_R} {ins : Jvm.ClassFile.Instr} (hc : xt_cd i pc = some ins) (he : xi_end i ins st = none) (hi : xi_inv i ins st w = some (j, av, rest)) (h1 : xg d j 0 (lv_args 0 av) [] w 0 0 (v, w', c', s')) (h2 : xg (d + 1) i (pc + 3) l (v.toList ++ rest) w' (c + c') (s + s') r) : xg (d + 1) i pc l st w c s r := by
  obtain ⟨n, h1⟩ := h1
  obtain ⟨m, h2⟩ := h2
  refine ⟨n + m + 1, ?_⟩
  rw [xi_ev, hc]
  have k2 := xg_more h2 n
  rw [Nat.add_comm m n] at k2
  simp only [he, hi, xg_more h1 m]
  exact k2
def xg_t2 : Jvm.ClassFile.Instr → Int32 → Int32 → Bool
  | .if_icmp .eq _ => fun x y => decide (x = y)
  | .if_icmp .ne _ => fun x y => !decide (x = y)
  | .if_icmp .lt _ => fun x y => decide (x < y)
  | .if_icmp .ge _ => fun x y => decide (y ≤ x)
  | .if_icmp .gt _ => fun x y => decide (y < x)
  | .if_icmp .le _ => fun x y => decide (x ≤ y)
  | _ => fun _ _ => false
def xg_t1 : Jvm.ClassFile.Instr → Int32 → Bool
  | .ifCond .eq _ => fun x => decide (x = 0)
  | .ifCond .ne _ => fun x => !decide (x = 0)
  | .ifCond .lt _ => fun x => decide (x < 0)
  | .ifCond .ge _ => fun x => decide (0 ≤ x)
  | .ifCond .gt _ => fun x => decide (0 < x)
  | .ifCond .le _ => fun x => decide (x ≤ 0)
  | _ => fun _ => false
def xg_off : Jvm.ClassFile.Instr → Int
  | .if_icmp _ off => off
  | .ifCond _ off => off
  | _ => 0
/-- a branch over two ints -/
theorem xg_j2 {d i pc tgt : Nat} {l : xi_L} {st : List Value} {w : xi_W} {c s : Nat} {r : xi_R} {x y : Int32} {ins : Jvm.ClassFile.Instr} (hc : xt_cd i pc = some ins) (he : xi_end i ins (.int y :: .int x :: st) = none) (hi : xi_inv i ins (.int y :: .int x :: st) w = none) (hs : xi_stp i d ins pc l (.int y :: .int x :: st) w c s = xi_j2 (fun pc st => some (pc, l, st, w, c, s)) (.int y :: .int x :: st) (xg_t2 ins) pc (xg_off ins)) (hj : xi_jmp pc (xg_off ins) = some tgt) (h1 : xg_t2 ins x y = true → xg d i tgt l st w c s r) (h2 : xg_t2 ins x y = false → xg d i (pc + 3) l st w c s r) : xg d i pc l (.int y :: .int x :: st) w c s r := by
  cases ht : xg_t2 ins x y with
  | true => exact xg_stp hc he hi (by rw [hs]; simp only [xi_j2, hj, ht, cond_true]) (h1 ht)
  | false => exact xg_stp hc he hi (by rw [hs]; simp only [xi_j2, hj, ht, cond_false]) (h2 ht)
theorem xg_j1 {d i pc tgt : Nat} {l : xi_L} {st : List Value} {w : xi_W} {c s : Nat} {r : xi_R} {x : Int32} {ins : Jvm.ClassFile.Instr} (hc : xt_cd i pc = some ins) (he : xi_end i ins (.int x :: st) = none) (hi : xi_inv i ins (.int x :: st) w = none) (hs : xi_stp i d ins pc l (.int x :: st) w c s = xi_j1 (fun pc st => some (pc, l, st, w, c, s)) (.int x :: st) (xg_t1 ins) pc (xg_off ins)) (hj : xi_jmp pc (xg_off ins) = some tgt) (h1 : xg_t1 ins x = true → xg d i tgt l st w c s r) (h2 : xg_t1 ins x = false → xg d i (pc + 3) l st w c s r) : xg d i pc l (.int x :: st) w c s r := by
  cases ht : xg_t1 ins x with
  | true => exact xg_stp hc he hi (by rw [hs]; simp only [xi_j1, hj, ht, cond_true]) (h1 ht)
  | false => exact xg_stp hc he hi (by rw [hs]; simp only [xi_j1, hj, ht, cond_false]) (h2 ht)
theorem xg_getfield {d i pc k a : Nat} {l : xi_L} {st : List Value} {w : xi_W} {c s : Nat} {r : xi_R} {q : Nat × Nat × Nat} {o : Nat × List Value} {v : Value} (hw : w[a]? = some (.inr o)) (hc : xt_cd i pc = some (.getfield k)) (hq : xt_fdp (xt_mo i) k = some q) (hb : Nat.beq q.1 o.1 = true) (hv : o.2[q.2.1]? = some v) (h : xg d i (pc + 3) l (v :: st) w c s r) : xg d i pc l (.ref a :: st) w c s r :=
  xg_stp hc rfl rfl (by simp only [xi_stp, hq, hw, hb, hv, cond_true]) h
theorem xg_iaload {d i pc a n : Nat} {l : xi_L} {st : List Value} {w : xi_W} {c s : Nat} {r : xi_R} {j : Int32} {ty : FieldType} {f : Nat → Int32} (hw : w[a]? = some (.inl (ty, n, .inl f))) (hc : xt_cd i pc = some .iaload) (hj : xi_ix j n = true) (ht : xi_isa false ty = true) (h : xg d i (pc + 1) l (.int (f j.toNatClampNeg) :: st) w c s r) : xg d i pc l (.int j :: .ref a :: st) w c s r :=
  xg_stp hc rfl rfl (by simp only [xi_stp, hw, hj, ht, Bool.and_true, cond_true]) h
theorem xg_iastore {d i pc a n : Nat} {l : xi_L} {st : List Value} {w : xi_W} {c s : Nat} {r : xi_R} {j x : Int32} {ty : FieldType} {f : Nat → Int32} (hw : w[a]? = some (.inl (ty, n, .inl f))) (hg : Nat.ble 17 a = true) (hc : xt_cd i pc = some .iastore) (hj : xi_ix j n = true) (ht : xi_isa false ty = true) (h : xg d i (pc + 1) l st (w.set a (.inl (ty, n, .inl (upd f j.toNatClampNeg x)))) c s r) : xg d i pc l (.int x :: .int j :: .ref a :: st) w c s r :=
  xg_stp hc rfl rfl (by simp only [xi_stp, hw, hg, hj, ht, Bool.and_true, cond_true]) h
/-- runs to an end of which something holds -/
def xr (d i pc : Nat) (l : xi_L) (st : List Value) (w : xi_W) (c s : Nat) (r : xi_R → Prop) : Prop := ∃ q, xg d i pc l st w c s q ∧ r q
theorem xr_up {d i pc d2 i2 pc2 : Nat} {l l2 : xi_L} {st st2 : List Value} {w w2 : xi_W} {c s c2 s2 : Nat} {r : xi_R → Prop} (h : ∀ q, xg d i pc l st w c s q → xg d2 i2 pc2 l2 st2 w2 c2 s2 q) (k : xr d i pc l st w c s r) : xr d2 i2 pc2 l2 st2 w2 c2 s2 r := by
  obtain ⟨q, h1, h2⟩ := k
  exact ⟨q, h q h1, h2⟩
theorem xr_weak {d i pc : Nat} {l : xi_L} {st : List Value} {w : xi_W} {c s : Nat} {r r2 : xi_R → Prop} (h : xr d i pc l st w c s r) (k : ∀ q, r q → r2 q) : xr d i pc l st w c s r2 := by
  obtain ⟨q, h1, h2⟩ := h
  exact ⟨q, h1, k q h2⟩
theorem xr_stp {d i pc pc' : Nat} {l l' : xi_L} {st st' : List Value} {w w' : xi_W} {c s c' s' : Nat} {r : xi_R → Prop} {ins : Jvm.ClassFile.Instr} (hc : xt_cd i pc = some ins) (he : xi_end i ins st = none) (hi : xi_inv i ins st w = none) (hs : xi_stp i d ins pc l st w c s = some (pc', l', st', w', c', s')) (h : xr d i pc' l' st' w' c' s' r) : xr d i pc l st w c s r :=
  xr_up (fun _ h => xg_stp hc he hi hs h) h
theorem xr_ret {d i pc : Nat} {l : xi_L} {st : List Value} {w : xi_W} {c s : Nat} {v : Option Value} {ins : Jvm.ClassFile.Instr} {r : xi_R → Prop} (hc : xt_cd i pc = some ins) (he : xi_end i ins st = some v) (h : r (v, w, c, s)) : xr d i pc l st w c s r := ⟨_, xg_ret hc he, h⟩
theorem xr_call {d i pc j : Nat} {l : xi_L} {st av rest : List Value} {w : xi_W} {c s : Nat} {r r1 : xi_R → Prop} {ins : Jvm.ClassFile.Instr} (hc : xt_cd i pc = some ins) (he : xi_end i ins st = none) (hi : xi_inv i ins st w = some (j, av, rest)) (h1 : xr d j 0 (lv_args 0 av) [] w 0 0 r1) (h2 : ∀ v w' c' s', r1 (v, w', c', s') → xr (d + 1) i (pc + 3) l (v.toList ++ rest) w' (c + c') (s + s') r) : xr (d + 1) i pc l st w c s r := by
  obtain ⟨⟨v, w', c', s'⟩, g1, g2⟩ := h1
  obtain ⟨q, g3, g4⟩ := h2 v w' c' s' g2
  exact ⟨q, xg_call hc he hi g1 g3, g4⟩
theorem xr_callx {d i pc j : Nat} {l : xi_L} {st av rest : List Value} {w w' : xi_W} {c s c' s' : Nat} {v : Option Value} {r : xi_R → Prop} {ins : Jvm.ClassFile.Instr} (hc : xt_cd i pc = some ins) (he : xi_end i ins st = none) (hi : xi_inv i ins st w = some (j, av, rest)) (h1 : xg d j 0 (lv_args 0 av) [] w 0 0 (v, w', c', s')) (h2 : xr (d + 1) i (pc + 3) l (v.toList ++ rest) w' (c + c') (s + s') r) : xr (d + 1) i pc l st w c s r :=
  xr_up (fun _ h => xg_call hc he hi h1 h) h2
theorem xr_of {d i pc : Nat} {l : xi_L} {st : List Value} {w : xi_W} {c s : Nat} {q : xi_R} {r : xi_R → Prop} (h : xg d i pc l st w c s q) (k : r q) : xr d i pc l st w c s r := ⟨q, h, k⟩
