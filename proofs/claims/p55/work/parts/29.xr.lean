/-! steps of runs of which only something is known at their end -/
theorem xr_j2 {d i pc tgt : Nat} {l : xi_L} {st : List Value} {w : xi_W} {c s : Nat} {r : xi_R → Prop} {x y : Int32} {ins : Jvm.ClassFile.Instr} (hc : xt_cd i pc = some ins) (he : xi_end i ins (.int y :: .int x :: st) = none) (hi : xi_inv i ins (.int y :: .int x :: st) w = none) (hs : xi_stp i d ins pc l (.int y :: .int x :: st) w c s = xi_j2 (fun pc st => some (pc, l, st, w, c, s)) (.int y :: .int x :: st) (xg_t2 ins) pc (xg_off ins)) (hj : xi_jmp pc (xg_off ins) = some tgt) (h1 : xg_t2 ins x y = true → xr d i tgt l st w c s r) (h2 : xg_t2 ins x y = false → xr d i (pc + 3) l st w c s r) : xr d i pc l (.int y :: .int x :: st) w c s r := by
  cases ht : xg_t2 ins x y with
  | true => exact xr_stp hc he hi (by rw [hs]; simp only [xi_j2, hj, ht, cond_true]) (h1 ht)
  | false => exact xr_stp hc he hi (by rw [hs]; simp only [xi_j2, hj, ht, cond_false]) (h2 ht)
theorem xr_j1 {d i pc tgt : Nat} {l : xi_L} {st : List Value} {w : xi_W} {c s : Nat} {r : xi_R → Prop} {x : Int32} {ins : Jvm.ClassFile.Instr} (hc : xt_cd i pc = some ins) (he : xi_end i ins (.int x :: st) = none) (hi : xi_inv i ins (.int x :: st) w = none) (hs : xi_stp i d ins pc l (.int x :: st) w c s = xi_j1 (fun pc st => some (pc, l, st, w, c, s)) (.int x :: st) (xg_t1 ins) pc (xg_off ins)) (hj : xi_jmp pc (xg_off ins) = some tgt) (h1 : xg_t1 ins x = true → xr d i tgt l st w c s r) (h2 : xg_t1 ins x = false → xr d i (pc + 3) l st w c s r) : xr d i pc l (.int x :: st) w c s r := by
  cases ht : xg_t1 ins x with
  | true => exact xr_stp hc he hi (by rw [hs]; simp only [xi_j1, hj, ht, cond_true]) (h1 ht)
  | false => exact xr_stp hc he hi (by rw [hs]; simp only [xi_j1, hj, ht, cond_false]) (h2 ht)
theorem xr_getfield {d i pc k a : Nat} {l : xi_L} {st : List Value} {w : xi_W} {c s : Nat} {r : xi_R → Prop} {q : Nat × Nat × Nat} {o : Nat × List Value} {v : Value} (hw : w[a]? = some (.inr o)) (hc : xt_cd i pc = some (.getfield k)) (hq : xt_fdp (xt_mo i) k = some q) (hb : Nat.beq q.1 o.1 = true) (hv : o.2[q.2.1]? = some v) (h : xr d i (pc + 3) l (v :: st) w c s r) : xr d i pc l (.ref a :: st) w c s r :=
  xr_stp hc rfl rfl (by simp only [xi_stp, hq, hw, hb, hv, cond_true]) h
theorem xr_iaload {d i pc a n : Nat} {l : xi_L} {st : List Value} {w : xi_W} {c s : Nat} {r : xi_R → Prop} {j : Int32} {ty : FieldType} {f : Nat → Int32} (hw : w[a]? = some (.inl (ty, n, .inl f))) (hc : xt_cd i pc = some .iaload) (hj : xi_ix j n = true) (ht : xi_isa false ty = true) (h : xr d i (pc + 1) l (.int (f j.toNatClampNeg) :: st) w c s r) : xr d i pc l (.int j :: .ref a :: st) w c s r :=
  xr_stp hc rfl rfl (by simp only [xi_stp, hw, hj, ht, Bool.and_true, cond_true]) h
theorem xr_iastore {d i pc a n : Nat} {l : xi_L} {st : List Value} {w : xi_W} {c s : Nat} {r : xi_R → Prop} {j x : Int32} {ty : FieldType} {f : Nat → Int32} (hw : w[a]? = some (.inl (ty, n, .inl f))) (hg : Nat.ble 17 a = true) (hc : xt_cd i pc = some .iastore) (hj : xi_ix j n = true) (ht : xi_isa false ty = true) (h : xr d i (pc + 1) l st (w.set a (.inl (ty, n, .inl (upd f j.toNatClampNeg x)))) c s r) : xr d i pc l (.int x :: .int j :: .ref a :: st) w c s r :=
  xr_stp hc rfl rfl (by simp only [xi_stp, hw, hg, hj, ht, Bool.and_true, cond_true]) h
theorem xr_to {d i pc : Nat} {l : xi_L} {st st' : List Value} {w : xi_W} {c s : Nat} {r : xi_R → Prop} (e : st = st') (h : xr d i pc l st' w c s r) : xr d i pc l st w c s r := e ▸ h
theorem xs_add {d i pc a b : Nat} {l : xi_L} {st : List Value} {w : xi_W} {c s : Nat} {r : xi_R → Prop} (hc : xt_cd i pc = some .iadd) (h : xr d i (pc + 1) l (.int (Int32.ofNat (a + b)) :: st) w c s r) : xr d i pc l (.int (Int32.ofNat b) :: .int (Int32.ofNat a) :: st) w c s r :=
  xr_stp hc rfl rfl (by simp only [xi_stp, xi_b2, n_add]) h
theorem xs_mul {d i pc a b : Nat} {l : xi_L} {st : List Value} {w : xi_W} {c s : Nat} {r : xi_R → Prop} (hc : xt_cd i pc = some .imul) (h : xr d i (pc + 1) l (.int (Int32.ofNat (a * b)) :: st) w c s r) : xr d i pc l (.int (Int32.ofNat b) :: .int (Int32.ofNat a) :: st) w c s r :=
  xr_stp hc rfl rfl (by simp only [xi_stp, xi_b2, n_mul]) h
theorem xs_sub {d i pc a b : Nat} {l : xi_L} {st : List Value} {w : xi_W} {c s : Nat} {r : xi_R → Prop} (hle : b ≤ a) (hc : xt_cd i pc = some .isub) (h : xr d i (pc + 1) l (.int (Int32.ofNat (a - b)) :: st) w c s r) : xr d i pc l (.int (Int32.ofNat b) :: .int (Int32.ofNat a) :: st) w c s r :=
  xr_stp hc rfl rfl (by simp only [xi_stp, xi_b2, n_sub hle]) h
theorem xs_div {d i pc a b : Nat} {l : xi_L} {st : List Value} {w : xi_W} {c s : Nat} {r : xi_R → Prop} (ha : a < 2147483648) (hb : b < 2147483648) (h0 : 0 < b) (hc : xt_cd i pc = some .idiv) (h : xr d i (pc + 1) l (.int (Int32.ofNat (a / b)) :: st) w c s r) : xr d i pc l (.int (Int32.ofNat b) :: .int (Int32.ofNat a) :: st) w c s r :=
  xr_stp hc rfl rfl (by simp only [xi_stp, n_ne0 hb h0, cond_false, n_div ha hb h0]) h
theorem xs_mod {d i pc a b : Nat} {l : xi_L} {st : List Value} {w : xi_W} {c s : Nat} {r : xi_R → Prop} (ha : a < 2147483648) (hb : b < 2147483648) (h0 : 0 < b) (hc : xt_cd i pc = some .irem) (h : xr d i (pc + 1) l (.int (Int32.ofNat (a % b)) :: st) w c s r) : xr d i pc l (.int (Int32.ofNat b) :: .int (Int32.ofNat a) :: st) w c s r :=
  xr_stp hc rfl rfl (by simp only [xi_stp, n_ne0 hb h0, cond_false, n_mod ha hb h0]) h
theorem xs_inc {d i pc a k : Nat} {m : Int} {e : Nat} {l : xi_L} {st : List Value} {w : xi_W} {c s : Nat} {r : xi_R → Prop} (he : Int32.ofInt m = Int32.ofNat e) (hc : xt_cd i pc = some (.iinc k m)) (hl : xi_get l k = some (.int (Int32.ofNat a))) (hk : Nat.blt k (xt_ml i) = true) (h : xr d i (pc + 3) (xi_st1 l k (.int (Int32.ofNat (a + e)))) st w c s r) : xr d i pc l st w c s r :=
  xr_stp hc rfl rfl (by simp only [xi_stp, hl, hk, he, n_add, cond_true]) h
theorem xs_iaload {d i pc a n j : Nat} {l : xi_L} {st : List Value} {w : xi_W} {c s : Nat} {r : xi_R → Prop} {F : Nat → Nat} (hw : w[a]? = some (.inl (.int, n, .inl (xn_f F)))) (hj : j < n) (hn : n < 2147483648) (hc : xt_cd i pc = some .iaload) (h : xr d i (pc + 1) l (.int (Int32.ofNat (F j)) :: st) w c s r) : xr d i pc l (.int (Int32.ofNat j) :: .ref a :: st) w c s r :=
  xr_iaload hw hc (n_ix hj hn) rfl (by rw [n_nat (by omega)]; exact h)
theorem xs_iastore {d i pc a n j v : Nat} {l : xi_L} {st : List Value} {w : xi_W} {c s : Nat} {r : xi_R → Prop} {F : Nat → Nat} (hw : w[a]? = some (.inl (.int, n, .inl (xn_f F)))) (hj : j < n) (hn : n < 2147483648) (hg : Nat.ble 17 a = true) (hc : xt_cd i pc = some .iastore) (h : xr d i (pc + 1) l st (w.set a (.inl (.int, n, .inl (xn_f (xn_u F j v))))) c s r) : xr d i pc l (.int (Int32.ofNat v) :: .int (Int32.ofNat j) :: .ref a :: st) w c s r :=
  xr_iastore hw hg hc (n_ix hj hn) rfl (by rw [n_nat (by omega), xn_upd]; exact h)
/-! what a branch says -/
theorem xs_and {d i pc a b : Nat} {l : xi_L} {st : List Value} {w : xi_W} {c s : Nat} {r : xi_R → Prop} (hc : xt_cd i pc = some .iand) (h : xr d i (pc + 1) l (.int (Int32.ofNat (a &&& b)) :: st) w c s r) : xr d i pc l (.int (Int32.ofNat b) :: .int (Int32.ofNat a) :: st) w c s r :=
  xr_stp hc rfl rfl (by simp only [xi_stp, xi_b2, n_and]) h
theorem xs_or {d i pc a b : Nat} {l : xi_L} {st : List Value} {w : xi_W} {c s : Nat} {r : xi_R → Prop} (hc : xt_cd i pc = some .ior) (h : xr d i (pc + 1) l (.int (Int32.ofNat (a ||| b)) :: st) w c s r) : xr d i pc l (.int (Int32.ofNat b) :: .int (Int32.ofNat a) :: st) w c s r :=
  xr_stp hc rfl rfl (by simp only [xi_stp, xi_b2, n_or]) h
theorem xs_shr {d i pc a k : Nat} {l : xi_L} {st : List Value} {w : xi_W} {c s : Nat} {r : xi_R → Prop} (ha : a < 2147483648) (hk : k < 32) (hc : xt_cd i pc = some .ishr) (h : xr d i (pc + 1) l (.int (Int32.ofNat (a / 2 ^ k)) :: st) w c s r) : xr d i pc l (.int (Int32.ofNat k) :: .int (Int32.ofNat a) :: st) w c s r :=
  xr_stp hc rfl rfl (by simp only [xi_stp, xi_b2, n_shr ha hk]) h
theorem xs_shl {d i pc a k : Nat} {l : xi_L} {st : List Value} {w : xi_W} {c s : Nat} {r : xi_R → Prop} (hk : k < 32) (hc : xt_cd i pc = some .ishl) (h : xr d i (pc + 1) l (.int (Int32.ofNat (a * 2 ^ k)) :: st) w c s r) : xr d i pc l (.int (Int32.ofNat k) :: .int (Int32.ofNat a) :: st) w c s r :=
  xr_stp hc rfl rfl (by simp only [xi_stp, xi_b2, n_shl hk]) h
/-! whole numbers in longs -/
theorem xs_i2l {d i pc a : Nat} {l : xi_L} {st : List Value} {w : xi_W} {c s : Nat} {r : xi_R → Prop} (ha : a < 2147483648) (hc : xt_cd i pc = some .i2l) (h : xr d i (pc + 1) l (.long (Int64.ofNat a) :: st) w c s r) : xr d i pc l (.int (Int32.ofNat a) :: st) w c s r :=
  xr_stp hc rfl rfl (by simp only [xi_stp, xi_u1, n_i2l ha]) h
theorem xs_l2i {d i pc a : Nat} {l : xi_L} {st : List Value} {w : xi_W} {c s : Nat} {r : xi_R → Prop} (hc : xt_cd i pc = some .l2i) (h : xr d i (pc + 1) l (.int (Int32.ofNat a) :: st) w c s r) : xr d i pc l (.long (Int64.ofNat a) :: st) w c s r :=
  xr_stp hc rfl rfl (by simp only [xi_stp, xi_u1l, n_l2i]) h
theorem xs_ladd {d i pc a b : Nat} {l : xi_L} {st : List Value} {w : xi_W} {c s : Nat} {r : xi_R → Prop} (hc : xt_cd i pc = some .ladd) (h : xr d i (pc + 1) l (.long (Int64.ofNat (a + b)) :: st) w c s r) : xr d i pc l (.long (Int64.ofNat b) :: .long (Int64.ofNat a) :: st) w c s r :=
  xr_stp hc rfl rfl (by simp only [xi_stp, xi_b2l, nl_add]) h
theorem xs_lmul {d i pc a b : Nat} {l : xi_L} {st : List Value} {w : xi_W} {c s : Nat} {r : xi_R → Prop} (hc : xt_cd i pc = some .lmul) (h : xr d i (pc + 1) l (.long (Int64.ofNat (a * b)) :: st) w c s r) : xr d i pc l (.long (Int64.ofNat b) :: .long (Int64.ofNat a) :: st) w c s r :=
  xr_stp hc rfl rfl (by simp only [xi_stp, xi_b2l, nl_mul]) h
theorem xs_lmod {d i pc a b : Nat} {l : xi_L} {st : List Value} {w : xi_W} {c s : Nat} {r : xi_R → Prop} (ha : a < 9223372036854775808) (hb : b < 9223372036854775808) (h0 : 0 < b) (hc : xt_cd i pc = some .lrem) (h : xr d i (pc + 1) l (.long (Int64.ofNat (a % b)) :: st) w c s r) : xr d i pc l (.long (Int64.ofNat b) :: .long (Int64.ofNat a) :: st) w c s r :=
  xr_stp hc rfl rfl (by simp only [xi_stp, nl_ne0 hb h0, cond_false, nl_mod ha hb h0]) h
theorem xr_ldn {d i pc : Nat} {k : Fin 4} {l : xi_L} {st : List Value} {w : xi_W} {c s : Nat} {r : xi_R → Prop} {x : Int32} (hl : xi_get l k.val = some (.int x)) (hc : xt_cd i pc = some (.iload_n k)) (h : xr d i (pc + 1) l (.int x :: st) w c s r) : xr d i pc l st w c s r :=
  xr_stp hc rfl rfl (by simp only [xi_stp, xi_ld, hl]; rfl) h
theorem xr_ldw {d i pc k : Nat} {l : xi_L} {st : List Value} {w : xi_W} {c s : Nat} {r : xi_R → Prop} {x : Int32} (hl : xi_get l k = some (.int x)) (hc : xt_cd i pc = some (.iload k)) (h : xr d i (pc + 2) l (.int x :: st) w c s r) : xr d i pc l st w c s r :=
  xr_stp hc rfl rfl (by simp only [xi_stp, xi_ld, hl]; rfl) h
theorem xr_lda {d i pc a : Nat} {k : Fin 4} {l : xi_L} {st : List Value} {w : xi_W} {c s : Nat} {r : xi_R → Prop} (hl : xi_get l k.val = some (.ref a)) (hc : xt_cd i pc = some (.aload_n k)) (h : xr d i (pc + 1) l (.ref a :: st) w c s r) : xr d i pc l st w c s r :=
  xr_stp hc rfl rfl (by simp only [xi_stp, xi_ld, hl]; rfl) h
theorem xr_laload {d i pc a n : Nat} {l : xi_L} {st : List Value} {w : xi_W} {c s : Nat} {r : xi_R → Prop} {j : Int32} {f : Nat → Int64} (hw : w[a]? = some (.inl (.long, n, .inr (.inl f)))) (hg : Nat.ble 17 a = true) (hc : xt_cd i pc = some .laload) (hj : xi_ix j n = true) (h : xr d i (pc + 1) l (.long (f j.toNatClampNeg) :: st) w c s r) : xr d i pc l (.int j :: .ref a :: st) w c s r :=
  xr_stp hc rfl rfl (by simp only [xi_stp, hw, hg, hj, Bool.and_self, cond_true]) h
theorem xr_lastore {d i pc a n : Nat} {l : xi_L} {st : List Value} {w : xi_W} {c s : Nat} {r : xi_R → Prop} {j : Int32} {x : Int64} {f : Nat → Int64} (hw : w[a]? = some (.inl (.long, n, .inr (.inl f)))) (hg : Nat.ble 17 a = true) (hc : xt_cd i pc = some .lastore) (hj : xi_ix j n = true) (h : xr d i (pc + 1) l st (w.set a (.inl (.long, n, .inr (.inl (vp_updL f j.toNatClampNeg x))))) c s r) : xr d i pc l (.long x :: .int j :: .ref a :: st) w c s r :=
  xr_stp hc rfl rfl (by simp only [xi_stp, hw, hg, hj, Bool.and_self, cond_true]) h
theorem xr_putfield {d i pc k a : Nat} {l : xi_L} {st : List Value} {w : xi_W} {c s : Nat} {r : xi_R → Prop} {q : Nat × Nat × Nat} {o : Nat × List Value} {v : Value} (hw : w[a]? = some (.inr o)) (hg : Nat.ble 17 a = true) (hc : xt_cd i pc = some (.putfield k)) (hq : xt_fdp (xt_mo i) k = some q) (hb : Nat.beq q.1 o.1 = true) (hy : xi_fit (xt_fy q.1 q.2.1) v = true) (hl : Nat.blt q.2.1 o.2.length = true) (hf : xt_ff q.1 q.2.1 = false) (h : xr d i (pc + 3) l st (w.set a (.inr (o.1, o.2.set q.2.1 v))) c s r) : xr d i pc l (v :: .ref a :: st) w c s r :=
  xr_stp hc rfl rfl (by simp only [xi_stp, hq, hw, hg, hb, hy, hl, hf, Bool.not_false, Bool.true_or, Bool.and_true, Bool.and_self, cond_true]) h
theorem xs_min {d i pc a b k x : Nat} {y : List Nat} {l : xi_L} {st : List Value} {w : xi_W} {c s : Nat} {r : xi_R → Prop} (ha : a < 2147483648) (hb : b < 2147483648) (hc : xt_cd i pc = some (.invokestatic k)) (hm : xt_mdp (xt_mo i) k = some (7, x, y)) (hr : Nat.ble (st.map fun v => v.category).sum 8 = true) (h : xr (d + 1) i (pc + 3) l (.int (Int32.ofNat (min a b)) :: st) w c s r) : xr (d + 1) i pc l (.int (Int32.ofNat b) :: .int (Int32.ofNat a) :: st) w c s r := by
  refine xr_stp hc rfl (by simp only [xi_inv, hm]) ?_ h
  have e5 : Nat.beq 7 11 = false ∧ Nat.beq 7 12 = false := ⟨rfl, rfl⟩
  have e3 : Nat.blt 0 (d + 1) = true := Nat.blt_eq.mpr (Nat.succ_pos d)
  have e4 : Nat.beq 7 6 = false ∧ Nat.beq 7 7 = true := ⟨rfl, rfl⟩
  simp only [xi_stp, hm, cond_false, e5.1, e5.2, e4.1, e4.2, cond_false, cond_true, e3, hr, Bool.and_true, Bool.and_self, n_min ha hb]
theorem xs_max {d i pc a b k x : Nat} {y : List Nat} {l : xi_L} {st : List Value} {w : xi_W} {c s : Nat} {r : xi_R → Prop} (ha : a < 2147483648) (hb : b < 2147483648) (hc : xt_cd i pc = some (.invokestatic k)) (hm : xt_mdp (xt_mo i) k = some (6, x, y)) (hr : Nat.ble (st.map fun v => v.category).sum 8 = true) (h : xr (d + 1) i (pc + 3) l (.int (Int32.ofNat (max a b)) :: st) w c s r) : xr (d + 1) i pc l (.int (Int32.ofNat b) :: .int (Int32.ofNat a) :: st) w c s r := by
  refine xr_stp hc rfl (by simp only [xi_inv, hm]) ?_ h
  have e5 : Nat.beq 6 11 = false ∧ Nat.beq 6 12 = false := ⟨rfl, rfl⟩
  have e3 : Nat.blt 0 (d + 1) = true := Nat.blt_eq.mpr (Nat.succ_pos d)
  have e4 : Nat.beq 6 6 = true := rfl
  simp only [xi_stp, hm, cond_false, e5.1, e5.2, e4, cond_true, e3, hr, Bool.and_true, Bool.and_self, n_max ha hb]
theorem xs_smx {d i pc a m q k x : Nat} {y : List Nat} {l : xi_L} {st : List Value} {w : xi_W} {c s : Nat} {r : xi_R → Prop} (ha : a < 2147483648) (hq : m < 2147483648) (hk : q < 2147483648) (hc0 : xt_cd i pc = some .isub) (hc : xt_cd i (pc + 1) = some (.invokestatic k)) (hm : xt_mdp (xt_mo i) k = some (6, x, y)) (hr : Nat.ble (st.map fun v => v.category).sum 8 = true) (h : xr (d + 1) i (pc + 4) l (.int (Int32.ofNat (max a (m - q))) :: st) w c s r) : xr (d + 1) i pc l (.int (Int32.ofNat q) :: .int (Int32.ofNat m) :: .int (Int32.ofNat a) :: st) w c s r := by
  refine xr_stp (pc' := pc + 1) (l' := l) (w' := w) (c' := c) (s' := s) (st' := .int (Int32.ofNat m - Int32.ofNat q) :: .int (Int32.ofNat a) :: st) hc0 rfl rfl (by simp only [xi_stp, xi_b2]) ?_
  refine xr_stp hc rfl (by simp only [xi_inv, hm]) ?_ h
  have e5 : Nat.beq 6 11 = false ∧ Nat.beq 6 12 = false := ⟨rfl, rfl⟩
  have e3 : Nat.blt 0 (d + 1) = true := Nat.blt_eq.mpr (Nat.succ_pos d)
  have e4 : Nat.beq 6 6 = true := rfl
  simp only [xi_stp, hm, cond_false, e5.1, e5.2, e4, cond_true, e3, hr, Bool.and_true, Bool.and_self, n_smx ha hq hk]
theorem xs_fm {d i pc a b k x : Nat} {y : List Nat} {l : xi_L} {st : List Value} {w : xi_W} {c s : Nat} {r : xi_R → Prop} (ha : a < 2147483648) (hb : b < 2147483648) (h0 : 0 < b) (hc : xt_cd i pc = some (.invokestatic k)) (hm : xt_mdp (xt_mo i) k = some (8, x, y)) (hr : Nat.ble (st.map fun v => v.category).sum 8 = true) (h : xr (d + 1) i (pc + 3) l (.int (Int32.ofNat (a % b)) :: st) w c s r) : xr (d + 1) i pc l (.int (Int32.ofNat b) :: .int (Int32.ofNat a) :: st) w c s r := by
  refine xr_stp hc rfl (by simp only [xi_inv, hm]) ?_ h
  have e5 : Nat.beq 8 11 = false ∧ Nat.beq 8 12 = false := ⟨rfl, rfl⟩
  have e3 : Nat.blt 0 (d + 1) = true := Nat.blt_eq.mpr (Nat.succ_pos d)
  have e4 : Nat.beq 8 6 = false ∧ Nat.beq 8 7 = false ∧ Nat.beq 8 8 = true := ⟨rfl, rfl, rfl⟩
  simp only [xi_stp, hm, cond_false, e5.1, e5.2, e4.1, e4.2.1, e4.2.2, cond_false, cond_true, e3, hr, n_ne0 hb h0, Bool.not_false, Bool.and_true, Bool.and_self, n_fm ha hb h0]
theorem xs_land {d i pc a b : Nat} {l : xi_L} {st : List Value} {w : xi_W} {c s : Nat} {r : xi_R → Prop} (hc : xt_cd i pc = some .land) (h : xr d i (pc + 1) l (.long (Int64.ofNat (a &&& b)) :: st) w c s r) : xr d i pc l (.long (Int64.ofNat b) :: .long (Int64.ofNat a) :: st) w c s r :=
  xr_stp hc rfl rfl (by simp only [xi_stp, xi_b2l, nl_and]) h
theorem xs_lor {d i pc a b : Nat} {l : xi_L} {st : List Value} {w : xi_W} {c s : Nat} {r : xi_R → Prop} (hc : xt_cd i pc = some .lor) (h : xr d i (pc + 1) l (.long (Int64.ofNat (a ||| b)) :: st) w c s r) : xr d i pc l (.long (Int64.ofNat b) :: .long (Int64.ofNat a) :: st) w c s r :=
  xr_stp hc rfl rfl (by simp only [xi_stp, xi_b2l, nl_or]) h
theorem xs_lxor {d i pc a b : Nat} {l : xi_L} {st : List Value} {w : xi_W} {c s : Nat} {r : xi_R → Prop} (hc : xt_cd i pc = some .lxor) (h : xr d i (pc + 1) l (.long (Int64.ofNat (a ^^^ b)) :: st) w c s r) : xr d i pc l (.long (Int64.ofNat b) :: .long (Int64.ofNat a) :: st) w c s r :=
  xr_stp hc rfl rfl (by simp only [xi_stp, xi_b2l, nl_xor]) h
theorem xs_lshr {d i pc a k : Nat} {l : xi_L} {st : List Value} {w : xi_W} {c s : Nat} {r : xi_R → Prop} (ha : a < 9223372036854775808) (hk : k < 64) (hc : xt_cd i pc = some .lshr) (h : xr d i (pc + 1) l (.long (Int64.ofNat (a / 2 ^ k)) :: st) w c s r) : xr d i pc l (.int (Int32.ofNat k) :: .long (Int64.ofNat a) :: st) w c s r :=
  xr_stp hc rfl rfl (by simp only [xi_stp, xi_shl, nl_shr ha hk]) h
theorem xs_lshl {d i pc a k : Nat} {l : xi_L} {st : List Value} {w : xi_W} {c s : Nat} {r : xi_R → Prop} (hk : k < 64) (hc : xt_cd i pc = some .lshl) (h : xr d i (pc + 1) l (.long (Int64.ofNat (a * 2 ^ k)) :: st) w c s r) : xr d i pc l (.int (Int32.ofNat k) :: .long (Int64.ofNat a) :: st) w c s r :=
  xr_stp hc rfl rfl (by simp only [xi_stp, xi_shl, nl_shl hk]) h
theorem xs_lcmp {d i pc a b : Nat} {l : xi_L} {st : List Value} {w : xi_W} {c s : Nat} {r : xi_R → Prop} (ha : a < 18446744073709551616) (hb : b < 18446744073709551616) (hc : xt_cd i pc = some .lcmp) (h : ∀ e : Int32, (e = 0 ↔ a = b) → xr d i (pc + 1) l (.int e :: st) w c s r) : xr d i pc l (.long (Int64.ofNat b) :: .long (Int64.ofNat a) :: st) w c s r :=
  xr_stp (st' := .int (lg_cmp (Int64.ofNat a) (Int64.ofNat b)) :: st) hc rfl rfl (by simp only [xi_stp, xi_b2l]) (h _ ((lg_cmp_eq _ _).trans (nl_eq ha hb)))
theorem xr_more {d i pc : Nat} {l : xi_L} {st : List Value} {w : xi_W} {c s : Nat} {r : xi_R → Prop} {c1 s1 : Nat} (e1 : c = c1) (e2 : s = s1) (h : xr d i pc l st w c1 s1 r) : xr d i pc l st w c s r := by
  subst e1; subst e2; exact h
/-- longs: whole numbers -/
theorem nl_lt {a b : Nat} (ha : a < 9223372036854775808) (hb : b < 9223372036854775808) : Int64.ofNat a < Int64.ofNat b ↔ a < b := by
  rw [Int64.lt_iff_toInt_lt, nl_int ha, nl_int hb]; omega
/-- what lcmp leaves -/
def lw_c (a b : Nat) : Int32 := if b < a then 1 else if a = b then 0 else -1
theorem lw_c_eq {a b : Nat} (ha : a < 9223372036854775808) (hb : b < 9223372036854775808) : lg_cmp (Int64.ofNat a) (Int64.ofNat b) = lw_c a b := by
  unfold lg_cmp lw_c
  by_cases h : b < a
  · rw [if_pos ((nl_lt hb ha).mpr h), if_pos h]
  · rw [if_neg (fun z => h ((nl_lt hb ha).mp z)), if_neg h]
    by_cases h2 : a = b
    · rw [if_pos (by rw [h2]), if_pos h2]
    · rw [if_neg (fun z => h2 ((nl_eq (by omega) (by omega)).mp z)), if_neg h2]
theorem lw_of1 (c : Jvm.ClassFile.Cond) (off : Int) (x : Int32) : xg_t1 (.ifCond c off) x = xg_t1 (.ifCond c 0) x := by cases c <;> rfl
theorem lw_c3 (a b : Nat) : (b < a ∧ lw_c a b = 1) ∨ (a = b ∧ lw_c a b = 0) ∨ (a < b ∧ lw_c a b = -1) := by
  unfold lw_c
  by_cases h : b < a
  · exact Or.inl ⟨h, if_pos h⟩
  · by_cases h2 : a = b
    · exact Or.inr (Or.inl ⟨h2, by rw [if_neg h, if_pos h2]⟩)
    · exact Or.inr (Or.inr ⟨by omega, by rw [if_neg h, if_neg h2]⟩)
theorem lt_eq {off : Int} {a b : Nat} (h : xg_t1 (.ifCond .eq off) (lw_c a b) = true) : a = b := by
  rw [lw_of1] at h
  rcases lw_c3 a b with ⟨h1, h2⟩ | ⟨h1, h2⟩ | ⟨h1, h2⟩ <;> rw [h2] at h <;> first | omega | exact absurd h (by decide +kernel)
theorem lf_eq {off : Int} {a b : Nat} (h : xg_t1 (.ifCond .eq off) (lw_c a b) = false) : a ≠ b := by
  rw [lw_of1] at h
  rcases lw_c3 a b with ⟨h1, h2⟩ | ⟨h1, h2⟩ | ⟨h1, h2⟩ <;> rw [h2] at h <;> first | omega | exact absurd h (by decide +kernel)
theorem lt_ne {off : Int} {a b : Nat} (h : xg_t1 (.ifCond .ne off) (lw_c a b) = true) : a ≠ b := by
  rw [lw_of1] at h
  rcases lw_c3 a b with ⟨h1, h2⟩ | ⟨h1, h2⟩ | ⟨h1, h2⟩ <;> rw [h2] at h <;> first | omega | exact absurd h (by decide +kernel)
theorem lf_ne {off : Int} {a b : Nat} (h : xg_t1 (.ifCond .ne off) (lw_c a b) = false) : a = b := by
  rw [lw_of1] at h
  rcases lw_c3 a b with ⟨h1, h2⟩ | ⟨h1, h2⟩ | ⟨h1, h2⟩ <;> rw [h2] at h <;> first | omega | exact absurd h (by decide +kernel)
theorem lt_lt {off : Int} {a b : Nat} (h : xg_t1 (.ifCond .lt off) (lw_c a b) = true) : a < b := by
  rw [lw_of1] at h
  rcases lw_c3 a b with ⟨h1, h2⟩ | ⟨h1, h2⟩ | ⟨h1, h2⟩ <;> rw [h2] at h <;> first | omega | exact absurd h (by decide +kernel)
theorem lf_lt {off : Int} {a b : Nat} (h : xg_t1 (.ifCond .lt off) (lw_c a b) = false) : b ≤ a := by
  rw [lw_of1] at h
  rcases lw_c3 a b with ⟨h1, h2⟩ | ⟨h1, h2⟩ | ⟨h1, h2⟩ <;> rw [h2] at h <;> first | omega | exact absurd h (by decide +kernel)
theorem lt_ge {off : Int} {a b : Nat} (h : xg_t1 (.ifCond .ge off) (lw_c a b) = true) : b ≤ a := by
  rw [lw_of1] at h
  rcases lw_c3 a b with ⟨h1, h2⟩ | ⟨h1, h2⟩ | ⟨h1, h2⟩ <;> rw [h2] at h <;> first | omega | exact absurd h (by decide +kernel)
theorem lf_ge {off : Int} {a b : Nat} (h : xg_t1 (.ifCond .ge off) (lw_c a b) = false) : a < b := by
  rw [lw_of1] at h
  rcases lw_c3 a b with ⟨h1, h2⟩ | ⟨h1, h2⟩ | ⟨h1, h2⟩ <;> rw [h2] at h <;> first | omega | exact absurd h (by decide +kernel)
theorem lt_gt {off : Int} {a b : Nat} (h : xg_t1 (.ifCond .gt off) (lw_c a b) = true) : b < a := by
  rw [lw_of1] at h
  rcases lw_c3 a b with ⟨h1, h2⟩ | ⟨h1, h2⟩ | ⟨h1, h2⟩ <;> rw [h2] at h <;> first | omega | exact absurd h (by decide +kernel)
theorem lf_gt {off : Int} {a b : Nat} (h : xg_t1 (.ifCond .gt off) (lw_c a b) = false) : a ≤ b := by
  rw [lw_of1] at h
  rcases lw_c3 a b with ⟨h1, h2⟩ | ⟨h1, h2⟩ | ⟨h1, h2⟩ <;> rw [h2] at h <;> first | omega | exact absurd h (by decide +kernel)
theorem lt_le {off : Int} {a b : Nat} (h : xg_t1 (.ifCond .le off) (lw_c a b) = true) : a ≤ b := by
  rw [lw_of1] at h
  rcases lw_c3 a b with ⟨h1, h2⟩ | ⟨h1, h2⟩ | ⟨h1, h2⟩ <;> rw [h2] at h <;> first | omega | exact absurd h (by decide +kernel)
theorem lf_le {off : Int} {a b : Nat} (h : xg_t1 (.ifCond .le off) (lw_c a b) = false) : b < a := by
  rw [lw_of1] at h
  rcases lw_c3 a b with ⟨h1, h2⟩ | ⟨h1, h2⟩ | ⟨h1, h2⟩ <;> rw [h2] at h <;> first | omega | exact absurd h (by decide +kernel)
theorem xs_lc {d i pc a b : Nat} {l : xi_L} {st : List Value} {w : xi_W} {c s : Nat} {r : xi_R → Prop} (ha : a < 9223372036854775808) (hb : b < 9223372036854775808) (hc : xt_cd i pc = some .lcmp) (h : xr d i (pc + 1) l (.int (lw_c a b) :: st) w c s r) : xr d i pc l (.long (Int64.ofNat b) :: .long (Int64.ofNat a) :: st) w c s r :=
  xr_stp (st' := .int (lg_cmp (Int64.ofNat a) (Int64.ofNat b)) :: st) hc rfl rfl (by simp only [xi_stp, xi_b2l]; rfl) (by rw [lw_c_eq ha hb]; exact h)
theorem xs_lsub {d i pc a b : Nat} {l : xi_L} {st : List Value} {w : xi_W} {c s : Nat} {r : xi_R → Prop} (hle : b ≤ a) (hc : xt_cd i pc = some .lsub) (h : xr d i (pc + 1) l (.long (Int64.ofNat (a - b)) :: st) w c s r) : xr d i pc l (.long (Int64.ofNat b) :: .long (Int64.ofNat a) :: st) w c s r :=
  xr_stp hc rfl rfl (by simp only [xi_stp, xi_b2l, nl_sub hle]) h
theorem nl_max {a m : Nat} (ha : a < 9223372036854775808) (hm : m < 9223372036854775808) : (if Int64.ofNat m < Int64.ofNat a then Int64.ofNat a else Int64.ofNat m) = Int64.ofNat (max a m) := by
  by_cases h : m < a
  · rw [if_pos ((nl_lt hm ha).mpr h), Nat.max_eq_left (Nat.le_of_lt h)]
  · rw [if_neg (fun e => h ((nl_lt hm ha).mp e)), Nat.max_eq_right (Nat.le_of_not_lt h)]
theorem nl_min {a m : Nat} (ha : a < 9223372036854775808) (hm : m < 9223372036854775808) : (if Int64.ofNat m < Int64.ofNat a then Int64.ofNat m else Int64.ofNat a) = Int64.ofNat (min a m) := by
  by_cases h : m < a
  · rw [if_pos ((nl_lt hm ha).mpr h), Nat.min_eq_right (Nat.le_of_lt h)]
  · rw [if_neg (fun e => h ((nl_lt hm ha).mp e)), Nat.min_eq_left (Nat.le_of_not_lt h)]
theorem xs_lmax {d i pc a b k x : Nat} {y : List Nat} {l : xi_L} {st : List Value} {w : xi_W} {c s : Nat} {r : xi_R → Prop} (ha : a < 9223372036854775808) (hb : b < 9223372036854775808) (hc : xt_cd i pc = some (.invokestatic k)) (hm : xt_mdp (xt_mo i) k = some (11, x, y)) (hr : Nat.ble (st.map fun v => v.category).sum 8 = true) (h : xr (d + 1) i (pc + 3) l (.long (Int64.ofNat (max a b)) :: st) w c s r) : xr (d + 1) i pc l (.long (Int64.ofNat b) :: .long (Int64.ofNat a) :: st) w c s r := by
  refine xr_stp hc rfl (by simp only [xi_inv, hm]) ?_ h
  have e3 : Nat.blt 0 (d + 1) = true := Nat.blt_eq.mpr (Nat.succ_pos d)
  have e4 : Nat.beq 11 11 = true := rfl
  simp only [xi_stp, hm, e4, cond_true, e3, hr, Bool.and_true, Bool.and_self, nl_max ha hb]
theorem xs_lmin {d i pc a b k x : Nat} {y : List Nat} {l : xi_L} {st : List Value} {w : xi_W} {c s : Nat} {r : xi_R → Prop} (ha : a < 9223372036854775808) (hb : b < 9223372036854775808) (hc : xt_cd i pc = some (.invokestatic k)) (hm : xt_mdp (xt_mo i) k = some (12, x, y)) (hr : Nat.ble (st.map fun v => v.category).sum 8 = true) (h : xr (d + 1) i (pc + 3) l (.long (Int64.ofNat (min a b)) :: st) w c s r) : xr (d + 1) i pc l (.long (Int64.ofNat b) :: .long (Int64.ofNat a) :: st) w c s r := by
  refine xr_stp hc rfl (by simp only [xi_inv, hm]) ?_ h
  have e3 : Nat.blt 0 (d + 1) = true := Nat.blt_eq.mpr (Nat.succ_pos d)
  have e4 : Nat.beq 12 11 = false ∧ Nat.beq 12 12 = true := ⟨rfl, rfl⟩
  simp only [xi_stp, hm, e4.1, e4.2, cond_true, cond_false, e3, hr, Bool.and_true, Bool.and_self, nl_min ha hb]
/-- arrays of whole numbers: of longs, of ints -/
def lw_a (n : Nat) (G : Nat → Nat) : xi_O := .inl (.long, n, .inr (.inl (fun j => Int64.ofNat (G j))))
def lw_i (n : Nat) (G : Nat → Nat) : xi_O := .inl (.int, n, .inl (xn_f G))
theorem lw_upd (G : Nat → Nat) (k v : Nat) : vp_updL (fun j => Int64.ofNat (G j)) k (Int64.ofNat v) = fun j => Int64.ofNat (xn_u G k v j) := by
  funext j; unfold vp_updL xn_u; by_cases h : j = k
  · rw [if_pos h, if_pos h]
  · rw [if_neg h, if_neg h]
theorem xs_ald {d i pc a n j : Nat} {l : xi_L} {st : List Value} {w : xi_W} {c s : Nat} {r : xi_R → Prop} {G : Nat → Nat} (hw : w[a]? = some (lw_a n G)) (hg : 17 ≤ a) (hj : j < n) (hn : n < 2147483648) (hc : xt_cd i pc = some .laload) (h : xr d i (pc + 1) l (.long (Int64.ofNat (G j)) :: st) w c s r) : xr d i pc l (.int (Int32.ofNat j) :: .ref a :: st) w c s r :=
  xr_laload hw (Nat.ble_eq.mpr hg) hc (n_ix hj hn) (by rw [n_nat (by omega)]; exact h)
theorem xs_ast {d i pc a n j v : Nat} {l : xi_L} {st : List Value} {w : xi_W} {c s : Nat} {r : xi_R → Prop} {G : Nat → Nat} (hw : w[a]? = some (lw_a n G)) (hg : 17 ≤ a) (hj : j < n) (hn : n < 2147483648) (hc : xt_cd i pc = some .lastore) (h : xr d i (pc + 1) l st (w.set a (lw_a n (xn_u G j v))) c s r) : xr d i pc l (.long (Int64.ofNat v) :: .int (Int32.ofNat j) :: .ref a :: st) w c s r :=
  xr_lastore hw (Nat.ble_eq.mpr hg) hc (n_ix hj hn) (by rw [n_nat (by omega), lw_upd]; exact h)
theorem xs_ild {d i pc a n j : Nat} {l : xi_L} {st : List Value} {w : xi_W} {c s : Nat} {r : xi_R → Prop} {G : Nat → Nat} (hw : w[a]? = some (lw_i n G)) (hj : j < n) (hn : n < 2147483648) (hc : xt_cd i pc = some .iaload) (h : xr d i (pc + 1) l (.int (Int32.ofNat (G j)) :: st) w c s r) : xr d i pc l (.int (Int32.ofNat j) :: .ref a :: st) w c s r :=
  xs_iaload hw hj hn hc h
theorem xs_ist {d i pc a n j v : Nat} {l : xi_L} {st : List Value} {w : xi_W} {c s : Nat} {r : xi_R → Prop} {G : Nat → Nat} (hw : w[a]? = some (lw_i n G)) (hg : 17 ≤ a) (hj : j < n) (hn : n < 2147483648) (hc : xt_cd i pc = some .iastore) (h : xr d i (pc + 1) l st (w.set a (lw_i n (xn_u G j v))) c s r) : xr d i pc l (.int (Int32.ofNat v) :: .int (Int32.ofNat j) :: .ref a :: st) w c s r :=
  xs_iastore hw hj hn (Nat.ble_eq.mpr hg) hc h
/-- what else stays: all objects that were there, but those of P -/
def fr (P : Nat → Prop) (w w' : xi_W) : Prop := w.length ≤ w'.length ∧ ∀ i, i < w.length → ¬ P i → w'[i]? = w[i]?
theorem fr.rf {P : Nat → Prop} {w : xi_W} : fr P w w := ⟨Nat.le_refl _, fun _ _ _ => rfl⟩
theorem fr.tr {P : Nat → Prop} {a b c : xi_W} (h1 : fr P a b) (h2 : fr P b c) : fr P a c := ⟨Nat.le_trans h1.1 h2.1, fun i h h3 => (h2.2 i (Nat.lt_of_lt_of_le h h1.1) h3).trans (h1.2 i h h3)⟩
theorem fr.tr2 {P Q : Nat → Prop} {a b c : xi_W} (h1 : fr P a b) (h2 : fr Q b c) (k : ∀ i, Q i → P i ∨ a.length ≤ i) : fr P a c := ⟨Nat.le_trans h1.1 h2.1, fun i h h3 => (h2.2 i (Nat.lt_of_lt_of_le h h1.1) (fun z => (k i z).elim h3 (fun q => by omega))).trans (h1.2 i h h3)⟩
theorem fr.set {P : Nat → Prop} {w : xi_W} {a : Nat} {o : xi_O} (h : P a) : fr P w (w.set a o) := ⟨by rw [List.length_set]; exact Nat.le_refl _, fun i _ h3 => by
  rw [List.getElem?_set, if_neg (show ¬ a = i from fun e => h3 (e ▸ h))]⟩
theorem fr.push {P : Nat → Prop} {w : xi_W} {o : xi_O} : fr P w (w ++ [o]) := ⟨by simp, fun i h _ => List.getElem?_append_left h⟩
theorem fr.weak {P P2 : Nat → Prop} {w w' : xi_W} (h : fr P w w') (k : ∀ i, i < w.length → P i → P2 i) : fr P2 w w' := ⟨h.1, fun i hi h3 => h.2 i hi (fun z => h3 (k i hi z))⟩
theorem fr.at {P : Nat → Prop} {w w' : xi_W} (h : fr P w w') {i : Nat} {o : xi_O} (e : w[i]? = some o) (hp : ¬ P i) : w'[i]? = some o := by
  rw [h.2 i (List.getElem?_eq_some_iff.mp e).1 hp]; exact e
theorem xi_setat {w : xi_W} {a : Nat} {o o' : xi_O} (h : w[a]? = some o) : (w.set a o')[a]? = some o' := by
  rw [List.getElem?_set, if_pos rfl, if_pos (List.getElem?_eq_some_iff.mp h).1]
theorem xi_setne {w : xi_W} {a b : Nat} {o o' : xi_O} (h : w[b]? = some o) (hne : a ≠ b) : (w.set a o')[b]? = some o := by
  rw [List.getElem?_set, if_neg hne]; exact h
theorem xi_pusho {w : xi_W} {b : Nat} {o o' : xi_O} (h : w[b]? = some o) : (w ++ [o'])[b]? = some o := by
  rw [List.getElem?_append_left (List.getElem?_eq_some_iff.mp h).1]; exact h
theorem xi_pushn {w : xi_W} {o' : xi_O} : (w ++ [o'])[w.length]? = some o' := by simp
