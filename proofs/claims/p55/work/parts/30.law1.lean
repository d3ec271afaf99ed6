/-! the law's own methods: numbers and one array of numbers -/
theorem xr_cps {d i pc j : Nat} {l : xi_L} {st av rest : List Value} {w : xi_W} {c s : Nat} {r : xi_R → Prop} {ins : Jvm.ClassFile.Instr} (hc : xt_cd i pc = some ins) (he : xi_end i ins st = none) (hi : xi_inv i ins st w = some (j, av, rest)) (h : ∀ r1 : xi_R → Prop, (∀ v w' c' s', xr (d + 1) i (pc + 3) l (v.toList ++ rest) w' (c + c') (s + s') r → r1 (v, w', c', s')) → xr d j 0 (lv_args 0 av) [] w 0 0 r1) : xr (d + 1) i pc l st w c s r :=
  xr_call hc he hi (h (fun q => xr (d + 1) i (pc + 3) l (q.1.toList ++ rest) q.2.1 (c + q.2.2.1) (s + q.2.2.2) r) (fun _ _ _ _ z => z)) (fun _ _ _ _ z => z)
theorem xs_astk {d i pc a n j v : Nat} {l : xi_L} {st : List Value} {w : xi_W} {c s : Nat} {r : xi_R → Prop} {G : Nat → Nat} (hw : w[a]? = some (lw_a n G)) (hg : 17 ≤ a) (hj : j < n) (hn : n < 2147483648) (hc : xt_cd i pc = some .lastore) (h : ∀ w', w'[a]? = some (lw_a n (xn_u G j v)) → fr (· = a) w w' → xr d i (pc + 1) l st w' c s r) : xr d i pc l (.long (Int64.ofNat v) :: .int (Int32.ofNat j) :: .ref a :: st) w c s r :=
  xs_ast hw hg hj hn hc (h _ (xi_setat hw) (fr.set rfl))
theorem xs_istk {d i pc a n j v : Nat} {l : xi_L} {st : List Value} {w : xi_W} {c s : Nat} {r : xi_R → Prop} {G : Nat → Nat} (hw : w[a]? = some (lw_i n G)) (hg : 17 ≤ a) (hj : j < n) (hn : n < 2147483648) (hc : xt_cd i pc = some .iastore) (h : ∀ w', w'[a]? = some (lw_i n (xn_u G j v)) → fr (· = a) w w' → xr d i (pc + 1) l st w' c s r) : xr d i pc l (.int (Int32.ofNat v) :: .int (Int32.ofNat j) :: .ref a :: st) w c s r :=
  xs_ist hw hg hj hn hc (h _ (xi_setat hw) (fr.set rfl))
theorem xs_newi {d i pc n : Nat} {l : xi_L} {st : List Value} {w : xi_W} {c s : Nat} {r : xi_R → Prop} (hn : n ≤ 1000000) (hc : xt_cd i pc = some (.newarray .int)) (h : ∀ R w', R = w.length → w'[R]? = some (lw_i n (fun _ => 0)) → fr (fun _ => False) w w' → xr d i (pc + 2) l (.ref R :: st) w' (c + 1) (s + n) r) : xr d i pc l (.int (Int32.ofNat n) :: st) w c s r := by
  have e1 : Nat.blt 1000000 n = false := by
    cases h : Nat.blt 1000000 n with
    | false => rfl
    | true => exact absurd (xi_blt h) (by omega)
  refine xr_stp (w' := w ++ [lw_i n (fun _ => 0)]) (c' := c + 1) (s' := s + n) (l' := l) (st' := .ref w.length :: st) (pc' := pc + 2) hc rfl rfl ?_ (h _ _ rfl xi_pushn fr.push)
  simp only [xi_stp, n_not0 (show n < 2147483648 by omega), n_nat (show n < 2147483648 by omega), e1, Bool.or_self, cond_false]
  rfl
theorem xs_newl {d i pc n : Nat} {l : xi_L} {st : List Value} {w : xi_W} {c s : Nat} {r : xi_R → Prop} (hn : n ≤ 1000000) (hc : xt_cd i pc = some (.newarray .long)) (h : ∀ R w', R = w.length → w'[R]? = some (lw_a n (fun _ => 0)) → fr (fun _ => False) w w' → xr d i (pc + 2) l (.ref R :: st) w' (c + 1) (s + n) r) : xr d i pc l (.int (Int32.ofNat n) :: st) w c s r := by
  have e1 : Nat.blt 1000000 n = false := by
    cases h : Nat.blt 1000000 n with
    | false => rfl
    | true => exact absurd (xi_blt h) (by omega)
  refine xr_stp (w' := w ++ [lw_a n (fun _ => 0)]) (c' := c + 1) (s' := s + n) (l' := l) (st' := .ref w.length :: st) (pc' := pc + 2) hc rfl rfl ?_ (h _ _ rfl xi_pushn fr.push)
  simp only [xi_stp, n_not0 (show n < 2147483648 by omega), n_nat (show n < 2147483648 by omega), e1, Bool.or_self, cond_false]
  rfl
/-- how many of the lowest n bits are set -/
def bc : Nat → Nat → Nat
  | 0, _ => 0
  | n + 1, x => x % 2 + bc n (x / 2)
theorem bc0 : ∀ n, bc n 0 = 0
  | 0 => rfl
  | n + 1 => by unfold bc; rw [show 0 / 2 = 0 from rfl, bc0 n]
theorem bcle : ∀ n x, bc n x ≤ n
  | 0, _ => Nat.le_refl _
  | n + 1, x => by unfold bc; have := bcle n (x / 2); omega
theorem bc_odd (y : Nat) : (2 * y + 1) &&& (2 * y) = 2 * y := by
  apply Nat.eq_of_testBit_eq
  intro i
  cases i with
  | zero => rw [Nat.testBit_and, Nat.testBit_zero, Nat.testBit_zero]; simp
  | succ i => rw [Nat.testBit_and, Nat.testBit_succ, Nat.testBit_succ, show (2 * y + 1) / 2 = y by omega, show 2 * y / 2 = y by omega, Bool.and_self]
theorem bc_even (y : Nat) (h : 0 < y) : (2 * y) &&& (2 * y - 1) = 2 * (y &&& (y - 1)) := by
  apply Nat.eq_of_testBit_eq
  intro i
  cases i with
  | zero => rw [Nat.testBit_and, Nat.testBit_zero, Nat.testBit_zero]; simp
  | succ i => rw [Nat.testBit_and, Nat.testBit_succ, Nat.testBit_succ, Nat.testBit_succ, show (2 * y - 1) / 2 = y - 1 by omega, show 2 * y / 2 = y by omega, show 2 * (y &&& (y - 1)) / 2 = y &&& (y - 1) by omega, Nat.testBit_and]
theorem bc_step : ∀ (n x : Nat), 0 < x → x < 2 ^ n → bc n (x &&& (x - 1)) + 1 = bc n x
  | 0, x, h, h2 => by rw [Nat.pow_zero] at h2; omega
  | n + 1, x, h, h2 => by
    unfold bc
    rcases Nat.mod_two_eq_zero_or_one x with e | e
    · obtain ⟨y, rfl⟩ : ∃ y, x = 2 * y := ⟨x / 2, by omega⟩
      have ih := bc_step n y (by omega) (by rw [Nat.pow_succ] at h2; omega)
      rw [bc_even y (by omega), show 2 * (y &&& (y - 1)) % 2 = 0 by omega, show 2 * (y &&& (y - 1)) / 2 = y &&& (y - 1) by omega, show 2 * y % 2 = 0 by omega, show 2 * y / 2 = y by omega]
      omega
    · obtain ⟨y, rfl⟩ : ∃ y, x = 2 * y + 1 := ⟨x / 2, by omega⟩
      rw [show 2 * y + 1 - 1 = 2 * y by omega, bc_odd y, show 2 * y % 2 = 0 by omega, show 2 * y / 2 = y by omega, show (2 * y + 1) % 2 = 1 by omega, show (2 * y + 1) / 2 = y by omega]
      omega
theorem bc_lt {x : Nat} (h : 0 < x) : x &&& (x - 1) < x := by
  have := Nat.and_le_right (n := x) (m := x - 1)
  omega
theorem lw_manyZ (d c s x a : Nat) (W : xi_W) (r : xi_R → Prop) (k : r (some (.int (Int32.ofNat a)), W, c, s)) : xr d 177 4 [(3, .long (Int64.ofNat 0)), (2, .int (Int32.ofNat a)), (0, .long (Int64.ofNat x))] [] W c s r := by
  refine xr_stp (st' := [.long (Int64.ofNat 0)]) rfl rfl rfl rfl ?_
  refine xr_stp (st' := [.long (Int64.ofNat 0), .long (Int64.ofNat 0)]) rfl rfl rfl rfl ?_
  refine xs_lc (by decide) (by decide) rfl ?_
  refine xr_j1 rfl rfl rfl rfl rfl (fun h7 => ?_) (fun h7 => ?_)
  · refine xr_stp rfl rfl rfl rfl ?_
    exact xr_ret rfl rfl k
  · exact absurd rfl (lf_eq h7)
theorem lw_manyS (d c s x y a : Nat) (W : xi_W) (r : xi_R → Prop) (hy : y < 9223372036854775808) (h0 : y ≠ 0) (k : xr d 177 4 [(3, .long (Int64.ofNat (y &&& (y - 1)))), (2, .int (Int32.ofNat (a + 1))), (0, .long (Int64.ofNat x))] [] W c s r) : xr d 177 4 [(3, .long (Int64.ofNat y)), (2, .int (Int32.ofNat a)), (0, .long (Int64.ofNat x))] [] W c s r := by
  refine xr_stp (st' := [.long (Int64.ofNat y)]) rfl rfl rfl rfl ?_
  refine xr_stp (st' := [.long (Int64.ofNat 0), .long (Int64.ofNat y)]) rfl rfl rfl rfl ?_
  refine xs_lc (by omega) (by decide) rfl ?_
  refine xr_j1 rfl rfl rfl rfl rfl (fun h7 => ?_) (fun h7 => ?_)
  · exact absurd (lt_eq h7) h0
  · refine xs_inc (e := 1) rfl rfl rfl rfl ?_
    refine xr_stp rfl rfl rfl rfl ?_
    refine xr_stp rfl rfl rfl rfl ?_
    refine xr_stp (st' := .long (Int64.ofNat 1) :: _) rfl rfl rfl rfl ?_
    refine xs_lsub (by omega) rfl ?_
    refine xs_land rfl ?_
    refine xr_stp rfl rfl rfl rfl ?_
    exact xr_stp rfl rfl rfl rfl k
theorem lw_manyL (d c s x : Nat) (W : xi_W) (r : xi_R → Prop) (m : Nat) : ∀ (y a : Nat), y ≤ m → y < 9223372036854775808 → r (some (.int (Int32.ofNat (a + bc 63 y))), W, c, s) → xr d 177 4 [(3, .long (Int64.ofNat y)), (2, .int (Int32.ofNat a)), (0, .long (Int64.ofNat x))] [] W c s r := by
  induction m with
  | zero =>
    intro y a hm hy k
    have e : y = 0 := by omega
    subst e
    rw [bc0] at k
    exact lw_manyZ d c s x a W r k
  | succ m ih =>
    intro y a hm hy k
    by_cases e : y = 0
    · subst e
      rw [bc0] at k
      exact lw_manyZ d c s x a W r k
    · have b1 := bc_step 63 y (by omega) hy
      have b2 := bc_lt (x := y) (by omega)
      refine lw_manyS d c s x y a W r hy e (ih _ _ (by omega) (by omega) ?_)
      rw [show a + 1 + bc 63 (y &&& (y - 1)) = a + bc 63 y by omega]
      exact k
theorem lw_many (d c s x : Nat) (W : xi_W) (hx : x < 9223372036854775808) (r : xi_R → Prop) (k : r (some (.int (Int32.ofNat (bc 63 x))), W, c, s)) : xr d 177 0 [(0, .long (Int64.ofNat x))] [] W c s r := by
  refine xr_stp (st' := .int (Int32.ofNat 0) :: _) rfl rfl rfl rfl ?_
  refine xr_stp rfl rfl rfl rfl ?_
  refine xr_stp rfl rfl rfl rfl ?_
  refine xr_stp rfl rfl rfl rfl ?_
  exact lw_manyL d c s x W r x x 0 (Nat.le_refl _) hx (by rw [Nat.zero_add]; exact k)
theorem xr_retb {d i pc n : Nat} {l : xi_L} {w : xi_W} {c s : Nat} {r : xi_R → Prop} (hn : n < 2) (hc : xt_cd i pc = some .ireturn) (hr : xt_mr i = some .boolean) (k : r (some (.int (Int32.ofNat n)), w, c, s)) : xr d i pc l [.int (Int32.ofNat n)] w c s r := ⟨_, xg_retb hn hc hr, k⟩
theorem lw_bit (d c s x n : Nat) (W : xi_W) (hx : x < 9223372036854775808) (hn : n < 64) (r : xi_R → Prop) (k : r (some (.int (Int32.ofNat (x / 2 ^ n % 2))), W, c, s)) : xr d 178 0 [(0, .long (Int64.ofNat x)), (2, .int (Int32.ofNat n))] [] W c s r := by
  have hq : x / 2 ^ n < 9223372036854775808 := Nat.lt_of_le_of_lt (Nat.div_le_self _ _) hx
  have ha : x / 2 ^ n &&& 1 = x / 2 ^ n % 2 := by rw [show (1 : Nat) = 2 ^ 1 - 1 from rfl, Nat.and_two_pow_sub_one_eq_mod]
  refine xr_stp rfl rfl rfl rfl ?_
  refine xr_stp rfl rfl rfl rfl ?_
  refine xs_lshr (by omega) (by omega) rfl ?_
  refine xr_stp (st' := .long (Int64.ofNat 1) :: _) rfl rfl rfl rfl ?_
  refine xs_land rfl ?_
  refine xr_stp (st' := .long (Int64.ofNat 1) :: _) rfl rfl rfl rfl ?_
  refine xs_lc (by rw [ha]; omega) (by omega) rfl ?_
  refine xr_j1 rfl rfl rfl rfl rfl (fun h7 => ?_) (fun h7 => ?_)
  · have e7 := lt_ne h7
    rw [ha] at e7
    have e0 : x / 2 ^ n % 2 = 0 := by omega
    rw [e0] at k
    refine xr_stp (st' := .int (Int32.ofNat 0) :: _) rfl rfl rfl rfl ?_
    exact xr_retb (by omega) rfl rfl k
  · have e7 := lf_ne h7
    rw [ha] at e7
    rw [e7] at k
    refine xr_stp (st' := .int (Int32.ofNat 1) :: _) rfl rfl rfl rfl ?_
    refine xr_stp rfl rfl rfl rfl ?_
    exact xr_retb (by omega) rfl rfl k
/-- the join of two states told as bits -/
def lw_j (a ka b kb : Nat) : Nat := (a &&& b) ||| (a &&& (kb ^^^ 18446744073709551615)) ||| (b &&& (ka ^^^ 18446744073709551615))
theorem lw_joins (d c s a ka b kb : Nat) (W : xi_W) (r : xi_R → Prop) (k : r (some (.long (Int64.ofNat (lw_j a ka b kb))), W, c, s)) : xr d 180 0 [(0, .long (Int64.ofNat a)), (2, .long (Int64.ofNat ka)), (4, .long (Int64.ofNat b)), (6, .long (Int64.ofNat kb))] [] W c s r := by
  refine xr_stp rfl rfl rfl rfl ?_
  refine xr_stp rfl rfl rfl rfl ?_
  refine xs_land rfl ?_
  refine xr_stp rfl rfl rfl rfl ?_
  refine xr_stp rfl rfl rfl rfl ?_
  refine xr_stp (st' := .long (Int64.ofNat 18446744073709551615) :: _) rfl rfl rfl rfl ?_
  refine xs_lxor rfl ?_
  refine xs_land rfl ?_
  refine xs_lor rfl ?_
  refine xr_stp rfl rfl rfl rfl ?_
  refine xr_stp rfl rfl rfl rfl ?_
  refine xr_stp (st' := .long (Int64.ofNat 18446744073709551615) :: _) rfl rfl rfl rfl ?_
  refine xs_lxor rfl ?_
  refine xs_land rfl ?_
  refine xs_lor rfl ?_
  exact xr_ret rfl rfl k
def lw_dr (G : Nat → Nat) : Nat → Nat := xn_u G 1 ((773 * G 1 + 641) % 31139)
theorem lw_draw (d c s A : Nat) (W : xi_W) (G : Nat → Nat) (hw : W[A]? = some (lw_a 1804 G)) (hg : 17 ≤ A) (m : Nat) (h1 : G 1 < 1000000) (hm : 0 < m) (hm2 : m < 1000000) (r : xi_R → Prop) (k : ∀ W', W'[A]? = some (lw_a 1804 (lw_dr G)) → fr (· = A) W W' → r (some (.int (Int32.ofNat (G 1 % m))), W', c, s)) : xr d 183 0 [(0, .ref A), (1, .int (Int32.ofNat m))] [] W c s r := by
  have hF : fr (· = A) W W := fr.rf
  refine xr_stp rfl rfl rfl rfl ?_
  refine xr_stp (st' := .int (Int32.ofNat 1) :: _) rfl rfl rfl rfl ?_
  refine xs_ald hw hg (by omega) (by omega) rfl ?_
  refine xr_stp rfl rfl rfl rfl ?_
  refine xs_i2l (by omega) rfl ?_
  refine xs_lmod (by omega) (by omega) (by omega) rfl ?_
  refine xs_l2i rfl ?_
  refine xr_stp rfl rfl rfl rfl ?_
  refine xr_stp rfl rfl rfl rfl ?_
  refine xr_stp (st' := .int (Int32.ofNat 1) :: _) rfl rfl rfl rfl ?_
  refine xr_stp (st' := .long (Int64.ofNat 773) :: _) rfl rfl rfl rfl ?_
  refine xr_stp rfl rfl rfl rfl ?_
  refine xr_stp (st' := .int (Int32.ofNat 1) :: _) rfl rfl rfl rfl ?_
  refine xs_ald hw hg (by omega) (by omega) rfl ?_
  refine xs_lmul rfl ?_
  refine xr_stp (st' := .long (Int64.ofNat 641) :: _) rfl rfl rfl rfl ?_
  refine xs_ladd rfl ?_
  refine xr_stp (st' := .long (Int64.ofNat 31139) :: _) rfl rfl rfl rfl ?_
  refine xs_lmod (by omega) (by omega) (by omega) rfl ?_
  refine xs_astk hw hg (by omega) (by omega) rfl (fun W hw hf1 => ?_)
  have hF := hF.tr2 hf1 (fun _ e => Or.inl e)
  refine xr_stp rfl rfl rfl rfl ?_
  exact xr_ret rfl rfl (k _ hw hF)
def lw_be (G : Nat → Nat) (f t : Nat) : Nat := G (338 + f) - G (346 + 4 * f + t)
theorem lw_behind (d c s A : Nat) (W : xi_W) (G : Nat → Nat) (hw : W[A]? = some (lw_a 1804 G)) (hg : 17 ≤ A) (f t : Nat) (hf : f < 4) (ht : t < 4) (hle : G (346 + 4 * f + t) ≤ G (338 + f)) (r : xi_R → Prop) (k : r (some (.int (Int32.ofNat (lw_be G f t))), W, c, s)) : xr d 185 0 [(0, .ref A), (1, .int (Int32.ofNat f)), (2, .int (Int32.ofNat t))] [] W c s r := by
  refine xr_stp rfl rfl rfl rfl ?_
  refine xr_stp (st' := .int (Int32.ofNat 338) :: _) rfl rfl rfl rfl ?_
  refine xr_stp rfl rfl rfl rfl ?_
  refine xs_add rfl ?_
  refine xs_ald hw hg (by omega) (by omega) rfl ?_
  refine xr_stp rfl rfl rfl rfl ?_
  refine xr_stp (st' := .int (Int32.ofNat 346) :: _) rfl rfl rfl rfl ?_
  refine xr_stp (st' := .int (Int32.ofNat 4) :: _) rfl rfl rfl rfl ?_
  refine xr_stp rfl rfl rfl rfl ?_
  refine xs_mul rfl ?_
  refine xs_add rfl ?_
  refine xr_stp rfl rfl rfl rfl ?_
  refine xs_add rfl ?_
  refine xs_ald hw hg (by omega) (by omega) rfl ?_
  refine xs_lsub (by omega) rfl ?_
  refine xs_l2i rfl ?_
  exact xr_ret rfl rfl k
