/-! numbers below nought; the script's numbers; what the laws say -/
def lw_s (n : Nat) (f : Nat → Int32) : xi_O := .inl (.int, n, .inl f)
theorem ni_int {z : Int} (h1 : -2147483648 ≤ z) (h2 : z < 2147483648) : (Int32.ofInt z).toInt = z := Int32.toInt_ofInt_of_le (by omega) (by omega)
theorem xs_sub0 {d i pc a b : Nat} {l : xi_L} {st : List Value} {w : xi_W} {c s : Nat} {r : xi_R → Prop} (hc : xt_cd i pc = some .isub) (h : xr d i (pc + 1) l (.int (Int32.ofInt ((a : Int) - (b : Int))) :: st) w c s r) : xr d i pc l (.int (Int32.ofNat b) :: .int (Int32.ofNat a) :: st) w c s r :=
  xr_stp (st' := .int (Int32.ofNat a - Int32.ofNat b) :: st) hc rfl rfl (by simp only [xi_stp, xi_b2]; rfl) (by rw [← Int32.ofInt_eq_ofNat, ← Int32.ofInt_eq_ofNat, ← Int32.ofInt_sub]; exact h)
theorem xs_subn {d i pc b : Nat} {a : Int} {l : xi_L} {st : List Value} {w : xi_W} {c s : Nat} {r : xi_R → Prop} (hc : xt_cd i pc = some .isub) (h : xr d i (pc + 1) l (.int (Int32.ofInt (a - (b : Int))) :: st) w c s r) : xr d i pc l (.int (Int32.ofNat b) :: .int (Int32.ofInt a) :: st) w c s r :=
  xr_stp (st' := .int (Int32.ofInt a - Int32.ofNat b) :: st) hc rfl rfl (by simp only [xi_stp, xi_b2]; rfl) (by rw [← Int32.ofInt_eq_ofNat, ← Int32.ofInt_sub]; exact h)
theorem xs_addn {d i pc b : Nat} {a : Int} {l : xi_L} {st : List Value} {w : xi_W} {c s : Nat} {r : xi_R → Prop} (hc : xt_cd i pc = some .iadd) (h : xr d i (pc + 1) l (.int (Int32.ofInt (a + (b : Int))) :: st) w c s r) : xr d i pc l (.int (Int32.ofNat b) :: .int (Int32.ofInt a) :: st) w c s r :=
  xr_stp (st' := .int (Int32.ofInt a + Int32.ofNat b) :: st) hc rfl rfl (by simp only [xi_stp, xi_b2]; rfl) (by rw [← Int32.ofInt_eq_ofNat, ← Int32.ofInt_add]; exact h)
theorem xs_i2li {d i pc : Nat} {a : Int} {l : xi_L} {st : List Value} {w : xi_W} {c s : Nat} {r : xi_R → Prop} (h1 : -2147483648 ≤ a) (h2 : a < 2147483648) (hc : xt_cd i pc = some .i2l) (h : xr d i (pc + 1) l (.long (Int64.ofInt a) :: st) w c s r) : xr d i pc l (.int (Int32.ofInt a) :: st) w c s r :=
  xr_stp (st' := .long (Int32.ofInt a).toInt64 :: st) hc rfl rfl (by simp only [xi_stp, xi_u1]; rfl) (by rw [Int32.toInt64_ofInt (by rw [Int32.toInt_minValue]; omega) (by rw [Int32.toInt_maxValue]; omega)]; exact h)
theorem ni_le {off : Int} {z : Int} (h1 : -2147483648 ≤ z) (h2 : z < 2147483648) (h : xg_t1 (.ifCond .le off) (Int32.ofInt z) = true) : z ≤ 0 := by
  have h3 : Int32.ofInt z ≤ 0 := of_decide_eq_true h
  have h4 := Int32.le_iff_toInt_le.mp h3
  rw [ni_int h1 h2] at h4
  exact h4
theorem nif_le {off : Int} {z : Int} (h1 : -2147483648 ≤ z) (h2 : z < 2147483648) (h : xg_t1 (.ifCond .le off) (Int32.ofInt z) = false) : 0 < z := by
  rcases Int.lt_or_le 0 z with h3 | h3
  · exact h3
  · have h4 : Int32.ofInt z ≤ 0 := Int32.le_iff_toInt_le.mpr (by rw [ni_int h1 h2]; exact h3)
    exact absurd h4 (of_decide_eq_false h)
theorem xs_sln {d i pc a n : Nat} {f : Nat → Int32} {l : xi_L} {st : List Value} {w : xi_W} {c s : Nat} {r : xi_R → Prop} (hw : w[a]? = some (lw_s n f)) (hc : xt_cd i pc = some .arraylength) (h : xr d i (pc + 1) l (.int (Int32.ofNat n) :: st) w c s r) : xr d i pc l (.ref a :: st) w c s r :=
  xr_stp (st' := .int (Int32.ofNat n) :: st) hc rfl rfl (by simp only [xi_stp, hw, lw_s]) h
theorem xs_sld {d i pc a n j : Nat} {f : Nat → Int32} {l : xi_L} {st : List Value} {w : xi_W} {c s : Nat} {r : xi_R → Prop} (hw : w[a]? = some (lw_s n f)) (hj : j < n) (hn : n < 2147483648) (hc : xt_cd i pc = some .iaload) (h : xr d i (pc + 1) l (.int (f j) :: st) w c s r) : xr d i pc l (.int (Int32.ofNat j) :: .ref a :: st) w c s r :=
  xr_iaload hw hc (n_ix hj hn) rfl (by rw [n_nat (by omega)]; exact h)
/-- a number of the script -/
def lw_pk (n : Nat) (f : Nat → Int32) (k : Nat) : Nat := if n = 0 then 0 else (f (k % n) >>> (Int32.ofNat (k / n % 8) &&& 31) &&& Int32.ofNat 2147483647).toBitVec.toNat
theorem lw_pkb (n : Nat) (f : Nat → Int32) (k : Nat) : lw_pk n f k < 2147483648 := by
  unfold lw_pk
  split
  · omega
  · rw [Int32.toBitVec_and, BitVec.toNat_and]
    exact Nat.lt_of_le_of_lt Nat.and_le_right (by decide)
theorem lw_pke {n : Nat} (f : Nat → Int32) (k : Nat) (h : n ≠ 0) : Int32.ofNat (lw_pk n f k) = f (k % n) >>> (Int32.ofNat (k / n % 8) &&& 31) &&& Int32.ofNat 2147483647 := by
  unfold lw_pk
  rw [if_neg h]
  apply Int32.toBitVec_inj.mp
  show BitVec.ofNat 32 _ = _
  rw [BitVec.ofNat_toNat, BitVec.setWidth_eq]
def lw_dg (n : Nat) (f : Nat → Int32) (k : Nat) : Nat := 1 + lw_pk n f k % 9
theorem lw_dgb (n : Nat) (f : Nat → Int32) (k : Nat) : 1 ≤ lw_dg n f k ∧ lw_dg n f k ≤ 9 := by unfold lw_dg; omega
theorem lw_pick (d c s S n : Nat) (W : xi_W) (f : Nat → Int32) (hs : W[S]? = some (lw_s n f)) (hn : n < 2147483648) (k : Nat) (hk : k < 100000) (r : xi_R → Prop) (K : r (some (.int (Int32.ofNat (lw_pk n f k))), W, c, s)) : xr d 173 0 [(0, .ref S), (1, .int (Int32.ofNat k))] [] W c s r := by
  refine xr_stp rfl rfl rfl rfl ?_
  refine xs_sln hs rfl ?_
  refine xr_j1 rfl rfl rfl rfl rfl (fun h2 => ?_) (fun h2 => ?_)
  · have e2 := nt1_ne h2
    have m1 := Nat.mod_lt k (Nat.pos_of_ne_zero e2)
    have m2 := Nat.div_le_self k n
    rw [lw_pke f k e2] at K
    refine xr_stp rfl rfl rfl rfl ?_
    refine xr_stp rfl rfl rfl rfl ?_
    refine xr_stp rfl rfl rfl rfl ?_
    refine xs_sln hs rfl ?_
    refine xs_mod (by omega) (by omega) (by omega) rfl ?_
    refine xs_sld hs m1 hn rfl ?_
    refine xr_stp rfl rfl rfl rfl ?_
    refine xr_stp rfl rfl rfl rfl ?_
    refine xs_sln hs rfl ?_
    refine xs_div (by omega) (by omega) (by omega) rfl ?_
    refine xr_stp (st' := .int (Int32.ofNat 8) :: _) rfl rfl rfl rfl ?_
    refine xs_mod (by omega) (by omega) (by omega) rfl ?_
    refine xr_stp rfl rfl rfl rfl ?_
    refine xr_stp (st' := .int (Int32.ofNat 2147483647) :: _) rfl rfl rfl rfl ?_
    refine xr_stp rfl rfl rfl rfl ?_
    exact xr_ret rfl rfl K
  · have e2 := nf1_ne (by omega) h2
    refine xr_stp (st' := .int (Int32.ofNat 0) :: _) rfl rfl rfl rfl ?_
    refine xr_stp rfl rfl rfl rfl ?_
    unfold lw_pk at K
    rw [if_pos e2] at K
    exact xr_ret rfl rfl K
theorem lw_digit (d c s S n : Nat) (W : xi_W) (f : Nat → Int32) (hs : W[S]? = some (lw_s n f)) (hn : n < 2147483648) (k : Nat) (hk : k < 100000) (r : xi_R → Prop) (K : r (some (.int (Int32.ofNat (lw_dg n f k))), W, c, s)) : xr (d + 1) 174 0 [(0, .ref S), (1, .int (Int32.ofNat k))] [] W c s r := by
  have hpk := lw_pkb n f k
  refine xr_stp (st' := .int (Int32.ofNat 1) :: _) rfl rfl rfl rfl ?_
  refine xr_stp rfl rfl rfl rfl ?_
  refine xr_stp rfl rfl rfl rfl ?_
  refine xr_cps rfl rfl rfl (fun r1 K2 => lw_pick _ _ _ S n W f hs hn k hk r1 (K2 _ _ _ _ ?_))
  refine xr_stp (st' := .int (Int32.ofNat 9) :: _) rfl rfl rfl rfl ?_
  refine xs_mod (by omega) (by omega) (by omega) rfl ?_
  refine xs_add rfl ?_
  exact xr_ret rfl rfl K
theorem lw_heldN (d c s x n : Nat) (W : xi_W) (hx : x < 2147483648) (hn : n < 2147483648) (r : xi_R → Prop) (K : r (some (.long (Int64.ofNat (min x n))), W, c, s)) : xr d 179 0 [(0, .long (Int64.ofNat x)), (2, .int (Int32.ofNat n))] [] W c s r := by
  refine xr_stp rfl rfl rfl rfl ?_
  refine xr_stp (st' := .long (Int64.ofNat 0) :: _) rfl rfl rfl rfl ?_
  refine xs_lc (by omega) (by omega) rfl ?_
  refine xr_j1 rfl rfl rfl rfl rfl (fun h3 => ?_) (fun h3 => ?_)
  · refine xr_stp rfl rfl rfl rfl ?_
    refine xr_stp rfl rfl rfl rfl ?_
    refine xs_i2l (by omega) rfl ?_
    refine xs_lc (by omega) (by omega) rfl ?_
    refine xr_j1 rfl rfl rfl rfl rfl (fun h14 => ?_) (fun h14 => ?_)
    · have e14 := lt_le h14
      rw [show min x n = x by omega] at K
      refine xr_stp rfl rfl rfl rfl ?_
      exact xr_ret rfl rfl K
    · have e14 := lf_le h14
      rw [show min x n = n by omega] at K
      refine xr_stp rfl rfl rfl rfl ?_
      refine xs_i2l (by omega) rfl ?_
      refine xr_stp rfl rfl rfl rfl ?_
      exact xr_ret rfl rfl K
  · exact absurd (lf_ge h3) (by omega)
theorem lw_heldM (d c s n : Nat) (z : Int) (W : xi_W) (h1 : -2147483648 ≤ z) (h2 : z < 0) (r : xi_R → Prop) (K : r (some (.long (Int64.ofNat 0)), W, c, s)) : xr d 179 0 [(0, .long (Int64.ofInt z)), (2, .int (Int32.ofNat n))] [] W c s r := by
  have e : lg_cmp (Int64.ofInt z) (Int64.ofNat 0) = -1 := by
    have e0 : (Int64.ofInt z).toInt = z := Int64.toInt_ofInt_of_le (by omega) (by omega)
    have e1 : (Int64.ofNat 0).toInt = 0 := by decide
    unfold lg_cmp
    rw [if_neg, if_neg]
    · intro q
      rw [q] at e0
      omega
    · intro q
      have := Int64.lt_iff_toInt_lt.mp q
      omega
  refine xr_stp rfl rfl rfl rfl ?_
  refine xr_stp (st' := .long (Int64.ofNat 0) :: _) rfl rfl rfl rfl ?_
  refine xr_stp (st' := .int (lg_cmp (Int64.ofInt z) (Int64.ofNat 0)) :: []) rfl rfl rfl rfl ?_
  rw [e]
  refine xr_j1 rfl rfl rfl rfl rfl (fun h2 => absurd h2 (by decide +kernel)) (fun h2 => ?_)
  refine xr_stp (st' := .long (Int64.ofNat 0) :: _) rfl rfl rfl rfl ?_
  refine xr_stp rfl rfl rfl rfl ?_
  exact xr_ret rfl rfl K
/-- how many of ten are lost, by a text -/
def lw_lz (n : Nat) (f : Nat → Int32) (G : Nat → Nat) (a b : Nat) : Int := (lw_dg n f 0 : Int) - ((b / lw_dg n f 1 : Nat) : Int) + ((if a = 0 then 0 else lw_dg n f 2 / 4 : Nat) : Int) - ((bc 63 (G 332) / lw_dg n f 3 : Nat) : Int)
def lw_lo (n : Nat) (f : Nat → Int32) (G : Nat → Nat) (q a b : Nat) : Nat := if q = 0 then 3 else min (lw_lz n f G a b).toNat 10
theorem lw_losesT (d c s S n A : Nat) (W : xi_W) (f : Nat → Int32) (hs : W[S]? = some (lw_s n f)) (hn : n < 2147483648) (z : Int) (h1 : -1000 ≤ z) (h2 : z < 1000) (L : xi_L) (r : xi_R → Prop) (K : r (some (.int (Int32.ofNat (min z.toNat 10))), W, c, s)) : xr (d + 2) 181 49 L [.int (Int32.ofInt z)] W c s r := by
  refine xs_i2li (by omega) (by omega) rfl ?_
  refine xr_stp (st' := .int (Int32.ofNat 10) :: _) rfl rfl rfl rfl ?_
  rcases Int.lt_or_le z 0 with hz | hz
  · refine xr_cps rfl rfl rfl (fun r1 K2 => lw_heldM _ _ _ 10 z W (by omega) hz r1 (K2 _ _ _ _ ?_))
    refine xs_l2i rfl ?_
    refine xr_stp rfl rfl rfl rfl ?_
    rw [show min z.toNat 10 = 0 by omega] at K
    exact xr_ret rfl rfl K
  · obtain ⟨x, rfl⟩ : ∃ x : Nat, z = (x : Int) := ⟨z.toNat, by omega⟩
    rw [Int64.ofInt_eq_ofNat]
    refine xr_cps rfl rfl rfl (fun r1 K2 => lw_heldN _ _ _ x 10 W (by omega) (by omega) r1 (K2 _ _ _ _ ?_))
    refine xs_l2i rfl ?_
    refine xr_stp rfl rfl rfl rfl ?_
    rw [show (x : Int).toNat = x by omega] at K
    exact xr_ret rfl rfl K
theorem lw_loses (d c s S n A : Nat) (W : xi_W) (f : Nat → Int32) (hs : W[S]? = some (lw_s n f)) (hn : n < 2147483648) (G : Nat → Nat) (hw : W[A]? = some (lw_a 1804 G)) (hg : 17 ≤ A) (hG : G 332 < 9223372036854775808) (q a b : Nat) (hq : q < 2) (ha : a < 2) (hb : b < 64) (r : xi_R → Prop) (K : r (some (.int (Int32.ofNat (lw_lo n f G q a b))), W, c, s)) : xr (d + 2) 181 0 [(0, .ref S), (1, .ref A), (2, .int (Int32.ofNat q)), (3, .int (Int32.ofNat a)), (4, .int (Int32.ofNat b))] [] W c s r := by
  have d0 := lw_dgb n f 0
  have d1 := lw_dgb n f 1
  have d2 := lw_dgb n f 2
  have d3 := lw_dgb n f 3
  have b1 := Nat.div_le_self b (lw_dg n f 1)
  have b3 := Nat.div_le_self (bc 63 (G 332)) (lw_dg n f 3)
  have b4 := bcle 63 (G 332)
  have p1 := Int.natCast_nonneg (b / lw_dg n f 1)
  have p3 := Int.natCast_nonneg (bc 63 (G 332) / lw_dg n f 3)
  unfold lw_lo at K
  refine xr_stp rfl rfl rfl rfl ?_
  refine xr_j1 rfl rfl rfl rfl rfl (fun h1 => ?_) (fun h1 => ?_)
  · have e1 := nt1_eq (by omega) h1
    rw [if_pos e1] at K
    refine xr_stp (st' := .int (Int32.ofNat 3) :: _) rfl rfl rfl rfl ?_
    exact xr_ret rfl rfl K
  · have e1 := nf1_eq h1
    rw [if_neg e1] at K
    unfold lw_lz at K
    refine xr_stp rfl rfl rfl rfl ?_
    refine xr_stp (st' := .int (Int32.ofNat 0) :: _) rfl rfl rfl rfl ?_
    refine xr_cps rfl rfl rfl (fun r1 K2 => lw_digit _ _ _ S n W f hs hn 0 (by omega) r1 (K2 _ _ _ _ ?_))
    refine xr_stp rfl rfl rfl rfl ?_
    refine xr_stp rfl rfl rfl rfl ?_
    refine xr_stp (st' := .int (Int32.ofNat 1) :: _) rfl rfl rfl rfl ?_
    refine xr_cps rfl rfl rfl (fun r1 K2 => lw_digit _ _ _ S n W f hs hn 1 (by omega) r1 (K2 _ _ _ _ ?_))
    refine xs_div (by omega) (by omega) (by omega) rfl ?_
    refine xs_sub0 rfl ?_
    refine xr_stp rfl rfl rfl rfl ?_
    refine xr_j1 rfl rfl rfl rfl rfl (fun h19 => ?_) (fun h19 => ?_)
    · have e19 := nt1_eq (by omega) h19
      rw [if_pos e19] at K
      refine xr_stp (st' := .int (Int32.ofNat 0) :: _) rfl rfl rfl rfl ?_
      refine xs_addn rfl ?_
      refine xr_stp rfl rfl rfl rfl ?_
      refine xr_stp (st' := .int (Int32.ofNat 332) :: _) rfl rfl rfl rfl ?_
      refine xs_ald hw hg (by omega) (by omega) rfl ?_
      refine xr_cps rfl rfl rfl (fun r1 K2 => lw_many _ _ _ _ W hG r1 (K2 _ _ _ _ ?_))
      refine xr_stp rfl rfl rfl rfl ?_
      refine xr_stp (st' := .int (Int32.ofNat 3) :: _) rfl rfl rfl rfl ?_
      refine xr_cps rfl rfl rfl (fun r1 K2 => lw_digit _ _ _ S n W f hs hn 3 (by omega) r1 (K2 _ _ _ _ ?_))
      refine xs_div (by omega) (by omega) (by omega) rfl ?_
      refine xs_subn rfl ?_
      exact lw_losesT d c s S n A W f hs hn _ (by omega) (by omega) _ r K
    · have e19 := nf1_eq h19
      rw [if_neg e19] at K
      refine xr_stp rfl rfl rfl rfl ?_
      refine xr_stp (st' := .int (Int32.ofNat 2) :: _) rfl rfl rfl rfl ?_
      refine xr_cps rfl rfl rfl (fun r1 K2 => lw_digit _ _ _ S n W f hs hn 2 (by omega) r1 (K2 _ _ _ _ ?_))
      refine xr_stp (st' := .int (Int32.ofNat 4) :: _) rfl rfl rfl rfl ?_
      refine xs_div (by omega) (by omega) (by omega) rfl ?_
      refine xr_stp rfl rfl rfl rfl ?_
      refine xs_addn rfl ?_
      refine xr_stp rfl rfl rfl rfl ?_
      refine xr_stp (st' := .int (Int32.ofNat 332) :: _) rfl rfl rfl rfl ?_
      refine xs_ald hw hg (by omega) (by omega) rfl ?_
      refine xr_cps rfl rfl rfl (fun r1 K2 => lw_many _ _ _ _ W hG r1 (K2 _ _ _ _ ?_))
      refine xr_stp rfl rfl rfl rfl ?_
      refine xr_stp (st' := .int (Int32.ofNat 3) :: _) rfl rfl rfl rfl ?_
      refine xr_cps rfl rfl rfl (fun r1 K2 => lw_digit _ _ _ S n W f hs hn 3 (by omega) r1 (K2 _ _ _ _ ?_))
      refine xs_div (by omega) (by omega) (by omega) rfl ?_
      refine xs_subn rfl ?_
      exact lw_losesT d c s S n A W f hs hn _ (by omega) (by omega) _ r K
def lw_sz (n : Nat) (f : Nat → Int32) (G : Nat → Nat) (t u b : Nat) : Int := ((b * lw_dg n f 4 : Nat) : Int) - (t : Int) - ((u / lw_dg n f 5 : Nat) : Int) + ((bc 63 (G 331) / lw_dg n f 6 : Nat) : Int) - (lw_dg n f 7 : Int)
/-- who speaks, by a text -/
def lw_sp (n : Nat) (f : Nat → Int32) (G : Nat → Nat) (q t u b : Nat) : Nat := if q = 0 then 0 else if lw_sz n f G t u b ≤ 0 then 0 else 1
theorem lw_speaks (d c s S n A : Nat) (W : xi_W) (f : Nat → Int32) (hs : W[S]? = some (lw_s n f)) (hn : n < 2147483648) (G : Nat → Nat) (hw : W[A]? = some (lw_a 1804 G)) (hg : 17 ≤ A) (hG : G 331 < 9223372036854775808) (q t u b : Nat) (hq : q < 2) (ht : t < 4) (hu : u < 4) (hb : b < 1000000) (r : xi_R → Prop) (K : r (some (.int (Int32.ofNat (lw_sp n f G q t u b))), W, c, s)) : xr (d + 2) 182 0 [(0, .ref S), (1, .ref A), (2, .int (Int32.ofNat q)), (3, .int (Int32.ofNat t)), (4, .int (Int32.ofNat u)), (5, .int (Int32.ofNat b))] [] W c s r := by
  have d4 := lw_dgb n f 4
  have d5 := lw_dgb n f 5
  have d6 := lw_dgb n f 6
  have d7 := lw_dgb n f 7
  have m4 : b * lw_dg n f 4 ≤ b * 9 := Nat.mul_le_mul_left _ d4.2
  have b1 := Nat.div_le_self u (lw_dg n f 5)
  have b3 := Nat.div_le_self (bc 63 (G 331)) (lw_dg n f 6)
  have b4 := bcle 63 (G 331)
  have p1 := Int.natCast_nonneg (u / lw_dg n f 5)
  have p3 := Int.natCast_nonneg (bc 63 (G 331) / lw_dg n f 6)
  unfold lw_sp at K
  refine xr_stp rfl rfl rfl rfl ?_
  refine xr_j1 rfl rfl rfl rfl rfl (fun h1 => ?_) (fun h1 => ?_)
  · have e1 := nt1_eq (by omega) h1
    rw [if_pos e1] at K
    refine xr_stp (st' := .int (Int32.ofNat 0) :: _) rfl rfl rfl rfl ?_
    exact xr_retb (by omega) rfl rfl K
  · have e1 := nf1_eq h1
    rw [if_neg e1] at K
    unfold lw_sz at K
    refine xr_stp rfl rfl rfl rfl ?_
    refine xr_stp rfl rfl rfl rfl ?_
    refine xr_stp (st' := .int (Int32.ofNat 4) :: _) rfl rfl rfl rfl ?_
    refine xr_cps rfl rfl rfl (fun r1 K2 => lw_digit _ _ _ S n W f hs hn 4 (by omega) r1 (K2 _ _ _ _ ?_))
    refine xs_mul rfl ?_
    refine xr_stp rfl rfl rfl rfl ?_
    refine xs_sub0 rfl ?_
    refine xr_stp rfl rfl rfl rfl ?_
    refine xr_stp rfl rfl rfl rfl ?_
    refine xr_stp (st' := .int (Int32.ofNat 5) :: _) rfl rfl rfl rfl ?_
    refine xr_cps rfl rfl rfl (fun r1 K2 => lw_digit _ _ _ S n W f hs hn 5 (by omega) r1 (K2 _ _ _ _ ?_))
    refine xs_div (by omega) (by omega) (by omega) rfl ?_
    refine xs_subn rfl ?_
    refine xr_stp rfl rfl rfl rfl ?_
    refine xr_stp (st' := .int (Int32.ofNat 331) :: _) rfl rfl rfl rfl ?_
    refine xs_ald hw hg (by omega) (by omega) rfl ?_
    refine xr_cps rfl rfl rfl (fun r1 K2 => lw_many _ _ _ _ W hG r1 (K2 _ _ _ _ ?_))
    refine xr_stp rfl rfl rfl rfl ?_
    refine xr_stp (st' := .int (Int32.ofNat 6) :: _) rfl rfl rfl rfl ?_
    refine xr_cps rfl rfl rfl (fun r1 K2 => lw_digit _ _ _ S n W f hs hn 6 (by omega) r1 (K2 _ _ _ _ ?_))
    refine xs_div (by omega) (by omega) (by omega) rfl ?_
    refine xs_addn rfl ?_
    refine xr_stp rfl rfl rfl rfl ?_
    refine xr_stp (st' := .int (Int32.ofNat 7) :: _) rfl rfl rfl rfl ?_
    refine xr_cps rfl rfl rfl (fun r1 K2 => lw_digit _ _ _ S n W f hs hn 7 (by omega) r1 (K2 _ _ _ _ ?_))
    refine xs_subn rfl ?_
    refine xr_j1 rfl rfl rfl rfl rfl (fun h46 => ?_) (fun h46 => ?_)
    · have e46 := ni_le (by omega) (by omega) h46
      rw [if_pos e46] at K
      refine xr_stp (st' := .int (Int32.ofNat 0) :: _) rfl rfl rfl rfl ?_
      exact xr_retb (by omega) rfl rfl K
    · have e46 := nif_le (by omega) (by omega) h46
      rw [if_neg (by omega)] at K
      refine xr_stp (st' := .int (Int32.ofNat 1) :: _) rfl rfl rfl rfl ?_
      refine xr_stp rfl rfl rfl rfl ?_
      exact xr_retb (by omega) rfl rfl K
