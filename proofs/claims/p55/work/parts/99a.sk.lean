/-! Strings that are constants: their length, their characters -/
def kc (W : xi_W) : Prop := ∀ i, i < 8 → W[i]? = some (.inr (7, [.ref (8 + i), .int 0])) ∧ W[8 + i]? = some (.inl (.byte, xt_sl.getD i 0, .inl (fun j => (xt_sb.getD i []).getD j 0)))
theorem kc.keep {P : Nat → Prop} {W W' : xi_W} (h : kc W) (hf : fr P W W') (hp : ∀ i, i < 17 → ¬ P i) : kc W' := fun i hi => ⟨hf.at (h i hi).1 (hp _ (by omega)), hf.at (h i hi).2 (hp _ (by omega))⟩
def kb (k i : Nat) : Nat := ((xt_sb.getD k []).getD i 0).toNatClampNeg
theorem kbE : ∀ k, k < 8 → ∀ i, i < xt_sl.getD k 0 → (xt_sb.getD k []).getD i 0 = Int32.ofNat (kb k i) ∧ kb k i < 128 := by decide +kernel
theorem klE : ∀ k, k < 8 → xt_sl.getD k 0 < 200 := by decide +kernel
theorem n_i2b : ∀ a, a < 128 → (Int32.ofNat a).toInt8.toInt32 = Int32.ofNat a := by decide +kernel
theorem n_i2c : ∀ a, a < 128 → ((Int32.ofNat a).toUInt32 % 65536).toInt32 = Int32.ofNat a := by decide +kernel
theorem n_chr : ∀ a, a < 128 → narrow .char (.int (Int32.ofNat a)) = .int (Int32.ofNat a) := by decide +kernel
theorem and255 {a : Nat} (h : a < 128) : a &&& 255 = a := by
  rw [show (255 : Nat) = 2 ^ 8 - 1 from rfl, Nat.and_two_pow_sub_one_eq_mod]
  omega
theorem xs_i2b {d i pc a : Nat} {l : xi_L} {st : List Value} {w : xi_W} {c s : Nat} {r : xi_R → Prop} (ha : a < 128) (hc : xt_cd i pc = some .i2b) (h : xr d i (pc + 1) l (.int (Int32.ofNat a) :: st) w c s r) : xr d i pc l (.int (Int32.ofNat a) :: st) w c s r :=
  xr_stp hc rfl rfl (by simp only [xi_stp, xi_u1, n_i2b a ha]) h
theorem xs_i2c {d i pc a : Nat} {l : xi_L} {st : List Value} {w : xi_W} {c s : Nat} {r : xi_R → Prop} (ha : a < 128) (hc : xt_cd i pc = some .i2c) (h : xr d i (pc + 1) l (.int (Int32.ofNat a) :: st) w c s r) : xr d i pc l (.int (Int32.ofNat a) :: st) w c s r :=
  xr_stp hc rfl rfl (by simp only [xi_stp, xi_u1, n_i2c a ha]) h
theorem xr_retc {d i pc n : Nat} {l : xi_L} {w : xi_W} {c s : Nat} {r : xi_R → Prop} (hn : n < 128) (hc : xt_cd i pc = some .ireturn) (hr : xt_mr i = some .char) (k : r (some (.int (Int32.ofNat n)), w, c, s)) : xr d i pc l [.int (Int32.ofNat n)] w c s r :=
  xr_ret hc (by simp only [xi_end, hr, n_chr n hn, decide_true, cond_true]) k
def lw_b (n : Nat) (G : Nat → Nat) : xi_O := .inl (.byte, n, .inl (xn_f G))
theorem xr_baload {d i pc a n : Nat} {l : xi_L} {st : List Value} {w : xi_W} {c s : Nat} {r : xi_R → Prop} {j : Int32} {f : Nat → Int32} (hw : w[a]? = some (.inl (.byte, n, .inl f))) (hc : xt_cd i pc = some .baload) (hj : xi_ix j n = true) (h : xr d i (pc + 1) l (.int (f j.toNatClampNeg) :: st) w c s r) : xr d i pc l (.int j :: .ref a :: st) w c s r :=
  xr_stp hc rfl rfl (by simp only [xi_stp, hw, hj, xi_isa, Bool.and_true, cond_true]) h
theorem xs_bld {d i pc a n j : Nat} {l : xi_L} {st : List Value} {w : xi_W} {c s : Nat} {r : xi_R → Prop} {F : Nat → Nat} (hw : w[a]? = some (lw_b n F)) (hj : j < n) (hn : n < 2147483648) (hc : xt_cd i pc = some .baload) (h : xr d i (pc + 1) l (.int (Int32.ofNat (F j)) :: st) w c s r) : xr d i pc l (.int (Int32.ofNat j) :: .ref a :: st) w c s r :=
  xr_baload hw hc (n_ix hj hn) (by rw [n_nat (by omega)]; exact h)
theorem xs_kld {d i pc k j : Nat} {l : xi_L} {st : List Value} {w : xi_W} {c s : Nat} {r : xi_R → Prop} (hw : kc w) (hk : k < 8) (hj : j < xt_sl.getD k 0) (hc : xt_cd i pc = some .baload) (h : xr d i (pc + 1) l (.int (Int32.ofNat (kb k j)) :: st) w c s r) : xr d i pc l (.int (Int32.ofNat j) :: .ref (8 + k) :: st) w c s r := by
  have hl := klE k hk
  refine xr_baload (hw k hk).2 hc (n_ix hj (by omega)) ?_
  rw [n_nat (by omega), (kbE k hk j hj).1]
  exact h
theorem xs_kln {d i pc k : Nat} {l : xi_L} {st : List Value} {w : xi_W} {c s : Nat} {r : xi_R → Prop} (hw : kc w) (hk : k < 8) (hc : xt_cd i pc = some .arraylength) (h : xr d i (pc + 1) l (.int (Int32.ofNat (xt_sl.getD k 0)) :: st) w c s r) : xr d i pc l (.ref (8 + k) :: st) w c s r :=
  xr_stp hc rfl rfl (by simp only [xi_stp, (hw k hk).2]) h
theorem sc_lat (d c s : Nat) (k : Nat) (W : xi_W) (h : kc W) (hk : k < 8) (r : xi_R → Prop) (K : r (some (.int (Int32.ofNat 1)), W, c, s)) : xr d 162 0 [(0, .ref k)] [] W c s r := by
  refine xr_stp rfl rfl rfl rfl ?_
  refine xr_j1 rfl rfl rfl rfl rfl (fun h3 => ?_) (fun h3 => ?_)
  · exact absurd h3 (by decide +kernel)
  · refine xr_stp rfl rfl rfl rfl ?_
    refine xr_getfield (h k hk).1 rfl rfl rfl rfl ?_
    refine xr_j1 rfl rfl rfl rfl rfl (fun h10 => ?_) (fun h10 => ?_)
    · exact absurd h10 (by decide +kernel)
    · refine xr_stp (st' := .int (Int32.ofNat 1) :: _) rfl rfl rfl rfl ?_
      refine xr_stp rfl rfl rfl rfl ?_
      exact xr_retb (by omega) rfl rfl K
theorem sc_cod (d c s : Nat) (k : Nat) (W : xi_W) (h : kc W) (hk : k < 8) (r : xi_R → Prop) (K : r (some (.int (Int32.ofNat 0)), W, c, s)) : xr d 161 0 [(0, .ref k)] [] W c s r := by
  refine xr_stp rfl rfl rfl rfl ?_
  refine xr_j1 rfl rfl rfl rfl rfl (fun h3 => ?_) (fun h3 => ?_)
  · exact absurd h3 (by decide +kernel)
  · refine xr_stp rfl rfl rfl rfl ?_
    refine xr_getfield (h k hk).1 rfl rfl rfl rfl ?_
    refine xr_stp rfl rfl rfl rfl ?_
    exact xr_ret rfl rfl K
theorem sc_len (d c s : Nat) (k : Nat) (W : xi_W) (h : kc W) (hk : k < 8) (r : xi_R → Prop) (K : r (some (.int (Int32.ofNat (xt_sl.getD k 0))), W, c, s)) : xr (d + 1) 157 0 [(0, .ref k)] [] W c s r := by
  have hl := klE k hk
  refine xr_stp rfl rfl rfl rfl ?_
  refine xr_getfield (h k hk).1 rfl rfl rfl rfl ?_
  refine xs_kln h hk rfl ?_
  refine xr_stp rfl rfl rfl rfl ?_
  refine xr_vcps (h k hk).1 rfl rfl rfl rfl rfl rfl (fun r1 K2 => sc_cod _ _ _ k W h hk r1 (K2 _ _ _ _ ?_))
  refine xs_shr (by omega) (by omega) rfl ?_
  rw [show xt_sl.getD k 0 / 2 ^ 0 = xt_sl.getD k 0 from Nat.div_one _]
  exact xr_ret rfl rfl K
theorem sc_pre (d c s i n : Nat) (v : Value) (W : xi_W) (hi : i < n) (hn : n < 2147483648) (r : xi_R → Prop) (K : r (some (.int (Int32.ofNat i)), W, c, s)) : xr d 172 0 [(0, .int (Int32.ofNat i)), (1, .int (Int32.ofNat n)), (2, v)] [] W c s r := by
  refine xr_stp rfl rfl rfl rfl ?_
  refine xr_j1 rfl rfl rfl rfl rfl (fun h1 => ?_) (fun h1 => ?_)
  · have z1 := n_lt0 h1
    exact (by omega)
  · refine xr_stp rfl rfl rfl rfl ?_
    refine xr_stp rfl rfl rfl rfl ?_
    refine xr_j2 rfl rfl rfl rfl rfl (fun h6 => ?_) (fun h6 => ?_)
    · refine xr_stp rfl rfl rfl rfl ?_
      exact xr_ret rfl rfl K
    · have z6 := nf_lt (by omega) (by omega) h6
      exact (by omega)
theorem sc_chk (d c s i n : Nat) (W : xi_W) (hi : i < n) (hn : n < 2147483648) (r : xi_R → Prop) (K : r (none, W, c, s)) : xr (d + 1) 163 0 [(0, .int (Int32.ofNat i)), (1, .int (Int32.ofNat n))] [] W c s r := by
  refine xr_stp rfl rfl rfl rfl ?_
  refine xr_stp rfl rfl rfl rfl ?_
  refine xr_stp rfl rfl rfl rfl ?_
  refine xr_cps rfl rfl rfl (fun r1 K2 => sc_pre _ _ _ i n _ W hi hn r1 (K2 _ _ _ _ ?_))
  refine xr_stp rfl rfl rfl rfl ?_
  exact xr_ret rfl rfl K
theorem sc_at1 (d c s i : Nat) (k : Nat) (W : xi_W) (h : kc W) (hk : k < 8) (hi : i < xt_sl.getD k 0) (r : xi_R → Prop) (K : r (some (.int (Int32.ofNat (kb k i))), W, c, s)) : xr (d + 2) 164 0 [(0, .ref (8 + k)), (1, .int (Int32.ofNat i))] [] W c s r := by
  have hl := klE k hk
  have hb := (kbE k hk i hi).2
  refine xr_stp rfl rfl rfl rfl ?_
  refine xr_stp rfl rfl rfl rfl ?_
  refine xs_kln h hk rfl ?_
  refine xr_cps rfl rfl rfl (fun r1 K2 => sc_chk _ _ _ i _ W hi (by omega) r1 (K2 _ _ _ _ ?_))
  refine xr_stp rfl rfl rfl rfl ?_
  refine xr_stp rfl rfl rfl rfl ?_
  refine xs_kld h hk hi rfl ?_
  refine xr_stp (st' := .int (Int32.ofNat 255) :: _) rfl rfl rfl rfl ?_
  refine xs_and rfl ?_
  rw [and255 hb]
  refine xs_i2c (by omega) rfl ?_
  exact xr_retc hb rfl rfl K
theorem sc_at (d c s i : Nat) (k : Nat) (W : xi_W) (h : kc W) (hk : k < 8) (hi : i < xt_sl.getD k 0) (r : xi_R → Prop) (K : r (some (.int (Int32.ofNat (kb k i))), W, c, s)) : xr (d + 3) 158 0 [(0, .ref k), (1, .int (Int32.ofNat i))] [] W c s r := by
  have hb := (kbE k hk i hi).2
  refine xr_stp rfl rfl rfl rfl ?_
  refine xr_vcps (h k hk).1 rfl rfl rfl rfl rfl rfl (fun r1 K2 => sc_lat _ _ _ k W h hk r1 (K2 _ _ _ _ ?_))
  refine xr_j1 rfl rfl rfl rfl rfl (fun h4 => ?_) (fun h4 => ?_)
  · exact absurd h4 (by decide +kernel)
  · refine xr_stp rfl rfl rfl rfl ?_
    refine xr_getfield (h k hk).1 rfl rfl rfl rfl ?_
    refine xr_stp rfl rfl rfl rfl ?_
    refine xr_cps rfl rfl rfl (fun r1 K2 => sc_at1 _ _ _ i k W h hk hi r1 (K2 _ _ _ _ ?_))
    exact xr_retc hb rfl rfl K
theorem sg_lp (d c s cc x : Nat) (W : xi_W) (h : kc W) (hc : cc < 128) (e2 : Int32) (hx : x < 11) (hx1 : kb 1 x = cc) (r : xi_R → Prop) (K : r (some (.int (Int32.ofNat x)), W, c, s)) : ∀ (m i : Nat), i + m = x → (∀ j, i ≤ j → j < x → kb 1 j ≠ cc) → xr d 167 7 [(0, .ref 9), (1, .int (Int32.ofNat cc)), (2, .int e2), (3, .int (Int32.ofNat 11)), (4, .int (Int32.ofNat cc)), (5, .int (Int32.ofNat i))] [] W c s r
  | 0, i, hi, hn => by
    obtain rfl : i = x := by omega
    refine xr_stp rfl rfl rfl rfl ?_
    refine xr_stp rfl rfl rfl rfl ?_
    refine xr_j2 rfl rfl rfl rfl rfl (fun h10 => ?_) (fun h10 => ?_)
    · have z10 := nt_ge (by omega) (by omega) h10
      exact (by omega)
    · refine xr_stp rfl rfl rfl rfl ?_
      refine xr_stp rfl rfl rfl rfl ?_
      refine xs_kld h (k := 1) (by omega) (show i < 11 by omega) rfl ?_
      refine xr_stp rfl rfl rfl rfl ?_
      refine xr_j2 rfl rfl rfl rfl rfl (fun h19 => ?_) (fun h19 => ?_)
      · have z19 := nt_ne h19
        exact (by omega)
      · refine xr_stp rfl rfl rfl rfl ?_
        exact xr_ret rfl rfl K
  | m + 1, i, hi, hn => by
    have hb := (kbE 1 (by omega) i (show i < 11 by omega)).2
    have hne := hn i (Nat.le_refl _) (by omega)
    refine xr_stp rfl rfl rfl rfl ?_
    refine xr_stp rfl rfl rfl rfl ?_
    refine xr_j2 rfl rfl rfl rfl rfl (fun h10 => ?_) (fun h10 => ?_)
    · have z10 := nt_ge (by omega) (by omega) h10
      exact (by omega)
    · refine xr_stp rfl rfl rfl rfl ?_
      refine xr_stp rfl rfl rfl rfl ?_
      refine xs_kld h (k := 1) (by omega) (show i < 11 by omega) rfl ?_
      refine xr_stp rfl rfl rfl rfl ?_
      refine xr_j2 rfl rfl rfl rfl rfl (fun h19 => ?_) (fun h19 => ?_)
      · refine xs_inc (e := 1) rfl rfl rfl rfl ?_
        refine xr_stp rfl rfl rfl rfl ?_
        refine xr_loc [(0, .ref 9), (1, .int (Int32.ofNat cc)), (2, .int e2), (3, .int (Int32.ofNat 11)), (4, .int (Int32.ofNat cc)), (5, .int (Int32.ofNat (i + 1)))] ⟨rfl, rfl, rfl, rfl, rfl, rfl, trivial⟩ rfl ?_
        exact sg_lp d c s cc x W h hc e2 hx hx1 r K m (i + 1) (by omega) (fun j h1 h2 => hn j (by omega) h2)
      · have z19 := nf_ne (by omega) (by omega) h19
        exact (by omega)
theorem sg_ix (d c s : Nat) (cc x : Nat) (W : xi_W) (h : kc W) (hc : cc < 128) (hx : x < 11) (hx1 : kb 1 x = cc) (hx2 : ∀ j, j < x → kb 1 j ≠ cc) (r : xi_R → Prop) (K : r (some (.int (Int32.ofNat x)), W, c, s)) : xr d 167 0 [(0, .ref 9), (1, .int (Int32.ofNat cc)), (2, .int (Int32.ofNat 0)), (3, .int (Int32.ofNat 11))] [] W c s r := by
  refine xr_stp rfl rfl rfl rfl ?_
  refine xs_i2b (by omega) rfl ?_
  refine xr_stp rfl rfl rfl rfl ?_
  refine xr_stp rfl rfl rfl rfl ?_
  refine xr_stp rfl rfl rfl rfl ?_
  refine xr_loc [(0, .ref 9), (1, .int (Int32.ofNat cc)), (2, .int (Int32.ofNat 0)), (3, .int (Int32.ofNat 11)), (4, .int (Int32.ofNat cc)), (5, .int (Int32.ofNat 0))] ⟨rfl, rfl, rfl, rfl, rfl, rfl, trivial⟩ rfl ?_
  exact sg_lp d c s cc x W h hc _ hx hx1 r K x 0 (Nat.zero_add _) (fun j _ h2 => hx2 j h2)
theorem sg_enc (d c s cc : Nat) (W : xi_W) (hc : cc < 128) (r : xi_R → Prop) (K : r (some (.int (Int32.ofNat 1)), W, c, s)) : xr d 165 0 [(0, .int (Int32.ofNat cc))] [] W c s r := by
  refine xr_stp rfl rfl rfl rfl ?_
  refine xr_j1 rfl rfl rfl rfl rfl (fun h1 => ?_) (fun h1 => ?_)
  · have z1 := n_lt0 h1
    exact (by omega)
  · refine xr_stp rfl rfl rfl rfl ?_
    refine xr_stp (st' := .int (Int32.ofNat 255) :: _) rfl rfl rfl rfl ?_
    refine xr_j2 rfl rfl rfl rfl rfl (fun h8 => ?_) (fun h8 => ?_)
    · have z8 := nt_gt (by omega) (by omega) h8
      exact (by omega)
    · refine xr_stp (st' := .int (Int32.ofNat 1) :: _) rfl rfl rfl rfl ?_
      refine xr_stp rfl rfl rfl rfl ?_
      exact xr_retb (by omega) rfl rfl K
theorem sg_i4 (d c s : Nat) (cc x : Nat) (W : xi_W) (h : kc W) (hc : cc < 128) (hx : x < 11) (hx1 : kb 1 x = cc) (hx2 : ∀ j, j < x → kb 1 j ≠ cc) (r : xi_R → Prop) (K : r (some (.int (Int32.ofNat x)), W, c, s)) : xr (d + 1) 166 0 [(0, .ref 9), (1, .int (Int32.ofNat cc)), (2, .int (Int32.ofNat 0)), (3, .int (Int32.ofNat 11))] [] W c s r := by
  refine xr_stp rfl rfl rfl rfl ?_
  refine xr_cps rfl rfl rfl (fun r1 K2 => sg_enc _ _ _ cc W hc r1 (K2 _ _ _ _ ?_))
  refine xr_j1 rfl rfl rfl rfl rfl (fun h4 => ?_) (fun h4 => ?_)
  · refine xr_stp rfl rfl rfl rfl ?_
    refine xr_stp (st' := .int (Int32.ofNat 0) :: _) rfl rfl rfl rfl ?_
    refine xs_max (by omega) (by omega) rfl rfl rfl ?_
    refine xr_stp rfl rfl rfl rfl ?_
    refine xr_stp rfl rfl rfl rfl ?_
    refine xr_stp rfl rfl rfl rfl ?_
    refine xs_kln h (k := 1) (by omega) rfl ?_
    refine xr_to (st' := .int (Int32.ofNat 11) :: _) rfl ?_
    refine xs_min (by omega) (show 11 < 2147483648 by omega) rfl rfl rfl ?_
    refine xr_stp rfl rfl rfl rfl ?_
    refine xr_stp rfl rfl rfl rfl ?_
    refine xr_stp rfl rfl rfl rfl ?_
    refine xr_j2 rfl rfl rfl rfl rfl (fun h24 => ?_) (fun h24 => ?_)
    · refine xr_stp rfl rfl rfl rfl ?_
      refine xr_stp rfl rfl rfl rfl ?_
      refine xr_stp rfl rfl rfl rfl ?_
      refine xr_stp rfl rfl rfl rfl ?_
      refine xr_cps rfl rfl rfl (fun r1 K2 => sg_ix _ _ _ cc x W h hc hx hx1 hx2 r1 (K2 _ _ _ _ ?_))
      exact xr_ret rfl rfl K
    · have z24 := nf_lt (by omega) (by omega) h24
      exact (by omega)
  · have z4 := nf1_ne (by omega) h4
    exact (by omega)
theorem sg_i2 (d c s : Nat) (cc x : Nat) (W : xi_W) (h : kc W) (hc : cc < 128) (hx : x < 11) (hx1 : kb 1 x = cc) (hx2 : ∀ j, j < x → kb 1 j ≠ cc) (r : xi_R → Prop) (K : r (some (.int (Int32.ofNat x)), W, c, s)) : xr (d + 2) 160 0 [(0, .ref 1), (1, .int (Int32.ofNat cc)), (2, .int (Int32.ofNat 0))] [] W c s r := by
  refine xr_stp rfl rfl rfl rfl ?_
  refine xr_vcps (h 1 (by omega)).1 rfl rfl rfl rfl rfl rfl (fun r1 K2 => sc_lat _ _ _ 1 W h (by omega) r1 (K2 _ _ _ _ ?_))
  refine xr_j1 rfl rfl rfl rfl rfl (fun h4 => ?_) (fun h4 => ?_)
  · exact absurd h4 (by decide +kernel)
  · refine xr_stp rfl rfl rfl rfl ?_
    refine xr_getfield (h 1 (by omega)).1 rfl rfl rfl rfl ?_
    refine xr_stp rfl rfl rfl rfl ?_
    refine xr_stp rfl rfl rfl rfl ?_
    refine xr_stp rfl rfl rfl rfl ?_
    refine xr_vcps (h 1 (by omega)).1 rfl rfl rfl rfl rfl rfl (fun r1 K2 => sc_len _ _ _ 1 W h (by omega) r1 (K2 _ _ _ _ ?_))
    refine xr_cps rfl rfl rfl (fun r1 K2 => sg_i4 _ _ _ cc x W h hc hx hx1 hx2 r1 (K2 _ _ _ _ ?_))
    refine xr_stp rfl rfl rfl rfl ?_
    exact xr_ret rfl rfl K
theorem sg_i1 (d c s : Nat) (cc x : Nat) (W : xi_W) (h : kc W) (hc : cc < 128) (hx : x < 11) (hx1 : kb 1 x = cc) (hx2 : ∀ j, j < x → kb 1 j ≠ cc) (r : xi_R → Prop) (K : r (some (.int (Int32.ofNat x)), W, c, s)) : xr (d + 3) 159 0 [(0, .ref 1), (1, .int (Int32.ofNat cc))] [] W c s r := by
  refine xr_stp rfl rfl rfl rfl ?_
  refine xr_stp rfl rfl rfl rfl ?_
  refine xr_stp (st' := .int (Int32.ofNat 0) :: _) rfl rfl rfl rfl ?_
  refine xr_vcps (h 1 (by omega)).1 rfl rfl rfl rfl rfl rfl (fun r1 K2 => sg_i2 _ _ _ cc x W h hc hx hx1 hx2 r1 (K2 _ _ _ _ ?_))
  exact xr_ret rfl rfl K
