/-! the class: what its rows of states answer -/
theorem n_by (d c s b : Nat) (W : xi_W) (F : Nat → Nat) (L : List Value) (hw : kw W b F) (hb : wb b) (hl : 687 ≤ W.length) (hR : W[355]? = some (.inr (2, L))) (X t : Nat) (hX : X < 55) (ht : t < 4) (hf : F (16 * (X * 4 + t) + 1) < 9223372036854775808) (r : xi_R → Prop) (K : r (some (.int (Int32.ofNat (bc 63 (F (16 * (X * 4 + t) + 1))))), W, c, s)) : xr (d + 1) 8 0 [(0, .ref (b + 1)), (1, .int (Int32.ofNat X)), (2, .int (Int32.ofNat t))] [] W c s r := by
  refine xr_stp rfl rfl rfl rfl ?_
  refine xr_getfield hw.2 rfl rfl rfl rfl ?_
  refine xr_stp rfl rfl rfl rfl ?_
  refine xr_stp (st' := .int (Int32.ofNat 4) :: _) rfl rfl rfl rfl ?_
  refine xs_mul rfl ?_
  refine xr_stp rfl rfl rfl rfl ?_
  refine xs_add rfl ?_
  refine xs_ald (hw.a hb hl hR) (by have := hb.1; omega) (by omega) (by omega) rfl ?_
  refine xr_cps rfl rfl rfl (fun r1 K2 => xr_bitCount _ _ _ _ _ (hf) r1 (K2 _ _ _ _ ?_))
  exact xr_ret rfl rfl K
def n_ds (F : Nat → Nat) : Nat → Nat → Nat → Nat
  | 0, _, v => v
  | m + 1, k, v => n_ds F m (k + 1) (v + bc 63 (F (16 * k + 0)))
theorem n_dsL (d c s b : Nat) (W : xi_W) (F : Nat → Nat) (L : List Value) (hw : kw W b F) (hb : wb b) (hl : 687 ≤ W.length) (hR : W[355]? = some (.inr (2, L))) (X : Nat) (hX : X < 55) (hf : ∀ t, t < 4 → F (16 * (X * 4 + t) + 0) < 9223372036854775808) (r : xi_R → Prop) : ∀ (m k v : Nat), k + m = X * 4 + 4 → X * 4 ≤ k → r (some (.int (Int32.ofNat (n_ds F m k v))), W, c, s) → xr (d + 1) 9 6 [(3, .int (Int32.ofNat k)), (2, .int (Int32.ofNat v)), (0, .ref (b + 1)), (1, .int (Int32.ofNat X))] [] W c s r
  | 0, k, v, hk, hk2, K => by
    obtain rfl : k = X * 4 + 4 := by omega
    refine xr_stp rfl rfl rfl rfl ?_
    refine xr_stp rfl rfl rfl rfl ?_
    refine xr_stp (st' := .int (Int32.ofNat 1) :: _) rfl rfl rfl rfl ?_
    refine xs_add rfl ?_
    refine xr_stp (st' := .int (Int32.ofNat 4) :: _) rfl rfl rfl rfl ?_
    refine xs_mul rfl ?_
    refine xr_j2 rfl rfl rfl rfl rfl (fun h12 => ?_) (fun h12 => ?_)
    · refine xr_stp rfl rfl rfl rfl ?_
      exact xr_ret rfl rfl K
    · exact absurd (nf_ge (by omega) (by omega) h12) (by omega)
  | m + 1, k, v, hk, hk2, K => by
    have hb1 := hf (k - X * 4) (by omega)
    rw [show X * 4 + (k - X * 4) = k by omega] at hb1
    refine xr_stp rfl rfl rfl rfl ?_
    refine xr_stp rfl rfl rfl rfl ?_
    refine xr_stp (st' := .int (Int32.ofNat 1) :: _) rfl rfl rfl rfl ?_
    refine xs_add rfl ?_
    refine xr_stp (st' := .int (Int32.ofNat 4) :: _) rfl rfl rfl rfl ?_
    refine xs_mul rfl ?_
    refine xr_j2 rfl rfl rfl rfl rfl (fun h12 => ?_) (fun h12 => ?_)
    · exact absurd (nt_ge (by omega) (by omega) h12) (by omega)
    · refine xr_stp rfl rfl rfl rfl ?_
      refine xr_stp rfl rfl rfl rfl ?_
      refine xr_getfield hw.2 rfl rfl rfl rfl ?_
      refine xr_stp rfl rfl rfl rfl ?_
      refine xs_ald (hw.k hb hl hR) (by have := hb.1; omega) (by omega) (by omega) rfl ?_
      refine xr_cps rfl rfl rfl (fun r1 K2 => xr_bitCount _ _ _ _ _ (hb1) r1 (K2 _ _ _ _ ?_))
      refine xs_add rfl ?_
      refine xr_stp rfl rfl rfl rfl ?_
      refine xs_inc (e := 1) rfl rfl rfl rfl ?_
      refine xr_stp rfl rfl rfl rfl ?_
      exact n_dsL d c s b W F L hw hb hl hR X hX hf r m (k + 1) _ (by omega) (by omega) K
theorem n_dsE {G F : Nat → Nat} {X h k : Nat} (he : en G (G 4)) (hm : G 4 ≤ 62) (hx : ro G F X h k) (hk : k < 2 ^ G 4) : n_ds F 4 (X * 4) 0 = bc 63 k := by
  have e : n_ds F 4 (X * 4) 0 = 0 + bc 63 (F (16 * (X * 4 + 0) + 0)) + bc 63 (F (16 * (X * 4 + 1) + 0)) + bc 63 (F (16 * (X * 4 + 2) + 0)) + bc 63 (F (16 * (X * 4 + 3) + 0)) := rfl
  rw [e, (hx 0 (by omega)).1, (hx 1 (by omega)).1, (hx 2 (by omega)).1, (hx 3 (by omega)).1, Nat.zero_add, pr_sum he hm hk]
/-- 'dots' -/
theorem n_dots (d c s b : Nat) (W : xi_W) (F : Nat → Nat) (L : List Value) (hw : kw W b F) (hb : wb b) (hl : 687 ≤ W.length) (hR : W[355]? = some (.inr (2, L))) (X h k : Nat) (G : Nat → Nat) (hX : X < 55) (he : en G (G 4)) (hm : G 4 ≤ 62) (hx : ro G F X h k) (hk : k < 2 ^ G 4) (r : xi_R → Prop) (K : r (some (.int (Int32.ofNat (bc 63 k))), W, c, s)) : xr (d + 1) 9 0 [(0, .ref (b + 1)), (1, .int (Int32.ofNat X))] [] W c s r := by
  rw [← n_dsE he hm hx hk] at K
  have hf : ∀ t, t < 4 → F (16 * (X * 4 + t) + 0) < 9223372036854775808 := fun t ht => by
    rw [(hx t ht).1]
    have := pr_lt62 he hm t k
    omega
  refine xr_stp (st' := .int (Int32.ofNat 0) :: _) rfl rfl rfl rfl ?_
  refine xr_stp rfl rfl rfl rfl ?_
  refine xr_stp rfl rfl rfl rfl ?_
  refine xr_stp (st' := .int (Int32.ofNat 4) :: _) rfl rfl rfl rfl ?_
  refine xs_mul rfl ?_
  refine xr_stp rfl rfl rfl rfl ?_
  exact n_dsL d c s b W F L hw hb hl hR X hX hf r 4 (X * 4) 0 (by omega) (by omega) K
/-- how many of the lowest bits are set, one behind the other -/
def tr : Nat → Nat → Nat
  | 0, _ => 0
  | n + 1, x => if x % 2 = 1 then tr n (x / 2) + 1 else 0
theorem tr_le : ∀ (n x : Nat), tr n x ≤ n
  | 0, _ => Nat.le_refl _
  | n + 1, x => by
    unfold tr
    have := tr_le n (x / 2)
    split <;> omega
theorem x_dbl (a b : Nat) : (2 * a) ^^^ (2 * b) = 2 * (a ^^^ b) := by
  apply Nat.eq_of_testBit_eq
  intro i
  cases i with
  | zero => rw [Nat.testBit_xor, Nat.testBit_zero, Nat.testBit_zero, Nat.testBit_zero]; simp
  | succ i => rw [Nat.testBit_xor, Nat.testBit_succ, Nat.testBit_succ, Nat.testBit_succ, show 2 * a / 2 = a by omega, show 2 * b / 2 = b by omega, show 2 * (a ^^^ b) / 2 = a ^^^ b by omega, Nat.testBit_xor]
theorem x_od (a b : Nat) : (2 * a + 1) ^^^ (2 * b) = 2 * (a ^^^ b) + 1 := by
  apply Nat.eq_of_testBit_eq
  intro i
  cases i with
  | zero => rw [Nat.testBit_xor, Nat.testBit_zero, Nat.testBit_zero, Nat.testBit_zero]; simp
  | succ i => rw [Nat.testBit_xor, Nat.testBit_succ, Nat.testBit_succ, Nat.testBit_succ, show (2 * a + 1) / 2 = a by omega, show 2 * b / 2 = b by omega, show (2 * (a ^^^ b) + 1) / 2 = a ^^^ b by omega, Nat.testBit_xor]
theorem tr_xor : ∀ (n x : Nat), x < 2 ^ n → x ^^^ (x + 1) = 2 ^ (tr n x + 1) - 1
  | 0, x, h => by
    rw [Nat.pow_zero] at h
    obtain rfl : x = 0 := by omega
    rfl
  | n + 1, x, h => by
    unfold tr
    rcases Nat.mod_two_eq_zero_or_one x with e | e
    · obtain ⟨y, rfl⟩ : ∃ y, x = 2 * y := ⟨x / 2, by omega⟩
      rw [if_neg (by omega), Nat.xor_comm, x_od, Nat.xor_self]
    · obtain ⟨y, rfl⟩ : ∃ y, x = 2 * y + 1 := ⟨x / 2, by omega⟩
      rw [Nat.pow_succ] at h
      have ih := tr_xor n y (by omega)
      rw [if_pos (by omega), show (2 * y + 1) / 2 = y by omega, show 2 * y + 1 + 1 = 2 * (y + 1) by omega, x_od, ih, Nat.pow_succ 2 (tr n y + 1)]
      have := Nat.two_pow_pos (tr n y + 1)
      omega
theorem bc_ones : ∀ (n k : Nat), k ≤ n → bc n (2 ^ k - 1) = k
  | 0, k, h => by
    obtain rfl : k = 0 := by omega
    rfl
  | n + 1, 0, _ => bc0 (n + 1)
  | n + 1, k + 1, h => by
    have p := Nat.two_pow_pos k
    have ih := bc_ones n k (by omega)
    have e1 : (2 ^ (k + 1) - 1) % 2 = 1 := by rw [Nat.pow_succ]; omega
    have e2 : (2 ^ (k + 1) - 1) / 2 = 2 ^ k - 1 := by rw [Nat.pow_succ]; omega
    show (2 ^ (k + 1) - 1) % 2 + bc n ((2 ^ (k + 1) - 1) / 2) = _
    rw [e1, e2, ih]
    omega
theorem xr_bitCount64 (d c s x : Nat) (W : xi_W) (hx : x < 18446744073709551616) (r : xi_R → Prop) (k : r (some (.int (Int32.ofNat (bc 64 x))), W, c, s)) : xr d 156 0 [(0, .long (Int64.ofNat x))] [] W c s r :=
  xr_of (cn_bitCount d W c s (Int64.ofNat x)) (by rw [cn_bc64 hx]; exact k)
/-- 'vector' -/
theorem n_vec (d c s b : Nat) (W : xi_W) (F : Nat → Nat) (L : List Value) (hw : kw W b F) (hb : wb b) (hl : 687 ≤ W.length) (hR : W[355]? = some (.inr (2, L))) (X t : Nat) (hX : X < 55) (ht : t < 4) (hf : F (16 * (X * 4 + t) + 0) < 4611686018427387904) (r : xi_R → Prop) (K : r (some (.int (Int32.ofNat (tr 62 (F (16 * (X * 4 + t) + 0))))), W, c, s)) : xr (d + 1) 10 0 [(0, .ref (b + 1)), (1, .int (Int32.ofNat X)), (2, .int (Int32.ofNat t))] [] W c s r := by
  have h1 := tr_xor 62 _ hf
  have h2 := tr_le 62 (F (16 * (X * 4 + t) + 0))
  have h3 : 2 ^ (tr 62 (F (16 * (X * 4 + t) + 0)) + 1) ≤ 2 ^ 63 := Nat.pow_le_pow_right (by omega) (by omega)
  have h4 := bc_ones 64 (tr 62 (F (16 * (X * 4 + t) + 0)) + 1) (by omega)
  refine xr_stp rfl rfl rfl rfl ?_
  refine xr_getfield hw.2 rfl rfl rfl rfl ?_
  refine xr_stp rfl rfl rfl rfl ?_
  refine xr_stp (st' := .int (Int32.ofNat 4) :: _) rfl rfl rfl rfl ?_
  refine xs_mul rfl ?_
  refine xr_stp rfl rfl rfl rfl ?_
  refine xs_add rfl ?_
  refine xs_ald (hw.k hb hl hR) (by have := hb.1; omega) (by omega) (by omega) rfl ?_
  refine xr_stp rfl rfl rfl rfl ?_
  refine xr_stp rfl rfl rfl rfl ?_
  refine xr_stp rfl rfl rfl rfl ?_
  refine xr_stp (st' := .long (Int64.ofNat 1) :: _) rfl rfl rfl rfl ?_
  refine xs_ladd rfl ?_
  refine xs_lxor rfl ?_
  rw [h1]
  refine xr_cps rfl rfl rfl (fun r1 K2 => xr_bitCount64 _ _ _ _ _ (by omega) r1 (K2 _ _ _ _ ?_))
  rw [h4]
  refine xr_stp (st' := .int (Int32.ofNat 1) :: _) rfl rfl rfl rfl ?_
  refine xs_sub (by omega) rfl ?_
  rw [Nat.add_sub_cancel]
  exact xr_ret rfl rfl K
/-- 'isKnown' -/
theorem n_kn (d c s b : Nat) (W : xi_W) (F : Nat → Nat) (L : List Value) (hw : kw W b F) (hb : wb b) (hl : 687 ≤ W.length) (hR : W[355]? = some (.inr (2, L))) (X t n : Nat) (hX : X < 55) (ht : t < 4) (hn : 0 < n) (hn2 : n < 64) (hf : F (16 * (X * 4 + t) + 0) < 4611686018427387904) (r : xi_R → Prop) (K : r (some (.int (Int32.ofNat (if (F (16 * (X * 4 + t) + 0)).testBit (n - 1) = true then 1 else 0))), W, c, s)) : xr d 11 0 [(0, .ref (b + 1)), (1, .int (Int32.ofNat X)), (2, .int (Int32.ofNat t)), (3, .int (Int32.ofNat n))] [] W c s r := by
  have h0 : F (16 * (X * 4 + t) + 0) / 2 ^ (n - 1) < 4611686018427387904 := Nat.lt_of_le_of_lt (Nat.div_le_self _ _) hf
  have h1 : F (16 * (X * 4 + t) + 0) / 2 ^ (n - 1) &&& 1 = F (16 * (X * 4 + t) + 0) / 2 ^ (n - 1) % 2 := Nat.and_two_pow_sub_one_eq_mod _ 1
  have eb : (F (16 * (X * 4 + t) + 0)).testBit (n - 1) = true ↔ F (16 * (X * 4 + t) + 0) / 2 ^ (n - 1) % 2 = 1 := by rw [Nat.testBit_eq_decide_div_mod_eq, decide_eq_true_iff]
  refine xr_stp rfl rfl rfl rfl ?_
  refine xr_getfield hw.2 rfl rfl rfl rfl ?_
  refine xr_stp rfl rfl rfl rfl ?_
  refine xr_stp (st' := .int (Int32.ofNat 4) :: _) rfl rfl rfl rfl ?_
  refine xs_mul rfl ?_
  refine xr_stp rfl rfl rfl rfl ?_
  refine xs_add rfl ?_
  refine xs_ald (hw.k hb hl hR) (by have := hb.1; omega) (by omega) (by omega) rfl ?_
  refine xr_stp rfl rfl rfl rfl ?_
  refine xr_stp (st' := .int (Int32.ofNat 1) :: _) rfl rfl rfl rfl ?_
  refine xs_sub (by omega) rfl ?_
  refine xs_lshr (by omega) (by omega) rfl ?_
  refine xr_stp (st' := .long (Int64.ofNat 1) :: _) rfl rfl rfl rfl ?_
  refine xs_land rfl ?_
  refine xr_stp (st' := .long (Int64.ofNat 0) :: _) rfl rfl rfl rfl ?_
  refine xs_lc (by rw [h1]; omega) (by omega) rfl ?_
  refine xr_j1 rfl rfl rfl rfl rfl (fun h18 => ?_) (fun h18 => ?_)
  · have e18 := lt_eq h18
    rw [h1] at e18
    rw [if_neg (fun z => by have := eb.mp z; omega)] at K
    refine xr_stp (st' := .int (Int32.ofNat 0) :: _) rfl rfl rfl rfl ?_
    exact xr_retb (by omega) rfl rfl K
  · have e18 := lf_eq h18
    rw [h1] at e18
    rw [if_pos (eb.mpr (by omega))] at K
    refine xr_stp (st' := .int (Int32.ofNat 1) :: _) rfl rfl rfl rfl ?_
    refine xr_stp rfl rfl rfl rfl ?_
    exact xr_retb (by omega) rfl rfl K
/-- 'valueOf' -/
theorem n_val (d c s b : Nat) (W : xi_W) (F : Nat → Nat) (L : List Value) (hw : kw W b F) (hb : wb b) (hl : 687 ≤ W.length) (hR : W[355]? = some (.inr (2, L))) (u : Nat) (hu : u < 256) (hc : F (16 * u + 2) < 2147483648) (r : xi_R → Prop) (K : r (some (.int (Int32.ofNat (F (16 * u + 2) % 100))), W, c, s)) : xr d 15 0 [(0, .ref (b + 1)), (1, .int (Int32.ofNat u))] [] W c s r := by
  refine xr_stp rfl rfl rfl rfl ?_
  refine xr_getfield hw.2 rfl rfl rfl rfl ?_
  refine xr_stp rfl rfl rfl rfl ?_
  refine xs_ild (hw.c hb hl hR) (by omega) (by omega) rfl ?_
  refine xr_stp (st' := .int (Int32.ofNat 100) :: _) rfl rfl rfl rfl ?_
  refine xs_mod (by omega) (by omega) (by omega) rfl ?_
  exact xr_ret rfl rfl K
theorem n_nthL (d c s b : Nat) (W : xi_W) (F : Nat → Nat) (L : List Value) (hw : kw W b F) (hb : wb b) (hl : 687 ≤ W.length) (hR : W[355]? = some (.inr (2, L))) (X q f n : Nat) (hX : X < 55) (hq : q < 4294967296) (hf : f < 4294967296) (hk : cn_ok F X) (hn : n < 2147483648) (r : xi_R → Prop) : ∀ (m t j : Nat), t + m = 256 → j ≤ t → r (some (.int (Int32.ofNat (fn (fun u => cn_he F X u q f) n m t j))), W, c, s) → xr (d + 2) 17 6 [(6, .int (Int32.ofNat t)), (5, .int (Int32.ofNat j)), (0, .ref (b + 1)), (1, .int (Int32.ofNat X)), (2, .int (Int32.ofNat q)), (3, .int (Int32.ofNat f)), (4, .int (Int32.ofNat n))] [] W c s r
  | 0, t, j, ht, hj, K => by
    obtain rfl : t = 256 := by omega
    refine xr_stp rfl rfl rfl rfl ?_
    refine xr_stp rfl rfl rfl rfl ?_
    refine xr_getfield hw.2 rfl rfl rfl rfl ?_
    refine xs_iln (hw.c hb hl hR) rfl ?_
    refine xr_j2 rfl rfl rfl rfl rfl (fun h13 => ?_) (fun h13 => ?_)
    · refine xr_stp (st' := .int (Int32.ofNat 4294967295) :: _) rfl rfl rfl rfl ?_
      exact xr_ret rfl rfl K
    · exact absurd (nf_ge (by omega) (by omega) h13) (by omega)
  | m + 1, t, j, ht, hj, K => by
    unfold fn at K
    refine xr_stp rfl rfl rfl rfl ?_
    refine xr_stp rfl rfl rfl rfl ?_
    refine xr_getfield hw.2 rfl rfl rfl rfl ?_
    refine xs_iln (hw.c hb hl hR) rfl ?_
    refine xr_j2 rfl rfl rfl rfl rfl (fun h13 => ?_) (fun h13 => ?_)
    · exact absurd (nt_ge (by omega) (by omega) h13) (by omega)
    · refine xr_stp rfl rfl rfl rfl ?_
      refine xr_stp rfl rfl rfl rfl ?_
      refine xr_stp rfl rfl rfl rfl ?_
      refine xr_stp rfl rfl rfl rfl ?_
      refine xr_stp rfl rfl rfl rfl ?_
      refine xr_vcps hw.2 rfl rfl rfl rfl rfl rfl (fun r1 K2 => xr_kw0 hw (cn_hasEntry (hw.B hb hl hR) d F _ _ X (t) q f hX (by omega) (by omega) (by omega) (hk.1 _ (by omega)) (hk.2 _ (by omega))) (K2 _ _ _ _ ?_))
      refine xr_j1 rfl rfl rfl rfl rfl (fun h25 => ?_) (fun h25 => ?_)
      · have e25 := nt1_eq (Nat.lt_of_lt_of_le (cn_heb F X _ _ _) (by omega)) h25
        rw [if_pos e25] at K
        refine xs_inc (e := 1) rfl rfl rfl rfl ?_
        refine xr_stp rfl rfl rfl rfl ?_
        exact n_nthL d c s b W F L hw hb hl hR X q f n hX hq hf hk hn r m (t + 1) _ (by omega) (by omega) K
      · have e25 := nf1_eq h25
        rw [if_neg e25] at K
        refine xr_stp rfl rfl rfl rfl ?_
        refine xr_stp rfl rfl rfl rfl ?_
        refine xr_j2 rfl rfl rfl rfl rfl (fun h32 => ?_) (fun h32 => ?_)
        · rw [if_neg (nt_ne h32)] at K
          refine xs_inc (e := 1) rfl rfl rfl rfl ?_
          refine xs_inc (e := 1) rfl rfl rfl rfl ?_
          refine xr_stp rfl rfl rfl rfl ?_
          exact n_nthL d c s b W F L hw hb hl hR X q f n hX hq hf hk hn r m (t + 1) _ (by omega) (by omega) K
        · rw [if_pos (nf_ne (by omega) (by omega) h32)] at K
          refine xr_stp rfl rfl rfl rfl ?_
          exact xr_ret rfl rfl K
/-- 'nth' -/
theorem n_nth (d c s b : Nat) (W : xi_W) (F : Nat → Nat) (L : List Value) (hw : kw W b F) (hb : wb b) (hl : 687 ≤ W.length) (hR : W[355]? = some (.inr (2, L))) (X q f n : Nat) (hX : X < 55) (hq : q < 4294967296) (hf : f < 4294967296) (hk : cn_ok F X) (hn : n < 2147483648) (r : xi_R → Prop) (K : r (some (.int (Int32.ofNat (fn (fun u => cn_he F X u q f) n 256 0 0))), W, c, s)) : xr (d + 2) 17 0 [(0, .ref (b + 1)), (1, .int (Int32.ofNat X)), (2, .int (Int32.ofNat q)), (3, .int (Int32.ofNat f)), (4, .int (Int32.ofNat n))] [] W c s r := by
  refine xr_stp (st' := .int (Int32.ofNat 0) :: _) rfl rfl rfl rfl ?_
  refine xr_stp rfl rfl rfl rfl ?_
  refine xr_stp (st' := .int (Int32.ofNat 0) :: _) rfl rfl rfl rfl ?_
  refine xr_stp rfl rfl rfl rfl ?_
  exact n_nthL d c s b W F L hw hb hl hR X q f n hX hq hf hk hn r 256 0 0 rfl (by omega) K
theorem n_totL (d c s b : Nat) (W : xi_W) (F : Nat → Nat) (L : List Value) (hw : kw W b F) (hb : wb b) (hl : 687 ≤ W.length) (hR : W[355]? = some (.inr (2, L))) (X q : Nat) (hX : X < 55) (hq : q < 4294967296) (hk : cn_ok F X) (hC : ∀ u, u < 256 → F (16 * u + 2) < 1200) (r : xi_R → Prop) : ∀ (m t x : Nat), t + m = 256 → r (some (.int (Int32.ofNat (fd (fun u => cn_he F X u q 4294967295) (fun a u => a + F (16 * u + 2) % 100) m t x))), W, c, s) → xr (d + 2) 19 5 [(4, .int (Int32.ofNat t)), (3, .int (Int32.ofNat x)), (0, .ref (b + 1)), (1, .int (Int32.ofNat X)), (2, .int (Int32.ofNat q))] [] W c s r
  | 0, t, x, ht, K => by
    obtain rfl : t = 256 := by omega
    refine xr_stp rfl rfl rfl rfl ?_
    refine xr_stp rfl rfl rfl rfl ?_
    refine xr_getfield hw.2 rfl rfl rfl rfl ?_
    refine xs_iln (hw.c hb hl hR) rfl ?_
    refine xr_j2 rfl rfl rfl rfl rfl (fun h12 => ?_) (fun h12 => ?_)
    · refine xr_stp rfl rfl rfl rfl ?_
      exact xr_ret rfl rfl K
    · exact absurd (nf_ge (by omega) (by omega) h12) (by omega)
  | m + 1, t, x, ht, K => by
    unfold fd at K
    have hct := hC t (by omega)
    refine xr_stp rfl rfl rfl rfl ?_
    refine xr_stp rfl rfl rfl rfl ?_
    refine xr_getfield hw.2 rfl rfl rfl rfl ?_
    refine xs_iln (hw.c hb hl hR) rfl ?_
    refine xr_j2 rfl rfl rfl rfl rfl (fun h12 => ?_) (fun h12 => ?_)
    · exact absurd (nt_ge (by omega) (by omega) h12) (by omega)
    · refine xr_stp rfl rfl rfl rfl ?_
      refine xr_stp rfl rfl rfl rfl ?_
      refine xr_stp rfl rfl rfl rfl ?_
      refine xr_stp rfl rfl rfl rfl ?_
      refine xr_stp (st' := .int (Int32.ofNat 4294967295) :: _) rfl rfl rfl rfl ?_
      refine xr_vcps hw.2 rfl rfl rfl rfl rfl rfl (fun r1 K2 => xr_kw0 hw (cn_hasEntry (hw.B hb hl hR) d F _ _ X (t) q 4294967295 hX (by omega) (by omega) (by omega) (hk.1 _ (by omega)) (hk.2 _ (by omega))) (K2 _ _ _ _ ?_))
      refine xr_j1 rfl rfl rfl rfl rfl (fun h24 => ?_) (fun h24 => ?_)
      · have e24 := nt1_eq (Nat.lt_of_lt_of_le (cn_heb F X _ _ _) (by omega)) h24
        rw [if_pos e24] at K
        refine xs_inc (e := 1) rfl rfl rfl rfl ?_
        refine xr_stp rfl rfl rfl rfl ?_
        exact n_totL d c s b W F L hw hb hl hR X q hX hq hk hC r m (t + 1) _ (by omega) K
      · have e24 := nf1_eq h24
        rw [if_neg e24] at K
        refine xr_stp rfl rfl rfl rfl ?_
        refine xr_stp rfl rfl rfl rfl ?_
        refine xr_stp rfl rfl rfl rfl ?_
        refine xr_vcps hw.2 rfl rfl rfl rfl rfl rfl (fun r1 K2 => n_val _ _ _ b W F L hw hb hl hR t (by omega) (by omega) r1 (K2 _ _ _ _ ?_))
        refine xs_add rfl ?_
        refine xr_stp rfl rfl rfl rfl ?_
        refine xs_inc (e := 1) rfl rfl rfl rfl ?_
        refine xr_stp rfl rfl rfl rfl ?_
        exact n_totL d c s b W F L hw hb hl hR X q hX hq hk hC r m (t + 1) _ (by omega) K
theorem n_tot (d c s b : Nat) (W : xi_W) (F : Nat → Nat) (L : List Value) (hw : kw W b F) (hb : wb b) (hl : 687 ≤ W.length) (hR : W[355]? = some (.inr (2, L))) (X q : Nat) (hX : X < 55) (hq : q < 4294967296) (hk : cn_ok F X) (hC : ∀ u, u < 256 → F (16 * u + 2) < 1200) (r : xi_R → Prop) (K : r (some (.int (Int32.ofNat (fd (fun u => cn_he F X u q 4294967295) (fun a u => a + F (16 * u + 2) % 100) 256 0 0))), W, c, s)) : xr (d + 2) 19 0 [(0, .ref (b + 1)), (1, .int (Int32.ofNat X)), (2, .int (Int32.ofNat q))] [] W c s r := by
  refine xr_stp (st' := .int (Int32.ofNat 0) :: _) rfl rfl rfl rfl ?_
  refine xr_stp rfl rfl rfl rfl ?_
  refine xr_stp (st' := .int (Int32.ofNat 0) :: _) rfl rfl rfl rfl ?_
  refine xr_stp rfl rfl rfl rfl ?_
  exact n_totL d c s b W F L hw hb hl hR X q hX hq hk hC r 256 0 0 rfl K
theorem n_kbL (d c s b : Nat) (W : xi_W) (F : Nat → Nat) (L : List Value) (hw : kw W b F) (hb : wb b) (hl : 687 ≤ W.length) (hR : W[355]? = some (.inr (2, L))) (X : Nat) (hX : X < 55) (hk : cn_ok F X) (hC : ∀ u, u < 256 → F (16 * u + 2) < 1200) (r : xi_R → Prop) : ∀ (m t x : Nat), t + m = 256 → r (some (.int (Int32.ofNat (fd (fun u => cn_he F X u 4294967295 4294967295) (fun a u => a ||| 1 * 2 ^ (F (16 * u + 2) / 300)) m t x))), W, c, s) → xr (d + 2) 20 4 [(3, .int (Int32.ofNat t)), (2, .int (Int32.ofNat x)), (0, .ref (b + 1)), (1, .int (Int32.ofNat X))] [] W c s r
  | 0, t, x, ht, K => by
    obtain rfl : t = 256 := by omega
    refine xr_stp rfl rfl rfl rfl ?_
    refine xr_stp rfl rfl rfl rfl ?_
    refine xr_getfield hw.2 rfl rfl rfl rfl ?_
    refine xs_iln (hw.c hb hl hR) rfl ?_
    refine xr_j2 rfl rfl rfl rfl rfl (fun h10 => ?_) (fun h10 => ?_)
    · refine xr_stp rfl rfl rfl rfl ?_
      exact xr_ret rfl rfl K
    · exact absurd (nf_ge (by omega) (by omega) h10) (by omega)
  | m + 1, t, x, ht, K => by
    unfold fd at K
    have hct := hC t (by omega)
    refine xr_stp rfl rfl rfl rfl ?_
    refine xr_stp rfl rfl rfl rfl ?_
    refine xr_getfield hw.2 rfl rfl rfl rfl ?_
    refine xs_iln (hw.c hb hl hR) rfl ?_
    refine xr_j2 rfl rfl rfl rfl rfl (fun h10 => ?_) (fun h10 => ?_)
    · exact absurd (nt_ge (by omega) (by omega) h10) (by omega)
    · refine xr_stp rfl rfl rfl rfl ?_
      refine xr_stp rfl rfl rfl rfl ?_
      refine xr_stp rfl rfl rfl rfl ?_
      refine xr_stp (st' := .int (Int32.ofNat 4294967295) :: _) rfl rfl rfl rfl ?_
      refine xr_stp (st' := .int (Int32.ofNat 4294967295) :: _) rfl rfl rfl rfl ?_
      refine xr_vcps hw.2 rfl rfl rfl rfl rfl rfl (fun r1 K2 => xr_kw0 hw (cn_hasEntry (hw.B hb hl hR) d F _ _ X (t) 4294967295 4294967295 hX (by omega) (by omega) (by omega) (hk.1 _ (by omega)) (hk.2 _ (by omega))) (K2 _ _ _ _ ?_))
      refine xr_j1 rfl rfl rfl rfl rfl (fun h21 => ?_) (fun h21 => ?_)
      · have e21 := nt1_eq (Nat.lt_of_lt_of_le (cn_heb F X _ _ _) (by omega)) h21
        rw [if_pos e21] at K
        refine xs_inc (e := 1) rfl rfl rfl rfl ?_
        refine xr_stp rfl rfl rfl rfl ?_
        exact n_kbL d c s b W F L hw hb hl hR X hX hk hC r m (t + 1) _ (by omega) K
      · have e21 := nf1_eq h21
        rw [if_neg e21] at K
        refine xr_stp rfl rfl rfl rfl ?_
        refine xr_stp (st' := .int (Int32.ofNat 1) :: _) rfl rfl rfl rfl ?_
        refine xr_stp rfl rfl rfl rfl ?_
        refine xr_stp rfl rfl rfl rfl ?_
        refine xr_vcps hw.2 rfl rfl rfl rfl rfl rfl (fun r1 K2 => xr_kw0 hw (cn_keyOf (hw.B hb hl hR) _ F _ _ t (by omega) (by omega)) (K2 _ _ _ _ ?_))
        refine xs_shl (by omega) rfl ?_
        refine xs_or rfl ?_
        refine xr_stp rfl rfl rfl rfl ?_
        refine xs_inc (e := 1) rfl rfl rfl rfl ?_
        refine xr_stp rfl rfl rfl rfl ?_
        exact n_kbL d c s b W F L hw hb hl hR X hX hk hC r m (t + 1) _ (by omega) K
theorem n_kb (d c s b : Nat) (W : xi_W) (F : Nat → Nat) (L : List Value) (hw : kw W b F) (hb : wb b) (hl : 687 ≤ W.length) (hR : W[355]? = some (.inr (2, L))) (X : Nat) (hX : X < 55) (hk : cn_ok F X) (hC : ∀ u, u < 256 → F (16 * u + 2) < 1200) (r : xi_R → Prop) (K : r (some (.int (Int32.ofNat (fd (fun u => cn_he F X u 4294967295 4294967295) (fun a u => a ||| 1 * 2 ^ (F (16 * u + 2) / 300)) 256 0 0))), W, c, s)) : xr (d + 2) 20 0 [(0, .ref (b + 1)), (1, .int (Int32.ofNat X))] [] W c s r := by
  refine xr_stp (st' := .int (Int32.ofNat 0) :: _) rfl rfl rfl rfl ?_
  refine xr_stp rfl rfl rfl rfl ?_
  refine xr_stp (st' := .int (Int32.ofNat 0) :: _) rfl rfl rfl rfl ?_
  refine xr_stp rfl rfl rfl rfl ?_
  exact n_kbL d c s b W F L hw hb hl hR X hX hk hC r 256 0 0 rfl K
