/-! the class: what a text's sums are worth -/
theorem tx_cmp {z y : Int} (h1 : -2147483648 ≤ z) (h2 : z < 2147483648) (h3 : -2147483648 ≤ y) (h4 : y < 2147483648) : lg_cmp (Int64.ofInt z) (Int64.ofInt y) = if y < z then 1 else if z = y then 0 else -1 := by
  have ez : (Int64.ofInt z).toInt = z := Int64.toInt_ofInt_of_le (by omega) (by omega)
  have ey : (Int64.ofInt y).toInt = y := Int64.toInt_ofInt_of_le (by omega) (by omega)
  have hl : Int64.ofInt y < Int64.ofInt z ↔ y < z := by rw [Int64.lt_iff_toInt_lt, ez, ey]
  have he : Int64.ofInt z = Int64.ofInt y ↔ z = y := ⟨fun q => by rw [← ez, ← ey, q], fun q => by rw [q]⟩
  unfold lg_cmp
  by_cases h : y < z
  · rw [if_pos (hl.mpr h), if_pos h]
  · rw [if_neg (fun q => h (hl.mp q)), if_neg h]
    by_cases h5 : z = y
    · rw [if_pos (he.mpr h5), if_pos h5]
    · rw [if_neg (fun q => h5 (he.mp q)), if_neg h5]
theorem tx_tail (d c s : Nat) (W : xi_W) (z : Int) (h1 : -1000000 ≤ z) (h2 : z ≤ 1000000) (X : xi_L) (r : xi_R → Prop) (K : r (some (.int (Int32.ofInt z)), W, c, s)) : xr d 72 223 ((3, .long (Int64.ofInt z)) :: X) [] W c s r := by
  have e1 : lg_cmp (Int64.ofInt z) (Int64.ofInt 1000000) = 0 ∨ lg_cmp (Int64.ofInt z) (Int64.ofInt 1000000) = -1 := by
    rw [tx_cmp (by omega) (by omega) (by omega) (by omega), if_neg (by omega)]
    by_cases h : z = 1000000
    · exact Or.inl (if_pos h)
    · exact Or.inr (if_neg h)
  have e2 : lg_cmp (Int64.ofInt z) (Int64.ofInt (-1000000)) = 0 ∨ lg_cmp (Int64.ofInt z) (Int64.ofInt (-1000000)) = 1 := by
    rw [tx_cmp (by omega) (by omega) (by omega) (by omega)]
    by_cases h : -1000000 < z
    · exact Or.inr (if_pos h)
    · exact Or.inl (by rw [if_neg h, if_pos (by omega)])
  have e3 : (Int64.ofInt z).toInt32 = Int32.ofInt z := Int64.toInt32_ofInt
  refine xr_stp rfl rfl rfl rfl ?_
  refine xr_stp (st' := .long (Int64.ofInt 1000000) :: _) rfl rfl rfl rfl ?_
  refine xr_stp (st' := .int (lg_cmp (Int64.ofInt z) (Int64.ofInt 1000000)) :: []) rfl rfl rfl rfl ?_
  refine xr_j1 rfl rfl rfl rfl rfl (fun h7 => ?_) (fun h7 => by rw [lw_of1] at h7; rcases e1 with e1 | e1 <;> rw [e1] at h7 <;> exact absurd h7 (by decide +kernel))
  refine xr_stp rfl rfl rfl rfl ?_
  refine xr_stp (st' := .long (Int64.ofInt (-1000000)) :: _) rfl rfl rfl rfl ?_
  refine xr_stp (st' := .int (lg_cmp (Int64.ofInt z) (Int64.ofInt (-1000000))) :: []) rfl rfl rfl rfl ?_
  refine xr_j1 rfl rfl rfl rfl rfl (fun h7 => ?_) (fun h7 => by rw [lw_of1] at h7; rcases e2 with e2 | e2 <;> rw [e2] at h7 <;> exact absurd h7 (by decide +kernel))
  refine xr_stp rfl rfl rfl rfl ?_
  refine xr_stp (st' := .int (Int64.ofInt z).toInt32 :: []) rfl rfl rfl rfl ?_
  rw [e3]
  exact xr_ret rfl rfl K
theorem tx_plus (d c s : Nat) (W : xi_W) (a : Int) (b : Nat) (h1 : -1000000 ≤ a + (b : Int)) (h2 : a + (b : Int) ≤ 1000000) (r : xi_R → Prop) (K : r (some (.int (Int32.ofInt (a + (b : Int)))), W, c, s)) : xr d 72 0 [(0, .int (Int32.ofNat 29)), (1, .int (Int32.ofInt a)), (2, .int (Int32.ofNat b))] [] W c s r := by
  refine xr_stp (st' := .long (Int64.ofNat 0) :: _) rfl rfl rfl rfl ?_
  refine xr_stp rfl rfl rfl rfl ?_
  refine xr_stp rfl rfl rfl rfl ?_
  refine xr_stp rfl rfl rfl rfl ?_
  refine xr_stp rfl rfl rfl rfl ?_
  refine xr_stp rfl rfl rfl rfl ?_
  refine xs_addn rfl ?_
  refine xs_i2li (by omega) (by omega) rfl ?_
  refine xr_stp rfl rfl rfl rfl ?_
  refine xr_stp rfl rfl rfl rfl ?_
  exact tx_tail d c s W _ h1 h2 _ r K
theorem tx_minus (d c s : Nat) (W : xi_W) (a : Int) (b : Nat) (h1 : -1000000 ≤ a - (b : Int)) (h2 : a - (b : Int) ≤ 1000000) (r : xi_R → Prop) (K : r (some (.int (Int32.ofInt (a - (b : Int)))), W, c, s)) : xr d 72 0 [(0, .int (Int32.ofNat 30)), (1, .int (Int32.ofInt a)), (2, .int (Int32.ofNat b))] [] W c s r := by
  refine xr_stp (st' := .long (Int64.ofNat 0) :: _) rfl rfl rfl rfl ?_
  refine xr_stp rfl rfl rfl rfl ?_
  refine xr_stp rfl rfl rfl rfl ?_
  refine xr_stp rfl rfl rfl rfl ?_
  refine xr_stp rfl rfl rfl rfl ?_
  refine xr_stp rfl rfl rfl rfl ?_
  refine xs_subn rfl ?_
  refine xs_i2li (by omega) (by omega) rfl ?_
  refine xr_stp rfl rfl rfl rfl ?_
  refine xr_stp rfl rfl rfl rfl ?_
  exact tx_tail d c s W _ h1 h2 _ r K
theorem tx_times (d c s : Nat) (W : xi_W) (a b : Nat) (ha : a ≤ 1000000) (hb : b ≤ 1000000) (h2 : a * b ≤ 1000000) (r : xi_R → Prop) (K : r (some (.int (Int32.ofInt (((a * b : Nat) : Int)))), W, c, s)) : xr d 72 0 [(0, .int (Int32.ofNat 31)), (1, .int (Int32.ofNat a)), (2, .int (Int32.ofNat b))] [] W c s r := by
  refine xr_stp (st' := .long (Int64.ofNat 0) :: _) rfl rfl rfl rfl ?_
  refine xr_stp rfl rfl rfl rfl ?_
  refine xr_stp rfl rfl rfl rfl ?_
  refine xr_stp rfl rfl rfl rfl ?_
  refine xr_stp rfl rfl rfl rfl ?_
  refine xs_i2l (by omega) rfl ?_
  refine xr_stp rfl rfl rfl rfl ?_
  refine xs_i2l (by omega) rfl ?_
  refine xs_lmul rfl ?_
  refine xr_stp rfl rfl rfl rfl ?_
  refine xr_stp rfl rfl rfl rfl ?_
  have e : Int64.ofNat (a * b) = Int64.ofInt ((a * b : Nat) : Int) := Int64.ofInt_eq_ofNat.symm
  rw [e]
  exact tx_tail d c s W _ (by omega) (by omega) _ r K
theorem tx_over (d c s : Nat) (W : xi_W) (a b : Nat) (ha : a ≤ 1000000) (hb : b ≤ 1000000) (h0 : 0 < b) (r : xi_R → Prop) (K : r (some (.int (Int32.ofInt (((a / b : Nat) : Int)))), W, c, s)) : xr d 72 0 [(0, .int (Int32.ofNat 32)), (1, .int (Int32.ofNat a)), (2, .int (Int32.ofNat b))] [] W c s r := by
  refine xr_stp (st' := .long (Int64.ofNat 0) :: _) rfl rfl rfl rfl ?_
  refine xr_stp rfl rfl rfl rfl ?_
  refine xr_stp rfl rfl rfl rfl ?_
  refine xr_stp rfl rfl rfl rfl ?_
  refine xr_stp rfl rfl rfl rfl ?_
  have hd := Nat.div_le_self a b
  refine xr_j1 rfl rfl rfl rfl rfl (fun h7 => ?_) (fun h7 => absurd (nf1_ne (by omega) h7) (by omega))
  refine xr_stp rfl rfl rfl rfl ?_
  refine xr_stp rfl rfl rfl rfl ?_
  refine xs_div (by omega) (by omega) h0 rfl ?_
  refine xs_i2l (by omega) rfl ?_
  refine xr_stp rfl rfl rfl rfl ?_
  refine xr_stp rfl rfl rfl rfl ?_
  have e : Int64.ofNat (a / b) = Int64.ofInt ((a / b : Nat) : Int) := Int64.ofInt_eq_ofNat.symm
  rw [e]
  exact tx_tail d c s W _ (by have := Int.natCast_nonneg (a / b); omega) (by have : ((a / b : Nat) : Int) ≤ (a : Int) := Int.ofNat_le.mpr hd; omega) _ r K
