/-! the class: a text begins, ends -/
theorem tx_end (d c s T M K CO CL BO NC w : Nat) (v : Value) (W : xi_W) (P : Nat → Nat) (hT : W[T]? = some (.inr (4, [v, .ref CL, .ref CO, .ref BO]))) (hc : W[CO]? = some (lw_i NC P)) (hNC : NC < 2147483648) (g : Nat → Int32) (hk : W[K]? = some (lw_s 64 g)) (n t z p : Nat) (hn : n < 2147483648) (hp : z ≤ p) (hp2 : p < 2147483648) (ht : 0 < t) (ht2 : t < 100) (L : xi_L) (hL : tx_L T M K w n t z p L) (r : xi_R → Prop) (k : r (some (.int (g 0)), W, c, s)) : xr d 69 28 L [] W c s r := by
  rcases hL with rfl | ⟨_, _, rfl⟩ | ⟨_, _, rfl⟩
  all_goals
    refine xr_stp rfl rfl rfl rfl ?_
    refine xr_stp rfl rfl rfl rfl ?_
    refine xr_getfield hT rfl rfl rfl rfl ?_
    refine xs_iln hc rfl ?_
    refine xr_j2 rfl rfl rfl rfl rfl (fun h35 => ?_) (fun h35 => ?_)
    · refine xr_stp rfl rfl rfl rfl ?_
      refine xr_j1 rfl rfl rfl rfl rfl (fun h263 => ?_) (fun h263 => ?_)
      · exact absurd (nt1_le (by omega) h263) (by omega)
      · refine xr_stp rfl rfl rfl rfl ?_
        refine xr_stp (st' := .int (Int32.ofNat 0) :: _) rfl rfl rfl rfl ?_
        refine xs_sld hk (by omega) (by omega) rfl ?_
        refine xr_stp rfl rfl rfl rfl ?_
        exact xr_ret rfl rfl k
    · refine xr_stp rfl rfl rfl rfl ?_
      refine xr_j1 rfl rfl rfl rfl rfl (fun h40 => ?_) (fun h40 => ?_)
      · exact absurd hp2 (n_lt0 h40)
      · refine xr_stp rfl rfl rfl rfl ?_
        refine xr_stp rfl rfl rfl rfl ?_
        refine xr_j2 rfl rfl rfl rfl rfl (fun h47 => ?_) (fun h47 => ?_)
        · refine xr_stp rfl rfl rfl rfl ?_
          refine xr_j1 rfl rfl rfl rfl rfl (fun h263 => ?_) (fun h263 => ?_)
          · exact absurd (nt1_le (by omega) h263) (by omega)
          · refine xr_stp rfl rfl rfl rfl ?_
            refine xr_stp (st' := .int (Int32.ofNat 0) :: _) rfl rfl rfl rfl ?_
            refine xs_sld hk (by omega) (by omega) rfl ?_
            refine xr_stp rfl rfl rfl rfl ?_
            exact xr_ret rfl rfl k
        · exact absurd (nf_ge (by omega) (by omega) h47) (by omega)
theorem tx_start (d c s T M K CO CL BO NC w : Nat) (v : Value) (W : xi_W) (P : Nat → Nat) (hT : W[T]? = some (.inr (4, [v, .ref CL, .ref CO, .ref BO]))) (hc : W[CO]? = some (lw_i NC P)) (hNC : NC < 2147483648) (B : Nat → Nat) (NB : Nat) (hbo : W[BO]? = some (lw_i NB B)) (hNB : NB < 2147483648) (hw : 2 * w + 1 < NB) (r : xi_R → Prop) (k : xr d 69 28 [(7, .int (Int32.ofNat 0)), (6, .int (Int32.ofNat 0)), (5, .int (Int32.ofNat (B (2 * w + 1)))), (4, .int (Int32.ofNat (B (2 * w)))), (0, .ref T), (1, .int (Int32.ofNat w)), (2, .ref M), (3, .ref K)] [] W c s r) : xr d 69 0 [(0, .ref T), (1, .int (Int32.ofNat w)), (2, .ref M), (3, .ref K)] [] W c s r := by
  rw [show 2 * w = w * 2 from Nat.mul_comm _ _] at hw k
  refine xr_stp rfl rfl rfl rfl ?_
  refine xr_getfield hT rfl rfl rfl rfl ?_
  refine xr_stp rfl rfl rfl rfl ?_
  refine xr_stp (st' := .int (Int32.ofNat 2) :: _) rfl rfl rfl rfl ?_
  refine xs_mul rfl ?_
  refine xs_ild hbo (by omega) (by omega) rfl ?_
  refine xr_stp rfl rfl rfl rfl ?_
  refine xr_stp rfl rfl rfl rfl ?_
  refine xr_getfield hT rfl rfl rfl rfl ?_
  refine xr_stp rfl rfl rfl rfl ?_
  refine xr_stp (st' := .int (Int32.ofNat 2) :: _) rfl rfl rfl rfl ?_
  refine xs_mul rfl ?_
  refine xr_stp (st' := .int (Int32.ofNat 1) :: _) rfl rfl rfl rfl ?_
  refine xs_add rfl ?_
  refine xs_ild hbo (by omega) (by omega) rfl ?_
  refine xr_stp rfl rfl rfl rfl ?_
  refine xr_stp (st' := .int (Int32.ofNat 0) :: _) rfl rfl rfl rfl ?_
  refine xr_stp rfl rfl rfl rfl ?_
  refine xr_stp (st' := .int (Int32.ofNat 0) :: _) rfl rfl rfl rfl ?_
  refine xr_stp rfl rfl rfl rfl ?_
  exact k
