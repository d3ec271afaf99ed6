/-! the class: a text runs over a stack of numbers -/
def tx_L (T M K w n t z p : Nat) (L : xi_L) : Prop := L = [(7, .int (Int32.ofNat n)), (6, .int (Int32.ofNat t)), (5, .int (Int32.ofNat z)), (4, .int (Int32.ofNat p)), (0, .ref T), (1, .int (Int32.ofNat w)), (2, .ref M), (3, .ref K)] ∨ (∃ e g, L = [(7, .int (Int32.ofNat n)), (6, .int (Int32.ofNat t)), (4, .int (Int32.ofNat p)), (9, .int e), (8, .int g), (5, .int (Int32.ofNat z)), (0, .ref T), (1, .int (Int32.ofNat w)), (2, .ref M), (3, .ref K)]) ∨ (∃ e g, L = [(7, .int (Int32.ofNat n)), (4, .int (Int32.ofNat p)), (9, .int e), (8, .int g), (6, .int (Int32.ofNat t)), (5, .int (Int32.ofNat z)), (0, .ref T), (1, .int (Int32.ofNat w)), (2, .ref M), (3, .ref K)])
/-- an operation is fetched -/
theorem tx_fetch (d c s T M K CO CL BO NC w : Nat) (v : Value) (W : xi_W) (P : Nat → Nat) (hT : W[T]? = some (.inr (4, [v, .ref CL, .ref CO, .ref BO]))) (hc : W[CO]? = some (lw_i NC P)) (hNC : NC < 2147483648) (n t z p : Nat) (hn : n < NC) (hp : p < z) (hz : 2 * z ≤ NC) (L : xi_L) (hL : tx_L T M K w n t z p L) (r : xi_R → Prop) (k : xr d 69 77 [(4, .int (Int32.ofNat (p + 1))), (9, .int (Int32.ofNat (P (2 * p + 1)))), (8, .int (Int32.ofNat (P (2 * p)))), (7, .int (Int32.ofNat n)), (6, .int (Int32.ofNat t)), (5, .int (Int32.ofNat z)), (0, .ref T), (1, .int (Int32.ofNat w)), (2, .ref M), (3, .ref K)] [] W c s r) : xr d 69 28 L [] W c s r := by
  have e2 : p * 2 = 2 * p := Nat.mul_comm _ _
  rcases hL with rfl | ⟨_, _, rfl⟩ | ⟨_, _, rfl⟩
  all_goals
    refine xr_stp rfl rfl rfl rfl ?_
    refine xr_stp rfl rfl rfl rfl ?_
    refine xr_getfield hT rfl rfl rfl rfl ?_
    refine xs_iln hc rfl ?_
    refine xr_j2 rfl rfl rfl rfl rfl (fun h35 => ?_) (fun h35 => ?_)
    · exact absurd (nt_ge (by omega) (by omega) h35) (by omega)
    · refine xr_stp rfl rfl rfl rfl ?_
      refine xr_j1 rfl rfl rfl rfl rfl (fun h40 => ?_) (fun h40 => ?_)
      · exact absurd (by omega) (n_lt0 h40)
      · refine xr_stp rfl rfl rfl rfl ?_
        refine xr_stp rfl rfl rfl rfl ?_
        refine xr_j2 rfl rfl rfl rfl rfl (fun h47 => ?_) (fun h47 => ?_)
        · exact absurd (nt_ge (by omega) (by omega) h47) (by omega)
        · refine xr_stp rfl rfl rfl rfl ?_
          refine xr_getfield hT rfl rfl rfl rfl ?_
          refine xr_stp rfl rfl rfl rfl ?_
          refine xr_stp (st' := .int (Int32.ofNat 2) :: _) rfl rfl rfl rfl ?_
          refine xs_mul rfl ?_
          refine xs_ild hc (by omega) (by omega) rfl ?_
          refine xr_stp rfl rfl rfl rfl ?_
          refine xr_stp rfl rfl rfl rfl ?_
          refine xr_getfield hT rfl rfl rfl rfl ?_
          refine xr_stp rfl rfl rfl rfl ?_
          refine xr_stp (st' := .int (Int32.ofNat 2) :: _) rfl rfl rfl rfl ?_
          refine xs_mul rfl ?_
          refine xr_stp (st' := .int (Int32.ofNat 1) :: _) rfl rfl rfl rfl ?_
          refine xs_add rfl ?_
          refine xs_ild hc (by omega) (by omega) rfl ?_
          refine xr_stp rfl rfl rfl rfl ?_
          refine xs_inc (e := 1) rfl rfl rfl rfl ?_
          rw [e2]
          exact k
