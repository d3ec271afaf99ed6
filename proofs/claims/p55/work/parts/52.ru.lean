/-! the class: rules of a text -/
theorem tx_rules (d c s T CL CO BO w NB : Nat) (v : Value) (W : xi_W) (B : Nat → Nat) (hT : W[T]? = some (.inr (4, [v, .ref CL, .ref CO, .ref BO]))) (hbo : W[BO]? = some (lw_i NB B)) (hNB : NB < 2147483648) (hw : w * 2 < NB) (hB : B (w * 2) < 2147483648) (r : xi_R → Prop) (k : r (some (.int (Int32.ofNat 1)), W, c, s)) : xr d 68 0 [(0, .ref T), (1, .int (Int32.ofNat w))] [] W c s r := by
  refine xr_stp rfl rfl rfl rfl ?_
  refine xr_getfield hT rfl rfl rfl rfl ?_
  refine xr_stp rfl rfl rfl rfl ?_
  refine xr_stp (st' := .int (Int32.ofNat 2) :: _) rfl rfl rfl rfl ?_
  refine xs_mul rfl ?_
  refine xs_ild hbo (by omega) (by omega) rfl ?_
  refine xr_stp (st' := .int (Int32.ofNat 4294967295) :: _) rfl rfl rfl rfl ?_
  refine xr_j2 rfl rfl rfl rfl rfl (fun h9 => ?_) (fun h9 => ?_)
  · have e9 := nt_eq (by omega) (by omega) h9
    exact absurd e9 (by omega)
  · refine xr_stp (st' := .int (Int32.ofNat 1) :: _) rfl rfl rfl rfl ?_
    refine xr_stp rfl rfl rfl rfl ?_
    exact xr_retb (by omega) rfl rfl k
