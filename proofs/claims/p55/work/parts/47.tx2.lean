/-! the class: what a text asks -/
theorem tx_one17 (d c s : Nat) (W : xi_W) (r : xi_R → Prop) (K : r (some (.int (Int32.ofNat 1)), W, c, s)) : xr d 70 0 [(0, .int (Int32.ofNat 17))] [] W c s r := by
  refine xr_stp rfl rfl rfl rfl ?_
  refine xr_stp (st' := .int (Int32.ofNat 42) :: _) rfl rfl rfl rfl ?_
  refine xr_j2 rfl rfl rfl rfl rfl (fun h3 => ?_) (fun h3 => ?_)
  · exact absurd (nt_eq (by omega) (by omega) h3) (by omega)
  · refine xr_stp rfl rfl rfl rfl ?_
    refine xr_stp (st' := .int (Int32.ofNat 16) :: _) rfl rfl rfl rfl ?_
    refine xr_j2 rfl rfl rfl rfl rfl (fun h9 => ?_) (fun h9 => ?_)
    · exact absurd (nt_eq (by omega) (by omega) h9) (by omega)
    · refine xr_stp rfl rfl rfl rfl ?_
      refine xr_stp (st' := .int (Int32.ofNat 17) :: _) rfl rfl rfl rfl ?_
      refine xr_j2 rfl rfl rfl rfl rfl (fun h15 => ?_) (fun h15 => ?_)
      · refine xr_stp (st' := .int (Int32.ofNat 1) :: _) rfl rfl rfl rfl ?_
        refine xr_stp rfl rfl rfl rfl ?_
        exact xr_retb (by omega) rfl rfl K
      · exact absurd rfl (nf_eq h15)
theorem tx_one18 (d c s : Nat) (W : xi_W) (r : xi_R → Prop) (K : r (some (.int (Int32.ofNat 1)), W, c, s)) : xr d 70 0 [(0, .int (Int32.ofNat 18))] [] W c s r := by
  refine xr_stp rfl rfl rfl rfl ?_
  refine xr_stp (st' := .int (Int32.ofNat 42) :: _) rfl rfl rfl rfl ?_
  refine xr_j2 rfl rfl rfl rfl rfl (fun h3 => ?_) (fun h3 => ?_)
  · exact absurd (nt_eq (by omega) (by omega) h3) (by omega)
  · refine xr_stp rfl rfl rfl rfl ?_
    refine xr_stp (st' := .int (Int32.ofNat 16) :: _) rfl rfl rfl rfl ?_
    refine xr_j2 rfl rfl rfl rfl rfl (fun h9 => ?_) (fun h9 => ?_)
    · exact absurd (nt_eq (by omega) (by omega) h9) (by omega)
    · refine xr_stp rfl rfl rfl rfl ?_
      refine xr_stp (st' := .int (Int32.ofNat 17) :: _) rfl rfl rfl rfl ?_
      refine xr_j2 rfl rfl rfl rfl rfl (fun h15 => ?_) (fun h15 => ?_)
      · exact absurd (nt_eq (by omega) (by omega) h15) (by omega)
      · refine xr_stp rfl rfl rfl rfl ?_
        refine xr_stp (st' := .int (Int32.ofNat 18) :: _) rfl rfl rfl rfl ?_
        refine xr_j2 rfl rfl rfl rfl rfl (fun h21 => ?_) (fun h21 => ?_)
        · exact absurd rfl (nt_ne h21)
        · refine xr_stp (st' := .int (Int32.ofNat 1) :: _) rfl rfl rfl rfl ?_
          refine xr_stp rfl rfl rfl rfl ?_
          exact xr_retb (by omega) rfl rfl K
theorem tx_one29 (d c s : Nat) (W : xi_W) (r : xi_R → Prop) (K : r (some (.int (Int32.ofNat 0)), W, c, s)) : xr d 70 0 [(0, .int (Int32.ofNat 29))] [] W c s r := by
  refine xr_stp rfl rfl rfl rfl ?_
  refine xr_stp (st' := .int (Int32.ofNat 42) :: _) rfl rfl rfl rfl ?_
  refine xr_j2 rfl rfl rfl rfl rfl (fun h3 => ?_) (fun h3 => ?_)
  · exact absurd (nt_eq (by omega) (by omega) h3) (by omega)
  · refine xr_stp rfl rfl rfl rfl ?_
    refine xr_stp (st' := .int (Int32.ofNat 16) :: _) rfl rfl rfl rfl ?_
    refine xr_j2 rfl rfl rfl rfl rfl (fun h9 => ?_) (fun h9 => ?_)
    · exact absurd (nt_eq (by omega) (by omega) h9) (by omega)
    · refine xr_stp rfl rfl rfl rfl ?_
      refine xr_stp (st' := .int (Int32.ofNat 17) :: _) rfl rfl rfl rfl ?_
      refine xr_j2 rfl rfl rfl rfl rfl (fun h15 => ?_) (fun h15 => ?_)
      · exact absurd (nt_eq (by omega) (by omega) h15) (by omega)
      · refine xr_stp rfl rfl rfl rfl ?_
        refine xr_stp (st' := .int (Int32.ofNat 18) :: _) rfl rfl rfl rfl ?_
        refine xr_j2 rfl rfl rfl rfl rfl (fun h21 => ?_) (fun h21 => ?_)
        · refine xr_stp (st' := .int (Int32.ofNat 0) :: _) rfl rfl rfl rfl ?_
          exact xr_retb (by omega) rfl rfl K
        · exact absurd (nf_ne (by omega) (by omega) h21) (by omega)
theorem tx_one30 (d c s : Nat) (W : xi_W) (r : xi_R → Prop) (K : r (some (.int (Int32.ofNat 0)), W, c, s)) : xr d 70 0 [(0, .int (Int32.ofNat 30))] [] W c s r := by
  refine xr_stp rfl rfl rfl rfl ?_
  refine xr_stp (st' := .int (Int32.ofNat 42) :: _) rfl rfl rfl rfl ?_
  refine xr_j2 rfl rfl rfl rfl rfl (fun h3 => ?_) (fun h3 => ?_)
  · exact absurd (nt_eq (by omega) (by omega) h3) (by omega)
  · refine xr_stp rfl rfl rfl rfl ?_
    refine xr_stp (st' := .int (Int32.ofNat 16) :: _) rfl rfl rfl rfl ?_
    refine xr_j2 rfl rfl rfl rfl rfl (fun h9 => ?_) (fun h9 => ?_)
    · exact absurd (nt_eq (by omega) (by omega) h9) (by omega)
    · refine xr_stp rfl rfl rfl rfl ?_
      refine xr_stp (st' := .int (Int32.ofNat 17) :: _) rfl rfl rfl rfl ?_
      refine xr_j2 rfl rfl rfl rfl rfl (fun h15 => ?_) (fun h15 => ?_)
      · exact absurd (nt_eq (by omega) (by omega) h15) (by omega)
      · refine xr_stp rfl rfl rfl rfl ?_
        refine xr_stp (st' := .int (Int32.ofNat 18) :: _) rfl rfl rfl rfl ?_
        refine xr_j2 rfl rfl rfl rfl rfl (fun h21 => ?_) (fun h21 => ?_)
        · refine xr_stp (st' := .int (Int32.ofNat 0) :: _) rfl rfl rfl rfl ?_
          exact xr_retb (by omega) rfl rfl K
        · exact absurd (nf_ne (by omega) (by omega) h21) (by omega)
theorem tx_one31 (d c s : Nat) (W : xi_W) (r : xi_R → Prop) (K : r (some (.int (Int32.ofNat 0)), W, c, s)) : xr d 70 0 [(0, .int (Int32.ofNat 31))] [] W c s r := by
  refine xr_stp rfl rfl rfl rfl ?_
  refine xr_stp (st' := .int (Int32.ofNat 42) :: _) rfl rfl rfl rfl ?_
  refine xr_j2 rfl rfl rfl rfl rfl (fun h3 => ?_) (fun h3 => ?_)
  · exact absurd (nt_eq (by omega) (by omega) h3) (by omega)
  · refine xr_stp rfl rfl rfl rfl ?_
    refine xr_stp (st' := .int (Int32.ofNat 16) :: _) rfl rfl rfl rfl ?_
    refine xr_j2 rfl rfl rfl rfl rfl (fun h9 => ?_) (fun h9 => ?_)
    · exact absurd (nt_eq (by omega) (by omega) h9) (by omega)
    · refine xr_stp rfl rfl rfl rfl ?_
      refine xr_stp (st' := .int (Int32.ofNat 17) :: _) rfl rfl rfl rfl ?_
      refine xr_j2 rfl rfl rfl rfl rfl (fun h15 => ?_) (fun h15 => ?_)
      · exact absurd (nt_eq (by omega) (by omega) h15) (by omega)
      · refine xr_stp rfl rfl rfl rfl ?_
        refine xr_stp (st' := .int (Int32.ofNat 18) :: _) rfl rfl rfl rfl ?_
        refine xr_j2 rfl rfl rfl rfl rfl (fun h21 => ?_) (fun h21 => ?_)
        · refine xr_stp (st' := .int (Int32.ofNat 0) :: _) rfl rfl rfl rfl ?_
          exact xr_retb (by omega) rfl rfl K
        · exact absurd (nf_ne (by omega) (by omega) h21) (by omega)
theorem tx_one32 (d c s : Nat) (W : xi_W) (r : xi_R → Prop) (K : r (some (.int (Int32.ofNat 0)), W, c, s)) : xr d 70 0 [(0, .int (Int32.ofNat 32))] [] W c s r := by
  refine xr_stp rfl rfl rfl rfl ?_
  refine xr_stp (st' := .int (Int32.ofNat 42) :: _) rfl rfl rfl rfl ?_
  refine xr_j2 rfl rfl rfl rfl rfl (fun h3 => ?_) (fun h3 => ?_)
  · exact absurd (nt_eq (by omega) (by omega) h3) (by omega)
  · refine xr_stp rfl rfl rfl rfl ?_
    refine xr_stp (st' := .int (Int32.ofNat 16) :: _) rfl rfl rfl rfl ?_
    refine xr_j2 rfl rfl rfl rfl rfl (fun h9 => ?_) (fun h9 => ?_)
    · exact absurd (nt_eq (by omega) (by omega) h9) (by omega)
    · refine xr_stp rfl rfl rfl rfl ?_
      refine xr_stp (st' := .int (Int32.ofNat 17) :: _) rfl rfl rfl rfl ?_
      refine xr_j2 rfl rfl rfl rfl rfl (fun h15 => ?_) (fun h15 => ?_)
      · exact absurd (nt_eq (by omega) (by omega) h15) (by omega)
      · refine xr_stp rfl rfl rfl rfl ?_
        refine xr_stp (st' := .int (Int32.ofNat 18) :: _) rfl rfl rfl rfl ?_
        refine xr_j2 rfl rfl rfl rfl rfl (fun h21 => ?_) (fun h21 => ?_)
        · refine xr_stp (st' := .int (Int32.ofNat 0) :: _) rfl rfl rfl rfl ?_
          exact xr_retb (by omega) rfl rfl K
        · exact absurd (nf_ne (by omega) (by omega) h21) (by omega)
theorem tx_has (d c s M a : Nat) (W : xi_W) (F : Nat → Nat) (hm : W[M]? = some (lw_i 14 F)) (ha : a < 4) (r : xi_R → Prop) (K : r (some (.int (Int32.ofNat (F (6 + a)))), W, c, s)) : xr d 71 0 [(0, .int (Int32.ofNat 17)), (1, .int (Int32.ofNat a)), (2, .ref M)] [] W c s r := by
  refine xr_stp rfl rfl rfl rfl ?_
  refine xr_stp rfl rfl rfl rfl ?_
  refine xr_stp rfl rfl rfl rfl ?_
  refine xr_j1 rfl rfl rfl rfl rfl (fun h50 => ?_) (fun h50 => ?_)
  · exact absurd ha (fun z => n_lt0 h50 (by omega))
  · refine xr_stp rfl rfl rfl rfl ?_
    refine xr_stp (st' := .int (Int32.ofNat 4) :: _) rfl rfl rfl rfl ?_
    refine xr_j2 rfl rfl rfl rfl rfl (fun h55 => ?_) (fun h55 => ?_)
    · exact absurd (nt_ge (by omega) (by omega) h55) (by omega)
    · refine xr_stp rfl rfl rfl rfl ?_
      refine xr_stp (st' := .int (Int32.ofNat 6) :: _) rfl rfl rfl rfl ?_
      refine xr_stp rfl rfl rfl rfl ?_
      refine xs_add rfl ?_
      refine xs_ild hm (by omega) (by omega) rfl ?_
      refine xr_stp rfl rfl rfl rfl ?_
      exact xr_ret rfl rfl K
theorem tx_known (d c s M a : Nat) (W : xi_W) (F : Nat → Nat) (hm : W[M]? = some (lw_i 14 F)) (ha : a < 4) (r : xi_R → Prop) (K : r (some (.int (Int32.ofNat (F (10 + a)))), W, c, s)) : xr d 71 0 [(0, .int (Int32.ofNat 18)), (1, .int (Int32.ofNat a)), (2, .ref M)] [] W c s r := by
  refine xr_stp rfl rfl rfl rfl ?_
  refine xr_stp rfl rfl rfl rfl ?_
  refine xr_stp rfl rfl rfl rfl ?_
  refine xr_j1 rfl rfl rfl rfl rfl (fun h70 => ?_) (fun h70 => ?_)
  · exact absurd ha (fun z => n_lt0 h70 (by omega))
  · refine xr_stp rfl rfl rfl rfl ?_
    refine xr_stp (st' := .int (Int32.ofNat 4) :: _) rfl rfl rfl rfl ?_
    refine xr_j2 rfl rfl rfl rfl rfl (fun h75 => ?_) (fun h75 => ?_)
    · exact absurd (nt_ge (by omega) (by omega) h75) (by omega)
    · refine xr_stp rfl rfl rfl rfl ?_
      refine xr_stp (st' := .int (Int32.ofNat 10) :: _) rfl rfl rfl rfl ?_
      refine xr_stp rfl rfl rfl rfl ?_
      refine xs_add rfl ?_
      refine xs_ild hm (by omega) (by omega) rfl ?_
      refine xr_stp rfl rfl rfl rfl ?_
      exact xr_ret rfl rfl K
