/-! calls that are refused -/
theorem cb_rep4 (d c s : Nat) (W0 : xi_W) (r : xi_R → Prop) (K : r (some (.int (Int32.ofNat 0)), W0, c, s)) : xr d 147 0 [(0, .int (Int32.ofNat 4))] [] W0 c s r := by
  refine xr_stp rfl rfl rfl rfl ?_
  refine xr_j1 rfl rfl rfl rfl rfl (fun h1 => ?_) (fun h1 => ?_)
  · have z1 := n_lt0 h1
    exact (by omega)
  · refine xr_stp rfl rfl rfl rfl ?_
    refine xr_stp (st' := .int (Int32.ofNat 4) :: _) rfl rfl rfl rfl ?_
    refine xr_j2 rfl rfl rfl rfl rfl (fun h6 => ?_) (fun h6 => ?_)
    · refine xr_stp (st' := .int (Int32.ofNat 0) :: _) rfl rfl rfl rfl ?_
      exact xr_retb (by omega) rfl rfl K
    · have z6 := nf_ge (by omega) (by omega) h6
      exact (by omega)
theorem cb_key4 (d c s : Nat) (W0 : xi_W) (r : xi_R → Prop) (K : r (some (.int (Int32.ofNat 0)), W0, c, s)) : xr d 149 0 [(0, .int (Int32.ofNat 4))] [] W0 c s r := by
  refine xr_stp rfl rfl rfl rfl ?_
  refine xr_j1 rfl rfl rfl rfl rfl (fun h1 => ?_) (fun h1 => ?_)
  · have z1 := n_lt0 h1
    exact (by omega)
  · refine xr_stp rfl rfl rfl rfl ?_
    refine xr_stp (st' := .int (Int32.ofNat 4) :: _) rfl rfl rfl rfl ?_
    refine xr_j2 rfl rfl rfl rfl rfl (fun h6 => ?_) (fun h6 => ?_)
    · refine xr_stp (st' := .int (Int32.ofNat 0) :: _) rfl rfl rfl rfl ?_
      exact xr_retb (by omega) rfl rfl K
    · have z6 := nf_ge (by omega) (by omega) h6
      exact (by omega)
theorem cb_p04 (d c s : Nat) (W0 : xi_W) (r : xi_R → Prop) (K : r (some (.int (Int32.ofNat 0)), W0, c, s)) : xr (d + 1) 148 0 [(0, .int (Int32.ofNat 0)), (1, .int (Int32.ofNat 4))] [] W0 c s r := by
  refine xr_stp rfl rfl rfl rfl ?_
  refine xr_cps rfl rfl rfl (fun r1 K2 => cl_rep _ _ _ 0 _ (by omega) r1 (K2 _ _ _ _ ?_))
  refine xr_j1 rfl rfl rfl rfl rfl (fun h4 => ?_) (fun h4 => ?_)
  · have z4 := nt1_eq (by omega) h4
    exact (by omega)
  · refine xr_stp rfl rfl rfl rfl ?_
    refine xr_cps rfl rfl rfl (fun r1 K2 => cb_rep4 _ _ _ _ r1 (K2 _ _ _ _ ?_))
    refine xr_j1 rfl rfl rfl rfl rfl (fun h11 => ?_) (fun h11 => ?_)
    · refine xr_stp (st' := .int (Int32.ofNat 0) :: _) rfl rfl rfl rfl ?_
      exact xr_retb (by omega) rfl rfl K
    · have z11 := nf1_eq h11
      exact (by omega)
theorem cb_c400 (d c s : Nat) (W0 : xi_W) (r : xi_R → Prop) (K : r (some (.int (Int32.ofNat 0)), W0, c, s)) : xr (d + 1) 150 0 [(0, .int (Int32.ofNat 4)), (1, .int (Int32.ofNat 0)), (2, .int (Int32.ofNat 0))] [] W0 c s r := by
  refine xr_stp rfl rfl rfl rfl ?_
  refine xr_cps rfl rfl rfl (fun r1 K2 => cb_rep4 _ _ _ _ r1 (K2 _ _ _ _ ?_))
  refine xr_j1 rfl rfl rfl rfl rfl (fun h4 => ?_) (fun h4 => ?_)
  · refine xr_stp (st' := .int (Int32.ofNat 0) :: _) rfl rfl rfl rfl ?_
    exact xr_retb (by omega) rfl rfl K
  · have z4 := nf1_eq h4
    exact (by omega)
theorem cb_c040 (d c s : Nat) (W0 : xi_W) (r : xi_R → Prop) (K : r (some (.int (Int32.ofNat 0)), W0, c, s)) : xr (d + 1) 150 0 [(0, .int (Int32.ofNat 0)), (1, .int (Int32.ofNat 4)), (2, .int (Int32.ofNat 0))] [] W0 c s r := by
  refine xr_stp rfl rfl rfl rfl ?_
  refine xr_cps rfl rfl rfl (fun r1 K2 => cl_rep _ _ _ 0 _ (by omega) r1 (K2 _ _ _ _ ?_))
  refine xr_j1 rfl rfl rfl rfl rfl (fun h4 => ?_) (fun h4 => ?_)
  · have z4 := nt1_eq (by omega) h4
    exact (by omega)
  · refine xr_stp rfl rfl rfl rfl ?_
    refine xr_cps rfl rfl rfl (fun r1 K2 => cb_key4 _ _ _ _ r1 (K2 _ _ _ _ ?_))
    refine xr_j1 rfl rfl rfl rfl rfl (fun h11 => ?_) (fun h11 => ?_)
    · refine xr_stp (st' := .int (Int32.ofNat 0) :: _) rfl rfl rfl rfl ?_
      exact xr_retb (by omega) rfl rfl K
    · have z11 := nf1_eq h11
      exact (by omega)
theorem cb_c003 (d c s : Nat) (W0 : xi_W) (r : xi_R → Prop) (K : r (some (.int (Int32.ofNat 0)), W0, c, s)) : xr (d + 1) 150 0 [(0, .int (Int32.ofNat 0)), (1, .int (Int32.ofNat 0)), (2, .int (Int32.ofNat 3))] [] W0 c s r := by
  refine xr_stp rfl rfl rfl rfl ?_
  refine xr_cps rfl rfl rfl (fun r1 K2 => cl_rep _ _ _ 0 _ (by omega) r1 (K2 _ _ _ _ ?_))
  refine xr_j1 rfl rfl rfl rfl rfl (fun h4 => ?_) (fun h4 => ?_)
  · have z4 := nt1_eq (by omega) h4
    exact (by omega)
  · refine xr_stp rfl rfl rfl rfl ?_
    refine xr_cps rfl rfl rfl (fun r1 K2 => cl_key _ _ _ 0 _ (by omega) r1 (K2 _ _ _ _ ?_))
    refine xr_j1 rfl rfl rfl rfl rfl (fun h11 => ?_) (fun h11 => ?_)
    · have z11 := nt1_eq (by omega) h11
      exact (by omega)
    · refine xr_stp rfl rfl rfl rfl ?_
      refine xr_j1 rfl rfl rfl rfl rfl (fun h15 => ?_) (fun h15 => ?_)
      · have z15 := n_lt0 h15
        exact (by omega)
      · refine xr_stp rfl rfl rfl rfl ?_
        refine xr_stp (st' := .int (Int32.ofNat 3) :: _) rfl rfl rfl rfl ?_
        refine xr_j2 rfl rfl rfl rfl rfl (fun h20 => ?_) (fun h20 => ?_)
        · refine xr_stp (st' := .int (Int32.ofNat 0) :: _) rfl rfl rfl rfl ?_
          exact xr_retb (by omega) rfl rfl K
        · have z20 := nf_ge (by omega) (by omega) h20
          exact (by omega)
theorem cb_said1 (d c s : Nat) (W0 : xi_W) (r : xi_R → Prop) (K : r (some (.int (Int32.ofNat 4294967294)), W0, c, s)) : xr (d + 3) 141 0 [(0, .ref 17), (1, .int (Int32.ofNat 0)), (2, .int (Int32.ofNat 0)), (3, .int (Int32.ofNat 0)), (4, .int (Int32.ofNat 0))] [] W0 c s r := by
  refine xr_stp rfl rfl rfl rfl ?_
  refine xr_stp (st' := .int (Int32.ofNat 4294967295) :: _) rfl rfl rfl rfl ?_
  refine xr_j2 rfl rfl rfl rfl rfl (fun h2 => ?_) (fun h2 => ?_)
  · refine xr_stp rfl rfl rfl rfl ?_
    refine xr_stp rfl rfl rfl rfl ?_
    refine xr_cps rfl rfl rfl (fun r1 K2 => cl_pairE _ _ _ 0 _ (by omega) r1 (K2 _ _ _ _ ?_))
    refine xr_j1 rfl rfl rfl rfl rfl (fun h20 => ?_) (fun h20 => ?_)
    · refine xr_stp (st' := .int (Int32.ofNat 4294967294) :: _) rfl rfl rfl rfl ?_
      exact xr_ret rfl rfl K
    · have z20 := nf1_eq h20
      exact (by omega)
  · have z2 := nf_ne (by omega) (by omega) h2
    exact (by omega)
theorem cb_said2 (d c s : Nat) (W0 : xi_W) (r : xi_R → Prop) (K : r (some (.int (Int32.ofNat 4294967294)), W0, c, s)) : xr (d + 3) 141 0 [(0, .ref 17), (1, .int (Int32.ofNat 0)), (2, .int (Int32.ofNat 1)), (3, .int (Int32.ofNat 100)), (4, .int (Int32.ofNat 0))] [] W0 c s r := by
  refine xr_stp rfl rfl rfl rfl ?_
  refine xr_stp (st' := .int (Int32.ofNat 4294967295) :: _) rfl rfl rfl rfl ?_
  refine xr_j2 rfl rfl rfl rfl rfl (fun h2 => ?_) (fun h2 => ?_)
  · refine xr_stp rfl rfl rfl rfl ?_
    refine xr_stp rfl rfl rfl rfl ?_
    refine xr_cps rfl rfl rfl (fun r1 K2 => cl_pair _ _ _ 0 1 _ (by omega) (by omega) (by omega) r1 (K2 _ _ _ _ ?_))
    refine xr_j1 rfl rfl rfl rfl rfl (fun h20 => ?_) (fun h20 => ?_)
    · have z20 := nt1_eq (by omega) h20
      exact (by omega)
    · refine xr_stp rfl rfl rfl rfl ?_
      refine xr_j1 rfl rfl rfl rfl rfl (fun h24 => ?_) (fun h24 => ?_)
      · have z24 := n_lt0 h24
        exact (by omega)
      · refine xr_stp rfl rfl rfl rfl ?_
        refine xr_stp (st' := .int (Int32.ofNat 99) :: _) rfl rfl rfl rfl ?_
        refine xr_j2 rfl rfl rfl rfl rfl (fun h30 => ?_) (fun h30 => ?_)
        · refine xr_stp (st' := .int (Int32.ofNat 4294967294) :: _) rfl rfl rfl rfl ?_
          exact xr_ret rfl rfl K
        · have z30 := nf_gt (by omega) (by omega) h30
          exact (by omega)
  · have z2 := nf_ne (by omega) (by omega) h2
    exact (by omega)
theorem cb_said3 (d c s : Nat) (W0 : xi_W) (r : xi_R → Prop) (K : r (some (.int (Int32.ofNat 4294967294)), W0, c, s)) : xr (d + 3) 141 0 [(0, .ref 17), (1, .int (Int32.ofNat 0)), (2, .int (Int32.ofNat 1)), (3, .int (Int32.ofNat 0)), (4, .int (Int32.ofNat 2))] [] W0 c s r := by
  refine xr_stp rfl rfl rfl rfl ?_
  refine xr_stp (st' := .int (Int32.ofNat 4294967295) :: _) rfl rfl rfl rfl ?_
  refine xr_j2 rfl rfl rfl rfl rfl (fun h2 => ?_) (fun h2 => ?_)
  · refine xr_stp rfl rfl rfl rfl ?_
    refine xr_stp rfl rfl rfl rfl ?_
    refine xr_cps rfl rfl rfl (fun r1 K2 => cl_pair _ _ _ 0 1 _ (by omega) (by omega) (by omega) r1 (K2 _ _ _ _ ?_))
    refine xr_j1 rfl rfl rfl rfl rfl (fun h20 => ?_) (fun h20 => ?_)
    · have z20 := nt1_eq (by omega) h20
      exact (by omega)
    · refine xr_stp rfl rfl rfl rfl ?_
      refine xr_j1 rfl rfl rfl rfl rfl (fun h24 => ?_) (fun h24 => ?_)
      · have z24 := n_lt0 h24
        exact (by omega)
      · refine xr_stp rfl rfl rfl rfl ?_
        refine xr_stp (st' := .int (Int32.ofNat 99) :: _) rfl rfl rfl rfl ?_
        refine xr_j2 rfl rfl rfl rfl rfl (fun h30 => ?_) (fun h30 => ?_)
        · have z30 := nt_gt (by omega) (by omega) h30
          exact (by omega)
        · refine xr_stp rfl rfl rfl rfl ?_
          refine xr_j1 rfl rfl rfl rfl rfl (fun h35 => ?_) (fun h35 => ?_)
          · have z35 := n_lt0 h35
            exact (by omega)
          · refine xr_stp rfl rfl rfl rfl ?_
            refine xr_stp (st' := .int (Int32.ofNat 1) :: _) rfl rfl rfl rfl ?_
            refine xr_j2 rfl rfl rfl rfl rfl (fun h41 => ?_) (fun h41 => ?_)
            · have z41 := nt_le (by omega) (by omega) h41
              exact (by omega)
            · refine xr_stp (st' := .int (Int32.ofNat 4294967294) :: _) rfl rfl rfl rfl ?_
              exact xr_ret rfl rfl K
  · have z2 := nf_ne (by omega) (by omega) h2
    exact (by omega)
theorem cb_led5 (d c s : Nat) (W0 : xi_W) (r : xi_R → Prop) (K : r (some (.int (Int32.ofNat 4294967294)), W0, c, s)) : xr (d + 3) 143 0 [(0, .ref 17), (1, .int (Int32.ofNat 5))] [] W0 c s r := by
  refine xr_stp rfl rfl rfl rfl ?_
  refine xr_j1 rfl rfl rfl rfl rfl (fun h1 => ?_) (fun h1 => ?_)
  · have z1 := n_lt0 h1
    exact (by omega)
  · refine xr_stp rfl rfl rfl rfl ?_
    refine xr_stp (st' := .int (Int32.ofNat 5) :: _) rfl rfl rfl rfl ?_
    refine xr_j2 rfl rfl rfl rfl rfl (fun h6 => ?_) (fun h6 => ?_)
    · have z6 := nt_lt (by omega) (by omega) h6
      exact (by omega)
    · refine xr_stp (st' := .int (Int32.ofNat 4294967294) :: _) rfl rfl rfl rfl ?_
      exact xr_ret rfl rfl K
theorem cb_for1 (d c s : Nat) (W0 : xi_W) (r : xi_R → Prop) (K : r (some (.int (Int32.ofNat 4294967295)), W0, c, s)) : xr (d + 3) 120 0 [(0, .ref 17), (1, .int (Int32.ofNat 0)), (2, .int (Int32.ofNat 0))] [] W0 c s r := by
  refine xr_stp rfl rfl rfl rfl ?_
  refine xr_stp (st' := .int (Int32.ofNat 1) :: _) rfl rfl rfl rfl ?_
  refine xr_j2 rfl rfl rfl rfl rfl (fun h2 => ?_) (fun h2 => ?_)
  · refine xr_stp (st' := .int (Int32.ofNat 4294967295) :: _) rfl rfl rfl rfl ?_
    exact xr_ret rfl rfl K
  · have z2 := nf_lt (by omega) (by omega) h2
    exact (by omega)
theorem cb_for2 (d c s : Nat) (W0 : xi_W) (r : xi_R → Prop) (K : r (some (.int (Int32.ofNat 4294967295)), W0, c, s)) : xr (d + 3) 120 0 [(0, .ref 17), (1, .int (Int32.ofNat 13)), (2, .int (Int32.ofNat 0))] [] W0 c s r := by
  refine xr_stp rfl rfl rfl rfl ?_
  refine xr_stp (st' := .int (Int32.ofNat 1) :: _) rfl rfl rfl rfl ?_
  refine xr_j2 rfl rfl rfl rfl rfl (fun h2 => ?_) (fun h2 => ?_)
  · have z2 := nt_lt (by omega) (by omega) h2
    exact (by omega)
  · refine xr_stp rfl rfl rfl rfl ?_
    refine xr_stp (st' := .int (Int32.ofNat 12) :: _) rfl rfl rfl rfl ?_
    refine xr_j2 rfl rfl rfl rfl rfl (fun h8 => ?_) (fun h8 => ?_)
    · refine xr_stp (st' := .int (Int32.ofNat 4294967295) :: _) rfl rfl rfl rfl ?_
      exact xr_ret rfl rfl K
    · have z8 := nf_gt (by omega) (by omega) h8
      exact (by omega)
theorem cb_for3 (d c s : Nat) (W0 : xi_W) (r : xi_R → Prop) (K : r (some (.int (Int32.ofNat 4294967295)), W0, c, s)) : xr (d + 3) 120 0 [(0, .ref 17), (1, .int (Int32.ofNat 1)), (2, .int (Int32.ofNat 4))] [] W0 c s r := by
  refine xr_stp rfl rfl rfl rfl ?_
  refine xr_stp (st' := .int (Int32.ofNat 1) :: _) rfl rfl rfl rfl ?_
  refine xr_j2 rfl rfl rfl rfl rfl (fun h2 => ?_) (fun h2 => ?_)
  · have z2 := nt_lt (by omega) (by omega) h2
    exact (by omega)
  · refine xr_stp rfl rfl rfl rfl ?_
    refine xr_stp (st' := .int (Int32.ofNat 12) :: _) rfl rfl rfl rfl ?_
    refine xr_j2 rfl rfl rfl rfl rfl (fun h8 => ?_) (fun h8 => ?_)
    · have z8 := nt_gt (by omega) (by omega) h8
      exact (by omega)
    · refine xr_stp rfl rfl rfl rfl ?_
      refine xr_cps rfl rfl rfl (fun r1 K2 => cb_rep4 _ _ _ _ r1 (K2 _ _ _ _ ?_))
      refine xr_j1 rfl rfl rfl rfl rfl (fun h15 => ?_) (fun h15 => ?_)
      · have z15 := nt1_ne h15
        exact (by omega)
      · refine xr_stp (st' := .int (Int32.ofNat 4294967295) :: _) rfl rfl rfl rfl ?_
        exact xr_ret rfl rfl K
theorem cb_ctx (d c s : Nat) (W0 : xi_W) (r : xi_R → Prop) (K : r (some (.int (Int32.ofNat 4294967295)), W0, c, s)) : xr (d + 3) 111 0 [(0, .ref 17), (1, .int (Int32.ofNat 4)), (2, .int (Int32.ofNat 0))] [] W0 c s r := by
  refine xr_stp rfl rfl rfl rfl ?_
  refine xr_cps rfl rfl rfl (fun r1 K2 => cb_rep4 _ _ _ _ r1 (K2 _ _ _ _ ?_))
  refine xr_j1 rfl rfl rfl rfl rfl (fun h4 => ?_) (fun h4 => ?_)
  · refine xr_stp (st' := .int (Int32.ofNat 4294967295) :: _) rfl rfl rfl rfl ?_
    exact xr_ret rfl rfl K
  · have z4 := nf1_eq h4
    exact (by omega)
theorem cb_kno1 (d c s : Nat) (W0 : xi_W) (r : xi_R → Prop) (K : r (some (.int (Int32.ofNat 0)), W0, c, s)) : xr (d + 3) 113 0 [(0, .ref 17), (1, .int (Int32.ofNat 0)), (2, .int (Int32.ofNat 0)), (3, .int (Int32.ofNat 0))] [] W0 c s r := by
  refine xr_stp rfl rfl rfl rfl ?_
  refine xr_cps rfl rfl rfl (fun r1 K2 => cl_rep _ _ _ 0 _ (by omega) r1 (K2 _ _ _ _ ?_))
  refine xr_j1 rfl rfl rfl rfl rfl (fun h4 => ?_) (fun h4 => ?_)
  · have z4 := nt1_eq (by omega) h4
    exact (by omega)
  · refine xr_stp rfl rfl rfl rfl ?_
    refine xr_cps rfl rfl rfl (fun r1 K2 => cl_rep _ _ _ 0 _ (by omega) r1 (K2 _ _ _ _ ?_))
    refine xr_j1 rfl rfl rfl rfl rfl (fun h11 => ?_) (fun h11 => ?_)
    · have z11 := nt1_eq (by omega) h11
      exact (by omega)
    · refine xr_stp rfl rfl rfl rfl ?_
      refine xr_stp (st' := .int (Int32.ofNat 1) :: _) rfl rfl rfl rfl ?_
      refine xr_j2 rfl rfl rfl rfl rfl (fun h16 => ?_) (fun h16 => ?_)
      · refine xr_stp (st' := .int (Int32.ofNat 0) :: _) rfl rfl rfl rfl ?_
        exact xr_retb (by omega) rfl rfl K
      · have z16 := nf_lt (by omega) (by omega) h16
        exact (by omega)
theorem cb_kno2 (d c s : Nat) (W0 : xi_W) (r : xi_R → Prop) (K : r (some (.int (Int32.ofNat 0)), W0, c, s)) : xr (d + 3) 113 0 [(0, .ref 17), (1, .int (Int32.ofNat 0)), (2, .int (Int32.ofNat 0)), (3, .int (Int32.ofNat 64))] [] W0 c s r := by
  refine xr_stp rfl rfl rfl rfl ?_
  refine xr_cps rfl rfl rfl (fun r1 K2 => cl_rep _ _ _ 0 _ (by omega) r1 (K2 _ _ _ _ ?_))
  refine xr_j1 rfl rfl rfl rfl rfl (fun h4 => ?_) (fun h4 => ?_)
  · have z4 := nt1_eq (by omega) h4
    exact (by omega)
  · refine xr_stp rfl rfl rfl rfl ?_
    refine xr_cps rfl rfl rfl (fun r1 K2 => cl_rep _ _ _ 0 _ (by omega) r1 (K2 _ _ _ _ ?_))
    refine xr_j1 rfl rfl rfl rfl rfl (fun h11 => ?_) (fun h11 => ?_)
    · have z11 := nt1_eq (by omega) h11
      exact (by omega)
    · refine xr_stp rfl rfl rfl rfl ?_
      refine xr_stp (st' := .int (Int32.ofNat 1) :: _) rfl rfl rfl rfl ?_
      refine xr_j2 rfl rfl rfl rfl rfl (fun h16 => ?_) (fun h16 => ?_)
      · have z16 := nt_lt (by omega) (by omega) h16
        exact (by omega)
      · refine xr_stp rfl rfl rfl rfl ?_
        refine xr_stp (st' := .int (Int32.ofNat 63) :: _) rfl rfl rfl rfl ?_
        refine xr_j2 rfl rfl rfl rfl rfl (fun h22 => ?_) (fun h22 => ?_)
        · have z22 := nt_le (by omega) (by omega) h22
          exact (by omega)
        · refine xr_stp (st' := .int (Int32.ofNat 0) :: _) rfl rfl rfl rfl ?_
          exact xr_retb (by omega) rfl rfl K
theorem cb_ack (d c s : Nat) (W0 : xi_W) (r : xi_R → Prop) (K : r (some (.int (Int32.ofNat 4294967295)), W0, c, s)) : xr (d + 3) 116 0 [(0, .ref 17), (1, .int (Int32.ofNat 0)), (2, .int (Int32.ofNat 0))] [] W0 c s r := by
  refine xr_stp rfl rfl rfl rfl ?_
  refine xr_stp rfl rfl rfl rfl ?_
  refine xr_cps rfl rfl rfl (fun r1 K2 => cl_pairE _ _ _ 0 _ (by omega) r1 (K2 _ _ _ _ ?_))
  refine xr_j1 rfl rfl rfl rfl rfl (fun h5 => ?_) (fun h5 => ?_)
  · refine xr_stp (st' := .int (Int32.ofNat 4294967295) :: _) rfl rfl rfl rfl ?_
    exact xr_ret rfl rfl K
  · have z5 := nf1_eq h5
    exact (by omega)
theorem cb_dig (d c s : Nat) (W0 : xi_W) (r : xi_R → Prop) (K : r (some (.int (Int32.ofNat 4294967295)), W0, c, s)) : xr (d + 3) 123 0 [(0, .ref 17), (1, .int (Int32.ofNat 4))] [] W0 c s r := by
  refine xr_stp rfl rfl rfl rfl ?_
  refine xr_cps rfl rfl rfl (fun r1 K2 => cb_rep4 _ _ _ _ r1 (K2 _ _ _ _ ?_))
  refine xr_j1 rfl rfl rfl rfl rfl (fun h4 => ?_) (fun h4 => ?_)
  · refine xr_stp (st' := .int (Int32.ofNat 4294967295) :: _) rfl rfl rfl rfl ?_
    exact xr_ret rfl rfl K
  · have z4 := nf1_eq h4
    exact (by omega)
theorem cb_sam (d c s : Nat) (W0 : xi_W) (r : xi_R → Prop) (K : r (some (.int (Int32.ofNat 0)), W0, c, s)) : xr (d + 3) 124 0 [(0, .ref 17), (1, .int (Int32.ofNat 0)), (2, .int (Int32.ofNat 4))] [] W0 c s r := by
  refine xr_stp rfl rfl rfl rfl ?_
  refine xr_cps rfl rfl rfl (fun r1 K2 => cl_rep _ _ _ 0 _ (by omega) r1 (K2 _ _ _ _ ?_))
  refine xr_j1 rfl rfl rfl rfl rfl (fun h4 => ?_) (fun h4 => ?_)
  · have z4 := nt1_eq (by omega) h4
    exact (by omega)
  · refine xr_stp rfl rfl rfl rfl ?_
    refine xr_cps rfl rfl rfl (fun r1 K2 => cb_rep4 _ _ _ _ r1 (K2 _ _ _ _ ?_))
    refine xr_j1 rfl rfl rfl rfl rfl (fun h11 => ?_) (fun h11 => ?_)
    · refine xr_stp (st' := .int (Int32.ofNat 0) :: _) rfl rfl rfl rfl ?_
      exact xr_retb (by omega) rfl rfl K
    · have z11 := nf1_eq h11
      exact (by omega)
theorem cb_bel (d c s : Nat) (W0 : xi_W) (r : xi_R → Prop) (K : r (some (.int (Int32.ofNat 0)), W0, c, s)) : xr (d + 3) 125 0 [(0, .ref 17), (1, .int (Int32.ofNat 4)), (2, .int (Int32.ofNat 0))] [] W0 c s r := by
  refine xr_stp rfl rfl rfl rfl ?_
  refine xr_cps rfl rfl rfl (fun r1 K2 => cb_rep4 _ _ _ _ r1 (K2 _ _ _ _ ?_))
  refine xr_j1 rfl rfl rfl rfl rfl (fun h4 => ?_) (fun h4 => ?_)
  · refine xr_stp (st' := .int (Int32.ofNat 0) :: _) rfl rfl rfl rfl ?_
    exact xr_retb (by omega) rfl rfl K
  · have z4 := nf1_eq h4
    exact (by omega)
theorem cb_joi (d c s : Nat) (W0 : xi_W) (r : xi_R → Prop) (K : r (some (.int (Int32.ofNat 4294967295)), W0, c, s)) : xr (d + 3) 126 0 [(0, .ref 17), (1, .int (Int32.ofNat 0)), (2, .int (Int32.ofNat 4)), (3, .int (Int32.ofNat 0))] [] W0 c s r := by
  refine xr_stp rfl rfl rfl rfl ?_
  refine xr_cps rfl rfl rfl (fun r1 K2 => cl_rep _ _ _ 0 _ (by omega) r1 (K2 _ _ _ _ ?_))
  refine xr_j1 rfl rfl rfl rfl rfl (fun h4 => ?_) (fun h4 => ?_)
  · have z4 := nt1_eq (by omega) h4
    exact (by omega)
  · refine xr_stp rfl rfl rfl rfl ?_
    refine xr_cps rfl rfl rfl (fun r1 K2 => cb_rep4 _ _ _ _ r1 (K2 _ _ _ _ ?_))
    refine xr_j1 rfl rfl rfl rfl rfl (fun h11 => ?_) (fun h11 => ?_)
    · have z11 := nt1_ne h11
      exact (by omega)
    · refine xr_stp (st' := .int (Int32.ofNat 4294967295) :: _) rfl rfl rfl rfl ?_
      exact xr_ret rfl rfl K
theorem cb_par (d c s : Nat) (W0 : xi_W) (r : xi_R → Prop) (K : r (some (.int (Int32.ofNat 4294967295)), W0, c, s)) : xr (d + 3) 128 0 [(0, .ref 17), (1, .int (Int32.ofNat 4))] [] W0 c s r := by
  refine xr_stp rfl rfl rfl rfl ?_
  refine xr_cps rfl rfl rfl (fun r1 K2 => cb_rep4 _ _ _ _ r1 (K2 _ _ _ _ ?_))
  refine xr_j1 rfl rfl rfl rfl rfl (fun h4 => ?_) (fun h4 => ?_)
  · refine xr_stp (st' := .int (Int32.ofNat 4294967295) :: _) rfl rfl rfl rfl ?_
    exact xr_ret rfl rfl K
  · have z4 := nf1_eq h4
    exact (by omega)
theorem cb_unl (d c s : Nat) (W0 : xi_W) (r : xi_R → Prop) (K : r (some (.int (Int32.ofNat 4294967295)), W0, c, s)) : xr (d + 3) 129 0 [(0, .ref 17), (1, .int (Int32.ofNat 4)), (2, .int (Int32.ofNat 0))] [] W0 c s r := by
  refine xr_stp rfl rfl rfl rfl ?_
  refine xr_cps rfl rfl rfl (fun r1 K2 => cb_rep4 _ _ _ _ r1 (K2 _ _ _ _ ?_))
  refine xr_j1 rfl rfl rfl rfl rfl (fun h4 => ?_) (fun h4 => ?_)
  · refine xr_stp (st' := .int (Int32.ofNat 4294967295) :: _) rfl rfl rfl rfl ?_
    exact xr_ret rfl rfl K
  · have z4 := nf1_eq h4
    exact (by omega)
theorem cb_spa (d c s : Nat) (W0 : xi_W) (r : xi_R → Prop) (K : r (some (.int (Int32.ofNat 4294967295)), W0, c, s)) : xr (d + 3) 130 0 [(0, .ref 17), (1, .int (Int32.ofNat 0)), (2, .int (Int32.ofNat 4))] [] W0 c s r := by
  refine xr_stp rfl rfl rfl rfl ?_
  refine xr_cps rfl rfl rfl (fun r1 K2 => cl_rep _ _ _ 0 _ (by omega) r1 (K2 _ _ _ _ ?_))
  refine xr_j1 rfl rfl rfl rfl rfl (fun h4 => ?_) (fun h4 => ?_)
  · have z4 := nt1_eq (by omega) h4
    exact (by omega)
  · refine xr_stp rfl rfl rfl rfl ?_
    refine xr_cps rfl rfl rfl (fun r1 K2 => cb_key4 _ _ _ _ r1 (K2 _ _ _ _ ?_))
    refine xr_j1 rfl rfl rfl rfl rfl (fun h11 => ?_) (fun h11 => ?_)
    · have z11 := nt1_ne h11
      exact (by omega)
    · refine xr_stp (st' := .int (Int32.ofNat 4294967295) :: _) rfl rfl rfl rfl ?_
      exact xr_ret rfl rfl K
theorem cb_win (d c s : Nat) (W0 : xi_W) (r : xi_R → Prop) (K : r (some (.int (Int32.ofNat 4294967295)), W0, c, s)) : xr (d + 3) 131 0 [(0, .ref 17), (1, .int (Int32.ofNat 0)), (2, .int (Int32.ofNat 0)), (3, .int (Int32.ofNat 3))] [] W0 c s r := by
  refine xr_stp rfl rfl rfl rfl ?_
  refine xr_stp rfl rfl rfl rfl ?_
  refine xr_stp rfl rfl rfl rfl ?_
  refine xr_cps rfl rfl rfl (fun r1 K2 => cb_c003 _ _ _ _ r1 (K2 _ _ _ _ ?_))
  refine xr_j1 rfl rfl rfl rfl rfl (fun h6 => ?_) (fun h6 => ?_)
  · refine xr_stp (st' := .int (Int32.ofNat 4294967295) :: _) rfl rfl rfl rfl ?_
    exact xr_ret rfl rfl K
  · have z6 := nf1_eq h6
    exact (by omega)
theorem cb_tor (d c s : Nat) (W0 : xi_W) (r : xi_R → Prop) (K : r (some (.int (Int32.ofNat 4294967295)), W0, c, s)) : xr (d + 3) 132 0 [(0, .ref 17), (1, .int (Int32.ofNat 4))] [] W0 c s r := by
  refine xr_stp rfl rfl rfl rfl ?_
  refine xr_cps rfl rfl rfl (fun r1 K2 => cb_rep4 _ _ _ _ r1 (K2 _ _ _ _ ?_))
  refine xr_j1 rfl rfl rfl rfl rfl (fun h4 => ?_) (fun h4 => ?_)
  · have z4 := nt1_ne h4
    exact (by omega)
  · refine xr_stp (st' := .int (Int32.ofNat 4294967295) :: _) rfl rfl rfl rfl ?_
    exact xr_ret rfl rfl K
theorem cb_fld (d c s : Nat) (W0 : xi_W) (r : xi_R → Prop) (K : r (some (.int (Int32.ofNat 4294967295)), W0, c, s)) : xr (d + 3) 133 0 [(0, .ref 17), (1, .int (Int32.ofNat 0)), (2, .int (Int32.ofNat 4))] [] W0 c s r := by
  refine xr_stp rfl rfl rfl rfl ?_
  refine xr_cps rfl rfl rfl (fun r1 K2 => cl_rep _ _ _ 0 _ (by omega) r1 (K2 _ _ _ _ ?_))
  refine xr_j1 rfl rfl rfl rfl rfl (fun h4 => ?_) (fun h4 => ?_)
  · have z4 := nt1_eq (by omega) h4
    exact (by omega)
  · refine xr_stp rfl rfl rfl rfl ?_
    refine xr_cps rfl rfl rfl (fun r1 K2 => cb_key4 _ _ _ _ r1 (K2 _ _ _ _ ?_))
    refine xr_j1 rfl rfl rfl rfl rfl (fun h11 => ?_) (fun h11 => ?_)
    · have z11 := nt1_ne h11
      exact (by omega)
    · refine xr_stp (st' := .int (Int32.ofNat 4294967295) :: _) rfl rfl rfl rfl ?_
      exact xr_ret rfl rfl K
theorem cb_sum (d c s : Nat) (W0 : xi_W) (r : xi_R → Prop) (K : r (some (.int (Int32.ofNat 4294967295)), W0, c, s)) : xr (d + 3) 134 0 [(0, .ref 17), (1, .int (Int32.ofNat 4)), (2, .int (Int32.ofNat 0))] [] W0 c s r := by
  refine xr_stp rfl rfl rfl rfl ?_
  refine xr_cps rfl rfl rfl (fun r1 K2 => cb_rep4 _ _ _ _ r1 (K2 _ _ _ _ ?_))
  refine xr_j1 rfl rfl rfl rfl rfl (fun h4 => ?_) (fun h4 => ?_)
  · refine xr_stp (st' := .int (Int32.ofNat 4294967295) :: _) rfl rfl rfl rfl ?_
    exact xr_ret rfl rfl K
  · have z4 := nf1_eq h4
    exact (by omega)
theorem cb_sha (d c s : Nat) (W0 : xi_W) (r : xi_R → Prop) (K : r (some (.int (Int32.ofNat 4294967295)), W0, c, s)) : xr (d + 3) 135 0 [(0, .ref 17), (1, .int (Int32.ofNat 0)), (2, .int (Int32.ofNat 4))] [] W0 c s r := by
  refine xr_stp rfl rfl rfl rfl ?_
  refine xr_cps rfl rfl rfl (fun r1 K2 => cl_rep _ _ _ 0 _ (by omega) r1 (K2 _ _ _ _ ?_))
  refine xr_j1 rfl rfl rfl rfl rfl (fun h4 => ?_) (fun h4 => ?_)
  · have z4 := nt1_eq (by omega) h4
    exact (by omega)
  · refine xr_stp rfl rfl rfl rfl ?_
    refine xr_cps rfl rfl rfl (fun r1 K2 => cb_rep4 _ _ _ _ r1 (K2 _ _ _ _ ?_))
    refine xr_j1 rfl rfl rfl rfl rfl (fun h11 => ?_) (fun h11 => ?_)
    · refine xr_stp (st' := .int (Int32.ofNat 4294967295) :: _) rfl rfl rfl rfl ?_
      exact xr_ret rfl rfl K
    · have z11 := nf1_eq h11
      exact (by omega)
theorem cb_beh (d c s : Nat) (W0 : xi_W) (r : xi_R → Prop) (K : r (some (.int (Int32.ofNat 4294967295)), W0, c, s)) : xr (d + 3) 136 0 [(0, .ref 17), (1, .int (Int32.ofNat 4))] [] W0 c s r := by
  refine xr_stp rfl rfl rfl rfl ?_
  refine xr_cps rfl rfl rfl (fun r1 K2 => cb_rep4 _ _ _ _ r1 (K2 _ _ _ _ ?_))
  refine xr_j1 rfl rfl rfl rfl rfl (fun h4 => ?_) (fun h4 => ?_)
  · have z4 := nt1_ne h4
    exact (by omega)
  · refine xr_stp (st' := .int (Int32.ofNat 4294967295) :: _) rfl rfl rfl rfl ?_
    exact xr_ret rfl rfl K
theorem cb_spe (d c s : Nat) (W0 : xi_W) (r : xi_R → Prop) (K : r (some (.int (Int32.ofNat 0)), W0, c, s)) : xr (d + 3) 140 0 [(0, .ref 17), (1, .int (Int32.ofNat 0)), (2, .int (Int32.ofNat 0))] [] W0 c s r := by
  refine xr_stp rfl rfl rfl rfl ?_
  refine xr_stp rfl rfl rfl rfl ?_
  refine xr_cps rfl rfl rfl (fun r1 K2 => cl_pairE _ _ _ 0 _ (by omega) r1 (K2 _ _ _ _ ?_))
  refine xr_j1 rfl rfl rfl rfl rfl (fun h5 => ?_) (fun h5 => ?_)
  · refine xr_stp (st' := .int (Int32.ofNat 0) :: _) rfl rfl rfl rfl ?_
    exact xr_retb (by omega) rfl rfl K
  · have z5 := nf1_eq h5
    exact (by omega)
theorem cb_day0 (d c s : Nat) (W0 : xi_W) (r : xi_R → Prop) (K : r (some (.int (Int32.ofNat 4294967295)), W0, c, s)) : xr (d + 3) 105 0 [(0, .ref 17), (1, .int (Int32.ofNat 0))] [] W0 c s r := by
  refine xr_stp rfl rfl rfl rfl ?_
  refine xr_stp (st' := .int (Int32.ofNat 1) :: _) rfl rfl rfl rfl ?_
  refine xr_j2 rfl rfl rfl rfl rfl (fun h2 => ?_) (fun h2 => ?_)
  · refine xr_stp (st' := .int (Int32.ofNat 4294967295) :: _) rfl rfl rfl rfl ?_
    exact xr_ret rfl rfl K
  · have z2 := nf_lt (by omega) (by omega) h2
    exact (by omega)
theorem cb_day1 (d c s : Nat) (W0 : xi_W) (r : xi_R → Prop) (K : r (some (.int (Int32.ofNat 4294967295)), W0, c, s)) : xr (d + 3) 105 0 [(0, .ref 17), (1, .int (Int32.ofNat 13))] [] W0 c s r := by
  refine xr_stp rfl rfl rfl rfl ?_
  refine xr_stp (st' := .int (Int32.ofNat 1) :: _) rfl rfl rfl rfl ?_
  refine xr_j2 rfl rfl rfl rfl rfl (fun h2 => ?_) (fun h2 => ?_)
  · have z2 := nt_lt (by omega) (by omega) h2
    exact (by omega)
  · refine xr_stp rfl rfl rfl rfl ?_
    refine xr_stp (st' := .int (Int32.ofNat 12) :: _) rfl rfl rfl rfl ?_
    refine xr_j2 rfl rfl rfl rfl rfl (fun h8 => ?_) (fun h8 => ?_)
    · refine xr_stp (st' := .int (Int32.ofNat 4294967295) :: _) rfl rfl rfl rfl ?_
      exact xr_ret rfl rfl K
    · have z8 := nf_gt (by omega) (by omega) h8
      exact (by omega)
theorem cb_set1 (d c s : Nat) (W0 : xi_W) (r : xi_R → Prop) (K : r (some (.int (Int32.ofNat 4294967295)), W0, c, s)) : xr (d + 3) 101 0 [(0, .ref 17), (1, .int (Int32.ofNat 4)), (2, .int (Int32.ofNat 0)), (3, .int (Int32.ofNat 0)), (4, .int (Int32.ofNat 0))] [] W0 c s r := by
  refine xr_stp rfl rfl rfl rfl ?_
  refine xr_stp rfl rfl rfl rfl ?_
  refine xr_stp rfl rfl rfl rfl ?_
  refine xr_cps rfl rfl rfl (fun r1 K2 => cb_c400 _ _ _ _ r1 (K2 _ _ _ _ ?_))
  refine xr_j1 rfl rfl rfl rfl rfl (fun h6 => ?_) (fun h6 => ?_)
  · refine xr_stp (st' := .int (Int32.ofNat 4294967295) :: _) rfl rfl rfl rfl ?_
    exact xr_ret rfl rfl K
  · have z6 := nf1_eq h6
    exact (by omega)
theorem cb_set2 (d c s : Nat) (W0 : xi_W) (r : xi_R → Prop) (K : r (some (.int (Int32.ofNat 4294967295)), W0, c, s)) : xr (d + 3) 101 0 [(0, .ref 17), (1, .int (Int32.ofNat 0)), (2, .int (Int32.ofNat 4)), (3, .int (Int32.ofNat 0)), (4, .int (Int32.ofNat 0))] [] W0 c s r := by
  refine xr_stp rfl rfl rfl rfl ?_
  refine xr_stp rfl rfl rfl rfl ?_
  refine xr_stp rfl rfl rfl rfl ?_
  refine xr_cps rfl rfl rfl (fun r1 K2 => cb_c040 _ _ _ _ r1 (K2 _ _ _ _ ?_))
  refine xr_j1 rfl rfl rfl rfl rfl (fun h6 => ?_) (fun h6 => ?_)
  · refine xr_stp (st' := .int (Int32.ofNat 4294967295) :: _) rfl rfl rfl rfl ?_
    exact xr_ret rfl rfl K
  · have z6 := nf1_eq h6
    exact (by omega)
theorem cb_set3 (d c s : Nat) (W0 : xi_W) (r : xi_R → Prop) (K : r (some (.int (Int32.ofNat 4294967295)), W0, c, s)) : xr (d + 3) 101 0 [(0, .ref 17), (1, .int (Int32.ofNat 0)), (2, .int (Int32.ofNat 0)), (3, .int (Int32.ofNat 3)), (4, .int (Int32.ofNat 0))] [] W0 c s r := by
  refine xr_stp rfl rfl rfl rfl ?_
  refine xr_stp rfl rfl rfl rfl ?_
  refine xr_stp rfl rfl rfl rfl ?_
  refine xr_cps rfl rfl rfl (fun r1 K2 => cb_c003 _ _ _ _ r1 (K2 _ _ _ _ ?_))
  refine xr_j1 rfl rfl rfl rfl rfl (fun h6 => ?_) (fun h6 => ?_)
  · refine xr_stp (st' := .int (Int32.ofNat 4294967295) :: _) rfl rfl rfl rfl ?_
    exact xr_ret rfl rfl K
  · have z6 := nf1_eq h6
    exact (by omega)
theorem cb_set4 (d c s : Nat) (W0 : xi_W) (r : xi_R → Prop) (K : r (some (.int (Int32.ofNat 4294967295)), W0, c, s)) : xr (d + 3) 101 0 [(0, .ref 17), (1, .int (Int32.ofNat 0)), (2, .int (Int32.ofNat 0)), (3, .int (Int32.ofNat 0)), (4, .int (Int32.ofNat 100))] [] W0 c s r := by
  refine xr_stp rfl rfl rfl rfl ?_
  refine xr_stp rfl rfl rfl rfl ?_
  refine xr_stp rfl rfl rfl rfl ?_
  refine xr_cps rfl rfl rfl (fun r1 K2 => cl_cell _ _ _ 0 0 0 _ (by omega) (by omega) (by omega) r1 (K2 _ _ _ _ ?_))
  refine xr_j1 rfl rfl rfl rfl rfl (fun h6 => ?_) (fun h6 => ?_)
  · have z6 := nt1_eq (by omega) h6
    exact (by omega)
  · refine xr_stp rfl rfl rfl rfl ?_
    refine xr_j1 rfl rfl rfl rfl rfl (fun h11 => ?_) (fun h11 => ?_)
    · have z11 := n_lt0 h11
      exact (by omega)
    · refine xr_stp rfl rfl rfl rfl ?_
      refine xr_stp (st' := .int (Int32.ofNat 100) :: _) rfl rfl rfl rfl ?_
      refine xr_j2 rfl rfl rfl rfl rfl (fun h18 => ?_) (fun h18 => ?_)
      · have z18 := nt_lt (by omega) (by omega) h18
        exact (by omega)
      · refine xr_stp (st' := .int (Int32.ofNat 4294967295) :: _) rfl rfl rfl rfl ?_
        exact xr_ret rfl rfl K
theorem cb_cle1 (d c s : Nat) (W0 : xi_W) (r : xi_R → Prop) (K : r (some (.int (Int32.ofNat 4294967295)), W0, c, s)) : xr (d + 3) 102 0 [(0, .ref 17), (1, .int (Int32.ofNat 4)), (2, .int (Int32.ofNat 0)), (3, .int (Int32.ofNat 0))] [] W0 c s r := by
  refine xr_stp rfl rfl rfl rfl ?_
  refine xr_stp rfl rfl rfl rfl ?_
  refine xr_stp rfl rfl rfl rfl ?_
  refine xr_cps rfl rfl rfl (fun r1 K2 => cb_c400 _ _ _ _ r1 (K2 _ _ _ _ ?_))
  refine xr_j1 rfl rfl rfl rfl rfl (fun h6 => ?_) (fun h6 => ?_)
  · have z6 := nt1_ne h6
    exact (by omega)
  · refine xr_stp (st' := .int (Int32.ofNat 4294967295) :: _) rfl rfl rfl rfl ?_
    exact xr_ret rfl rfl K
theorem cb_cle2 (d c s : Nat) (W0 : xi_W) (r : xi_R → Prop) (K : r (some (.int (Int32.ofNat 4294967295)), W0, c, s)) : xr (d + 3) 102 0 [(0, .ref 17), (1, .int (Int32.ofNat 0)), (2, .int (Int32.ofNat 0)), (3, .int (Int32.ofNat 3))] [] W0 c s r := by
  refine xr_stp rfl rfl rfl rfl ?_
  refine xr_stp rfl rfl rfl rfl ?_
  refine xr_stp rfl rfl rfl rfl ?_
  refine xr_cps rfl rfl rfl (fun r1 K2 => cb_c003 _ _ _ _ r1 (K2 _ _ _ _ ?_))
  refine xr_j1 rfl rfl rfl rfl rfl (fun h6 => ?_) (fun h6 => ?_)
  · have z6 := nt1_ne h6
    exact (by omega)
  · refine xr_stp (st' := .int (Int32.ofNat 4294967295) :: _) rfl rfl rfl rfl ?_
    exact xr_ret rfl rfl K
theorem cb_res (d c s : Nat) (W0 : xi_W) (r : xi_R → Prop) (K : r (some (.int (Int32.ofNat 4294967295)), W0, c, s)) : xr (d + 3) 103 0 [(0, .ref 17), (1, .int (Int32.ofNat 0)), (2, .int (Int32.ofNat 4))] [] W0 c s r := by
  refine xr_stp rfl rfl rfl rfl ?_
  refine xr_cps rfl rfl rfl (fun r1 K2 => cl_rep _ _ _ 0 _ (by omega) r1 (K2 _ _ _ _ ?_))
  refine xr_j1 rfl rfl rfl rfl rfl (fun h4 => ?_) (fun h4 => ?_)
  · have z4 := nt1_eq (by omega) h4
    exact (by omega)
  · refine xr_stp rfl rfl rfl rfl ?_
    refine xr_cps rfl rfl rfl (fun r1 K2 => cb_key4 _ _ _ _ r1 (K2 _ _ _ _ ?_))
    refine xr_j1 rfl rfl rfl rfl rfl (fun h11 => ?_) (fun h11 => ?_)
    · have z11 := nt1_ne h11
      exact (by omega)
    · refine xr_stp (st' := .int (Int32.ofNat 4294967295) :: _) rfl rfl rfl rfl ?_
      exact xr_ret rfl rfl K
theorem cb_sen1 (d c s : Nat) (W0 : xi_W) (r : xi_R → Prop) (K : r (some (.int (Int32.ofNat 4294967295)), W0, c, s)) : xr (d + 3) 104 0 [(0, .ref 17), (1, .int (Int32.ofNat 0)), (2, .int (Int32.ofNat 0))] [] W0 c s r := by
  refine xr_stp rfl rfl rfl rfl ?_
  refine xr_stp rfl rfl rfl rfl ?_
  refine xr_cps rfl rfl rfl (fun r1 K2 => cl_pairE _ _ _ 0 _ (by omega) r1 (K2 _ _ _ _ ?_))
  refine xr_j1 rfl rfl rfl rfl rfl (fun h5 => ?_) (fun h5 => ?_)
  · have z5 := nt1_ne h5
    exact (by omega)
  · refine xr_stp (st' := .int (Int32.ofNat 4294967295) :: _) rfl rfl rfl rfl ?_
    exact xr_ret rfl rfl K
theorem cb_sen2 (d c s : Nat) (W0 : xi_W) (r : xi_R → Prop) (K : r (some (.int (Int32.ofNat 4294967295)), W0, c, s)) : xr (d + 3) 104 0 [(0, .ref 17), (1, .int (Int32.ofNat 0)), (2, .int (Int32.ofNat 4))] [] W0 c s r := by
  refine xr_stp rfl rfl rfl rfl ?_
  refine xr_stp rfl rfl rfl rfl ?_
  refine xr_cps rfl rfl rfl (fun r1 K2 => cb_p04 _ _ _ _ r1 (K2 _ _ _ _ ?_))
  refine xr_j1 rfl rfl rfl rfl rfl (fun h5 => ?_) (fun h5 => ?_)
  · have z5 := nt1_ne h5
    exact (by omega)
  · refine xr_stp (st' := .int (Int32.ofNat 4294967295) :: _) rfl rfl rfl rfl ?_
    exact xr_ret rfl rfl K
theorem cb_yea1 (d c s : Nat) (W0 : xi_W) (r : xi_R → Prop) (K : r (some (.int (Int32.ofNat 4294967295)), W0, c, s)) : xr (d + 3) 107 0 [(0, .ref 17), (1, .int (Int32.ofNat 10000)), (2, .int (Int32.ofNat 1))] [] W0 c s r := by
  refine xr_stp rfl rfl rfl rfl ?_
  refine xr_j1 rfl rfl rfl rfl rfl (fun h1 => ?_) (fun h1 => ?_)
  · have z1 := n_lt0 h1
    exact (by omega)
  · refine xr_stp rfl rfl rfl rfl ?_
    refine xr_stp (st' := .int (Int32.ofNat 9999) :: _) rfl rfl rfl rfl ?_
    refine xr_j2 rfl rfl rfl rfl rfl (fun h8 => ?_) (fun h8 => ?_)
    · refine xr_stp (st' := .int (Int32.ofNat 4294967295) :: _) rfl rfl rfl rfl ?_
      exact xr_ret rfl rfl K
    · have z8 := nf_gt (by omega) (by omega) h8
      exact (by omega)
theorem cb_yea2 (d c s : Nat) (W0 : xi_W) (r : xi_R → Prop) (K : r (some (.int (Int32.ofNat 4294967295)), W0, c, s)) : xr (d + 3) 107 0 [(0, .ref 17), (1, .int (Int32.ofNat 0)), (2, .int (Int32.ofNat 25))] [] W0 c s r := by
  refine xr_stp rfl rfl rfl rfl ?_
  refine xr_j1 rfl rfl rfl rfl rfl (fun h1 => ?_) (fun h1 => ?_)
  · have z1 := n_lt0 h1
    exact (by omega)
  · refine xr_stp rfl rfl rfl rfl ?_
    refine xr_stp (st' := .int (Int32.ofNat 9999) :: _) rfl rfl rfl rfl ?_
    refine xr_j2 rfl rfl rfl rfl rfl (fun h8 => ?_) (fun h8 => ?_)
    · have z8 := nt_gt (by omega) (by omega) h8
      exact (by omega)
    · refine xr_stp rfl rfl rfl rfl ?_
      refine xr_stp (st' := .int (Int32.ofNat 1) :: _) rfl rfl rfl rfl ?_
      refine xr_j2 rfl rfl rfl rfl rfl (fun h13 => ?_) (fun h13 => ?_)
      · have z13 := nt_lt (by omega) (by omega) h13
        exact (by omega)
      · refine xr_stp rfl rfl rfl rfl ?_
        refine xr_stp (st' := .int (Int32.ofNat 24) :: _) rfl rfl rfl rfl ?_
        refine xr_j2 rfl rfl rfl rfl rfl (fun h19 => ?_) (fun h19 => ?_)
        · have z19 := nt_le (by omega) (by omega) h19
          exact (by omega)
        · refine xr_stp (st' := .int (Int32.ofNat 4294967295) :: _) rfl rfl rfl rfl ?_
          exact xr_ret rfl rfl K
theorem cb_del (d c s : Nat) (W0 : xi_W) (r : xi_R → Prop) (K : r (some (.int (Int32.ofNat 0)), W0, c, s)) : xr (d + 3) 100 0 [(0, .ref 17), (1, .int (Int32.ofNat 0))] [] W0 c s r := by
  refine xr_stp rfl rfl rfl rfl ?_
  refine xr_stp (st' := .int (Int32.ofNat 1) :: _) rfl rfl rfl rfl ?_
  refine xr_j2 rfl rfl rfl rfl rfl (fun h2 => ?_) (fun h2 => ?_)
  · refine xr_stp (st' := .int (Int32.ofNat 0) :: _) rfl rfl rfl rfl ?_
    exact xr_retb (by omega) rfl rfl K
  · have z2 := nf_lt (by omega) (by omega) h2
    exact (by omega)
theorem cb_ent (d c s : Nat) (W0 : xi_W) (r : xi_R → Prop) (K : r (some (.int (Int32.ofNat 4294967294)), W0, c, s)) : xr (d + 3) 110 0 [(0, .ref 17), (1, .int (Int32.ofNat 4)), (2, .int (Int32.ofNat 4294967295)), (3, .int (Int32.ofNat 0))] [] W0 c s r := by
  refine xr_stp rfl rfl rfl rfl ?_
  refine xr_cps rfl rfl rfl (fun r1 K2 => cb_rep4 _ _ _ _ r1 (K2 _ _ _ _ ?_))
  refine xr_j1 rfl rfl rfl rfl rfl (fun h4 => ?_) (fun h4 => ?_)
  · have z4 := nt1_ne h4
    exact (by omega)
  · refine xr_stp (st' := .int (Int32.ofNat 4294967294) :: _) rfl rfl rfl rfl ?_
    exact xr_ret rfl rfl K
theorem cb_val (d c s : Nat) (W0 : xi_W) (r : xi_R → Prop) (K : r (some (.int (Int32.ofNat 4294967294)), W0, c, s)) : xr (d + 3) 109 0 [(0, .ref 17), (1, .int (Int32.ofNat 0)), (2, .int (Int32.ofNat 4)), (3, .int (Int32.ofNat 0)), (4, .int (Int32.ofNat 4294967295))] [] W0 c s r := by
  refine xr_stp rfl rfl rfl rfl ?_
  refine xr_stp rfl rfl rfl rfl ?_
  refine xr_stp rfl rfl rfl rfl ?_
  refine xr_cps rfl rfl rfl (fun r1 K2 => cb_c040 _ _ _ _ r1 (K2 _ _ _ _ ?_))
  refine xr_j1 rfl rfl rfl rfl rfl (fun h6 => ?_) (fun h6 => ?_)
  · have z6 := nt1_ne h6
    exact (by omega)
  · refine xr_stp (st' := .int (Int32.ofNat 4294967294) :: _) rfl rfl rfl rfl ?_
    exact xr_ret rfl rfl K
theorem cb_of (d c s : Nat) (W0 : xi_W) (r : xi_R → Prop) (K : r (some (.int (Int32.ofNat 4294967294)), W0, c, s)) : xr (d + 3) 115 0 [(0, .ref 17), (1, .int (Int32.ofNat 0)), (2, .int (Int32.ofNat 4))] [] W0 c s r := by
  refine xr_stp rfl rfl rfl rfl ?_
  refine xr_cps rfl rfl rfl (fun r1 K2 => cl_rep _ _ _ 0 _ (by omega) r1 (K2 _ _ _ _ ?_))
  refine xr_j1 rfl rfl rfl rfl rfl (fun h4 => ?_) (fun h4 => ?_)
  · refine xr_stp rfl rfl rfl rfl ?_
    refine xr_stp (pc' := 84) rfl rfl rfl rfl ?_
    refine xr_stp (st' := .int (Int32.ofNat 4294967294) :: _) rfl rfl rfl rfl ?_
    exact xr_ret rfl rfl K
  · have z4 := nf1_ne (by omega) h4
    exact (by omega)
theorem cb_is (d c s : Nat) (W0 : xi_W) (r : xi_R → Prop) (K : r (some (.int (Int32.ofNat 4294967294)), W0, c, s)) : xr (d + 3) 118 0 [(0, .ref 17), (1, .int (Int32.ofNat 4))] [] W0 c s r := by
  refine xr_stp rfl rfl rfl rfl ?_
  refine xr_stp (pc' := 64) rfl rfl rfl rfl ?_
  refine xr_stp (st' := .int (Int32.ofNat 4294967294) :: _) rfl rfl rfl rfl ?_
  exact xr_ret rfl rfl K
theorem cb_abo (d c s : Nat) (W0 : xi_W) (r : xi_R → Prop) (K : r (some (.int (Int32.ofNat 4294967294)), W0, c, s)) : xr (d + 3) 146 0 [(0, .ref 17), (1, .int (Int32.ofNat 6))] [] W0 c s r := by
  refine xr_stp rfl rfl rfl rfl ?_
  refine xr_stp (pc' := 88) rfl rfl rfl rfl ?_
  refine xr_stp (st' := .int (Int32.ofNat 4294967294) :: _) rfl rfl rfl rfl ?_
  exact xr_ret rfl rfl K
/-- 'same' -/
theorem cq_sam (d c s nn q dl tx sy T N fi m mm : Nat) (f : Nat → Int32) (W0 : xi_W) (G : Nat → Nat) (GS : Nat → Nat → Nat) (hc : cmx nn f q dl tx sy T N fi m mm G GS W0) (t u : Nat) (ht : t < 4) (hu : u < 4) (r : xi_R → Prop) (K : ∀ v, v < 2 → (v = 1 ↔ G (330 + 2 * t) = G (330 + 2 * u) ∧ G (331 + 2 * t) = G (331 + 2 * u)) → r (some (.int (Int32.ofNat v)), W0, c, s)) : xr (d + 6) 124 0 [(0, .ref 17), (1, .int (Int32.ofNat t)), (2, .int (Int32.ofNat u))] [] W0 c s r := by
  obtain ⟨lf, lp, hO⟩ := hc.o
  obtain ⟨F, hw, hr⟩ := hc.w
  have hl := hc.l
  have hR := hc.R
  have J := hr.j
  refine xr_stp rfl rfl rfl rfl ?_
  refine xr_cps rfl rfl rfl (fun r1 K2 => cl_rep _ _ _ t _ (by omega) r1 (K2 _ _ _ _ ?_))
  refine xr_j1 rfl rfl rfl rfl rfl (fun h4 => ?_) (fun h4 => ?_)
  · have z4 := nt1_eq (by omega) h4
    exact (by omega)
  · refine xr_stp rfl rfl rfl rfl ?_
    refine xr_cps rfl rfl rfl (fun r1 K2 => cl_rep _ _ _ u _ (by omega) r1 (K2 _ _ _ _ ?_))
    refine xr_j1 rfl rfl rfl rfl rfl (fun h11 => ?_) (fun h11 => ?_)
    · have z11 := nt1_eq (by omega) h11
      exact (by omega)
    · refine xr_stp rfl rfl rfl rfl ?_
      refine xr_getfield hO rfl rfl rfl rfl ?_
      refine xr_getfield (hw.w wb23 hl hR) rfl rfl rfl rfl ?_
      refine xr_stp rfl rfl rfl rfl ?_
      refine xr_stp rfl rfl rfl rfl ?_
      refine xr_vcps hw.2 rfl rfl rfl rfl rfl rfl (fun r1 K2 => rq_lk _ _ _ 23 W0 F G _ hw wb23 hl hR (hr.xs ht) (hr.xs hu) r1 (fun v hv ev => K2 _ _ _ _ ?_))
      refine xr_j1 rfl rfl rfl rfl rfl (fun h26 => ?_) (fun h26 => ?_)
      · have z26 := nt1_eq (by omega) h26
        subst z26
        refine xr_stp (st' := .int (Int32.ofNat 0) :: _) rfl rfl rfl rfl ?_
        exact xr_retb (by omega) rfl rfl (K _ (by omega) ev)
      · have z26 := nf1_eq h26
        have z26 : v = 1 := by omega
        subst z26
        refine xr_stp (st' := .int (Int32.ofNat 1) :: _) rfl rfl rfl rfl ?_
        refine xr_stp rfl rfl rfl rfl ?_
        exact xr_retb (by omega) rfl rfl (K _ (by omega) ev)
theorem cb_joi3 (d c s nn q dl tx sy T N fi m mm : Nat) (f : Nat → Int32) (W0 : xi_W) (G : Nat → Nat) (GS : Nat → Nat → Nat) (hc : cmx nn f q dl tx sy T N fi m mm G GS W0) (r : xi_R → Prop) (K : (∀ W', cmx nn f q dl tx sy T N fi m mm G GS W' → fr pq W0 W' → r (some (.int (Int32.ofNat 4294967295)), W', c, s))) : xr (d + 6) 126 0 [(0, .ref 17), (1, .int (Int32.ofNat 0)), (2, .int (Int32.ofNat 0)), (3, .int (Int32.ofNat 3))] [] W0 c s r := by
  obtain ⟨lf, lp, hO⟩ := hc.o
  obtain ⟨F, hw, hr⟩ := hc.w
  have hl := hc.l
  have hR := hc.R
  have J := hr.j
  refine xr_stp rfl rfl rfl rfl ?_
  refine xr_cps rfl rfl rfl (fun r1 K2 => cl_rep _ _ _ 0 _ (by omega) r1 (K2 _ _ _ _ ?_))
  refine xr_j1 rfl rfl rfl rfl rfl (fun h4 => ?_) (fun h4 => ?_)
  · have z4 := nt1_eq (by omega) h4
    exact (by omega)
  · refine xr_stp rfl rfl rfl rfl ?_
    refine xr_cps rfl rfl rfl (fun r1 K2 => cl_rep _ _ _ 0 _ (by omega) r1 (K2 _ _ _ _ ?_))
    refine xr_j1 rfl rfl rfl rfl rfl (fun h11 => ?_) (fun h11 => ?_)
    · refine xr_stp rfl rfl rfl rfl ?_
      refine xr_stp rfl rfl rfl rfl ?_
      refine xr_stp rfl rfl rfl rfl ?_
      refine xr_vcps hO rfl rfl rfl rfl rfl rfl (fun r1 K2 => cj_two _ _ _ nn q dl tx sy T N fi m mm f W0 G GS hc 0 0 (by omega) (by omega) r1 (fun W1 F1 hw1 hf1 hr1 hx1 => K2 _ _ _ _ ?_))
      have hc1 := hc.scr hf1 hw1 hr1
      clear hw hr
      have hw := hw1
      have hr := hr1
      have hl := hc1.l
      have hR := hc1.R
      obtain ⟨lf, lp, hO⟩ := hc1.o
      refine xr_stp rfl rfl rfl rfl ?_
      refine xr_stp rfl rfl rfl rfl ?_
      refine xr_vcps hO rfl rfl rfl rfl rfl rfl (fun r1 K2 => cj_of3 _ _ _ nn q dl tx sy T N fi m mm f W1 G GS hc1 3 (Or.inl rfl) r1 (K2 _ _ _ _ ?_))
      exact xr_ret rfl rfl (K W1 hc1 (pq_k (krK hf1)))
    · have z11 := nf1_ne (by omega) h11
      exact (by omega)
theorem cb_wou (d c s nn q dl tx sy T N fi m mm : Nat) (f : Nat → Int32) (W0 : xi_W) (G : Nat → Nat) (GS : Nat → Nat → Nat) (hc : cmx nn f q dl tx sy T N fi m mm G GS W0) (hN : N < 90000) (r : xi_R → Prop) (K : (r (some (.int (Int32.ofNat 4294967295)), W0, c, s))) : xr (d + 6) 122 0 [(0, .ref 17), (1, .int (Int32.ofNat 0)), (2, .int (Int32.ofNat 1)), (3, .int (Int32.ofNat 2))] [] W0 c s r := by
  obtain ⟨lf, lp, hO⟩ := hc.o
  obtain ⟨F, hw, hr⟩ := hc.w
  have hl := hc.l
  have hR := hc.R
  have J := hr.j
  have C := hr.1.2.2.2.2.1 0 (by omega)
  have hJc := J.c 0 (by omega)
  have hJa := J.a 0 1 (by omega) (by omega)
  have c2 := C.2.2 1 (by omega)
  by_cases h0 : G (346 + 4 * 0 + 1) < G (338 + 0)
  · refine xr_stp rfl rfl rfl rfl ?_
    refine xr_stp rfl rfl rfl rfl ?_
    refine xr_cps rfl rfl rfl (fun r1 K2 => cl_pair _ _ _ 0 1 _ (by omega) (by omega) (by omega) r1 (K2 _ _ _ _ ?_))
    refine xr_j1 rfl rfl rfl rfl rfl (fun h5 => ?_) (fun h5 => ?_)
    · have z5 := nt1_eq (by omega) h5
      exact (by omega)
    · refine xr_stp rfl rfl rfl rfl ?_
      refine xr_getfield hO rfl rfl rfl rfl ?_
      refine xr_stp rfl rfl rfl rfl ?_
      refine xr_stp rfl rfl rfl rfl ?_
      refine xr_vcps (hw.w wb23 hl hR) rfl rfl rfl rfl rfl rfl (fun r1 K2 => xr_kw0 hw (cn_hasNews (hw.B wb23 hl hR) _ F _ _ 0 1 (by omega) (by omega) (by rw [c2, C.1]; exact hJa) (by rw [C.1]; omega)) (K2 _ _ _ _ ?_))
      rw [c2, C.1, if_pos h0]
      refine xr_j1 rfl rfl rfl rfl rfl (fun h17 => ?_) (fun h17 => ?_)
      · have z17 := nt1_eq (by omega) h17
        exact (by omega)
      · refine xr_stp rfl rfl rfl rfl ?_
        refine xr_j1 rfl rfl rfl rfl rfl (fun h21 => ?_) (fun h21 => ?_)
        · have z21 := n_lt0 h21
          exact (by omega)
        · refine xr_stp rfl rfl rfl rfl ?_
          refine xr_stp (st' := .int (Int32.ofNat 1) :: _) rfl rfl rfl rfl ?_
          refine xr_j2 rfl rfl rfl rfl rfl (fun h26 => ?_) (fun h26 => ?_)
          · have z26 := nt_le (by omega) (by omega) h26
            exact (by omega)
          · refine xr_stp (st' := .int (Int32.ofNat 4294967295) :: _) rfl rfl rfl rfl ?_
            exact xr_ret rfl rfl K
  · refine xr_stp rfl rfl rfl rfl ?_
    refine xr_stp rfl rfl rfl rfl ?_
    refine xr_cps rfl rfl rfl (fun r1 K2 => cl_pair _ _ _ 0 1 _ (by omega) (by omega) (by omega) r1 (K2 _ _ _ _ ?_))
    refine xr_j1 rfl rfl rfl rfl rfl (fun h5 => ?_) (fun h5 => ?_)
    · have z5 := nt1_eq (by omega) h5
      exact (by omega)
    · refine xr_stp rfl rfl rfl rfl ?_
      refine xr_getfield hO rfl rfl rfl rfl ?_
      refine xr_stp rfl rfl rfl rfl ?_
      refine xr_stp rfl rfl rfl rfl ?_
      refine xr_vcps (hw.w wb23 hl hR) rfl rfl rfl rfl rfl rfl (fun r1 K2 => xr_kw0 hw (cn_hasNews (hw.B wb23 hl hR) _ F _ _ 0 1 (by omega) (by omega) (by rw [c2, C.1]; exact hJa) (by rw [C.1]; omega)) (K2 _ _ _ _ ?_))
      rw [c2, C.1, if_neg h0]
      refine xr_j1 rfl rfl rfl rfl rfl (fun h17 => ?_) (fun h17 => ?_)
      · refine xr_stp (st' := .int (Int32.ofNat 4294967295) :: _) rfl rfl rfl rfl ?_
        exact xr_ret rfl rfl K
      · have z17 := nf1_eq h17
        exact (by omega)
