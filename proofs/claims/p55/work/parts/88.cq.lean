/-- 'values' -/
theorem cq_valN (d c s nn q dl tx sy T N fi m mm : Nat) (f : Nat → Int32) (W0 : xi_W) (G : Nat → Nat) (GS : Nat → Nat → Nat) (hc : cmx nn f q dl tx sy T N fi m mm G GS W0) (t q f1 : Nat) (ht : t < 4) (hq : q < 4) (hf : f1 < 3) (r : xi_R → Prop) (K : r (some (.int (Int32.ofNat (bc 63 (lw_of G (G (330 + 2 * t)) q f1 (G 4) 0 0)))), W0, c, s)) : xr (d + 6) 109 0 [(0, .ref 17), (1, .int (Int32.ofNat t)), (2, .int (Int32.ofNat q)), (3, .int (Int32.ofNat f1)), (4, .int (Int32.ofNat 4294967295))] [] W0 c s r := by
  obtain ⟨lf, lp, hO⟩ := hc.o
  obtain ⟨F, hw, hr⟩ := hc.w
  have hl := hc.l
  have hR := hc.R
  have J := hr.j
  refine xr_stp rfl rfl rfl rfl ?_
  refine xr_stp rfl rfl rfl rfl ?_
  refine xr_stp rfl rfl rfl rfl ?_
  refine xr_cps rfl rfl rfl (fun r1 K2 => cl_cell _ _ _ t q f1 _ (by omega) (by omega) (by omega) r1 (K2 _ _ _ _ ?_))
  refine xr_j1 rfl rfl rfl rfl rfl (fun h6 => ?_) (fun h6 => ?_)
  · refine xr_stp rfl rfl rfl rfl ?_
    refine xr_stp (st' := .int (Int32.ofNat 4294967295) :: _) rfl rfl rfl rfl ?_
    refine xr_j2 rfl rfl rfl rfl rfl (fun h15 => ?_) (fun h15 => ?_)
    · have z15 := nt_ne h15
      exact (by omega)
    · refine xr_stp rfl rfl rfl rfl ?_
      refine xr_getfield hO rfl rfl rfl rfl ?_
      refine xr_getfield (hw.w wb23 hl hR) rfl rfl rfl rfl ?_
      refine xr_stp rfl rfl rfl rfl ?_
      refine xr_stp rfl rfl rfl rfl ?_
      refine xr_stp rfl rfl rfl rfl ?_
      refine xr_vcps hw.2 rfl rfl rfl rfl rfl rfl (fun r1 K2 => rq_many _ _ _ 23 W0 F G _ hw wb23 hl hR (hr.xs ht) q f1 hq (by omega) r1 (K2 _ _ _ _ ?_))
      exact xr_ret rfl rfl K
  · have z6 := nf1_ne (by omega) h6
    exact (by omega)
theorem cq_valE (d c s nn q dl tx sy T N fi m mm : Nat) (f : Nat → Int32) (W0 : xi_W) (G : Nat → Nat) (GS : Nat → Nat → Nat) (hc : cmx nn f q dl tx sy T N fi m mm G GS W0) (t q f1 : Nat) (ht : t < 4) (hq : q < 4) (hf : f1 < 3) (i : Nat) (hi : bc 63 (lw_of G (G (330 + 2 * t)) q f1 (G 4) 0 0) ≤ i) (hi2 : i < 2147483648) (r : xi_R → Prop) (K : r (some (.int (Int32.ofNat 4294967294)), W0, c, s)) : xr (d + 6) 109 0 [(0, .ref 17), (1, .int (Int32.ofNat t)), (2, .int (Int32.ofNat q)), (3, .int (Int32.ofNat f1)), (4, .int (Int32.ofNat i))] [] W0 c s r := by
  obtain ⟨lf, lp, hO⟩ := hc.o
  obtain ⟨F, hw, hr⟩ := hc.w
  have hl := hc.l
  have hR := hc.R
  have J := hr.j
  refine xr_stp rfl rfl rfl rfl ?_
  refine xr_stp rfl rfl rfl rfl ?_
  refine xr_stp rfl rfl rfl rfl ?_
  refine xr_cps rfl rfl rfl (fun r1 K2 => cl_cell _ _ _ t q f1 _ (by omega) (by omega) (by omega) r1 (K2 _ _ _ _ ?_))
  refine xr_j1 rfl rfl rfl rfl rfl (fun h6 => ?_) (fun h6 => ?_)
  · refine xr_stp rfl rfl rfl rfl ?_
    refine xr_stp (st' := .int (Int32.ofNat 4294967295) :: _) rfl rfl rfl rfl ?_
    refine xr_j2 rfl rfl rfl rfl rfl (fun h15 => ?_) (fun h15 => ?_)
    · refine xr_stp rfl rfl rfl rfl ?_
      refine xr_getfield hO rfl rfl rfl rfl ?_
      refine xr_getfield (hw.w wb23 hl hR) rfl rfl rfl rfl ?_
      refine xr_stp rfl rfl rfl rfl ?_
      refine xr_stp rfl rfl rfl rfl ?_
      refine xr_stp rfl rfl rfl rfl ?_
      refine xr_stp rfl rfl rfl rfl ?_
      refine xr_vcps hw.2 rfl rfl rfl rfl rfl rfl (fun r1 K2 => rq_nth _ _ _ 23 W0 F G _ hw wb23 hl hR (hr.xs ht) q f1 i hq (by omega) hi2 r1 (K2 _ _ _ _ ?_))
      rw [if_neg (show ¬ i < bc 63 (lw_of G (G (330 + 2 * t)) q f1 (G 4) 0 0) by omega)]
      refine xr_stp rfl rfl rfl rfl ?_
      refine xr_stp rfl rfl rfl rfl ?_
      refine xr_stp (st' := .int (Int32.ofNat 4294967295) :: _) rfl rfl rfl rfl ?_
      refine xr_j2 rfl rfl rfl rfl rfl (fun h52 => ?_) (fun h52 => ?_)
      · have z52 := nt_ne h52
        exact (by omega)
      · refine xr_stp (st' := .int (Int32.ofNat 4294967294) :: _) rfl rfl rfl rfl ?_
        refine xr_stp rfl rfl rfl rfl ?_
        exact xr_ret rfl rfl K
    · have z15 := nf_ne (by omega) (by omega) h15
      exact (by omega)
  · have z6 := nf1_ne (by omega) h6
    exact (by omega)
theorem cq_valI (d c s nn q dl tx sy T N fi m mm : Nat) (f : Nat → Int32) (W0 : xi_W) (G : Nat → Nat) (GS : Nat → Nat → Nat) (hc : cmx nn f q dl tx sy T N fi m mm G GS W0) (t q f1 : Nat) (ht : t < 4) (hq : q < 4) (hf : f1 < 3) (i : Nat) (hi : i < bc 63 (lw_of G (G (330 + 2 * t)) q f1 (G 4) 0 0)) (r : xi_R → Prop) (K : r (some (.int (Int32.ofNat (G (14 + 5 * lw_row G (lw_of G (G (330 + 2 * t)) q f1 (G 4) 0 0) i)))), W0, c, s)) : xr (d + 6) 109 0 [(0, .ref 17), (1, .int (Int32.ofNat t)), (2, .int (Int32.ofNat q)), (3, .int (Int32.ofNat f1)), (4, .int (Int32.ofNat i))] [] W0 c s r := by
  obtain ⟨lf, lp, hO⟩ := hc.o
  obtain ⟨F, hw, hr⟩ := hc.w
  have hl := hc.l
  have hR := hc.R
  have J := hr.j
  have hb := bcle 63 (lw_of G (G (330 + 2 * t)) q f1 (G 4) 0 0)
  have hx := ((lw_rowE hr.e hr.j.e (lw_of_lt G (G (330 + 2 * t)) q f1)).1 i hi).1
  have hd := (dt_lt hr.e hr.j.e hx).1
  refine xr_stp rfl rfl rfl rfl ?_
  refine xr_stp rfl rfl rfl rfl ?_
  refine xr_stp rfl rfl rfl rfl ?_
  refine xr_cps rfl rfl rfl (fun r1 K2 => cl_cell _ _ _ t q f1 _ (by omega) (by omega) (by omega) r1 (K2 _ _ _ _ ?_))
  refine xr_j1 rfl rfl rfl rfl rfl (fun h6 => ?_) (fun h6 => ?_)
  · refine xr_stp rfl rfl rfl rfl ?_
    refine xr_stp (st' := .int (Int32.ofNat 4294967295) :: _) rfl rfl rfl rfl ?_
    refine xr_j2 rfl rfl rfl rfl rfl (fun h15 => ?_) (fun h15 => ?_)
    · refine xr_stp rfl rfl rfl rfl ?_
      refine xr_getfield hO rfl rfl rfl rfl ?_
      refine xr_getfield (hw.w wb23 hl hR) rfl rfl rfl rfl ?_
      refine xr_stp rfl rfl rfl rfl ?_
      refine xr_stp rfl rfl rfl rfl ?_
      refine xr_stp rfl rfl rfl rfl ?_
      refine xr_stp rfl rfl rfl rfl ?_
      refine xr_vcps hw.2 rfl rfl rfl rfl rfl rfl (fun r1 K2 => rq_nth _ _ _ 23 W0 F G _ hw wb23 hl hR (hr.xs ht) q f1 i hq (by omega) (by omega) r1 (K2 _ _ _ _ ?_))
      rw [if_pos hi]
      refine xr_stp rfl rfl rfl rfl ?_
      refine xr_stp rfl rfl rfl rfl ?_
      refine xr_stp (st' := .int (Int32.ofNat 4294967295) :: _) rfl rfl rfl rfl ?_
      refine xr_j2 rfl rfl rfl rfl rfl (fun h52 => ?_) (fun h52 => ?_)
      · refine xr_stp rfl rfl rfl rfl ?_
        refine xr_getfield hO rfl rfl rfl rfl ?_
        refine xr_getfield (hw.w wb23 hl hR) rfl rfl rfl rfl ?_
        refine xr_stp rfl rfl rfl rfl ?_
        refine xr_vcps hw.2 rfl rfl rfl rfl rfl rfl (fun r1 K2 => rq_val _ _ _ 23 W0 F G _ hw wb23 hl hR hr.e hr.j.e hr.1.2.2.1 hx r1 (K2 _ _ _ _ ?_))
        exact xr_ret rfl rfl K
      · have z52 := nf_ne (by omega) (by omega) h52
        exact (by omega)
    · have z15 := nf_ne (by omega) (by omega) h15
      exact (by omega)
  · have z6 := nf1_ne (by omega) h6
    exact (by omega)
/-- 'entry' -/
theorem cq_entN (d c s nn q dl tx sy T N fi m mm : Nat) (f : Nat → Int32) (W0 : xi_W) (G : Nat → Nat) (GS : Nat → Nat → Nat) (hc : cmx nn f q dl tx sy T N fi m mm G GS W0) (t z : Nat) (ht : t < 4) (r : xi_R → Prop) (K : r (some (.int (Int32.ofNat (bc 63 (G (330 + 2 * t))))), W0, c, s)) : xr (d + 6) 110 0 [(0, .ref 17), (1, .int (Int32.ofNat t)), (2, .int (Int32.ofNat 4294967295)), (3, .int (Int32.ofNat z))] [] W0 c s r := by
  obtain ⟨lf, lp, hO⟩ := hc.o
  obtain ⟨F, hw, hr⟩ := hc.w
  have hl := hc.l
  have hR := hc.R
  have J := hr.j
  refine xr_stp rfl rfl rfl rfl ?_
  refine xr_cps rfl rfl rfl (fun r1 K2 => cl_rep _ _ _ t _ (by omega) r1 (K2 _ _ _ _ ?_))
  refine xr_j1 rfl rfl rfl rfl rfl (fun h4 => ?_) (fun h4 => ?_)
  · refine xr_stp rfl rfl rfl rfl ?_
    refine xr_stp (st' := .int (Int32.ofNat 4294967295) :: _) rfl rfl rfl rfl ?_
    refine xr_j2 rfl rfl rfl rfl rfl (fun h12 => ?_) (fun h12 => ?_)
    · have z12 := nt_ne h12
      exact (by omega)
    · refine xr_stp rfl rfl rfl rfl ?_
      refine xr_getfield hO rfl rfl rfl rfl ?_
      refine xr_getfield (hw.w wb23 hl hR) rfl rfl rfl rfl ?_
      refine xr_stp rfl rfl rfl rfl ?_
      refine xr_vcps hw.2 rfl rfl rfl rfl rfl rfl (fun r1 K2 => rq_ent _ _ _ 23 W0 F G _ hw wb23 hl hR (hr.xs ht) r1 (K2 _ _ _ _ ?_))
      exact xr_ret rfl rfl K
  · have z4 := nf1_ne (by omega) h4
    exact (by omega)
theorem cq_entE (d c s nn q dl tx sy T N fi m mm : Nat) (f : Nat → Int32) (W0 : xi_W) (G : Nat → Nat) (GS : Nat → Nat → Nat) (hc : cmx nn f q dl tx sy T N fi m mm G GS W0) (t i z : Nat) (ht : t < 4) (hi : bc 63 (G (330 + 2 * t)) ≤ i) (hi2 : i < 2147483648) (r : xi_R → Prop) (K : r (some (.int (Int32.ofNat 4294967294)), W0, c, s)) : xr (d + 6) 110 0 [(0, .ref 17), (1, .int (Int32.ofNat t)), (2, .int (Int32.ofNat i)), (3, .int (Int32.ofNat z))] [] W0 c s r := by
  obtain ⟨lf, lp, hO⟩ := hc.o
  obtain ⟨F, hw, hr⟩ := hc.w
  have hl := hc.l
  have hR := hc.R
  have J := hr.j
  refine xr_stp rfl rfl rfl rfl ?_
  refine xr_cps rfl rfl rfl (fun r1 K2 => cl_rep _ _ _ t _ (by omega) r1 (K2 _ _ _ _ ?_))
  refine xr_j1 rfl rfl rfl rfl rfl (fun h4 => ?_) (fun h4 => ?_)
  · refine xr_stp rfl rfl rfl rfl ?_
    refine xr_stp (st' := .int (Int32.ofNat 4294967295) :: _) rfl rfl rfl rfl ?_
    refine xr_j2 rfl rfl rfl rfl rfl (fun h12 => ?_) (fun h12 => ?_)
    · refine xr_stp rfl rfl rfl rfl ?_
      refine xr_getfield hO rfl rfl rfl rfl ?_
      refine xr_getfield (hw.w wb23 hl hR) rfl rfl rfl rfl ?_
      refine xr_stp rfl rfl rfl rfl ?_
      refine xr_stp (st' := .int (Int32.ofNat 4294967295) :: _) rfl rfl rfl rfl ?_
      refine xr_stp (st' := .int (Int32.ofNat 4294967295) :: _) rfl rfl rfl rfl ?_
      refine xr_stp rfl rfl rfl rfl ?_
      refine xr_vcps hw.2 rfl rfl rfl rfl rfl rfl (fun r1 K2 => rq_nthA _ _ _ 23 W0 F G _ hw wb23 hl hR (hr.xs ht) i hi2 r1 (K2 _ _ _ _ ?_))
      rw [if_neg (show ¬ i < bc 63 (G (330 + 2 * t)) by omega)]
      refine xr_stp rfl rfl rfl rfl ?_
      refine xr_stp rfl rfl rfl rfl ?_
      refine xr_stp (st' := .int (Int32.ofNat 4294967295) :: _) rfl rfl rfl rfl ?_
      refine xr_j2 rfl rfl rfl rfl rfl (fun h46 => ?_) (fun h46 => ?_)
      · have z46 := nt_ne h46
        exact (by omega)
      · refine xr_stp (st' := .int (Int32.ofNat 4294967294) :: _) rfl rfl rfl rfl ?_
        exact xr_ret rfl rfl K
    · have z12 := nf_ne (by omega) (by omega) h12
      exact (by omega)
  · have z4 := nf1_ne (by omega) h4
    exact (by omega)
theorem cq_ent0 (d c s nn q dl tx sy T N fi m mm : Nat) (f : Nat → Int32) (W0 : xi_W) (G : Nat → Nat) (GS : Nat → Nat → Nat) (hc : cmx nn f q dl tx sy T N fi m mm G GS W0) (t i : Nat) (ht : t < 4) (hi : i < bc 63 (G (330 + 2 * t))) (r : xi_R → Prop) (K : r (some (.int (Int32.ofNat (G (10 + 5 * (lw_row G (G (330 + 2 * t)) i))))), W0, c, s)) : xr (d + 6) 110 0 [(0, .ref 17), (1, .int (Int32.ofNat t)), (2, .int (Int32.ofNat i)), (3, .int (Int32.ofNat 0))] [] W0 c s r := by
  obtain ⟨lf, lp, hO⟩ := hc.o
  obtain ⟨F, hw, hr⟩ := hc.w
  have hl := hc.l
  have hR := hc.R
  have J := hr.j
  have hb := bcle 63 (G (330 + 2 * t))
  have hx := ((lw_rowE hr.e hr.j.e (hr.xs ht).hk.1).1 i hi).1
  have hd := dt_lt hr.e hr.j.e hx
  refine xr_stp rfl rfl rfl rfl ?_
  refine xr_cps rfl rfl rfl (fun r1 K2 => cl_rep _ _ _ t _ (by omega) r1 (K2 _ _ _ _ ?_))
  refine xr_j1 rfl rfl rfl rfl rfl (fun h4 => ?_) (fun h4 => ?_)
  · refine xr_stp rfl rfl rfl rfl ?_
    refine xr_stp (st' := .int (Int32.ofNat 4294967295) :: _) rfl rfl rfl rfl ?_
    refine xr_j2 rfl rfl rfl rfl rfl (fun h12 => ?_) (fun h12 => ?_)
    · refine xr_stp rfl rfl rfl rfl ?_
      refine xr_getfield hO rfl rfl rfl rfl ?_
      refine xr_getfield (hw.w wb23 hl hR) rfl rfl rfl rfl ?_
      refine xr_stp rfl rfl rfl rfl ?_
      refine xr_stp (st' := .int (Int32.ofNat 4294967295) :: _) rfl rfl rfl rfl ?_
      refine xr_stp (st' := .int (Int32.ofNat 4294967295) :: _) rfl rfl rfl rfl ?_
      refine xr_stp rfl rfl rfl rfl ?_
      refine xr_vcps hw.2 rfl rfl rfl rfl rfl rfl (fun r1 K2 => rq_nthA _ _ _ 23 W0 F G _ hw wb23 hl hR (hr.xs ht) i (by omega) r1 (K2 _ _ _ _ ?_))
      rw [if_pos hi]
      refine xr_stp rfl rfl rfl rfl ?_
      refine xr_stp rfl rfl rfl rfl ?_
      refine xr_stp (st' := .int (Int32.ofNat 4294967295) :: _) rfl rfl rfl rfl ?_
      refine xr_j2 rfl rfl rfl rfl rfl (fun h46 => ?_) (fun h46 => ?_)
      · refine xr_stp rfl rfl rfl rfl ?_
        refine xr_stp (pc' := 88) rfl rfl rfl rfl ?_
        refine xr_stp rfl rfl rfl rfl ?_
        refine xr_stp (st' := .int (Int32.ofNat 64) :: _) rfl rfl rfl rfl ?_
        refine xs_div (by omega) (by omega) (by omega) rfl ?_
        rw [hd.2.1]
        exact xr_ret rfl rfl K
      · have z46 := nf_ne (by omega) (by omega) h46
        exact (by omega)
    · have z12 := nf_ne (by omega) (by omega) h12
      exact (by omega)
  · have z4 := nf1_ne (by omega) h4
    exact (by omega)
theorem cq_ent1 (d c s nn q dl tx sy T N fi m mm : Nat) (f : Nat → Int32) (W0 : xi_W) (G : Nat → Nat) (GS : Nat → Nat → Nat) (hc : cmx nn f q dl tx sy T N fi m mm G GS W0) (t i : Nat) (ht : t < 4) (hi : i < bc 63 (G (330 + 2 * t))) (r : xi_R → Prop) (K : r (some (.int (Int32.ofNat (G (11 + 5 * (lw_row G (G (330 + 2 * t)) i))))), W0, c, s)) : xr (d + 6) 110 0 [(0, .ref 17), (1, .int (Int32.ofNat t)), (2, .int (Int32.ofNat i)), (3, .int (Int32.ofNat 1))] [] W0 c s r := by
  obtain ⟨lf, lp, hO⟩ := hc.o
  obtain ⟨F, hw, hr⟩ := hc.w
  have hl := hc.l
  have hR := hc.R
  have J := hr.j
  have hb := bcle 63 (G (330 + 2 * t))
  have hx := ((lw_rowE hr.e hr.j.e (hr.xs ht).hk.1).1 i hi).1
  have hd := dt_lt hr.e hr.j.e hx
  refine xr_stp rfl rfl rfl rfl ?_
  refine xr_cps rfl rfl rfl (fun r1 K2 => cl_rep _ _ _ t _ (by omega) r1 (K2 _ _ _ _ ?_))
  refine xr_j1 rfl rfl rfl rfl rfl (fun h4 => ?_) (fun h4 => ?_)
  · refine xr_stp rfl rfl rfl rfl ?_
    refine xr_stp (st' := .int (Int32.ofNat 4294967295) :: _) rfl rfl rfl rfl ?_
    refine xr_j2 rfl rfl rfl rfl rfl (fun h12 => ?_) (fun h12 => ?_)
    · refine xr_stp rfl rfl rfl rfl ?_
      refine xr_getfield hO rfl rfl rfl rfl ?_
      refine xr_getfield (hw.w wb23 hl hR) rfl rfl rfl rfl ?_
      refine xr_stp rfl rfl rfl rfl ?_
      refine xr_stp (st' := .int (Int32.ofNat 4294967295) :: _) rfl rfl rfl rfl ?_
      refine xr_stp (st' := .int (Int32.ofNat 4294967295) :: _) rfl rfl rfl rfl ?_
      refine xr_stp rfl rfl rfl rfl ?_
      refine xr_vcps hw.2 rfl rfl rfl rfl rfl rfl (fun r1 K2 => rq_nthA _ _ _ 23 W0 F G _ hw wb23 hl hR (hr.xs ht) i (by omega) r1 (K2 _ _ _ _ ?_))
      rw [if_pos hi]
      refine xr_stp rfl rfl rfl rfl ?_
      refine xr_stp rfl rfl rfl rfl ?_
      refine xr_stp (st' := .int (Int32.ofNat 4294967295) :: _) rfl rfl rfl rfl ?_
      refine xr_j2 rfl rfl rfl rfl rfl (fun h46 => ?_) (fun h46 => ?_)
      · refine xr_stp rfl rfl rfl rfl ?_
        refine xr_stp (pc' := 94) rfl rfl rfl rfl ?_
        refine xr_stp rfl rfl rfl rfl ?_
        refine xr_stp (st' := .int (Int32.ofNat 64) :: _) rfl rfl rfl rfl ?_
        refine xs_mod (by omega) (by omega) (by omega) rfl ?_
        rw [hd.2.2]
        exact xr_ret rfl rfl K
      · have z46 := nf_ne (by omega) (by omega) h46
        exact (by omega)
    · have z12 := nf_ne (by omega) (by omega) h12
      exact (by omega)
  · have z4 := nf1_ne (by omega) h4
    exact (by omega)
theorem cq_ent2 (d c s nn q dl tx sy T N fi m mm : Nat) (f : Nat → Int32) (W0 : xi_W) (G : Nat → Nat) (GS : Nat → Nat → Nat) (hc : cmx nn f q dl tx sy T N fi m mm G GS W0) (t i : Nat) (ht : t < 4) (hi : i < bc 63 (G (330 + 2 * t))) (r : xi_R → Prop) (K : r (some (.int (Int32.ofNat (G (12 + 5 * (lw_row G (G (330 + 2 * t)) i))))), W0, c, s)) : xr (d + 6) 110 0 [(0, .ref 17), (1, .int (Int32.ofNat t)), (2, .int (Int32.ofNat i)), (3, .int (Int32.ofNat 2))] [] W0 c s r := by
  obtain ⟨lf, lp, hO⟩ := hc.o
  obtain ⟨F, hw, hr⟩ := hc.w
  have hl := hc.l
  have hR := hc.R
  have J := hr.j
  have hb := bcle 63 (G (330 + 2 * t))
  have hx := ((lw_rowE hr.e hr.j.e (hr.xs ht).hk.1).1 i hi).1
  have hd := dt_lt hr.e hr.j.e hx
  refine xr_stp rfl rfl rfl rfl ?_
  refine xr_cps rfl rfl rfl (fun r1 K2 => cl_rep _ _ _ t _ (by omega) r1 (K2 _ _ _ _ ?_))
  refine xr_j1 rfl rfl rfl rfl rfl (fun h4 => ?_) (fun h4 => ?_)
  · refine xr_stp rfl rfl rfl rfl ?_
    refine xr_stp (st' := .int (Int32.ofNat 4294967295) :: _) rfl rfl rfl rfl ?_
    refine xr_j2 rfl rfl rfl rfl rfl (fun h12 => ?_) (fun h12 => ?_)
    · refine xr_stp rfl rfl rfl rfl ?_
      refine xr_getfield hO rfl rfl rfl rfl ?_
      refine xr_getfield (hw.w wb23 hl hR) rfl rfl rfl rfl ?_
      refine xr_stp rfl rfl rfl rfl ?_
      refine xr_stp (st' := .int (Int32.ofNat 4294967295) :: _) rfl rfl rfl rfl ?_
      refine xr_stp (st' := .int (Int32.ofNat 4294967295) :: _) rfl rfl rfl rfl ?_
      refine xr_stp rfl rfl rfl rfl ?_
      refine xr_vcps hw.2 rfl rfl rfl rfl rfl rfl (fun r1 K2 => rq_nthA _ _ _ 23 W0 F G _ hw wb23 hl hR (hr.xs ht) i (by omega) r1 (K2 _ _ _ _ ?_))
      rw [if_pos hi]
      refine xr_stp rfl rfl rfl rfl ?_
      refine xr_stp rfl rfl rfl rfl ?_
      refine xr_stp (st' := .int (Int32.ofNat 4294967295) :: _) rfl rfl rfl rfl ?_
      refine xr_j2 rfl rfl rfl rfl rfl (fun h46 => ?_) (fun h46 => ?_)
      · refine xr_stp rfl rfl rfl rfl ?_
        refine xr_stp (pc' := 100) rfl rfl rfl rfl ?_
        refine xr_stp rfl rfl rfl rfl ?_
        refine xr_getfield hO rfl rfl rfl rfl ?_
        refine xr_getfield (hw.w wb23 hl hR) rfl rfl rfl rfl ?_
        refine xr_stp rfl rfl rfl rfl ?_
        refine xr_vcps hw.2 rfl rfl rfl rfl rfl rfl (fun r1 K2 => rq_key _ _ _ 23 W0 F G _ hw wb23 hl hR hr.e hr.j.e hr.1.2.2.1 hx r1 (K2 _ _ _ _ ?_))
        exact xr_ret rfl rfl K
      · have z46 := nf_ne (by omega) (by omega) h46
        exact (by omega)
    · have z12 := nf_ne (by omega) (by omega) h12
      exact (by omega)
  · have z4 := nf1_ne (by omega) h4
    exact (by omega)
theorem cq_ent3 (d c s nn q dl tx sy T N fi m mm : Nat) (f : Nat → Int32) (W0 : xi_W) (G : Nat → Nat) (GS : Nat → Nat → Nat) (hc : cmx nn f q dl tx sy T N fi m mm G GS W0) (t i : Nat) (ht : t < 4) (hi : i < bc 63 (G (330 + 2 * t))) (r : xi_R → Prop) (K : r (some (.int (Int32.ofNat (G (13 + 5 * (lw_row G (G (330 + 2 * t)) i))))), W0, c, s)) : xr (d + 6) 110 0 [(0, .ref 17), (1, .int (Int32.ofNat t)), (2, .int (Int32.ofNat i)), (3, .int (Int32.ofNat 3))] [] W0 c s r := by
  obtain ⟨lf, lp, hO⟩ := hc.o
  obtain ⟨F, hw, hr⟩ := hc.w
  have hl := hc.l
  have hR := hc.R
  have J := hr.j
  have hb := bcle 63 (G (330 + 2 * t))
  have hx := ((lw_rowE hr.e hr.j.e (hr.xs ht).hk.1).1 i hi).1
  have hd := dt_lt hr.e hr.j.e hx
  refine xr_stp rfl rfl rfl rfl ?_
  refine xr_cps rfl rfl rfl (fun r1 K2 => cl_rep _ _ _ t _ (by omega) r1 (K2 _ _ _ _ ?_))
  refine xr_j1 rfl rfl rfl rfl rfl (fun h4 => ?_) (fun h4 => ?_)
  · refine xr_stp rfl rfl rfl rfl ?_
    refine xr_stp (st' := .int (Int32.ofNat 4294967295) :: _) rfl rfl rfl rfl ?_
    refine xr_j2 rfl rfl rfl rfl rfl (fun h12 => ?_) (fun h12 => ?_)
    · refine xr_stp rfl rfl rfl rfl ?_
      refine xr_getfield hO rfl rfl rfl rfl ?_
      refine xr_getfield (hw.w wb23 hl hR) rfl rfl rfl rfl ?_
      refine xr_stp rfl rfl rfl rfl ?_
      refine xr_stp (st' := .int (Int32.ofNat 4294967295) :: _) rfl rfl rfl rfl ?_
      refine xr_stp (st' := .int (Int32.ofNat 4294967295) :: _) rfl rfl rfl rfl ?_
      refine xr_stp rfl rfl rfl rfl ?_
      refine xr_vcps hw.2 rfl rfl rfl rfl rfl rfl (fun r1 K2 => rq_nthA _ _ _ 23 W0 F G _ hw wb23 hl hR (hr.xs ht) i (by omega) r1 (K2 _ _ _ _ ?_))
      rw [if_pos hi]
      refine xr_stp rfl rfl rfl rfl ?_
      refine xr_stp rfl rfl rfl rfl ?_
      refine xr_stp (st' := .int (Int32.ofNat 4294967295) :: _) rfl rfl rfl rfl ?_
      refine xr_j2 rfl rfl rfl rfl rfl (fun h46 => ?_) (fun h46 => ?_)
      · refine xr_stp rfl rfl rfl rfl ?_
        refine xr_stp (pc' := 113) rfl rfl rfl rfl ?_
        refine xr_stp rfl rfl rfl rfl ?_
        refine xr_getfield hO rfl rfl rfl rfl ?_
        refine xr_getfield (hw.w wb23 hl hR) rfl rfl rfl rfl ?_
        refine xr_stp rfl rfl rfl rfl ?_
        refine xr_vcps hw.2 rfl rfl rfl rfl rfl rfl (fun r1 K2 => rq_fld _ _ _ 23 W0 F G _ hw wb23 hl hR hr.e hr.j.e hr.1.2.2.1 hx r1 (K2 _ _ _ _ ?_))
        exact xr_ret rfl rfl K
      · have z46 := nf_ne (by omega) (by omega) h46
        exact (by omega)
    · have z12 := nf_ne (by omega) (by omega) h12
      exact (by omega)
  · have z4 := nf1_ne (by omega) h4
    exact (by omega)
theorem cq_ent4 (d c s nn q dl tx sy T N fi m mm : Nat) (f : Nat → Int32) (W0 : xi_W) (G : Nat → Nat) (GS : Nat → Nat → Nat) (hc : cmx nn f q dl tx sy T N fi m mm G GS W0) (t i : Nat) (ht : t < 4) (hi : i < bc 63 (G (330 + 2 * t))) (r : xi_R → Prop) (K : r (some (.int (Int32.ofNat (G (14 + 5 * (lw_row G (G (330 + 2 * t)) i))))), W0, c, s)) : xr (d + 6) 110 0 [(0, .ref 17), (1, .int (Int32.ofNat t)), (2, .int (Int32.ofNat i)), (3, .int (Int32.ofNat 4))] [] W0 c s r := by
  obtain ⟨lf, lp, hO⟩ := hc.o
  obtain ⟨F, hw, hr⟩ := hc.w
  have hl := hc.l
  have hR := hc.R
  have J := hr.j
  have hb := bcle 63 (G (330 + 2 * t))
  have hx := ((lw_rowE hr.e hr.j.e (hr.xs ht).hk.1).1 i hi).1
  have hd := dt_lt hr.e hr.j.e hx
  refine xr_stp rfl rfl rfl rfl ?_
  refine xr_cps rfl rfl rfl (fun r1 K2 => cl_rep _ _ _ t _ (by omega) r1 (K2 _ _ _ _ ?_))
  refine xr_j1 rfl rfl rfl rfl rfl (fun h4 => ?_) (fun h4 => ?_)
  · refine xr_stp rfl rfl rfl rfl ?_
    refine xr_stp (st' := .int (Int32.ofNat 4294967295) :: _) rfl rfl rfl rfl ?_
    refine xr_j2 rfl rfl rfl rfl rfl (fun h12 => ?_) (fun h12 => ?_)
    · refine xr_stp rfl rfl rfl rfl ?_
      refine xr_getfield hO rfl rfl rfl rfl ?_
      refine xr_getfield (hw.w wb23 hl hR) rfl rfl rfl rfl ?_
      refine xr_stp rfl rfl rfl rfl ?_
      refine xr_stp (st' := .int (Int32.ofNat 4294967295) :: _) rfl rfl rfl rfl ?_
      refine xr_stp (st' := .int (Int32.ofNat 4294967295) :: _) rfl rfl rfl rfl ?_
      refine xr_stp rfl rfl rfl rfl ?_
      refine xr_vcps hw.2 rfl rfl rfl rfl rfl rfl (fun r1 K2 => rq_nthA _ _ _ 23 W0 F G _ hw wb23 hl hR (hr.xs ht) i (by omega) r1 (K2 _ _ _ _ ?_))
      rw [if_pos hi]
      refine xr_stp rfl rfl rfl rfl ?_
      refine xr_stp rfl rfl rfl rfl ?_
      refine xr_stp (st' := .int (Int32.ofNat 4294967295) :: _) rfl rfl rfl rfl ?_
      refine xr_j2 rfl rfl rfl rfl rfl (fun h46 => ?_) (fun h46 => ?_)
      · refine xr_stp rfl rfl rfl rfl ?_
        refine xr_stp (pc' := 126) rfl rfl rfl rfl ?_
        refine xr_stp rfl rfl rfl rfl ?_
        refine xr_getfield hO rfl rfl rfl rfl ?_
        refine xr_getfield (hw.w wb23 hl hR) rfl rfl rfl rfl ?_
        refine xr_stp rfl rfl rfl rfl ?_
        refine xr_vcps hw.2 rfl rfl rfl rfl rfl rfl (fun r1 K2 => rq_val _ _ _ 23 W0 F G _ hw wb23 hl hR hr.e hr.j.e hr.1.2.2.1 hx r1 (K2 _ _ _ _ ?_))
        exact xr_ret rfl rfl K
      · have z46 := nf_ne (by omega) (by omega) h46
        exact (by omega)
    · have z12 := nf_ne (by omega) (by omega) h12
      exact (by omega)
  · have z4 := nf1_ne (by omega) h4
    exact (by omega)
/-- 'context' -/
theorem cq_ctx (d c s nn q dl tx sy T N fi m mm : Nat) (f : Nat → Int32) (W0 : xi_W) (G : Nat → Nat) (GS : Nat → Nat → Nat) (hc : cmx nn f q dl tx sy T N fi m mm G GS W0) (t u : Nat) (ht : t < 4) (hu : u < 4) (r : xi_R → Prop) (K : r (some (.int (Int32.ofNat (ct G u (G 4) (G (331 + 2 * t))))), W0, c, s)) : xr (d + 6) 111 0 [(0, .ref 17), (1, .int (Int32.ofNat t)), (2, .int (Int32.ofNat u))] [] W0 c s r := by
  obtain ⟨lf, lp, hO⟩ := hc.o
  obtain ⟨F, hw, hr⟩ := hc.w
  have hl := hc.l
  have hR := hc.R
  have J := hr.j
  refine xr_stp rfl rfl rfl rfl ?_
  refine xr_cps rfl rfl rfl (fun r1 K2 => cl_rep _ _ _ t _ (by omega) r1 (K2 _ _ _ _ ?_))
  refine xr_j1 rfl rfl rfl rfl rfl (fun h4 => ?_) (fun h4 => ?_)
  · have z4 := nt1_eq (by omega) h4
    exact (by omega)
  · refine xr_stp rfl rfl rfl rfl ?_
    refine xr_cps rfl rfl rfl (fun r1 K2 => cl_rep _ _ _ u _ (by omega) r1 (K2 _ _ _ _ ?_))
    refine xr_j1 rfl rfl rfl rfl rfl (fun h11 => ?_) (fun h11 => ?_)
    · refine xr_stp rfl rfl rfl rfl ?_
      refine xr_getfield hO rfl rfl rfl rfl ?_
      refine xr_getfield (hw.w wb23 hl hR) rfl rfl rfl rfl ?_
      refine xr_stp rfl rfl rfl rfl ?_
      refine xr_stp rfl rfl rfl rfl ?_
      refine xr_vcps hw.2 rfl rfl rfl rfl rfl rfl (fun r1 K2 => rq_vec _ _ _ 23 W0 F G _ hw wb23 hl hR (hr.xs ht) (hr.kc ht) u hu r1 (K2 _ _ _ _ ?_))
      exact xr_ret rfl rfl K
    · have z11 := nf1_ne (by omega) h11
      exact (by omega)
/-- 'knows' -/
theorem cq_kno (d c s nn q dl tx sy T N fi m mm : Nat) (f : Nat → Int32) (W0 : xi_W) (G : Nat → Nat) (GS : Nat → Nat → Nat) (hc : cmx nn f q dl tx sy T N fi m mm G GS W0) (t u n : Nat) (ht : t < 4) (hu : u < 4) (hn : 0 < n) (hn2 : n < 64) (r : xi_R → Prop) (K : r (some (.int (Int32.ofNat (if n ≤ ct G u (G 4) (G (331 + 2 * t)) then 1 else 0))), W0, c, s)) : xr (d + 6) 113 0 [(0, .ref 17), (1, .int (Int32.ofNat t)), (2, .int (Int32.ofNat u)), (3, .int (Int32.ofNat n))] [] W0 c s r := by
  obtain ⟨lf, lp, hO⟩ := hc.o
  obtain ⟨F, hw, hr⟩ := hc.w
  have hl := hc.l
  have hR := hc.R
  have J := hr.j
  refine xr_stp rfl rfl rfl rfl ?_
  refine xr_cps rfl rfl rfl (fun r1 K2 => cl_rep _ _ _ t _ (by omega) r1 (K2 _ _ _ _ ?_))
  refine xr_j1 rfl rfl rfl rfl rfl (fun h4 => ?_) (fun h4 => ?_)
  · have z4 := nt1_eq (by omega) h4
    exact (by omega)
  · refine xr_stp rfl rfl rfl rfl ?_
    refine xr_cps rfl rfl rfl (fun r1 K2 => cl_rep _ _ _ u _ (by omega) r1 (K2 _ _ _ _ ?_))
    refine xr_j1 rfl rfl rfl rfl rfl (fun h11 => ?_) (fun h11 => ?_)
    · have z11 := nt1_eq (by omega) h11
      exact (by omega)
    · refine xr_stp rfl rfl rfl rfl ?_
      refine xr_stp (st' := .int (Int32.ofNat 1) :: _) rfl rfl rfl rfl ?_
      refine xr_j2 rfl rfl rfl rfl rfl (fun h16 => ?_) (fun h16 => ?_)
      · have z16 := nt_lt (by omega) (by omega) h16
        exact (by omega)
      · refine xr_stp rfl rfl rfl rfl ?_
        refine xr_stp (st' := .int (Int32.ofNat 63) :: _) rfl rfl rfl rfl ?_
        refine xr_j2 rfl rfl rfl rfl rfl (fun h22 => ?_) (fun h22 => ?_)
        · refine xr_stp rfl rfl rfl rfl ?_
          refine xr_getfield hO rfl rfl rfl rfl ?_
          refine xr_getfield (hw.w wb23 hl hR) rfl rfl rfl rfl ?_
          refine xr_stp rfl rfl rfl rfl ?_
          refine xr_stp rfl rfl rfl rfl ?_
          refine xr_stp rfl rfl rfl rfl ?_
          refine xr_vcps hw.2 rfl rfl rfl rfl rfl rfl (fun r1 K2 => rq_kn _ _ _ 23 W0 F G _ hw wb23 hl hR (hr.xs ht) (hr.kc ht) u n hu hn hn2 r1 (K2 _ _ _ _ ?_))
          exact xr_retb (by split <;> omega) rfl rfl K
        · have z22 := nf_le (by omega) (by omega) h22
          exact (by omega)
theorem cq_delN (d c s nn q dl tx sy T N fi m mm : Nat) (f : Nat → Int32) (W0 : xi_W) (G : Nat → Nat) (GS : Nat → Nat → Nat) (hc : cmx nn f q dl tx sy T N fi m mm G GS W0) (t z : Nat) (ht : t < 4) (r : xi_R → Prop) (K : r (some (.int (Int32.ofNat (G (338 + t) - G (342 + t)))), W0, c, s)) : xr (d + 6) 114 0 [(0, .ref 17), (1, .int (Int32.ofNat t)), (2, .int (Int32.ofNat 4294967295)), (3, .int (Int32.ofNat z))] [] W0 c s r := by
  obtain ⟨lf, lp, hO⟩ := hc.o
  obtain ⟨F, hw, hr⟩ := hc.w
  have hl := hc.l
  have hR := hc.R
  have J := hr.j
  have C := hr.1.2.2.2.2.1 t ht
  have hJc := J.c t ht
  refine xr_stp rfl rfl rfl rfl ?_
  refine xr_cps rfl rfl rfl (fun r1 K2 => cl_rep _ _ _ t _ (by omega) r1 (K2 _ _ _ _ ?_))
  refine xr_j1 rfl rfl rfl rfl rfl (fun h4 => ?_) (fun h4 => ?_)
  · refine xr_stp rfl rfl rfl rfl ?_
    refine xr_getfield hO rfl rfl rfl rfl ?_
    refine xr_getfield (hw.w wb23 hl hR) rfl rfl rfl rfl ?_
    refine xr_stp rfl rfl rfl rfl ?_
    refine xs_ild (hw.m wb23 hl hR) (by omega) (by omega) rfl ?_
    refine xr_stp rfl rfl rfl rfl ?_
    refine xr_getfield hO rfl rfl rfl rfl ?_
    refine xr_getfield (hw.w wb23 hl hR) rfl rfl rfl rfl ?_
    refine xr_stp rfl rfl rfl rfl ?_
    refine xs_ild (hw.d wb23 hl hR) (by omega) (by omega) rfl ?_
    rw [C.1, C.2.1]
    refine xs_sub (by omega) rfl ?_
    refine xr_stp rfl rfl rfl rfl ?_
    refine xr_stp rfl rfl rfl rfl ?_
    refine xr_stp (st' := .int (Int32.ofNat 4294967295) :: _) rfl rfl rfl rfl ?_
    refine xr_j2 rfl rfl rfl rfl rfl (fun h33 => ?_) (fun h33 => ?_)
    · have z33 := nt_ne h33
      exact (by omega)
    · refine xr_stp rfl rfl rfl rfl ?_
      exact xr_ret rfl rfl K
  · have z4 := nf1_ne (by omega) h4
    exact (by omega)
theorem cq_delE (d c s nn q dl tx sy T N fi m mm : Nat) (f : Nat → Int32) (W0 : xi_W) (G : Nat → Nat) (GS : Nat → Nat → Nat) (hc : cmx nn f q dl tx sy T N fi m mm G GS W0) (t i z : Nat) (ht : t < 4) (hi : G (338 + t) - G (342 + t) ≤ i) (hi2 : i < 2147483648) (r : xi_R → Prop) (K : r (some (.int (Int32.ofNat 4294967294)), W0, c, s)) : xr (d + 6) 114 0 [(0, .ref 17), (1, .int (Int32.ofNat t)), (2, .int (Int32.ofNat i)), (3, .int (Int32.ofNat z))] [] W0 c s r := by
  obtain ⟨lf, lp, hO⟩ := hc.o
  obtain ⟨F, hw, hr⟩ := hc.w
  have hl := hc.l
  have hR := hc.R
  have J := hr.j
  have C := hr.1.2.2.2.2.1 t ht
  have hJc := J.c t ht
  refine xr_stp rfl rfl rfl rfl ?_
  refine xr_cps rfl rfl rfl (fun r1 K2 => cl_rep _ _ _ t _ (by omega) r1 (K2 _ _ _ _ ?_))
  refine xr_j1 rfl rfl rfl rfl rfl (fun h4 => ?_) (fun h4 => ?_)
  · refine xr_stp rfl rfl rfl rfl ?_
    refine xr_getfield hO rfl rfl rfl rfl ?_
    refine xr_getfield (hw.w wb23 hl hR) rfl rfl rfl rfl ?_
    refine xr_stp rfl rfl rfl rfl ?_
    refine xs_ild (hw.m wb23 hl hR) (by omega) (by omega) rfl ?_
    refine xr_stp rfl rfl rfl rfl ?_
    refine xr_getfield hO rfl rfl rfl rfl ?_
    refine xr_getfield (hw.w wb23 hl hR) rfl rfl rfl rfl ?_
    refine xr_stp rfl rfl rfl rfl ?_
    refine xs_ild (hw.d wb23 hl hR) (by omega) (by omega) rfl ?_
    rw [C.1, C.2.1]
    refine xs_sub (by omega) rfl ?_
    refine xr_stp rfl rfl rfl rfl ?_
    refine xr_stp rfl rfl rfl rfl ?_
    refine xr_stp (st' := .int (Int32.ofNat 4294967295) :: _) rfl rfl rfl rfl ?_
    refine xr_j2 rfl rfl rfl rfl rfl (fun h33 => ?_) (fun h33 => ?_)
    · refine xr_stp rfl rfl rfl rfl ?_
      refine xr_j1 rfl rfl rfl rfl rfl (fun h40 => ?_) (fun h40 => ?_)
      · have z40 := n_lt0 h40
        exact (by omega)
      · refine xr_stp rfl rfl rfl rfl ?_
        refine xr_stp rfl rfl rfl rfl ?_
        refine xr_j2 rfl rfl rfl rfl rfl (fun h46 => ?_) (fun h46 => ?_)
        · have z46 := nt_lt (by omega) (by omega) h46
          exact (by omega)
        · refine xr_stp (st' := .int (Int32.ofNat 4294967294) :: _) rfl rfl rfl rfl ?_
          exact xr_ret rfl rfl K
    · have z33 := nf_ne (by omega) (by omega) h33
      exact (by omega)
  · have z4 := nf1_ne (by omega) h4
    exact (by omega)
theorem cq_del0 (d c s nn q dl tx sy T N fi m mm : Nat) (f : Nat → Int32) (W0 : xi_W) (G : Nat → Nat) (GS : Nat → Nat → Nat) (hc : cmx nn f q dl tx sy T N fi m mm G GS W0) (t i : Nat) (ht : t < 4) (hi : i < G (338 + t) - G (342 + t)) (hN : N < 90000) (r : xi_R → Prop) (K : r (some (.int (Int32.ofNat (G (342 + t) + i + 1))), W0, c, s)) : xr (d + 6) 114 0 [(0, .ref 17), (1, .int (Int32.ofNat t)), (2, .int (Int32.ofNat i)), (3, .int (Int32.ofNat 0))] [] W0 c s r := by
  obtain ⟨lf, lp, hO⟩ := hc.o
  obtain ⟨F, hw, hr⟩ := hc.w
  have hl := hc.l
  have hR := hc.R
  have J := hr.j
  have C := hr.1.2.2.2.2.1 t ht
  have hJc := J.c t ht
  have hx := hr.xd ht (show G (342 + t) < G (342 + t) + i + 1 by omega) (show G (342 + t) + i + 1 ≤ G (338 + t) by omega)
  refine xr_stp rfl rfl rfl rfl ?_
  refine xr_cps rfl rfl rfl (fun r1 K2 => cl_rep _ _ _ t _ (by omega) r1 (K2 _ _ _ _ ?_))
  refine xr_j1 rfl rfl rfl rfl rfl (fun h4 => ?_) (fun h4 => ?_)
  · refine xr_stp rfl rfl rfl rfl ?_
    refine xr_getfield hO rfl rfl rfl rfl ?_
    refine xr_getfield (hw.w wb23 hl hR) rfl rfl rfl rfl ?_
    refine xr_stp rfl rfl rfl rfl ?_
    refine xs_ild (hw.m wb23 hl hR) (by omega) (by omega) rfl ?_
    refine xr_stp rfl rfl rfl rfl ?_
    refine xr_getfield hO rfl rfl rfl rfl ?_
    refine xr_getfield (hw.w wb23 hl hR) rfl rfl rfl rfl ?_
    refine xr_stp rfl rfl rfl rfl ?_
    refine xs_ild (hw.d wb23 hl hR) (by omega) (by omega) rfl ?_
    rw [C.1, C.2.1]
    refine xs_sub (by omega) rfl ?_
    refine xr_stp rfl rfl rfl rfl ?_
    refine xr_stp rfl rfl rfl rfl ?_
    refine xr_stp (st' := .int (Int32.ofNat 4294967295) :: _) rfl rfl rfl rfl ?_
    refine xr_j2 rfl rfl rfl rfl rfl (fun h33 => ?_) (fun h33 => ?_)
    · refine xr_stp rfl rfl rfl rfl ?_
      refine xr_j1 rfl rfl rfl rfl rfl (fun h40 => ?_) (fun h40 => ?_)
      · have z40 := n_lt0 h40
        exact (by omega)
      · refine xr_stp rfl rfl rfl rfl ?_
        refine xr_stp rfl rfl rfl rfl ?_
        refine xr_j2 rfl rfl rfl rfl rfl (fun h46 => ?_) (fun h46 => ?_)
        · refine xr_stp rfl rfl rfl rfl ?_
          refine xr_getfield hO rfl rfl rfl rfl ?_
          refine xr_getfield (hw.w wb23 hl hR) rfl rfl rfl rfl ?_
          refine xr_stp rfl rfl rfl rfl ?_
          refine xs_ild (hw.d wb23 hl hR) (by omega) (by omega) rfl ?_
          refine xr_stp rfl rfl rfl rfl ?_
          rw [C.2.1]
          refine xs_add rfl ?_
          refine xr_stp (st' := .int (Int32.ofNat 1) :: _) rfl rfl rfl rfl ?_
          refine xs_add rfl ?_
          refine xr_stp rfl rfl rfl rfl ?_
          refine xr_stp rfl rfl rfl rfl ?_
          refine xr_getfield hO rfl rfl rfl rfl ?_
          refine xr_stp rfl rfl rfl rfl ?_
          refine xr_stp rfl rfl rfl rfl ?_
          refine xr_vcps (hw.w wb23 hl hR) rfl rfl rfl rfl rfl rfl (fun r1 K2 => xr_kw0 hw (cn_deltaRow (hw.B wb23 hl hR) _ F _ _ t (G (342 + t) + i + 1) ht (by omega) (by omega)) (K2 _ _ _ _ ?_))
          refine xr_stp rfl rfl rfl rfl ?_
          refine xr_stp rfl rfl rfl rfl ?_
          refine xr_stp (pc' := 108) rfl rfl rfl rfl ?_
          refine xr_stp rfl rfl rfl rfl ?_
          exact xr_ret rfl rfl K
        · have z46 := nf_lt (by omega) (by omega) h46
          exact (by omega)
    · have z33 := nf_ne (by omega) (by omega) h33
      exact (by omega)
  · have z4 := nf1_ne (by omega) h4
    exact (by omega)
theorem cq_del1 (d c s nn q dl tx sy T N fi m mm : Nat) (f : Nat → Int32) (W0 : xi_W) (G : Nat → Nat) (GS : Nat → Nat → Nat) (hc : cmx nn f q dl tx sy T N fi m mm G GS W0) (t i : Nat) (ht : t < 4) (hi : i < G (338 + t) - G (342 + t)) (hN : N < 90000) (r : xi_R → Prop) (K : r (some (.int (Int32.ofNat (bc 63 (dq G t (G (342 + t) + i + 1) 0)))), W0, c, s)) : xr (d + 6) 114 0 [(0, .ref 17), (1, .int (Int32.ofNat t)), (2, .int (Int32.ofNat i)), (3, .int (Int32.ofNat 1))] [] W0 c s r := by
  obtain ⟨lf, lp, hO⟩ := hc.o
  obtain ⟨F, hw, hr⟩ := hc.w
  have hl := hc.l
  have hR := hc.R
  have J := hr.j
  have C := hr.1.2.2.2.2.1 t ht
  have hJc := J.c t ht
  have hx := hr.xd ht (show G (342 + t) < G (342 + t) + i + 1 by omega) (show G (342 + t) + i + 1 ≤ G (338 + t) by omega)
  refine xr_stp rfl rfl rfl rfl ?_
  refine xr_cps rfl rfl rfl (fun r1 K2 => cl_rep _ _ _ t _ (by omega) r1 (K2 _ _ _ _ ?_))
  refine xr_j1 rfl rfl rfl rfl rfl (fun h4 => ?_) (fun h4 => ?_)
  · refine xr_stp rfl rfl rfl rfl ?_
    refine xr_getfield hO rfl rfl rfl rfl ?_
    refine xr_getfield (hw.w wb23 hl hR) rfl rfl rfl rfl ?_
    refine xr_stp rfl rfl rfl rfl ?_
    refine xs_ild (hw.m wb23 hl hR) (by omega) (by omega) rfl ?_
    refine xr_stp rfl rfl rfl rfl ?_
    refine xr_getfield hO rfl rfl rfl rfl ?_
    refine xr_getfield (hw.w wb23 hl hR) rfl rfl rfl rfl ?_
    refine xr_stp rfl rfl rfl rfl ?_
    refine xs_ild (hw.d wb23 hl hR) (by omega) (by omega) rfl ?_
    rw [C.1, C.2.1]
    refine xs_sub (by omega) rfl ?_
    refine xr_stp rfl rfl rfl rfl ?_
    refine xr_stp rfl rfl rfl rfl ?_
    refine xr_stp (st' := .int (Int32.ofNat 4294967295) :: _) rfl rfl rfl rfl ?_
    refine xr_j2 rfl rfl rfl rfl rfl (fun h33 => ?_) (fun h33 => ?_)
    · refine xr_stp rfl rfl rfl rfl ?_
      refine xr_j1 rfl rfl rfl rfl rfl (fun h40 => ?_) (fun h40 => ?_)
      · have z40 := n_lt0 h40
        exact (by omega)
      · refine xr_stp rfl rfl rfl rfl ?_
        refine xr_stp rfl rfl rfl rfl ?_
        refine xr_j2 rfl rfl rfl rfl rfl (fun h46 => ?_) (fun h46 => ?_)
        · refine xr_stp rfl rfl rfl rfl ?_
          refine xr_getfield hO rfl rfl rfl rfl ?_
          refine xr_getfield (hw.w wb23 hl hR) rfl rfl rfl rfl ?_
          refine xr_stp rfl rfl rfl rfl ?_
          refine xs_ild (hw.d wb23 hl hR) (by omega) (by omega) rfl ?_
          refine xr_stp rfl rfl rfl rfl ?_
          rw [C.2.1]
          refine xs_add rfl ?_
          refine xr_stp (st' := .int (Int32.ofNat 1) :: _) rfl rfl rfl rfl ?_
          refine xs_add rfl ?_
          refine xr_stp rfl rfl rfl rfl ?_
          refine xr_stp rfl rfl rfl rfl ?_
          refine xr_getfield hO rfl rfl rfl rfl ?_
          refine xr_stp rfl rfl rfl rfl ?_
          refine xr_stp rfl rfl rfl rfl ?_
          refine xr_vcps (hw.w wb23 hl hR) rfl rfl rfl rfl rfl rfl (fun r1 K2 => xr_kw0 hw (cn_deltaRow (hw.B wb23 hl hR) _ F _ _ t (G (342 + t) + i + 1) ht (by omega) (by omega)) (K2 _ _ _ _ ?_))
          refine xr_stp rfl rfl rfl rfl ?_
          refine xr_stp rfl rfl rfl rfl ?_
          refine xr_stp (pc' := 111) rfl rfl rfl rfl ?_
          refine xr_stp rfl rfl rfl rfl ?_
          refine xr_getfield hO rfl rfl rfl rfl ?_
          refine xr_getfield (hw.w wb23 hl hR) rfl rfl rfl rfl ?_
          refine xr_stp rfl rfl rfl rfl ?_
          refine xr_vcps hw.2 rfl rfl rfl rfl rfl rfl (fun r1 K2 => rq_ent _ _ _ 23 W0 F G _ hw wb23 hl hR hx r1 (K2 _ _ _ _ ?_))
          exact xr_ret rfl rfl K
        · have z46 := nf_lt (by omega) (by omega) h46
          exact (by omega)
    · have z33 := nf_ne (by omega) (by omega) h33
      exact (by omega)
  · have z4 := nf1_ne (by omega) h4
    exact (by omega)
theorem cq_del2 (d c s nn q dl tx sy T N fi m mm : Nat) (f : Nat → Int32) (W0 : xi_W) (G : Nat → Nat) (GS : Nat → Nat → Nat) (hc : cmx nn f q dl tx sy T N fi m mm G GS W0) (t i : Nat) (ht : t < 4) (hi : i < G (338 + t) - G (342 + t)) (hN : N < 90000) (r : xi_R → Prop) (K : r (some (.int (Int32.ofNat (bc 63 (dq G t (G (342 + t) + i + 1) 1)))), W0, c, s)) : xr (d + 6) 114 0 [(0, .ref 17), (1, .int (Int32.ofNat t)), (2, .int (Int32.ofNat i)), (3, .int (Int32.ofNat 2))] [] W0 c s r := by
  obtain ⟨lf, lp, hO⟩ := hc.o
  obtain ⟨F, hw, hr⟩ := hc.w
  have hl := hc.l
  have hR := hc.R
  have J := hr.j
  have C := hr.1.2.2.2.2.1 t ht
  have hJc := J.c t ht
  have hx := hr.xd ht (show G (342 + t) < G (342 + t) + i + 1 by omega) (show G (342 + t) + i + 1 ≤ G (338 + t) by omega)
  refine xr_stp rfl rfl rfl rfl ?_
  refine xr_cps rfl rfl rfl (fun r1 K2 => cl_rep _ _ _ t _ (by omega) r1 (K2 _ _ _ _ ?_))
  refine xr_j1 rfl rfl rfl rfl rfl (fun h4 => ?_) (fun h4 => ?_)
  · refine xr_stp rfl rfl rfl rfl ?_
    refine xr_getfield hO rfl rfl rfl rfl ?_
    refine xr_getfield (hw.w wb23 hl hR) rfl rfl rfl rfl ?_
    refine xr_stp rfl rfl rfl rfl ?_
    refine xs_ild (hw.m wb23 hl hR) (by omega) (by omega) rfl ?_
    refine xr_stp rfl rfl rfl rfl ?_
    refine xr_getfield hO rfl rfl rfl rfl ?_
    refine xr_getfield (hw.w wb23 hl hR) rfl rfl rfl rfl ?_
    refine xr_stp rfl rfl rfl rfl ?_
    refine xs_ild (hw.d wb23 hl hR) (by omega) (by omega) rfl ?_
    rw [C.1, C.2.1]
    refine xs_sub (by omega) rfl ?_
    refine xr_stp rfl rfl rfl rfl ?_
    refine xr_stp rfl rfl rfl rfl ?_
    refine xr_stp (st' := .int (Int32.ofNat 4294967295) :: _) rfl rfl rfl rfl ?_
    refine xr_j2 rfl rfl rfl rfl rfl (fun h33 => ?_) (fun h33 => ?_)
    · refine xr_stp rfl rfl rfl rfl ?_
      refine xr_j1 rfl rfl rfl rfl rfl (fun h40 => ?_) (fun h40 => ?_)
      · have z40 := n_lt0 h40
        exact (by omega)
      · refine xr_stp rfl rfl rfl rfl ?_
        refine xr_stp rfl rfl rfl rfl ?_
        refine xr_j2 rfl rfl rfl rfl rfl (fun h46 => ?_) (fun h46 => ?_)
        · refine xr_stp rfl rfl rfl rfl ?_
          refine xr_getfield hO rfl rfl rfl rfl ?_
          refine xr_getfield (hw.w wb23 hl hR) rfl rfl rfl rfl ?_
          refine xr_stp rfl rfl rfl rfl ?_
          refine xs_ild (hw.d wb23 hl hR) (by omega) (by omega) rfl ?_
          refine xr_stp rfl rfl rfl rfl ?_
          rw [C.2.1]
          refine xs_add rfl ?_
          refine xr_stp (st' := .int (Int32.ofNat 1) :: _) rfl rfl rfl rfl ?_
          refine xs_add rfl ?_
          refine xr_stp rfl rfl rfl rfl ?_
          refine xr_stp rfl rfl rfl rfl ?_
          refine xr_getfield hO rfl rfl rfl rfl ?_
          refine xr_stp rfl rfl rfl rfl ?_
          refine xr_stp rfl rfl rfl rfl ?_
          refine xr_vcps (hw.w wb23 hl hR) rfl rfl rfl rfl rfl rfl (fun r1 K2 => xr_kw0 hw (cn_deltaRow (hw.B wb23 hl hR) _ F _ _ t (G (342 + t) + i + 1) ht (by omega) (by omega)) (K2 _ _ _ _ ?_))
          refine xr_stp rfl rfl rfl rfl ?_
          refine xr_stp rfl rfl rfl rfl ?_
          refine xr_stp (pc' := 124) rfl rfl rfl rfl ?_
          refine xr_stp rfl rfl rfl rfl ?_
          refine xr_getfield hO rfl rfl rfl rfl ?_
          refine xr_getfield (hw.w wb23 hl hR) rfl rfl rfl rfl ?_
          refine xr_stp rfl rfl rfl rfl ?_
          refine xr_vcps hw.2 rfl rfl rfl rfl rfl rfl (fun r1 K2 => rq_dots _ _ _ 23 W0 F G _ hw wb23 hl hR hx r1 (K2 _ _ _ _ ?_))
          exact xr_ret rfl rfl K
        · have z46 := nf_lt (by omega) (by omega) h46
          exact (by omega)
    · have z33 := nf_ne (by omega) (by omega) h33
      exact (by omega)
  · have z4 := nf1_ne (by omega) h4
    exact (by omega)
theorem cq_of0 (d c s nn q dl tx sy T N fi m mm : Nat) (f : Nat → Int32) (W0 : xi_W) (G : Nat → Nat) (GS : Nat → Nat → Nat) (hc : cmx nn f q dl tx sy T N fi m mm G GS W0) (t : Nat) (ht : t < 4) (r : xi_R → Prop) (K : r (some (.int (Int32.ofNat (G (338 + t)))), W0, c, s)) : xr (d + 6) 115 0 [(0, .ref 17), (1, .int (Int32.ofNat t)), (2, .int (Int32.ofNat 0))] [] W0 c s r := by
  obtain ⟨lf, lp, hO⟩ := hc.o
  obtain ⟨F, hw, hr⟩ := hc.w
  have hl := hc.l
  have hR := hc.R
  have J := hr.j
  have C := hr.1.2.2.2.2.1 t ht
  refine xr_stp rfl rfl rfl rfl ?_
  refine xr_cps rfl rfl rfl (fun r1 K2 => cl_rep _ _ _ t _ (by omega) r1 (K2 _ _ _ _ ?_))
  refine xr_j1 rfl rfl rfl rfl rfl (fun h4 => ?_) (fun h4 => ?_)
  · refine xr_stp rfl rfl rfl rfl ?_
    refine xr_stp (pc' := 40) rfl rfl rfl rfl ?_
    refine xr_stp rfl rfl rfl rfl ?_
    refine xr_getfield hO rfl rfl rfl rfl ?_
    refine xr_getfield (hw.w wb23 hl hR) rfl rfl rfl rfl ?_
    refine xr_stp rfl rfl rfl rfl ?_
    refine xs_ild (hw.m wb23 hl hR) (by omega) (by omega) rfl ?_
    rw [C.1]
    exact xr_ret rfl rfl K
  · have z4 := nf1_ne (by omega) h4
    exact (by omega)
theorem cq_of1 (d c s nn q dl tx sy T N fi m mm : Nat) (f : Nat → Int32) (W0 : xi_W) (G : Nat → Nat) (GS : Nat → Nat → Nat) (hc : cmx nn f q dl tx sy T N fi m mm G GS W0) (t : Nat) (ht : t < 4) (r : xi_R → Prop) (K : r (some (.int (Int32.ofNat (G (342 + t)))), W0, c, s)) : xr (d + 6) 115 0 [(0, .ref 17), (1, .int (Int32.ofNat t)), (2, .int (Int32.ofNat 1))] [] W0 c s r := by
  obtain ⟨lf, lp, hO⟩ := hc.o
  obtain ⟨F, hw, hr⟩ := hc.w
  have hl := hc.l
  have hR := hc.R
  have J := hr.j
  have C := hr.1.2.2.2.2.1 t ht
  refine xr_stp rfl rfl rfl rfl ?_
  refine xr_cps rfl rfl rfl (fun r1 K2 => cl_rep _ _ _ t _ (by omega) r1 (K2 _ _ _ _ ?_))
  refine xr_j1 rfl rfl rfl rfl rfl (fun h4 => ?_) (fun h4 => ?_)
  · refine xr_stp rfl rfl rfl rfl ?_
    refine xr_stp (pc' := 50) rfl rfl rfl rfl ?_
    refine xr_stp rfl rfl rfl rfl ?_
    refine xr_getfield hO rfl rfl rfl rfl ?_
    refine xr_getfield (hw.w wb23 hl hR) rfl rfl rfl rfl ?_
    refine xr_stp rfl rfl rfl rfl ?_
    refine xs_ild (hw.d wb23 hl hR) (by omega) (by omega) rfl ?_
    rw [C.2.1]
    exact xr_ret rfl rfl K
  · have z4 := nf1_ne (by omega) h4
    exact (by omega)
theorem cq_of2 (d c s nn q dl tx sy T N fi m mm : Nat) (f : Nat → Int32) (W0 : xi_W) (G : Nat → Nat) (GS : Nat → Nat → Nat) (hc : cmx nn f q dl tx sy T N fi m mm G GS W0) (t : Nat) (ht : t < 4) (r : xi_R → Prop) (K : r (some (.int (Int32.ofNat (kY G (G (330 + 2 * t)) 4 0 0))), W0, c, s)) : xr (d + 6) 115 0 [(0, .ref 17), (1, .int (Int32.ofNat t)), (2, .int (Int32.ofNat 2))] [] W0 c s r := by
  obtain ⟨lf, lp, hO⟩ := hc.o
  obtain ⟨F, hw, hr⟩ := hc.w
  have hl := hc.l
  have hR := hc.R
  have J := hr.j
  have C := hr.1.2.2.2.2.1 t ht
  refine xr_stp rfl rfl rfl rfl ?_
  refine xr_cps rfl rfl rfl (fun r1 K2 => cl_rep _ _ _ t _ (by omega) r1 (K2 _ _ _ _ ?_))
  refine xr_j1 rfl rfl rfl rfl rfl (fun h4 => ?_) (fun h4 => ?_)
  · refine xr_stp rfl rfl rfl rfl ?_
    refine xr_stp (pc' := 60) rfl rfl rfl rfl ?_
    refine xr_stp rfl rfl rfl rfl ?_
    refine xr_getfield hO rfl rfl rfl rfl ?_
    refine xr_getfield (hw.w wb23 hl hR) rfl rfl rfl rfl ?_
    refine xr_stp rfl rfl rfl rfl ?_
    refine xr_vcps hw.2 rfl rfl rfl rfl rfl rfl (fun r1 K2 => rq_kb _ _ _ 23 W0 F G _ hw wb23 hl hR (hr.xs ht) r1 (K2 _ _ _ _ ?_))
    exact xr_ret rfl rfl K
  · have z4 := nf1_ne (by omega) h4
    exact (by omega)
theorem cq_of3 (d c s nn q dl tx sy T N fi m mm : Nat) (f : Nat → Int32) (W0 : xi_W) (G : Nat → Nat) (GS : Nat → Nat → Nat) (hc : cmx nn f q dl tx sy T N fi m mm G GS W0) (t : Nat) (ht : t < 4) (r : xi_R → Prop) (K : r (some (.int (Int32.ofNat (bc 63 (G (331 + 2 * t))))), W0, c, s)) : xr (d + 6) 115 0 [(0, .ref 17), (1, .int (Int32.ofNat t)), (2, .int (Int32.ofNat 3))] [] W0 c s r := by
  obtain ⟨lf, lp, hO⟩ := hc.o
  obtain ⟨F, hw, hr⟩ := hc.w
  have hl := hc.l
  have hR := hc.R
  have J := hr.j
  have C := hr.1.2.2.2.2.1 t ht
  refine xr_stp rfl rfl rfl rfl ?_
  refine xr_cps rfl rfl rfl (fun r1 K2 => cl_rep _ _ _ t _ (by omega) r1 (K2 _ _ _ _ ?_))
  refine xr_j1 rfl rfl rfl rfl rfl (fun h4 => ?_) (fun h4 => ?_)
  · refine xr_stp rfl rfl rfl rfl ?_
    refine xr_stp (pc' := 72) rfl rfl rfl rfl ?_
    refine xr_stp rfl rfl rfl rfl ?_
    refine xr_getfield hO rfl rfl rfl rfl ?_
    refine xr_getfield (hw.w wb23 hl hR) rfl rfl rfl rfl ?_
    refine xr_stp rfl rfl rfl rfl ?_
    refine xr_vcps hw.2 rfl rfl rfl rfl rfl rfl (fun r1 K2 => rq_dots _ _ _ 23 W0 F G _ hw wb23 hl hR (hr.xs ht) r1 (K2 _ _ _ _ ?_))
    exact xr_ret rfl rfl K
  · have z4 := nf1_ne (by omega) h4
    exact (by omega)
/-- 'acked' -/
theorem cq_ack (d c s nn q dl tx sy T N fi m mm : Nat) (f : Nat → Int32) (W0 : xi_W) (G : Nat → Nat) (GS : Nat → Nat → Nat) (hc : cmx nn f q dl tx sy T N fi m mm G GS W0) (t u : Nat) (ht : t < 4) (hu : u < 4) (hne : t ≠ u) (r : xi_R → Prop) (K : r (some (.int (Int32.ofNat (G (346 + 4 * t + u)))), W0, c, s)) : xr (d + 6) 116 0 [(0, .ref 17), (1, .int (Int32.ofNat t)), (2, .int (Int32.ofNat u))] [] W0 c s r := by
  obtain ⟨lf, lp, hO⟩ := hc.o
  obtain ⟨F, hw, hr⟩ := hc.w
  have hl := hc.l
  have hR := hc.R
  have J := hr.j
  have C := hr.1.2.2.2.2.1 t ht
  refine xr_stp rfl rfl rfl rfl ?_
  refine xr_stp rfl rfl rfl rfl ?_
  refine xr_cps rfl rfl rfl (fun r1 K2 => cl_pair _ _ _ t u _ (by omega) (by omega) hne r1 (K2 _ _ _ _ ?_))
  refine xr_j1 rfl rfl rfl rfl rfl (fun h5 => ?_) (fun h5 => ?_)
  · have z5 := nt1_eq (by omega) h5
    exact (by omega)
  · refine xr_stp rfl rfl rfl rfl ?_
    refine xr_getfield hO rfl rfl rfl rfl ?_
    refine xr_getfield (hw.w wb23 hl hR) rfl rfl rfl rfl ?_
    refine xr_stp rfl rfl rfl rfl ?_
    refine xr_stp (st' := .int (Int32.ofNat 4) :: _) rfl rfl rfl rfl ?_
    refine xs_mul rfl ?_
    refine xr_stp rfl rfl rfl rfl ?_
    refine xs_add rfl ?_
    refine xs_ild (hw.q wb23 hl hR) (by omega) (by omega) rfl ?_
    refine xr_stp rfl rfl rfl rfl ?_
    rw [C.2.2 u hu]
    exact xr_ret rfl rfl K
/-- 'flight' -/
theorem cq_fliN (d c s nn q dl tx sy T N fi m mm : Nat) (f : Nat → Int32) (W0 : xi_W) (G : Nat → Nat) (GS : Nat → Nat → Nat) (hc : cmx nn f q dl tx sy T N fi m mm G GS W0) (z : Nat) (r : xi_R → Prop) (K : r (some (.int (Int32.ofNat (G 410))), W0, c, s)) : xr (d + 6) 117 0 [(0, .ref 17), (1, .int (Int32.ofNat 4294967295)), (2, .int (Int32.ofNat z))] [] W0 c s r := by
  obtain ⟨lf, lp, hO⟩ := hc.o
  obtain ⟨F, hw, hr⟩ := hc.w
  have hl := hc.l
  have hR := hc.R
  have J := hr.j
  have FF := hr.1.2.2.2.2.2.2.2.1
  have f8 := FF.1
  have hm := J.m
  refine xr_stp rfl rfl rfl rfl ?_
  refine xr_stp (st' := .int (Int32.ofNat 4294967295) :: _) rfl rfl rfl rfl ?_
  refine xr_j2 rfl rfl rfl rfl rfl (fun h2 => ?_) (fun h2 => ?_)
  · have z2 := nt_ne h2
    exact (by omega)
  · refine xr_stp rfl rfl rfl rfl ?_
    refine xr_getfield hO rfl rfl rfl rfl ?_
    refine xr_getfield (hw.w wb23 hl hR) rfl rfl rfl rfl ?_
    rw [f8]
    exact xr_ret rfl rfl K
theorem cq_fliE (d c s nn q dl tx sy T N fi m mm : Nat) (f : Nat → Int32) (W0 : xi_W) (G : Nat → Nat) (GS : Nat → Nat → Nat) (hc : cmx nn f q dl tx sy T N fi m mm G GS W0) (i z : Nat) (hi : G 410 ≤ i) (hi2 : i < 2147483648) (r : xi_R → Prop) (K : r (some (.int (Int32.ofNat 4294967294)), W0, c, s)) : xr (d + 6) 117 0 [(0, .ref 17), (1, .int (Int32.ofNat i)), (2, .int (Int32.ofNat z))] [] W0 c s r := by
  obtain ⟨lf, lp, hO⟩ := hc.o
  obtain ⟨F, hw, hr⟩ := hc.w
  have hl := hc.l
  have hR := hc.R
  have J := hr.j
  have FF := hr.1.2.2.2.2.2.2.2.1
  have f8 := FF.1
  have hm := J.m
  refine xr_stp rfl rfl rfl rfl ?_
  refine xr_stp (st' := .int (Int32.ofNat 4294967295) :: _) rfl rfl rfl rfl ?_
  refine xr_j2 rfl rfl rfl rfl rfl (fun h2 => ?_) (fun h2 => ?_)
  · refine xr_stp rfl rfl rfl rfl ?_
    refine xr_j1 rfl rfl rfl rfl rfl (fun h14 => ?_) (fun h14 => ?_)
    · have z14 := n_lt0 h14
      exact (by omega)
    · refine xr_stp rfl rfl rfl rfl ?_
      refine xr_stp rfl rfl rfl rfl ?_
      refine xr_getfield hO rfl rfl rfl rfl ?_
      refine xr_getfield (hw.w wb23 hl hR) rfl rfl rfl rfl ?_
      refine xr_j2 rfl rfl rfl rfl rfl (fun h25 => ?_) (fun h25 => ?_)
      · refine xr_stp (st' := .int (Int32.ofNat 4294967294) :: _) rfl rfl rfl rfl ?_
        exact xr_ret rfl rfl K
      · have z25 := nf_ge (by omega) (by omega) h25
        exact (by omega)
  · have z2 := nf_ne (by omega) (by omega) h2
    exact (by omega)
theorem cq_fli0 (d c s nn q dl tx sy T N fi m mm : Nat) (f : Nat → Int32) (W0 : xi_W) (G : Nat → Nat) (GS : Nat → Nat → Nat) (hc : cmx nn f q dl tx sy T N fi m mm G GS W0) (i : Nat) (hi : i < G 410) (r : xi_R → Prop) (K : r (some (.int (Int32.ofNat (G (411 + 8 * i + 0)))), W0, c, s)) : xr (d + 6) 117 0 [(0, .ref 17), (1, .int (Int32.ofNat i)), (2, .int (Int32.ofNat 0))] [] W0 c s r := by
  obtain ⟨lf, lp, hO⟩ := hc.o
  obtain ⟨F, hw, hr⟩ := hc.w
  have hl := hc.l
  have hR := hc.R
  have J := hr.j
  have FF := hr.1.2.2.2.2.2.2.2.1
  have f8 := FF.1
  have hm := J.m
  obtain ⟨_, f0, f1, f2, f3, f4⟩ := FF.2 i hi
  refine xr_stp rfl rfl rfl rfl ?_
  refine xr_stp (st' := .int (Int32.ofNat 4294967295) :: _) rfl rfl rfl rfl ?_
  refine xr_j2 rfl rfl rfl rfl rfl (fun h2 => ?_) (fun h2 => ?_)
  · refine xr_stp rfl rfl rfl rfl ?_
    refine xr_j1 rfl rfl rfl rfl rfl (fun h14 => ?_) (fun h14 => ?_)
    · have z14 := n_lt0 h14
      exact (by omega)
    · refine xr_stp rfl rfl rfl rfl ?_
      refine xr_stp rfl rfl rfl rfl ?_
      refine xr_getfield hO rfl rfl rfl rfl ?_
      refine xr_getfield (hw.w wb23 hl hR) rfl rfl rfl rfl ?_
      refine xr_j2 rfl rfl rfl rfl rfl (fun h25 => ?_) (fun h25 => ?_)
      · have z25 := nt_ge (by omega) (by omega) h25
        exact (by omega)
      · refine xr_stp rfl rfl rfl rfl ?_
        refine xr_j1 rfl rfl rfl rfl rfl (fun h29 => ?_) (fun h29 => ?_)
        · have z29 := n_lt0 h29
          exact (by omega)
        · refine xr_stp rfl rfl rfl rfl ?_
          refine xr_stp (st' := .int (Int32.ofNat 6) :: _) rfl rfl rfl rfl ?_
          refine xr_j2 rfl rfl rfl rfl rfl (fun h35 => ?_) (fun h35 => ?_)
          · refine xr_stp rfl rfl rfl rfl ?_
            refine xr_stp (st' := .int (Int32.ofNat 5) :: _) rfl rfl rfl rfl ?_
            refine xr_j2 rfl rfl rfl rfl rfl (fun h43 => ?_) (fun h43 => ?_)
            · have z43 := nt_ge (by omega) (by omega) h43
              exact (by omega)
            · refine xr_stp rfl rfl rfl rfl ?_
              refine xr_getfield hO rfl rfl rfl rfl ?_
              refine xr_getfield (hw.w wb23 hl hR) rfl rfl rfl rfl ?_
              refine xr_stp rfl rfl rfl rfl ?_
              refine xr_stp (st' := .int (Int32.ofNat 5) :: _) rfl rfl rfl rfl ?_
              refine xs_mul rfl ?_
              refine xr_stp rfl rfl rfl rfl ?_
              refine xs_add rfl ?_
              refine xs_ild (hw.f wb23 hl hR) (by omega) (by omega) rfl ?_
              rw [show i * 5 + 0 = i * 5 from rfl, f0]
              exact xr_ret rfl rfl K
          · have z35 := nf_le (by omega) (by omega) h35
            exact (by omega)
  · have z2 := nf_ne (by omega) (by omega) h2
    exact (by omega)
theorem cq_fli1 (d c s nn q dl tx sy T N fi m mm : Nat) (f : Nat → Int32) (W0 : xi_W) (G : Nat → Nat) (GS : Nat → Nat → Nat) (hc : cmx nn f q dl tx sy T N fi m mm G GS W0) (i : Nat) (hi : i < G 410) (r : xi_R → Prop) (K : r (some (.int (Int32.ofNat (G (411 + 8 * i + 1)))), W0, c, s)) : xr (d + 6) 117 0 [(0, .ref 17), (1, .int (Int32.ofNat i)), (2, .int (Int32.ofNat 1))] [] W0 c s r := by
  obtain ⟨lf, lp, hO⟩ := hc.o
  obtain ⟨F, hw, hr⟩ := hc.w
  have hl := hc.l
  have hR := hc.R
  have J := hr.j
  have FF := hr.1.2.2.2.2.2.2.2.1
  have f8 := FF.1
  have hm := J.m
  obtain ⟨_, f0, f1, f2, f3, f4⟩ := FF.2 i hi
  refine xr_stp rfl rfl rfl rfl ?_
  refine xr_stp (st' := .int (Int32.ofNat 4294967295) :: _) rfl rfl rfl rfl ?_
  refine xr_j2 rfl rfl rfl rfl rfl (fun h2 => ?_) (fun h2 => ?_)
  · refine xr_stp rfl rfl rfl rfl ?_
    refine xr_j1 rfl rfl rfl rfl rfl (fun h14 => ?_) (fun h14 => ?_)
    · have z14 := n_lt0 h14
      exact (by omega)
    · refine xr_stp rfl rfl rfl rfl ?_
      refine xr_stp rfl rfl rfl rfl ?_
      refine xr_getfield hO rfl rfl rfl rfl ?_
      refine xr_getfield (hw.w wb23 hl hR) rfl rfl rfl rfl ?_
      refine xr_j2 rfl rfl rfl rfl rfl (fun h25 => ?_) (fun h25 => ?_)
      · have z25 := nt_ge (by omega) (by omega) h25
        exact (by omega)
      · refine xr_stp rfl rfl rfl rfl ?_
        refine xr_j1 rfl rfl rfl rfl rfl (fun h29 => ?_) (fun h29 => ?_)
        · have z29 := n_lt0 h29
          exact (by omega)
        · refine xr_stp rfl rfl rfl rfl ?_
          refine xr_stp (st' := .int (Int32.ofNat 6) :: _) rfl rfl rfl rfl ?_
          refine xr_j2 rfl rfl rfl rfl rfl (fun h35 => ?_) (fun h35 => ?_)
          · refine xr_stp rfl rfl rfl rfl ?_
            refine xr_stp (st' := .int (Int32.ofNat 5) :: _) rfl rfl rfl rfl ?_
            refine xr_j2 rfl rfl rfl rfl rfl (fun h43 => ?_) (fun h43 => ?_)
            · have z43 := nt_ge (by omega) (by omega) h43
              exact (by omega)
            · refine xr_stp rfl rfl rfl rfl ?_
              refine xr_getfield hO rfl rfl rfl rfl ?_
              refine xr_getfield (hw.w wb23 hl hR) rfl rfl rfl rfl ?_
              refine xr_stp rfl rfl rfl rfl ?_
              refine xr_stp (st' := .int (Int32.ofNat 5) :: _) rfl rfl rfl rfl ?_
              refine xs_mul rfl ?_
              refine xr_stp rfl rfl rfl rfl ?_
              refine xs_add rfl ?_
              refine xs_ild (hw.f wb23 hl hR) (by omega) (by omega) rfl ?_
              rw [f1]
              exact xr_ret rfl rfl K
          · have z35 := nf_le (by omega) (by omega) h35
            exact (by omega)
  · have z2 := nf_ne (by omega) (by omega) h2
    exact (by omega)
theorem cq_fli2 (d c s nn q dl tx sy T N fi m mm : Nat) (f : Nat → Int32) (W0 : xi_W) (G : Nat → Nat) (GS : Nat → Nat → Nat) (hc : cmx nn f q dl tx sy T N fi m mm G GS W0) (i : Nat) (hi : i < G 410) (r : xi_R → Prop) (K : r (some (.int (Int32.ofNat (G (411 + 8 * i + 2)))), W0, c, s)) : xr (d + 6) 117 0 [(0, .ref 17), (1, .int (Int32.ofNat i)), (2, .int (Int32.ofNat 2))] [] W0 c s r := by
  obtain ⟨lf, lp, hO⟩ := hc.o
  obtain ⟨F, hw, hr⟩ := hc.w
  have hl := hc.l
  have hR := hc.R
  have J := hr.j
  have FF := hr.1.2.2.2.2.2.2.2.1
  have f8 := FF.1
  have hm := J.m
  obtain ⟨_, f0, f1, f2, f3, f4⟩ := FF.2 i hi
  refine xr_stp rfl rfl rfl rfl ?_
  refine xr_stp (st' := .int (Int32.ofNat 4294967295) :: _) rfl rfl rfl rfl ?_
  refine xr_j2 rfl rfl rfl rfl rfl (fun h2 => ?_) (fun h2 => ?_)
  · refine xr_stp rfl rfl rfl rfl ?_
    refine xr_j1 rfl rfl rfl rfl rfl (fun h14 => ?_) (fun h14 => ?_)
    · have z14 := n_lt0 h14
      exact (by omega)
    · refine xr_stp rfl rfl rfl rfl ?_
      refine xr_stp rfl rfl rfl rfl ?_
      refine xr_getfield hO rfl rfl rfl rfl ?_
      refine xr_getfield (hw.w wb23 hl hR) rfl rfl rfl rfl ?_
      refine xr_j2 rfl rfl rfl rfl rfl (fun h25 => ?_) (fun h25 => ?_)
      · have z25 := nt_ge (by omega) (by omega) h25
        exact (by omega)
      · refine xr_stp rfl rfl rfl rfl ?_
        refine xr_j1 rfl rfl rfl rfl rfl (fun h29 => ?_) (fun h29 => ?_)
        · have z29 := n_lt0 h29
          exact (by omega)
        · refine xr_stp rfl rfl rfl rfl ?_
          refine xr_stp (st' := .int (Int32.ofNat 6) :: _) rfl rfl rfl rfl ?_
          refine xr_j2 rfl rfl rfl rfl rfl (fun h35 => ?_) (fun h35 => ?_)
          · refine xr_stp rfl rfl rfl rfl ?_
            refine xr_stp (st' := .int (Int32.ofNat 5) :: _) rfl rfl rfl rfl ?_
            refine xr_j2 rfl rfl rfl rfl rfl (fun h43 => ?_) (fun h43 => ?_)
            · have z43 := nt_ge (by omega) (by omega) h43
              exact (by omega)
            · refine xr_stp rfl rfl rfl rfl ?_
              refine xr_getfield hO rfl rfl rfl rfl ?_
              refine xr_getfield (hw.w wb23 hl hR) rfl rfl rfl rfl ?_
              refine xr_stp rfl rfl rfl rfl ?_
              refine xr_stp (st' := .int (Int32.ofNat 5) :: _) rfl rfl rfl rfl ?_
              refine xs_mul rfl ?_
              refine xr_stp rfl rfl rfl rfl ?_
              refine xs_add rfl ?_
              refine xs_ild (hw.f wb23 hl hR) (by omega) (by omega) rfl ?_
              rw [f2]
              exact xr_ret rfl rfl K
          · have z35 := nf_le (by omega) (by omega) h35
            exact (by omega)
  · have z2 := nf_ne (by omega) (by omega) h2
    exact (by omega)
theorem cq_fli3 (d c s nn q dl tx sy T N fi m mm : Nat) (f : Nat → Int32) (W0 : xi_W) (G : Nat → Nat) (GS : Nat → Nat → Nat) (hc : cmx nn f q dl tx sy T N fi m mm G GS W0) (i : Nat) (hi : i < G 410) (r : xi_R → Prop) (K : r (some (.int (Int32.ofNat (G (411 + 8 * i + 5)))), W0, c, s)) : xr (d + 6) 117 0 [(0, .ref 17), (1, .int (Int32.ofNat i)), (2, .int (Int32.ofNat 3))] [] W0 c s r := by
  obtain ⟨lf, lp, hO⟩ := hc.o
  obtain ⟨F, hw, hr⟩ := hc.w
  have hl := hc.l
  have hR := hc.R
  have J := hr.j
  have FF := hr.1.2.2.2.2.2.2.2.1
  have f8 := FF.1
  have hm := J.m
  obtain ⟨_, f0, f1, f2, f3, f4⟩ := FF.2 i hi
  refine xr_stp rfl rfl rfl rfl ?_
  refine xr_stp (st' := .int (Int32.ofNat 4294967295) :: _) rfl rfl rfl rfl ?_
  refine xr_j2 rfl rfl rfl rfl rfl (fun h2 => ?_) (fun h2 => ?_)
  · refine xr_stp rfl rfl rfl rfl ?_
    refine xr_j1 rfl rfl rfl rfl rfl (fun h14 => ?_) (fun h14 => ?_)
    · have z14 := n_lt0 h14
      exact (by omega)
    · refine xr_stp rfl rfl rfl rfl ?_
      refine xr_stp rfl rfl rfl rfl ?_
      refine xr_getfield hO rfl rfl rfl rfl ?_
      refine xr_getfield (hw.w wb23 hl hR) rfl rfl rfl rfl ?_
      refine xr_j2 rfl rfl rfl rfl rfl (fun h25 => ?_) (fun h25 => ?_)
      · have z25 := nt_ge (by omega) (by omega) h25
        exact (by omega)
      · refine xr_stp rfl rfl rfl rfl ?_
        refine xr_j1 rfl rfl rfl rfl rfl (fun h29 => ?_) (fun h29 => ?_)
        · have z29 := n_lt0 h29
          exact (by omega)
        · refine xr_stp rfl rfl rfl rfl ?_
          refine xr_stp (st' := .int (Int32.ofNat 6) :: _) rfl rfl rfl rfl ?_
          refine xr_j2 rfl rfl rfl rfl rfl (fun h35 => ?_) (fun h35 => ?_)
          · refine xr_stp rfl rfl rfl rfl ?_
            refine xr_stp (st' := .int (Int32.ofNat 5) :: _) rfl rfl rfl rfl ?_
            refine xr_j2 rfl rfl rfl rfl rfl (fun h43 => ?_) (fun h43 => ?_)
            · have z43 := nt_ge (by omega) (by omega) h43
              exact (by omega)
            · refine xr_stp rfl rfl rfl rfl ?_
              refine xr_getfield hO rfl rfl rfl rfl ?_
              refine xr_getfield (hw.w wb23 hl hR) rfl rfl rfl rfl ?_
              refine xr_stp rfl rfl rfl rfl ?_
              refine xr_stp (st' := .int (Int32.ofNat 5) :: _) rfl rfl rfl rfl ?_
              refine xs_mul rfl ?_
              refine xr_stp rfl rfl rfl rfl ?_
              refine xs_add rfl ?_
              refine xs_ild (hw.f wb23 hl hR) (by omega) (by omega) rfl ?_
              rw [f3]
              exact xr_ret rfl rfl K
          · have z35 := nf_le (by omega) (by omega) h35
            exact (by omega)
  · have z2 := nf_ne (by omega) (by omega) h2
    exact (by omega)
theorem cq_fli4 (d c s nn q dl tx sy T N fi m mm : Nat) (f : Nat → Int32) (W0 : xi_W) (G : Nat → Nat) (GS : Nat → Nat → Nat) (hc : cmx nn f q dl tx sy T N fi m mm G GS W0) (i : Nat) (hi : i < G 410) (r : xi_R → Prop) (K : r (some (.int (Int32.ofNat (G (411 + 8 * i + 4)))), W0, c, s)) : xr (d + 6) 117 0 [(0, .ref 17), (1, .int (Int32.ofNat i)), (2, .int (Int32.ofNat 4))] [] W0 c s r := by
  obtain ⟨lf, lp, hO⟩ := hc.o
  obtain ⟨F, hw, hr⟩ := hc.w
  have hl := hc.l
  have hR := hc.R
  have J := hr.j
  have FF := hr.1.2.2.2.2.2.2.2.1
  have f8 := FF.1
  have hm := J.m
  obtain ⟨_, f0, f1, f2, f3, f4⟩ := FF.2 i hi
  refine xr_stp rfl rfl rfl rfl ?_
  refine xr_stp (st' := .int (Int32.ofNat 4294967295) :: _) rfl rfl rfl rfl ?_
  refine xr_j2 rfl rfl rfl rfl rfl (fun h2 => ?_) (fun h2 => ?_)
  · refine xr_stp rfl rfl rfl rfl ?_
    refine xr_j1 rfl rfl rfl rfl rfl (fun h14 => ?_) (fun h14 => ?_)
    · have z14 := n_lt0 h14
      exact (by omega)
    · refine xr_stp rfl rfl rfl rfl ?_
      refine xr_stp rfl rfl rfl rfl ?_
      refine xr_getfield hO rfl rfl rfl rfl ?_
      refine xr_getfield (hw.w wb23 hl hR) rfl rfl rfl rfl ?_
      refine xr_j2 rfl rfl rfl rfl rfl (fun h25 => ?_) (fun h25 => ?_)
      · have z25 := nt_ge (by omega) (by omega) h25
        exact (by omega)
      · refine xr_stp rfl rfl rfl rfl ?_
        refine xr_j1 rfl rfl rfl rfl rfl (fun h29 => ?_) (fun h29 => ?_)
        · have z29 := n_lt0 h29
          exact (by omega)
        · refine xr_stp rfl rfl rfl rfl ?_
          refine xr_stp (st' := .int (Int32.ofNat 6) :: _) rfl rfl rfl rfl ?_
          refine xr_j2 rfl rfl rfl rfl rfl (fun h35 => ?_) (fun h35 => ?_)
          · refine xr_stp rfl rfl rfl rfl ?_
            refine xr_stp (st' := .int (Int32.ofNat 5) :: _) rfl rfl rfl rfl ?_
            refine xr_j2 rfl rfl rfl rfl rfl (fun h43 => ?_) (fun h43 => ?_)
            · have z43 := nt_ge (by omega) (by omega) h43
              exact (by omega)
            · refine xr_stp rfl rfl rfl rfl ?_
              refine xr_getfield hO rfl rfl rfl rfl ?_
              refine xr_getfield (hw.w wb23 hl hR) rfl rfl rfl rfl ?_
              refine xr_stp rfl rfl rfl rfl ?_
              refine xr_stp (st' := .int (Int32.ofNat 5) :: _) rfl rfl rfl rfl ?_
              refine xs_mul rfl ?_
              refine xr_stp rfl rfl rfl rfl ?_
              refine xs_add rfl ?_
              refine xs_ild (hw.f wb23 hl hR) (by omega) (by omega) rfl ?_
              rw [f4]
              exact xr_ret rfl rfl K
          · have z35 := nf_le (by omega) (by omega) h35
            exact (by omega)
  · have z2 := nf_ne (by omega) (by omega) h2
    exact (by omega)
theorem cq_fli5 (d c s nn q dl tx sy T N fi m mm : Nat) (f : Nat → Int32) (W0 : xi_W) (G : Nat → Nat) (GS : Nat → Nat → Nat) (hc : cmx nn f q dl tx sy T N fi m mm G GS W0) (i : Nat) (hi : i < G 410) (r : xi_R → Prop) (K : r (some (.int (Int32.ofNat (bc 63 (G (411 + 8 * i + 6))))), W0, c, s)) : xr (d + 6) 117 0 [(0, .ref 17), (1, .int (Int32.ofNat i)), (2, .int (Int32.ofNat 5))] [] W0 c s r := by
  obtain ⟨lf, lp, hO⟩ := hc.o
  obtain ⟨F, hw, hr⟩ := hc.w
  have hl := hc.l
  have hR := hc.R
  have J := hr.j
  have FF := hr.1.2.2.2.2.2.2.2.1
  have f8 := FF.1
  have hm := J.m
  refine xr_stp rfl rfl rfl rfl ?_
  refine xr_stp (st' := .int (Int32.ofNat 4294967295) :: _) rfl rfl rfl rfl ?_
  refine xr_j2 rfl rfl rfl rfl rfl (fun h2 => ?_) (fun h2 => ?_)
  · refine xr_stp rfl rfl rfl rfl ?_
    refine xr_j1 rfl rfl rfl rfl rfl (fun h14 => ?_) (fun h14 => ?_)
    · have z14 := n_lt0 h14
      exact (by omega)
    · refine xr_stp rfl rfl rfl rfl ?_
      refine xr_stp rfl rfl rfl rfl ?_
      refine xr_getfield hO rfl rfl rfl rfl ?_
      refine xr_getfield (hw.w wb23 hl hR) rfl rfl rfl rfl ?_
      refine xr_j2 rfl rfl rfl rfl rfl (fun h25 => ?_) (fun h25 => ?_)
      · have z25 := nt_ge (by omega) (by omega) h25
        exact (by omega)
      · refine xr_stp rfl rfl rfl rfl ?_
        refine xr_j1 rfl rfl rfl rfl rfl (fun h29 => ?_) (fun h29 => ?_)
        · have z29 := n_lt0 h29
          exact (by omega)
        · refine xr_stp rfl rfl rfl rfl ?_
          refine xr_stp (st' := .int (Int32.ofNat 6) :: _) rfl rfl rfl rfl ?_
          refine xr_j2 rfl rfl rfl rfl rfl (fun h35 => ?_) (fun h35 => ?_)
          · refine xr_stp rfl rfl rfl rfl ?_
            refine xr_stp (st' := .int (Int32.ofNat 5) :: _) rfl rfl rfl rfl ?_
            refine xr_j2 rfl rfl rfl rfl rfl (fun h43 => ?_) (fun h43 => ?_)
            · refine xr_stp rfl rfl rfl rfl ?_
              refine xr_stp (st' := .int (Int32.ofNat 5) :: _) rfl rfl rfl rfl ?_
              refine xr_j2 rfl rfl rfl rfl rfl (fun h62 => ?_) (fun h62 => ?_)
              · have z62 := nt_ne h62
                exact (by omega)
              · refine xr_stp rfl rfl rfl rfl ?_
                refine xr_getfield hO rfl rfl rfl rfl ?_
                refine xr_getfield (hw.w wb23 hl hR) rfl rfl rfl rfl ?_
                refine xr_stp (st' := .int (Int32.ofNat 28) :: _) rfl rfl rfl rfl ?_
                refine xr_stp rfl rfl rfl rfl ?_
                refine xs_add rfl ?_
                refine xr_vcps hw.2 rfl rfl rfl rfl rfl rfl (fun r1 K2 => rq_ent _ _ _ 23 W0 F G _ hw wb23 hl hR (hr.xf hi) r1 (K2 _ _ _ _ ?_))
                refine xr_stp rfl rfl rfl rfl ?_
                exact xr_ret rfl rfl K
            · have z43 := nf_ge (by omega) (by omega) h43
              exact (by omega)
          · have z35 := nf_le (by omega) (by omega) h35
            exact (by omega)
  · have z2 := nf_ne (by omega) (by omega) h2
    exact (by omega)
theorem cq_fli6 (d c s nn q dl tx sy T N fi m mm : Nat) (f : Nat → Int32) (W0 : xi_W) (G : Nat → Nat) (GS : Nat → Nat → Nat) (hc : cmx nn f q dl tx sy T N fi m mm G GS W0) (i : Nat) (hi : i < G 410) (r : xi_R → Prop) (K : r (some (.int (Int32.ofNat (bc 63 (G (411 + 8 * i + 7))))), W0, c, s)) : xr (d + 6) 117 0 [(0, .ref 17), (1, .int (Int32.ofNat i)), (2, .int (Int32.ofNat 6))] [] W0 c s r := by
  obtain ⟨lf, lp, hO⟩ := hc.o
  obtain ⟨F, hw, hr⟩ := hc.w
  have hl := hc.l
  have hR := hc.R
  have J := hr.j
  have FF := hr.1.2.2.2.2.2.2.2.1
  have f8 := FF.1
  have hm := J.m
  refine xr_stp rfl rfl rfl rfl ?_
  refine xr_stp (st' := .int (Int32.ofNat 4294967295) :: _) rfl rfl rfl rfl ?_
  refine xr_j2 rfl rfl rfl rfl rfl (fun h2 => ?_) (fun h2 => ?_)
  · refine xr_stp rfl rfl rfl rfl ?_
    refine xr_j1 rfl rfl rfl rfl rfl (fun h14 => ?_) (fun h14 => ?_)
    · have z14 := n_lt0 h14
      exact (by omega)
    · refine xr_stp rfl rfl rfl rfl ?_
      refine xr_stp rfl rfl rfl rfl ?_
      refine xr_getfield hO rfl rfl rfl rfl ?_
      refine xr_getfield (hw.w wb23 hl hR) rfl rfl rfl rfl ?_
      refine xr_j2 rfl rfl rfl rfl rfl (fun h25 => ?_) (fun h25 => ?_)
      · have z25 := nt_ge (by omega) (by omega) h25
        exact (by omega)
      · refine xr_stp rfl rfl rfl rfl ?_
        refine xr_j1 rfl rfl rfl rfl rfl (fun h29 => ?_) (fun h29 => ?_)
        · have z29 := n_lt0 h29
          exact (by omega)
        · refine xr_stp rfl rfl rfl rfl ?_
          refine xr_stp (st' := .int (Int32.ofNat 6) :: _) rfl rfl rfl rfl ?_
          refine xr_j2 rfl rfl rfl rfl rfl (fun h35 => ?_) (fun h35 => ?_)
          · refine xr_stp rfl rfl rfl rfl ?_
            refine xr_stp (st' := .int (Int32.ofNat 5) :: _) rfl rfl rfl rfl ?_
            refine xr_j2 rfl rfl rfl rfl rfl (fun h43 => ?_) (fun h43 => ?_)
            · refine xr_stp rfl rfl rfl rfl ?_
              refine xr_stp (st' := .int (Int32.ofNat 5) :: _) rfl rfl rfl rfl ?_
              refine xr_j2 rfl rfl rfl rfl rfl (fun h62 => ?_) (fun h62 => ?_)
              · refine xr_stp rfl rfl rfl rfl ?_
                refine xr_getfield hO rfl rfl rfl rfl ?_
                refine xr_getfield (hw.w wb23 hl hR) rfl rfl rfl rfl ?_
                refine xr_stp (st' := .int (Int32.ofNat 28) :: _) rfl rfl rfl rfl ?_
                refine xr_stp rfl rfl rfl rfl ?_
                refine xs_add rfl ?_
                refine xr_vcps hw.2 rfl rfl rfl rfl rfl rfl (fun r1 K2 => rq_dots _ _ _ 23 W0 F G _ hw wb23 hl hR (hr.xf hi) r1 (K2 _ _ _ _ ?_))
                exact xr_ret rfl rfl K
              · have z62 := nf_ne (by omega) (by omega) h62
                exact (by omega)
            · have z43 := nf_ge (by omega) (by omega) h43
              exact (by omega)
          · have z35 := nf_le (by omega) (by omega) h35
            exact (by omega)
  · have z2 := nf_ne (by omega) (by omega) h2
    exact (by omega)
theorem cq_is0 (d c s nn q dl tx sy T N fi m mm : Nat) (f : Nat → Int32) (W0 : xi_W) (G : Nat → Nat) (GS : Nat → Nat → Nat) (hc : cmx nn f q dl tx sy T N fi m mm G GS W0) (r : xi_R → Prop) (K : r (some (.int (Int32.ofNat (G 0))), W0, c, s)) : xr (d + 6) 118 0 [(0, .ref 17), (1, .int (Int32.ofNat 0))] [] W0 c s r := by
  obtain ⟨lf, lp, hO⟩ := hc.o
  obtain ⟨F, hw, hr⟩ := hc.w
  have hl := hc.l
  have hR := hc.R
  have J := hr.j
  have QQ := hr.1.2.2.2.2.2.2.1
  refine xr_stp rfl rfl rfl rfl ?_
  refine xr_stp (pc' := 32) rfl rfl rfl rfl ?_
  refine xr_stp rfl rfl rfl rfl ?_
  refine xr_getfield hO rfl rfl rfl rfl ?_
  refine xr_getfield (hw.w wb23 hl hR) rfl rfl rfl rfl ?_
  rw [QQ.1]
  exact xr_ret rfl rfl K
theorem cq_is1 (d c s nn q dl tx sy T N fi m mm : Nat) (f : Nat → Int32) (W0 : xi_W) (G : Nat → Nat) (GS : Nat → Nat → Nat) (hc : cmx nn f q dl tx sy T N fi m mm G GS W0) (r : xi_R → Prop) (K : r (some (.int (Int32.ofNat (G 1))), W0, c, s)) : xr (d + 6) 118 0 [(0, .ref 17), (1, .int (Int32.ofNat 1))] [] W0 c s r := by
  obtain ⟨lf, lp, hO⟩ := hc.o
  obtain ⟨F, hw, hr⟩ := hc.w
  have hl := hc.l
  have hR := hc.R
  have J := hr.j
  have QQ := hr.1.2.2.2.2.2.2.1
  refine xr_stp rfl rfl rfl rfl ?_
  refine xr_stp (pc' := 40) rfl rfl rfl rfl ?_
  refine xr_stp rfl rfl rfl rfl ?_
  refine xr_getfield hO rfl rfl rfl rfl ?_
  refine xr_getfield (hw.w wb23 hl hR) rfl rfl rfl rfl ?_
  rw [QQ.2.1]
  exact xr_ret rfl rfl K
theorem cq_is2 (d c s nn q dl tx sy T N fi m mm : Nat) (f : Nat → Int32) (W0 : xi_W) (G : Nat → Nat) (GS : Nat → Nat → Nat) (hc : cmx nn f q dl tx sy T N fi m mm G GS W0) (r : xi_R → Prop) (K : r (some (.int (Int32.ofNat (G 2))), W0, c, s)) : xr (d + 6) 118 0 [(0, .ref 17), (1, .int (Int32.ofNat 2))] [] W0 c s r := by
  obtain ⟨lf, lp, hO⟩ := hc.o
  obtain ⟨F, hw, hr⟩ := hc.w
  have hl := hc.l
  have hR := hc.R
  have J := hr.j
  have QQ := hr.1.2.2.2.2.2.2.1
  refine xr_stp rfl rfl rfl rfl ?_
  refine xr_stp (pc' := 48) rfl rfl rfl rfl ?_
  refine xr_stp rfl rfl rfl rfl ?_
  refine xr_getfield hO rfl rfl rfl rfl ?_
  refine xr_getfield (hw.w wb23 hl hR) rfl rfl rfl rfl ?_
  rw [QQ.2.2.1]
  exact xr_ret rfl rfl K
theorem cq_is3 (d c s nn q dl tx sy T N fi m mm : Nat) (f : Nat → Int32) (W0 : xi_W) (G : Nat → Nat) (GS : Nat → Nat → Nat) (hc : cmx nn f q dl tx sy T N fi m mm G GS W0) (r : xi_R → Prop) (K : r (some (.int (Int32.ofNat (G 3))), W0, c, s)) : xr (d + 6) 118 0 [(0, .ref 17), (1, .int (Int32.ofNat 3))] [] W0 c s r := by
  obtain ⟨lf, lp, hO⟩ := hc.o
  obtain ⟨F, hw, hr⟩ := hc.w
  have hl := hc.l
  have hR := hc.R
  have J := hr.j
  have QQ := hr.1.2.2.2.2.2.2.1
  refine xr_stp rfl rfl rfl rfl ?_
  refine xr_stp (pc' := 56) rfl rfl rfl rfl ?_
  refine xr_stp rfl rfl rfl rfl ?_
  refine xr_getfield hO rfl rfl rfl rfl ?_
  refine xr_getfield (hw.w wb23 hl hR) rfl rfl rfl rfl ?_
  rw [QQ.2.2.2]
  exact xr_ret rfl rfl K
/-- 'book' -/
theorem cq_booN (d c s nn q dl tx sy T N fi m mm : Nat) (f : Nat → Int32) (W0 : xi_W) (G : Nat → Nat) (GS : Nat → Nat → Nat) (hc : cmx nn f q dl tx sy T N fi m mm G GS W0) (z : Nat) (r : xi_R → Prop) (K : r (some (.int (Int32.ofNat (min (G 603) 25))), W0, c, s)) : xr (d + 6) 119 0 [(0, .ref 17), (1, .int (Int32.ofNat 4294967295)), (2, .int (Int32.ofNat z))] [] W0 c s r := by
  obtain ⟨lf, lp, hO⟩ := hc.o
  obtain ⟨F, hw, hr⟩ := hc.w
  have hl := hc.l
  have hR := hc.R
  have J := hr.j
  have BB := hr.1.2.2.2.2.2.2.2.2
  have b1 := BB.1
  have hk3 := J.k
  refine xr_stp rfl rfl rfl rfl ?_
  refine xr_stp (st' := .int (Int32.ofNat 4294967295) :: _) rfl rfl rfl rfl ?_
  refine xr_j2 rfl rfl rfl rfl rfl (fun h2 => ?_) (fun h2 => ?_)
  · have z2 := nt_ne h2
    exact (by omega)
  · refine xr_stp rfl rfl rfl rfl ?_
    refine xr_getfield hO rfl rfl rfl rfl ?_
    refine xr_getfield (hw.w wb23 hl hR) rfl rfl rfl rfl ?_
    rw [b1]
    exact xr_ret rfl rfl K
theorem cq_boo (d c s nn q dl tx sy T N fi m mm : Nat) (f : Nat → Int32) (W0 : xi_W) (G : Nat → Nat) (GS : Nat → Nat → Nat) (hc : cmx nn f q dl tx sy T N fi m mm G GS W0) (i z : Nat) (hi : i < min (G 603) 25) (hz : z < 4) (r : xi_R → Prop) (K : r (some (.int (Int32.ofNat (G (604 + 4 * (G 603 - min (G 603) 25 + i) + z)))), W0, c, s)) : xr (d + 6) 119 0 [(0, .ref 17), (1, .int (Int32.ofNat i)), (2, .int (Int32.ofNat z))] [] W0 c s r := by
  obtain ⟨lf, lp, hO⟩ := hc.o
  obtain ⟨F, hw, hr⟩ := hc.w
  have hl := hc.l
  have hR := hc.R
  have J := hr.j
  have BB := hr.1.2.2.2.2.2.2.2.2
  have b1 := BB.1
  have hk3 := J.k
  refine xr_stp rfl rfl rfl rfl ?_
  refine xr_stp (st' := .int (Int32.ofNat 4294967295) :: _) rfl rfl rfl rfl ?_
  refine xr_j2 rfl rfl rfl rfl rfl (fun h2 => ?_) (fun h2 => ?_)
  · refine xr_stp rfl rfl rfl rfl ?_
    refine xr_j1 rfl rfl rfl rfl rfl (fun h14 => ?_) (fun h14 => ?_)
    · have z14 := n_lt0 h14
      exact (by omega)
    · refine xr_stp rfl rfl rfl rfl ?_
      refine xr_stp rfl rfl rfl rfl ?_
      refine xr_getfield hO rfl rfl rfl rfl ?_
      refine xr_getfield (hw.w wb23 hl hR) rfl rfl rfl rfl ?_
      refine xr_j2 rfl rfl rfl rfl rfl (fun h25 => ?_) (fun h25 => ?_)
      · have z25 := nt_ge (by omega) (by omega) h25
        exact (by omega)
      · refine xr_stp rfl rfl rfl rfl ?_
        refine xr_j1 rfl rfl rfl rfl rfl (fun h29 => ?_) (fun h29 => ?_)
        · have z29 := n_lt0 h29
          exact (by omega)
        · refine xr_stp rfl rfl rfl rfl ?_
          refine xr_stp (st' := .int (Int32.ofNat 4) :: _) rfl rfl rfl rfl ?_
          refine xr_j2 rfl rfl rfl rfl rfl (fun h34 => ?_) (fun h34 => ?_)
          · refine xr_stp rfl rfl rfl rfl ?_
            refine xr_getfield hO rfl rfl rfl rfl ?_
            refine xr_getfield (hw.w wb23 hl hR) rfl rfl rfl rfl ?_
            refine xr_stp rfl rfl rfl rfl ?_
            refine xr_stp (st' := .int (Int32.ofNat 4) :: _) rfl rfl rfl rfl ?_
            refine xs_mul rfl ?_
            refine xr_stp rfl rfl rfl rfl ?_
            refine xs_add rfl ?_
            refine xs_ild (hw.l wb23 hl hR) (by omega) (by omega) rfl ?_
            have b2 := BB.2 i z (by omega) hz
            rw [b1] at b2
            rw [b2]
            exact xr_ret rfl rfl K
          · have z34 := nf_lt (by omega) (by omega) h34
            exact (by omega)
  · have z2 := nf_ne (by omega) (by omega) h2
    exact (by omega)
/-- 'digest' -/
theorem cq_dig (d c s nn q dl tx sy T N fi m mm : Nat) (f : Nat → Int32) (W0 : xi_W) (G : Nat → Nat) (GS : Nat → Nat → Nat) (hc : cmx nn f q dl tx sy T N fi m mm G GS W0) (t : Nat) (ht : t < 4) (r : xi_R → Prop) (K : r (some (.int (Int32.ofNat (lw_dig G (G (330 + 2 * t))))), W0, c, s)) : xr (d + 6) 123 0 [(0, .ref 17), (1, .int (Int32.ofNat t))] [] W0 c s r := by
  obtain ⟨lf, lp, hO⟩ := hc.o
  obtain ⟨F, hw, hr⟩ := hc.w
  have hl := hc.l
  have hR := hc.R
  have J := hr.j
  refine xr_stp rfl rfl rfl rfl ?_
  refine xr_cps rfl rfl rfl (fun r1 K2 => cl_rep _ _ _ t _ (by omega) r1 (K2 _ _ _ _ ?_))
  refine xr_j1 rfl rfl rfl rfl rfl (fun h4 => ?_) (fun h4 => ?_)
  · have z4 := nt1_eq (by omega) h4
    exact (by omega)
  · refine xr_stp rfl rfl rfl rfl ?_
    refine xr_getfield hO rfl rfl rfl rfl ?_
    refine xr_getfield (hw.w wb23 hl hR) rfl rfl rfl rfl ?_
    refine xr_stp rfl rfl rfl rfl ?_
    refine xr_vcps hw.2 rfl rfl rfl rfl rfl rfl (fun r1 K2 => rq_dig _ _ _ 23 W0 F G _ hw wb23 hl hR (hr.xs ht) r1 (K2 _ _ _ _ ?_))
    refine xr_stp rfl rfl rfl rfl ?_
    exact xr_ret rfl rfl K
/-- 'parts' -/
theorem cq_par (d c s nn q dl tx sy T N fi m mm : Nat) (f : Nat → Int32) (W0 : xi_W) (G : Nat → Nat) (GS : Nat → Nat → Nat) (hc : cmx nn f q dl tx sy T N fi m mm G GS W0) (t : Nat) (ht : t < 4) (r : xi_R → Prop) (K : r (some (.int (Int32.ofNat (bc 63 (G (331 + 2 * t))))), W0, c, s)) : xr (d + 6) 128 0 [(0, .ref 17), (1, .int (Int32.ofNat t))] [] W0 c s r := by
  obtain ⟨lf, lp, hO⟩ := hc.o
  obtain ⟨F, hw, hr⟩ := hc.w
  have hl := hc.l
  have hR := hc.R
  have J := hr.j
  refine xr_stp rfl rfl rfl rfl ?_
  refine xr_cps rfl rfl rfl (fun r1 K2 => cl_rep _ _ _ t _ (by omega) r1 (K2 _ _ _ _ ?_))
  refine xr_j1 rfl rfl rfl rfl rfl (fun h4 => ?_) (fun h4 => ?_)
  · have z4 := nt1_eq (by omega) h4
    exact (by omega)
  · refine xr_stp rfl rfl rfl rfl ?_
    refine xr_getfield hO rfl rfl rfl rfl ?_
    refine xr_getfield (hw.w wb23 hl hR) rfl rfl rfl rfl ?_
    refine xr_stp rfl rfl rfl rfl ?_
    refine xr_vcps hw.2 rfl rfl rfl rfl rfl rfl (fun r1 K2 => rq_dots _ _ _ 23 W0 F G _ hw wb23 hl hR (hr.xs ht) r1 (K2 _ _ _ _ ?_))
    refine xr_stp rfl rfl rfl rfl ?_
    exact xr_ret rfl rfl K
/-- 'unlike' -/
theorem cq_unl (d c s nn q dl tx sy T N fi m mm : Nat) (f : Nat → Int32) (W0 : xi_W) (G : Nat → Nat) (GS : Nat → Nat → Nat) (hc : cmx nn f q dl tx sy T N fi m mm G GS W0) (t u : Nat) (ht : t < 4) (hu : u < 4) (r : xi_R → Prop) (K : r (some (.int (Int32.ofNat (bc 63 (lw_un (G (330 + 2 * t)) (G (331 + 2 * t)) (G (330 + 2 * u)) (G (331 + 2 * u)))))), W0, c, s)) : xr (d + 6) 129 0 [(0, .ref 17), (1, .int (Int32.ofNat t)), (2, .int (Int32.ofNat u))] [] W0 c s r := by
  obtain ⟨lf, lp, hO⟩ := hc.o
  obtain ⟨F, hw, hr⟩ := hc.w
  have hl := hc.l
  have hR := hc.R
  have J := hr.j
  refine xr_stp rfl rfl rfl rfl ?_
  refine xr_cps rfl rfl rfl (fun r1 K2 => cl_rep _ _ _ t _ (by omega) r1 (K2 _ _ _ _ ?_))
  refine xr_j1 rfl rfl rfl rfl rfl (fun h4 => ?_) (fun h4 => ?_)
  · have z4 := nt1_eq (by omega) h4
    exact (by omega)
  · refine xr_stp rfl rfl rfl rfl ?_
    refine xr_cps rfl rfl rfl (fun r1 K2 => cl_rep _ _ _ u _ (by omega) r1 (K2 _ _ _ _ ?_))
    refine xr_j1 rfl rfl rfl rfl rfl (fun h11 => ?_) (fun h11 => ?_)
    · have z11 := nt1_eq (by omega) h11
      exact (by omega)
    · refine xr_stp rfl rfl rfl rfl ?_
      refine xr_getfield hO rfl rfl rfl rfl ?_
      refine xr_getfield (hw.w wb23 hl hR) rfl rfl rfl rfl ?_
      refine xr_stp rfl rfl rfl rfl ?_
      refine xr_stp rfl rfl rfl rfl ?_
      refine xr_vcps hw.2 rfl rfl rfl rfl rfl rfl (fun r1 K2 => rq_df _ _ _ 23 W0 F G _ hw wb23 hl hR (hr.xs ht) (hr.xs hu) r1 (K2 _ _ _ _ ?_))
      refine xr_stp rfl rfl rfl rfl ?_
      exact xr_ret rfl rfl K
/-- 'winner' -/
theorem cq_win (d c s nn q dl tx sy T N fi m mm : Nat) (f : Nat → Int32) (W0 : xi_W) (G : Nat → Nat) (GS : Nat → Nat → Nat) (hc : cmx nn f q dl tx sy T N fi m mm G GS W0) (t q f1 : Nat) (ht : t < 4) (hq : q < 4) (hf : f1 < 3) (r : xi_R → Prop) (K : r (some (.int (Int32.ofNat (wn G (G (330 + 2 * t)) q f1))), W0, c, s)) : xr (d + 6) 131 0 [(0, .ref 17), (1, .int (Int32.ofNat t)), (2, .int (Int32.ofNat q)), (3, .int (Int32.ofNat f1))] [] W0 c s r := by
  obtain ⟨lf, lp, hO⟩ := hc.o
  obtain ⟨F, hw, hr⟩ := hc.w
  have hl := hc.l
  have hR := hc.R
  have J := hr.j
  refine xr_stp rfl rfl rfl rfl ?_
  refine xr_stp rfl rfl rfl rfl ?_
  refine xr_stp rfl rfl rfl rfl ?_
  refine xr_cps rfl rfl rfl (fun r1 K2 => cl_cell _ _ _ t q f1 _ (by omega) (by omega) (by omega) r1 (K2 _ _ _ _ ?_))
  refine xr_j1 rfl rfl rfl rfl rfl (fun h6 => ?_) (fun h6 => ?_)
  · have z6 := nt1_eq (by omega) h6
    exact (by omega)
  · refine xr_stp rfl rfl rfl rfl ?_
    refine xr_getfield hO rfl rfl rfl rfl ?_
    refine xr_getfield (hw.w wb23 hl hR) rfl rfl rfl rfl ?_
    refine xr_stp rfl rfl rfl rfl ?_
    refine xr_stp rfl rfl rfl rfl ?_
    refine xr_stp rfl rfl rfl rfl ?_
    refine xr_vcps hw.2 rfl rfl rfl rfl rfl rfl (fun r1 K2 => rq_lat _ _ _ 23 W0 F G _ hw wb23 hl hR (hr.xs ht) q f1 hq (by omega) r1 (K2 _ _ _ _ ?_))
    refine xr_stp rfl rfl rfl rfl ?_
    exact xr_ret rfl rfl K
/-- 'sum' -/
theorem cq_sum (d c s nn q dl tx sy T N fi m mm : Nat) (f : Nat → Int32) (W0 : xi_W) (G : Nat → Nat) (GS : Nat → Nat → Nat) (hc : cmx nn f q dl tx sy T N fi m mm G GS W0) (t q : Nat) (ht : t < 4) (hq : q < 4) (r : xi_R → Prop) (K : r (some (.int (Int32.ofNat (vK G (G (330 + 2 * t)) q 0 + vK G (G (330 + 2 * t)) q 1 + vK G (G (330 + 2 * t)) q 2))), W0, c, s)) : xr (d + 6) 134 0 [(0, .ref 17), (1, .int (Int32.ofNat t)), (2, .int (Int32.ofNat q))] [] W0 c s r := by
  obtain ⟨lf, lp, hO⟩ := hc.o
  obtain ⟨F, hw, hr⟩ := hc.w
  have hl := hc.l
  have hR := hc.R
  have J := hr.j
  refine xr_stp rfl rfl rfl rfl ?_
  refine xr_cps rfl rfl rfl (fun r1 K2 => cl_rep _ _ _ t _ (by omega) r1 (K2 _ _ _ _ ?_))
  refine xr_j1 rfl rfl rfl rfl rfl (fun h4 => ?_) (fun h4 => ?_)
  · have z4 := nt1_eq (by omega) h4
    exact (by omega)
  · refine xr_stp rfl rfl rfl rfl ?_
    refine xr_cps rfl rfl rfl (fun r1 K2 => cl_key _ _ _ q _ (by omega) r1 (K2 _ _ _ _ ?_))
    refine xr_j1 rfl rfl rfl rfl rfl (fun h11 => ?_) (fun h11 => ?_)
    · refine xr_stp rfl rfl rfl rfl ?_
      refine xr_getfield hO rfl rfl rfl rfl ?_
      refine xr_getfield (hw.w wb23 hl hR) rfl rfl rfl rfl ?_
      refine xr_stp rfl rfl rfl rfl ?_
      refine xr_stp rfl rfl rfl rfl ?_
      refine xr_vcps hw.2 rfl rfl rfl rfl rfl rfl (fun r1 K2 => rq_tot _ _ _ 23 W0 F G _ hw wb23 hl hR (hr.xs ht) q hq r1 (K2 _ _ _ _ ?_))
      exact xr_ret rfl rfl K
    · have z11 := nf1_ne (by omega) h11
      exact (by omega)
/-- 'share' -/
theorem cq_sha (d c s nn q dl tx sy T N fi m mm : Nat) (f : Nat → Int32) (W0 : xi_W) (G : Nat → Nat) (GS : Nat → Nat → Nat) (hc : cmx nn f q dl tx sy T N fi m mm G GS W0) (t u : Nat) (ht : t < 4) (hu : u < 4) (r : xi_R → Prop) (K : r (some (.int (Int32.ofNat (ct G u (G 4) (G (330 + 2 * t))))), W0, c, s)) : xr (d + 6) 135 0 [(0, .ref 17), (1, .int (Int32.ofNat t)), (2, .int (Int32.ofNat u))] [] W0 c s r := by
  obtain ⟨lf, lp, hO⟩ := hc.o
  obtain ⟨F, hw, hr⟩ := hc.w
  have hl := hc.l
  have hR := hc.R
  have J := hr.j
  refine xr_stp rfl rfl rfl rfl ?_
  refine xr_cps rfl rfl rfl (fun r1 K2 => cl_rep _ _ _ t _ (by omega) r1 (K2 _ _ _ _ ?_))
  refine xr_j1 rfl rfl rfl rfl rfl (fun h4 => ?_) (fun h4 => ?_)
  · have z4 := nt1_eq (by omega) h4
    exact (by omega)
  · refine xr_stp rfl rfl rfl rfl ?_
    refine xr_cps rfl rfl rfl (fun r1 K2 => cl_rep _ _ _ u _ (by omega) r1 (K2 _ _ _ _ ?_))
    refine xr_j1 rfl rfl rfl rfl rfl (fun h11 => ?_) (fun h11 => ?_)
    · have z11 := nt1_eq (by omega) h11
      exact (by omega)
    · refine xr_stp rfl rfl rfl rfl ?_
      refine xr_getfield hO rfl rfl rfl rfl ?_
      refine xr_getfield (hw.w wb23 hl hR) rfl rfl rfl rfl ?_
      refine xr_stp rfl rfl rfl rfl ?_
      refine xr_stp rfl rfl rfl rfl ?_
      refine xr_vcps hw.2 rfl rfl rfl rfl rfl rfl (fun r1 K2 => rq_by _ _ _ 23 W0 F G _ hw wb23 hl hR (hr.xs ht) u hu r1 (K2 _ _ _ _ ?_))
      refine xr_stp rfl rfl rfl rfl ?_
      exact xr_ret rfl rfl K
/-- 'quiet' -/
theorem cq_qui (d c s nn q dl tx sy T N fi m mm : Nat) (f : Nat → Int32) (W0 : xi_W) (G : Nat → Nat) (GS : Nat → Nat → Nat) (hc : cmx nn f q dl tx sy T N fi m mm G GS W0) (hN : N < 90000) (r : xi_R → Prop) (K : r (some (.int (Int32.ofNat (qu G))), W0, c, s)) : xr (d + 6) 138 0 [(0, .ref 17)] [] W0 c s r := by
  obtain ⟨lf, lp, hO⟩ := hc.o
  obtain ⟨F, hw, hr⟩ := hc.w
  have hl := hc.l
  have hR := hc.R
  have J := hr.j
  refine xr_stp rfl rfl rfl rfl ?_
  refine xr_getfield hO rfl rfl rfl rfl ?_
  refine xr_vcps (hw.w wb23 hl hR) rfl rfl rfl rfl rfl rfl (fun r1 K2 => kl_quiet _ _ _ 23 W0 F _ hw wb23 hl hR _ N G hr (by omega) r1 (K2 _ _ _ _ ?_))
  exact xr_retb (by have := (qu_iff G).1; omega) rfl rfl K
/-- 'need' -/
theorem cq_nee0 (d c s nn q dl tx sy T N fi m mm : Nat) (f : Nat → Int32) (W0 : xi_W) (G : Nat → Nat) (GS : Nat → Nat → Nat) (hc : cmx nn f q dl tx sy T N fi m mm G GS W0) (t u : Nat) (ht : t < 4) (hu : u < 4) (hne : t ≠ u) (hN : N < 90000) (h0 : lw_be G t u = 0) (r : xi_R → Prop) (K : r (some (.int (Int32.ofNat 4294967295)), W0, c, s)) : xr (d + 6) 121 0 [(0, .ref 17), (1, .int (Int32.ofNat t)), (2, .int (Int32.ofNat u))] [] W0 c s r := by
  obtain ⟨lf, lp, hO⟩ := hc.o
  obtain ⟨F, hw, hr⟩ := hc.w
  have hl := hc.l
  have hR := hc.R
  have J := hr.j
  have C := hr.1.2.2.2.2.1 t ht
  have hJc := J.c t ht
  have hJa := J.a t u ht hu
  have c2 := C.2.2 u hu
  have hne : t ≠ u := hne
  refine xr_stp rfl rfl rfl rfl ?_
  refine xr_stp rfl rfl rfl rfl ?_
  refine xr_cps rfl rfl rfl (fun r1 K2 => cl_pair _ _ _ t u _ (by omega) (by omega) hne r1 (K2 _ _ _ _ ?_))
  refine xr_j1 rfl rfl rfl rfl rfl (fun h5 => ?_) (fun h5 => ?_)
  · have z5 := nt1_eq (by omega) h5
    exact (by omega)
  · refine xr_stp rfl rfl rfl rfl ?_
    refine xr_getfield hO rfl rfl rfl rfl ?_
    refine xr_stp rfl rfl rfl rfl ?_
    refine xr_stp rfl rfl rfl rfl ?_
    refine xr_vcps (hw.w wb23 hl hR) rfl rfl rfl rfl rfl rfl (fun r1 K2 => xr_kw0 hw (cn_hasNews (hw.B wb23 hl hR) _ F _ _ t u ht hu (by rw [c2, C.1]; exact hJa) (by rw [C.1]; omega)) (K2 _ _ _ _ ?_))
    rw [c2, C.1, if_neg (show ¬ G (346 + 4 * t + u) < G (338 + t) by unfold lw_be at h0; omega)]
    refine xr_j1 rfl rfl rfl rfl rfl (fun h17 => ?_) (fun h17 => ?_)
    · have z17 := nt1_ne h17
      exact (by omega)
    · refine xr_stp (st' := .int (Int32.ofNat 4294967295) :: _) rfl rfl rfl rfl ?_
      exact xr_ret rfl rfl K
theorem cq_nee1 (d c s nn q dl tx sy T N fi m mm : Nat) (f : Nat → Int32) (W0 : xi_W) (G : Nat → Nat) (GS : Nat → Nat → Nat) (hc : cmx nn f q dl tx sy T N fi m mm G GS W0) (t u : Nat) (ht : t < 4) (hu : u < 4) (hne : t ≠ u) (hN : N < 90000) (h0 : lw_be G t u ≠ 0) (r : xi_R → Prop) (K : r (some (.int (Int32.ofNat (if G (346 + 4 * t + u) < G (342 + t) then 0 else lw_be G t u))), W0, c, s)) : xr (d + 6) 121 0 [(0, .ref 17), (1, .int (Int32.ofNat t)), (2, .int (Int32.ofNat u))] [] W0 c s r := by
  obtain ⟨lf, lp, hO⟩ := hc.o
  obtain ⟨F, hw, hr⟩ := hc.w
  have hl := hc.l
  have hR := hc.R
  have J := hr.j
  have C := hr.1.2.2.2.2.1 t ht
  have hJc := J.c t ht
  have hJa := J.a t u ht hu
  have c2 := C.2.2 u hu
  have hne : t ≠ u := hne
  refine xr_stp rfl rfl rfl rfl ?_
  refine xr_stp rfl rfl rfl rfl ?_
  refine xr_cps rfl rfl rfl (fun r1 K2 => cl_pair _ _ _ t u _ (by omega) (by omega) hne r1 (K2 _ _ _ _ ?_))
  refine xr_j1 rfl rfl rfl rfl rfl (fun h5 => ?_) (fun h5 => ?_)
  · have z5 := nt1_eq (by omega) h5
    exact (by omega)
  · refine xr_stp rfl rfl rfl rfl ?_
    refine xr_getfield hO rfl rfl rfl rfl ?_
    refine xr_stp rfl rfl rfl rfl ?_
    refine xr_stp rfl rfl rfl rfl ?_
    refine xr_vcps (hw.w wb23 hl hR) rfl rfl rfl rfl rfl rfl (fun r1 K2 => xr_kw0 hw (cn_hasNews (hw.B wb23 hl hR) _ F _ _ t u ht hu (by rw [c2, C.1]; exact hJa) (by rw [C.1]; omega)) (K2 _ _ _ _ ?_))
    rw [c2, C.1, if_pos (show G (346 + 4 * t + u) < G (338 + t) by unfold lw_be at h0; omega)]
    refine xr_j1 rfl rfl rfl rfl rfl (fun h17 => ?_) (fun h17 => ?_)
    · refine xr_stp rfl rfl rfl rfl ?_
      refine xr_getfield hO rfl rfl rfl rfl ?_
      refine xr_stp rfl rfl rfl rfl ?_
      refine xr_stp rfl rfl rfl rfl ?_
      refine xr_vcps (hw.w wb23 hl hR) rfl rfl rfl rfl rfl rfl (fun r1 K2 => xr_kw0 hw (cn_needsState (hw.B wb23 hl hR) _ F _ _ t u ht hu (by rw [c2]; omega) (by rw [C.2.1]; omega)) (K2 _ _ _ _ ?_))
      rw [c2, C.2.1]
      refine xr_j1 rfl rfl rfl rfl rfl (fun h31 => ?_) (fun h31 => ?_)
      · have z31 := nt1_eq (by split <;> omega) h31
        have z32 : ¬ G (346 + 4 * t + u) < G (342 + t) := fun y => by rw [if_pos y] at z31; exact absurd z31 (by omega)
        rw [if_neg z32] at K
        refine xr_stp rfl rfl rfl rfl ?_
        refine xr_getfield hO rfl rfl rfl rfl ?_
        refine xr_stp rfl rfl rfl rfl ?_
        refine xr_stp rfl rfl rfl rfl ?_
        refine xr_vcps (hw.w wb23 hl hR) rfl rfl rfl rfl rfl rfl (fun r1 K2 => xr_kw0 hw (cn_lag (hw.B wb23 hl hR) _ F _ _ t u ht hu (by rw [c2, C.1]; exact hJa)) (K2 _ _ _ _ ?_))
        rw [c2, C.1]
        exact xr_ret rfl rfl K
      · have z31 := nf1_eq h31
        have z32 : G (346 + 4 * t + u) < G (342 + t) := by
          by_cases y : G (346 + 4 * t + u) < G (342 + t)
          · exact y
          · rw [if_neg y] at z31; exact absurd rfl z31
        rw [if_pos z32] at K
        refine xr_stp (st' := .int (Int32.ofNat 0) :: _) rfl rfl rfl rfl ?_
        refine xr_stp rfl rfl rfl rfl ?_
        exact xr_ret rfl rfl K
    · have z17 := nf1_ne (by omega) h17
      exact (by omega)
