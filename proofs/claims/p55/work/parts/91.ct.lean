/-! questions about what would be sent, what will be; what speaks -/
theorem cl_pairE (d c s n : Nat) (W : xi_W) (hn : n < 4) (r : xi_R → Prop) (K : r (some (.int (Int32.ofNat 0)), W, c, s)) : xr (d + 1) 148 0 [(0, .int (Int32.ofNat n)), (1, .int (Int32.ofNat n))] [] W c s r := by
  refine xr_stp rfl rfl rfl rfl ?_
  refine xr_cps rfl rfl rfl (fun r1 K2 => cl_rep _ _ _ n _ (by omega) r1 (K2 _ _ _ _ ?_))
  refine xr_j1 rfl rfl rfl rfl rfl (fun h4 => ?_) (fun h4 => ?_)
  · have z4 := nt1_eq (by omega) h4
    exact (by omega)
  · refine xr_stp rfl rfl rfl rfl ?_
    refine xr_cps rfl rfl rfl (fun r1 K2 => cl_rep _ _ _ n _ (by omega) r1 (K2 _ _ _ _ ?_))
    refine xr_j1 rfl rfl rfl rfl rfl (fun h11 => ?_) (fun h11 => ?_)
    · have z11 := nt1_eq (by omega) h11
      exact (by omega)
    · refine xr_stp rfl rfl rfl rfl ?_
      refine xr_stp rfl rfl rfl rfl ?_
      refine xr_j2 rfl rfl rfl rfl rfl (fun h16 => ?_) (fun h16 => ?_)
      · refine xr_stp (st' := .int (Int32.ofNat 0) :: _) rfl rfl rfl rfl ?_
        exact xr_retb (by omega) rfl rfl K
      · have z16 := nf_eq h16
        exact (by omega)
theorem cq_neeE (d c s nn q dl tx sy T N fi m mm : Nat) (f : Nat → Int32) (W0 : xi_W) (G : Nat → Nat) (GS : Nat → Nat → Nat) (hc : cmx nn f q dl tx sy T N fi m mm G GS W0) (t : Nat) (ht : t < 4) (r : xi_R → Prop) (K : (r (some (.int (Int32.ofNat 4294967295)), W0, c, s))) : xr (d + 6) 121 0 [(0, .ref 17), (1, .int (Int32.ofNat t)), (2, .int (Int32.ofNat t))] [] W0 c s r := by
  obtain ⟨lf, lp, hO⟩ := hc.o
  obtain ⟨F, hw, hr⟩ := hc.w
  have hl := hc.l
  have hR := hc.R
  have J := hr.j
  refine xr_stp rfl rfl rfl rfl ?_
  refine xr_stp rfl rfl rfl rfl ?_
  refine xr_cps rfl rfl rfl (fun r1 K2 => cl_pairE _ _ _ t _ (by omega) r1 (K2 _ _ _ _ ?_))
  refine xr_j1 rfl rfl rfl rfl rfl (fun h5 => ?_) (fun h5 => ?_)
  · refine xr_stp (st' := .int (Int32.ofNat 4294967295) :: _) rfl rfl rfl rfl ?_
    exact xr_ret rfl rfl K
  · have z5 := nf1_eq h5
    exact (by omega)
theorem cq_wouE (d c s nn q dl tx sy T N fi m mm : Nat) (f : Nat → Int32) (W0 : xi_W) (G : Nat → Nat) (GS : Nat → Nat → Nat) (hc : cmx nn f q dl tx sy T N fi m mm G GS W0) (t z : Nat) (ht : t < 4) (r : xi_R → Prop) (K : (r (some (.int (Int32.ofNat 4294967295)), W0, c, s))) : xr (d + 6) 122 0 [(0, .ref 17), (1, .int (Int32.ofNat t)), (2, .int (Int32.ofNat t)), (3, .int (Int32.ofNat z))] [] W0 c s r := by
  obtain ⟨lf, lp, hO⟩ := hc.o
  obtain ⟨F, hw, hr⟩ := hc.w
  have hl := hc.l
  have hR := hc.R
  have J := hr.j
  refine xr_stp rfl rfl rfl rfl ?_
  refine xr_stp rfl rfl rfl rfl ?_
  refine xr_cps rfl rfl rfl (fun r1 K2 => cl_pairE _ _ _ t _ (by omega) r1 (K2 _ _ _ _ ?_))
  refine xr_j1 rfl rfl rfl rfl rfl (fun h5 => ?_) (fun h5 => ?_)
  · refine xr_stp (st' := .int (Int32.ofNat 4294967295) :: _) rfl rfl rfl rfl ?_
    exact xr_ret rfl rfl K
  · have z5 := nf1_eq h5
    exact (by omega)
theorem cq_cloE (d c s nn q dl tx sy T N fi m mm : Nat) (f : Nat → Int32) (W0 : xi_W) (G : Nat → Nat) (GS : Nat → Nat → Nat) (hc : cmx nn f q dl tx sy T N fi m mm G GS W0) (t z y : Nat) (ht : t < 4) (r : xi_R → Prop) (K : (r (some (.int (Int32.ofNat 4294967294)), W0, c, s))) : xr (d + 6) 112 0 [(0, .ref 17), (1, .int (Int32.ofNat t)), (2, .int (Int32.ofNat t)), (3, .int (Int32.ofNat z)), (4, .int (Int32.ofNat y))] [] W0 c s r := by
  obtain ⟨lf, lp, hO⟩ := hc.o
  obtain ⟨F, hw, hr⟩ := hc.w
  have hl := hc.l
  have hR := hc.R
  have J := hr.j
  refine xr_stp rfl rfl rfl rfl ?_
  refine xr_stp rfl rfl rfl rfl ?_
  refine xr_cps rfl rfl rfl (fun r1 K2 => cl_pairE _ _ _ t _ (by omega) r1 (K2 _ _ _ _ ?_))
  refine xr_j1 rfl rfl rfl rfl rfl (fun h5 => ?_) (fun h5 => ?_)
  · refine xr_stp (st' := .int (Int32.ofNat 4294967294) :: _) rfl rfl rfl rfl ?_
    exact xr_ret rfl rfl K
  · have z5 := nf1_eq h5
    exact (by omega)
theorem cq_wouN (d c s nn q dl tx sy T N fi m mm : Nat) (f : Nat → Int32) (W0 : xi_W) (G : Nat → Nat) (GS : Nat → Nat → Nat) (hc : cmx nn f q dl tx sy T N fi m mm G GS W0) (t u : Nat) (ht : t < 4) (hu : u < 4) (hne : t ≠ u) (hN : N < 90000) (h0 : lw_be G t u = 0) (z : Nat) (r : xi_R → Prop) (K : (r (some (.int (Int32.ofNat 4294967295)), W0, c, s))) : xr (d + 6) 122 0 [(0, .ref 17), (1, .int (Int32.ofNat t)), (2, .int (Int32.ofNat u)), (3, .int (Int32.ofNat z))] [] W0 c s r := by
  obtain ⟨lf, lp, hO⟩ := hc.o
  obtain ⟨F, hw, hr⟩ := hc.w
  have hl := hc.l
  have hR := hc.R
  have J := hr.j
  have C := hr.1.2.2.2.2.1 t ht
  have hJc := J.c t ht
  have hJa := J.a t u ht hu
  have c2 := C.2.2 u hu
  have hne : t ≠ u := hne
  refine xr_stp rfl rfl rfl rfl ?_
  refine xr_stp rfl rfl rfl rfl ?_
  refine xr_cps rfl rfl rfl (fun r1 K2 => cl_pair _ _ _ t u _ (by omega) (by omega) hne r1 (K2 _ _ _ _ ?_))
  refine xr_j1 rfl rfl rfl rfl rfl (fun h5 => ?_) (fun h5 => ?_)
  · have z5 := nt1_eq (by omega) h5
    exact (by omega)
  · refine xr_stp rfl rfl rfl rfl ?_
    refine xr_getfield hO rfl rfl rfl rfl ?_
    refine xr_stp rfl rfl rfl rfl ?_
    refine xr_stp rfl rfl rfl rfl ?_
    refine xr_vcps (hw.w wb23 hl hR) rfl rfl rfl rfl rfl rfl (fun r1 K2 => xr_kw0 hw (cn_hasNews (hw.B wb23 hl hR) _ F _ _ t u ht hu (by rw [c2, C.1]; exact hJa) (by rw [C.1]; omega)) (K2 _ _ _ _ ?_))
    rw [c2, C.1, if_neg (show ¬ G (346 + 4 * t + u) < G (338 + t) by unfold lw_be at h0; omega)]
    refine xr_j1 rfl rfl rfl rfl rfl (fun h17 => ?_) (fun h17 => ?_)
    · refine xr_stp (st' := .int (Int32.ofNat 4294967295) :: _) rfl rfl rfl rfl ?_
      exact xr_ret rfl rfl K
    · have z17 := nf1_eq h17
      exact (by omega)
theorem cq_cloN (d c s nn q dl tx sy T N fi m mm : Nat) (f : Nat → Int32) (W0 : xi_W) (G : Nat → Nat) (GS : Nat → Nat → Nat) (hc : cmx nn f q dl tx sy T N fi m mm G GS W0) (t u : Nat) (ht : t < 4) (hu : u < 4) (hne : t ≠ u) (hN : N < 90000) (h0 : lw_be G t u = 0) (z y : Nat) (r : xi_R → Prop) (K : (r (some (.int (Int32.ofNat 4294967294)), W0, c, s))) : xr (d + 6) 112 0 [(0, .ref 17), (1, .int (Int32.ofNat t)), (2, .int (Int32.ofNat u)), (3, .int (Int32.ofNat z)), (4, .int (Int32.ofNat y))] [] W0 c s r := by
  obtain ⟨lf, lp, hO⟩ := hc.o
  obtain ⟨F, hw, hr⟩ := hc.w
  have hl := hc.l
  have hR := hc.R
  have J := hr.j
  have C := hr.1.2.2.2.2.1 t ht
  have hJc := J.c t ht
  have hJa := J.a t u ht hu
  have c2 := C.2.2 u hu
  have hne : t ≠ u := hne
  refine xr_stp rfl rfl rfl rfl ?_
  refine xr_stp rfl rfl rfl rfl ?_
  refine xr_cps rfl rfl rfl (fun r1 K2 => cl_pair _ _ _ t u _ (by omega) (by omega) hne r1 (K2 _ _ _ _ ?_))
  refine xr_j1 rfl rfl rfl rfl rfl (fun h5 => ?_) (fun h5 => ?_)
  · have z5 := nt1_eq (by omega) h5
    exact (by omega)
  · refine xr_stp rfl rfl rfl rfl ?_
    refine xr_getfield hO rfl rfl rfl rfl ?_
    refine xr_stp rfl rfl rfl rfl ?_
    refine xr_stp rfl rfl rfl rfl ?_
    refine xr_vcps (hw.w wb23 hl hR) rfl rfl rfl rfl rfl rfl (fun r1 K2 => xr_kw0 hw (cn_hasNews (hw.B wb23 hl hR) _ F _ _ t u ht hu (by rw [c2, C.1]; exact hJa) (by rw [C.1]; omega)) (K2 _ _ _ _ ?_))
    rw [c2, C.1, if_neg (show ¬ G (346 + 4 * t + u) < G (338 + t) by unfold lw_be at h0; omega)]
    refine xr_j1 rfl rfl rfl rfl rfl (fun h17 => ?_) (fun h17 => ?_)
    · have z17 := nt1_ne h17
      exact (by omega)
    · refine xr_stp (st' := .int (Int32.ofNat 4294967294) :: _) rfl rfl rfl rfl ?_
      exact xr_ret rfl rfl K
/-- 'would' -/
theorem cq_wou0 (d c s nn q dl tx sy T N fi m mm : Nat) (f : Nat → Int32) (W0 : xi_W) (G : Nat → Nat) (GS : Nat → Nat → Nat) (hc : cmx nn f q dl tx sy T N fi m mm G GS W0) (t u : Nat) (ht : t < 4) (hu : u < 4) (hne : t ≠ u) (hN : N < 90000) (h0 : lw_be G t u ≠ 0) (r : xi_R → Prop) (K : (∀ W', cmx nn f q dl tx sy T N fi m mm G GS W' → fr pq W0 W' → r (some (.int (Int32.ofNat (bc 63 (lw_gr G (fun _ => 0) t u 0)))), W', c, s))) : xr (d + 6) 122 0 [(0, .ref 17), (1, .int (Int32.ofNat t)), (2, .int (Int32.ofNat u)), (3, .int (Int32.ofNat 0))] [] W0 c s r := by
  obtain ⟨lf, lp, hO⟩ := hc.o
  obtain ⟨F, hw, hr⟩ := hc.w
  have hl := hc.l
  have hR := hc.R
  have J := hr.j
  have C := hr.1.2.2.2.2.1 t ht
  have hJc := J.c t ht
  have hJa := J.a t u ht hu
  have c2 := C.2.2 u hu
  have hne : t ≠ u := hne
  refine xr_stp rfl rfl rfl rfl ?_
  refine xr_stp rfl rfl rfl rfl ?_
  refine xr_cps rfl rfl rfl (fun r1 K2 => cl_pair _ _ _ t u _ (by omega) (by omega) hne r1 (K2 _ _ _ _ ?_))
  refine xr_j1 rfl rfl rfl rfl rfl (fun h5 => ?_) (fun h5 => ?_)
  · have z5 := nt1_eq (by omega) h5
    exact (by omega)
  · refine xr_stp rfl rfl rfl rfl ?_
    refine xr_getfield hO rfl rfl rfl rfl ?_
    refine xr_stp rfl rfl rfl rfl ?_
    refine xr_stp rfl rfl rfl rfl ?_
    refine xr_vcps (hw.w wb23 hl hR) rfl rfl rfl rfl rfl rfl (fun r1 K2 => xr_kw0 hw (cn_hasNews (hw.B wb23 hl hR) _ F _ _ t u ht hu (by rw [c2, C.1]; exact hJa) (by rw [C.1]; omega)) (K2 _ _ _ _ ?_))
    rw [c2, C.1, if_pos (show G (346 + 4 * t + u) < G (338 + t) by unfold lw_be at h0; omega)]
    refine xr_j1 rfl rfl rfl rfl rfl (fun h17 => ?_) (fun h17 => ?_)
    · have z17 := nt1_eq (by omega) h17
      exact (by omega)
    · refine xr_stp rfl rfl rfl rfl ?_
      refine xr_j1 rfl rfl rfl rfl rfl (fun h21 => ?_) (fun h21 => ?_)
      · have z21 := n_lt0 h21
        exact (by omega)
      · refine xr_stp rfl rfl rfl rfl ?_
        refine xr_stp (st' := .int (Int32.ofNat 1) :: _) rfl rfl rfl rfl ?_
        refine xr_j2 rfl rfl rfl rfl rfl (fun h26 => ?_) (fun h26 => ?_)
        · refine xr_stp rfl rfl rfl rfl ?_
          refine xr_getfield hO rfl rfl rfl rfl ?_
          refine xr_stp rfl rfl rfl rfl ?_
          refine xr_stp rfl rfl rfl rfl ?_
          refine xr_vcps (hw.w wb23 hl hR) rfl rfl rfl rfl rfl rfl (fun r1 K2 => xr_kw hw (cn_compose (hw.B wb23 hl hR) _ F _ _ t u ht hu (by rw [c2, C.1]; exact hJa) (by rw [C.1]; omega) (by rw [C.2.1]; omega)) (fun W1 hw1 hf1 => K2 _ _ _ _ ?_))
          obtain ⟨hr1, hro, hrp, _⟩ := hr.compose ht hu
          have hx := (show rx G (cn_co F t u) 52 (lw_gr G (fun _ => 0) t u 0) (lw_gr G (fun _ => 0) t u 1) from ⟨hr.e, J.e, hr1.1.2.2.1, by omega, hro, hrp⟩)
          have hc1 := hc.scr hf1 hw1 hr1
          clear hw hr
          have hw := hw1
          have hr := hr1
          have hl := hc1.l
          have hR := hc1.R
          obtain ⟨lf, lp, hO⟩ := hc1.o
          refine xr_stp rfl rfl rfl rfl ?_
          refine xr_j1 rfl rfl rfl rfl rfl (fun h41 => ?_) (fun h41 => ?_)
          · have z41 := nt1_ne h41
            exact (by omega)
          · refine xr_stp rfl rfl rfl rfl ?_
            refine xr_getfield hO rfl rfl rfl rfl ?_
            refine xr_getfield (hw.w wb23 hl hR) rfl rfl rfl rfl ?_
            refine xr_stp (st' := .int (Int32.ofNat 52) :: _) rfl rfl rfl rfl ?_
            refine xr_vcps hw.2 rfl rfl rfl rfl rfl rfl (fun r1 K2 => rq_ent _ _ _ 23 W1 _ G _ hw wb23 hl hR hx r1 (K2 _ _ _ _ ?_))
            refine xr_stp rfl rfl rfl rfl ?_
            exact xr_ret rfl rfl (K W1 hc1 (pq_k (krK hf1)))
        · have z26 := nf_le (by omega) (by omega) h26
          exact (by omega)
theorem cq_wou1 (d c s nn q dl tx sy T N fi m mm : Nat) (f : Nat → Int32) (W0 : xi_W) (G : Nat → Nat) (GS : Nat → Nat → Nat) (hc : cmx nn f q dl tx sy T N fi m mm G GS W0) (t u : Nat) (ht : t < 4) (hu : u < 4) (hne : t ≠ u) (hN : N < 90000) (h0 : lw_be G t u ≠ 0) (r : xi_R → Prop) (K : (∀ W', cmx nn f q dl tx sy T N fi m mm G GS W' → fr pq W0 W' → r (some (.int (Int32.ofNat (bc 63 (lw_gr G (fun _ => 0) t u 1)))), W', c, s))) : xr (d + 6) 122 0 [(0, .ref 17), (1, .int (Int32.ofNat t)), (2, .int (Int32.ofNat u)), (3, .int (Int32.ofNat 1))] [] W0 c s r := by
  obtain ⟨lf, lp, hO⟩ := hc.o
  obtain ⟨F, hw, hr⟩ := hc.w
  have hl := hc.l
  have hR := hc.R
  have J := hr.j
  have C := hr.1.2.2.2.2.1 t ht
  have hJc := J.c t ht
  have hJa := J.a t u ht hu
  have c2 := C.2.2 u hu
  have hne : t ≠ u := hne
  refine xr_stp rfl rfl rfl rfl ?_
  refine xr_stp rfl rfl rfl rfl ?_
  refine xr_cps rfl rfl rfl (fun r1 K2 => cl_pair _ _ _ t u _ (by omega) (by omega) hne r1 (K2 _ _ _ _ ?_))
  refine xr_j1 rfl rfl rfl rfl rfl (fun h5 => ?_) (fun h5 => ?_)
  · have z5 := nt1_eq (by omega) h5
    exact (by omega)
  · refine xr_stp rfl rfl rfl rfl ?_
    refine xr_getfield hO rfl rfl rfl rfl ?_
    refine xr_stp rfl rfl rfl rfl ?_
    refine xr_stp rfl rfl rfl rfl ?_
    refine xr_vcps (hw.w wb23 hl hR) rfl rfl rfl rfl rfl rfl (fun r1 K2 => xr_kw0 hw (cn_hasNews (hw.B wb23 hl hR) _ F _ _ t u ht hu (by rw [c2, C.1]; exact hJa) (by rw [C.1]; omega)) (K2 _ _ _ _ ?_))
    rw [c2, C.1, if_pos (show G (346 + 4 * t + u) < G (338 + t) by unfold lw_be at h0; omega)]
    refine xr_j1 rfl rfl rfl rfl rfl (fun h17 => ?_) (fun h17 => ?_)
    · have z17 := nt1_eq (by omega) h17
      exact (by omega)
    · refine xr_stp rfl rfl rfl rfl ?_
      refine xr_j1 rfl rfl rfl rfl rfl (fun h21 => ?_) (fun h21 => ?_)
      · have z21 := n_lt0 h21
        exact (by omega)
      · refine xr_stp rfl rfl rfl rfl ?_
        refine xr_stp (st' := .int (Int32.ofNat 1) :: _) rfl rfl rfl rfl ?_
        refine xr_j2 rfl rfl rfl rfl rfl (fun h26 => ?_) (fun h26 => ?_)
        · refine xr_stp rfl rfl rfl rfl ?_
          refine xr_getfield hO rfl rfl rfl rfl ?_
          refine xr_stp rfl rfl rfl rfl ?_
          refine xr_stp rfl rfl rfl rfl ?_
          refine xr_vcps (hw.w wb23 hl hR) rfl rfl rfl rfl rfl rfl (fun r1 K2 => xr_kw hw (cn_compose (hw.B wb23 hl hR) _ F _ _ t u ht hu (by rw [c2, C.1]; exact hJa) (by rw [C.1]; omega) (by rw [C.2.1]; omega)) (fun W1 hw1 hf1 => K2 _ _ _ _ ?_))
          obtain ⟨hr1, hro, hrp, _⟩ := hr.compose ht hu
          have hx := (show rx G (cn_co F t u) 52 (lw_gr G (fun _ => 0) t u 0) (lw_gr G (fun _ => 0) t u 1) from ⟨hr.e, J.e, hr1.1.2.2.1, by omega, hro, hrp⟩)
          have hc1 := hc.scr hf1 hw1 hr1
          clear hw hr
          have hw := hw1
          have hr := hr1
          have hl := hc1.l
          have hR := hc1.R
          obtain ⟨lf, lp, hO⟩ := hc1.o
          refine xr_stp rfl rfl rfl rfl ?_
          refine xr_j1 rfl rfl rfl rfl rfl (fun h41 => ?_) (fun h41 => ?_)
          · refine xr_stp rfl rfl rfl rfl ?_
            refine xr_getfield hO rfl rfl rfl rfl ?_
            refine xr_getfield (hw.w wb23 hl hR) rfl rfl rfl rfl ?_
            refine xr_stp (st' := .int (Int32.ofNat 52) :: _) rfl rfl rfl rfl ?_
            refine xr_vcps hw.2 rfl rfl rfl rfl rfl rfl (fun r1 K2 => rq_dots _ _ _ 23 W1 _ G _ hw wb23 hl hR hx r1 (K2 _ _ _ _ ?_))
            exact xr_ret rfl rfl (K W1 hc1 (pq_k (krK hf1)))
          · have z41 := nf1_ne (by omega) h41
            exact (by omega)
        · have z26 := nf_le (by omega) (by omega) h26
          exact (by omega)
/-- 'cloud' -/
theorem cq_cloC (d c s nn q dl tx sy T N fi m mm : Nat) (f : Nat → Int32) (W0 : xi_W) (G : Nat → Nat) (GS : Nat → Nat → Nat) (hc : cmx nn f q dl tx sy T N fi m mm G GS W0) (t u : Nat) (ht : t < 4) (hu : u < 4) (hne : t ≠ u) (hN : N < 90000) (h0 : lw_be G t u ≠ 0) (y : Nat) (r : xi_R → Prop) (K : (∀ W', cmx nn f q dl tx sy T N fi m mm G GS W' → fr pq W0 W' → r (some (.int (Int32.ofNat (cQ G (lw_gr G (fun _ => 0) t u 1) (bc 63 (lw_gr G (fun _ => 0) t u 1))))), W', c, s))) : xr (d + 6) 112 0 [(0, .ref 17), (1, .int (Int32.ofNat t)), (2, .int (Int32.ofNat u)), (3, .int (Int32.ofNat 4294967295)), (4, .int (Int32.ofNat y))] [] W0 c s r := by
  obtain ⟨lf, lp, hO⟩ := hc.o
  obtain ⟨F, hw, hr⟩ := hc.w
  have hl := hc.l
  have hR := hc.R
  have J := hr.j
  have C := hr.1.2.2.2.2.1 t ht
  have hJc := J.c t ht
  have hJa := J.a t u ht hu
  have c2 := C.2.2 u hu
  have hne : t ≠ u := hne
  refine xr_stp rfl rfl rfl rfl ?_
  refine xr_stp rfl rfl rfl rfl ?_
  refine xr_cps rfl rfl rfl (fun r1 K2 => cl_pair _ _ _ t u _ (by omega) (by omega) hne r1 (K2 _ _ _ _ ?_))
  refine xr_j1 rfl rfl rfl rfl rfl (fun h5 => ?_) (fun h5 => ?_)
  · have z5 := nt1_eq (by omega) h5
    exact (by omega)
  · refine xr_stp rfl rfl rfl rfl ?_
    refine xr_getfield hO rfl rfl rfl rfl ?_
    refine xr_stp rfl rfl rfl rfl ?_
    refine xr_stp rfl rfl rfl rfl ?_
    refine xr_vcps (hw.w wb23 hl hR) rfl rfl rfl rfl rfl rfl (fun r1 K2 => xr_kw0 hw (cn_hasNews (hw.B wb23 hl hR) _ F _ _ t u ht hu (by rw [c2, C.1]; exact hJa) (by rw [C.1]; omega)) (K2 _ _ _ _ ?_))
    rw [c2, C.1, if_pos (show G (346 + 4 * t + u) < G (338 + t) by unfold lw_be at h0; omega)]
    refine xr_j1 rfl rfl rfl rfl rfl (fun h17 => ?_) (fun h17 => ?_)
    · refine xr_stp rfl rfl rfl rfl ?_
      refine xr_getfield hO rfl rfl rfl rfl ?_
      refine xr_stp rfl rfl rfl rfl ?_
      refine xr_stp rfl rfl rfl rfl ?_
      refine xr_vcps (hw.w wb23 hl hR) rfl rfl rfl rfl rfl rfl (fun r1 K2 => xr_kw hw (cn_compose (hw.B wb23 hl hR) _ F _ _ t u ht hu (by rw [c2, C.1]; exact hJa) (by rw [C.1]; omega) (by rw [C.2.1]; omega)) (fun W1 hw1 hf1 => K2 _ _ _ _ ?_))
      obtain ⟨hr1, hro, hrp, _⟩ := hr.compose ht hu
      have hx := (show rx G (cn_co F t u) 52 (lw_gr G (fun _ => 0) t u 0) (lw_gr G (fun _ => 0) t u 1) from ⟨hr.e, J.e, hr1.1.2.2.1, by omega, hro, hrp⟩)
      have hc1 := hc.scr hf1 hw1 hr1
      clear hw hr
      have hw := hw1
      have hr := hr1
      have hl := hc1.l
      have hR := hc1.R
      obtain ⟨lf, lp, hO⟩ := hc1.o
      refine xr_stp rfl rfl rfl rfl ?_
      refine xr_stp (st' := .int (Int32.ofNat 4294967295) :: _) rfl rfl rfl rfl ?_
      refine xr_j2 rfl rfl rfl rfl rfl (fun h34 => ?_) (fun h34 => ?_)
      · have z34 := nt_ne h34
        exact (by omega)
      · refine xr_stp rfl rfl rfl rfl ?_
        refine xr_getfield hO rfl rfl rfl rfl ?_
        refine xr_getfield (hw.w wb23 hl hR) rfl rfl rfl rfl ?_
        refine xr_stp (st' := .int (Int32.ofNat 52) :: _) rfl rfl rfl rfl ?_
        refine xr_vcps hw.2 rfl rfl rfl rfl rfl rfl (fun r1 K2 => rq_cld _ _ _ 23 W1 _ G _ hw wb23 hl hR hx r1 (K2 _ _ _ _ ?_))
        exact xr_ret rfl rfl (K W1 hc1 (pq_k (krK hf1)))
    · have z17 := nf1_ne (by omega) h17
      exact (by omega)
theorem cN_le (Q s : Nat → Nat) : ∀ (m k : Nat), cN Q s m k ≤ m
  | 0, _ => Nat.le_refl _
  | m + 1, k => by
    unfold cN
    have := cN_le Q s m (k + 1)
    split <;> omega
theorem cq_cloX (d c s nn q dl tx sy T N fi m mm : Nat) (f : Nat → Int32) (W0 : xi_W) (G : Nat → Nat) (GS : Nat → Nat → Nat) (hc : cmx nn f q dl tx sy T N fi m mm G GS W0) (t u : Nat) (ht : t < 4) (hu : u < 4) (hne : t ≠ u) (hN : N < 90000) (h0 : lw_be G t u ≠ 0) (z y : Nat) (hz : cQ G (lw_gr G (fun _ => 0) t u 1) (bc 63 (lw_gr G (fun _ => 0) t u 1)) ≤ z) (hz2 : z < 2147483648) (r : xi_R → Prop) (K : (∀ W', cmx nn f q dl tx sy T N fi m mm G GS W' → fr pq W0 W' → r (some (.int (Int32.ofNat 4294967294)), W', c, s))) : xr (d + 6) 112 0 [(0, .ref 17), (1, .int (Int32.ofNat t)), (2, .int (Int32.ofNat u)), (3, .int (Int32.ofNat z)), (4, .int (Int32.ofNat y))] [] W0 c s r := by
  obtain ⟨lf, lp, hO⟩ := hc.o
  obtain ⟨F, hw, hr⟩ := hc.w
  have hl := hc.l
  have hR := hc.R
  have J := hr.j
  have C := hr.1.2.2.2.2.1 t ht
  have hJc := J.c t ht
  have hJa := J.a t u ht hu
  have c2 := C.2.2 u hu
  have hne : t ≠ u := hne
  refine xr_stp rfl rfl rfl rfl ?_
  refine xr_stp rfl rfl rfl rfl ?_
  refine xr_cps rfl rfl rfl (fun r1 K2 => cl_pair _ _ _ t u _ (by omega) (by omega) hne r1 (K2 _ _ _ _ ?_))
  refine xr_j1 rfl rfl rfl rfl rfl (fun h5 => ?_) (fun h5 => ?_)
  · have z5 := nt1_eq (by omega) h5
    exact (by omega)
  · refine xr_stp rfl rfl rfl rfl ?_
    refine xr_getfield hO rfl rfl rfl rfl ?_
    refine xr_stp rfl rfl rfl rfl ?_
    refine xr_stp rfl rfl rfl rfl ?_
    refine xr_vcps (hw.w wb23 hl hR) rfl rfl rfl rfl rfl rfl (fun r1 K2 => xr_kw0 hw (cn_hasNews (hw.B wb23 hl hR) _ F _ _ t u ht hu (by rw [c2, C.1]; exact hJa) (by rw [C.1]; omega)) (K2 _ _ _ _ ?_))
    rw [c2, C.1, if_pos (show G (346 + 4 * t + u) < G (338 + t) by unfold lw_be at h0; omega)]
    refine xr_j1 rfl rfl rfl rfl rfl (fun h17 => ?_) (fun h17 => ?_)
    · refine xr_stp rfl rfl rfl rfl ?_
      refine xr_getfield hO rfl rfl rfl rfl ?_
      refine xr_stp rfl rfl rfl rfl ?_
      refine xr_stp rfl rfl rfl rfl ?_
      refine xr_vcps (hw.w wb23 hl hR) rfl rfl rfl rfl rfl rfl (fun r1 K2 => xr_kw hw (cn_compose (hw.B wb23 hl hR) _ F _ _ t u ht hu (by rw [c2, C.1]; exact hJa) (by rw [C.1]; omega) (by rw [C.2.1]; omega)) (fun W1 hw1 hf1 => K2 _ _ _ _ ?_))
      obtain ⟨hr1, hro, hrp, _⟩ := hr.compose ht hu
      have hx := (show rx G (cn_co F t u) 52 (lw_gr G (fun _ => 0) t u 0) (lw_gr G (fun _ => 0) t u 1) from ⟨hr.e, J.e, hr1.1.2.2.1, by omega, hro, hrp⟩)
      have hc1 := hc.scr hf1 hw1 hr1
      clear hw hr
      have hw := hw1
      have hr := hr1
      have hl := hc1.l
      have hR := hc1.R
      obtain ⟨lf, lp, hO⟩ := hc1.o
      refine xr_stp rfl rfl rfl rfl ?_
      refine xr_stp (st' := .int (Int32.ofNat 4294967295) :: _) rfl rfl rfl rfl ?_
      refine xr_j2 rfl rfl rfl rfl rfl (fun h34 => ?_) (fun h34 => ?_)
      · refine xr_stp rfl rfl rfl rfl ?_
        refine xr_getfield hO rfl rfl rfl rfl ?_
        refine xr_getfield (hw.w wb23 hl hR) rfl rfl rfl rfl ?_
        refine xr_stp (st' := .int (Int32.ofNat 52) :: _) rfl rfl rfl rfl ?_
        refine xr_stp rfl rfl rfl rfl ?_
        refine xr_vcps hw.2 rfl rfl rfl rfl rfl rfl (fun r1 K2 => rq_ncl _ _ _ 23 W1 _ G _ hw wb23 hl hR hx z hz2 r1 4294967295 (Or.inr ⟨hz, rfl⟩) (K2 _ _ _ _ ?_))
        refine xr_stp rfl rfl rfl rfl ?_
        refine xr_stp rfl rfl rfl rfl ?_
        refine xr_stp (st' := .int (Int32.ofNat 4294967295) :: _) rfl rfl rfl rfl ?_
        refine xr_j2 rfl rfl rfl rfl rfl (fun h68 => ?_) (fun h68 => ?_)
        · refine xr_stp (st' := .int (Int32.ofNat 4294967294) :: _) rfl rfl rfl rfl ?_
          exact xr_ret rfl rfl (K W1 hc1 (pq_k (krK hf1)))
        · have z68 := nf_eq h68
          exact (by omega)
      · have z34 := nf_ne (by omega) (by omega) h34
        exact (by omega)
    · have z17 := nf1_ne (by omega) h17
      exact (by omega)
theorem cq_clo0 (d c s nn q dl tx sy T N fi m mm : Nat) (f : Nat → Int32) (W0 : xi_W) (G : Nat → Nat) (GS : Nat → Nat → Nat) (hc : cmx nn f q dl tx sy T N fi m mm G GS W0) (t u : Nat) (ht : t < 4) (hu : u < 4) (hne : t ≠ u) (hN : N < 90000) (h0 : lw_be G t u ≠ 0) (j : Nat) (hj : j < bc 63 (lw_gr G (fun _ => 0) t u 1)) (hp : cP G (lw_gr G (fun _ => 0) t u 1) (lw_row G (lw_gr G (fun _ => 0) t u 1) j) ≠ 0) (r : xi_R → Prop) (K : (∀ W', cmx nn f q dl tx sy T N fi m mm G GS W' → fr pq W0 W' → r (some (.int (Int32.ofNat (G (10 + 5 * lw_row G (lw_gr G (fun _ => 0) t u 1) j)))), W', c, s))) : xr (d + 6) 112 0 [(0, .ref 17), (1, .int (Int32.ofNat t)), (2, .int (Int32.ofNat u)), (3, .int (Int32.ofNat (cQ G (lw_gr G (fun _ => 0) t u 1) j))), (4, .int (Int32.ofNat 0))] [] W0 c s r := by
  obtain ⟨lf, lp, hO⟩ := hc.o
  obtain ⟨F, hw, hr⟩ := hc.w
  have hl := hc.l
  have hR := hc.R
  have J := hr.j
  have C := hr.1.2.2.2.2.1 t ht
  have hJc := J.c t ht
  have hJa := J.a t u ht hu
  have c2 := C.2.2 u hu
  have hne : t ≠ u := hne
  have hq9 := cN_le (cP G (lw_gr G (fun _ => 0) t u 1)) (lw_row G (lw_gr G (fun _ => 0) t u 1)) j 0
  have hq8 : cQ G (lw_gr G (fun _ => 0) t u 1) j ≤ j := hq9
  have hb9 := bcle 63 (lw_gr G (fun _ => 0) t u 1)
  refine xr_stp rfl rfl rfl rfl ?_
  refine xr_stp rfl rfl rfl rfl ?_
  refine xr_cps rfl rfl rfl (fun r1 K2 => cl_pair _ _ _ t u _ (by omega) (by omega) hne r1 (K2 _ _ _ _ ?_))
  refine xr_j1 rfl rfl rfl rfl rfl (fun h5 => ?_) (fun h5 => ?_)
  · have z5 := nt1_eq (by omega) h5
    exact (by omega)
  · refine xr_stp rfl rfl rfl rfl ?_
    refine xr_getfield hO rfl rfl rfl rfl ?_
    refine xr_stp rfl rfl rfl rfl ?_
    refine xr_stp rfl rfl rfl rfl ?_
    refine xr_vcps (hw.w wb23 hl hR) rfl rfl rfl rfl rfl rfl (fun r1 K2 => xr_kw0 hw (cn_hasNews (hw.B wb23 hl hR) _ F _ _ t u ht hu (by rw [c2, C.1]; exact hJa) (by rw [C.1]; omega)) (K2 _ _ _ _ ?_))
    rw [c2, C.1, if_pos (show G (346 + 4 * t + u) < G (338 + t) by unfold lw_be at h0; omega)]
    refine xr_j1 rfl rfl rfl rfl rfl (fun h17 => ?_) (fun h17 => ?_)
    · refine xr_stp rfl rfl rfl rfl ?_
      refine xr_getfield hO rfl rfl rfl rfl ?_
      refine xr_stp rfl rfl rfl rfl ?_
      refine xr_stp rfl rfl rfl rfl ?_
      refine xr_vcps (hw.w wb23 hl hR) rfl rfl rfl rfl rfl rfl (fun r1 K2 => xr_kw hw (cn_compose (hw.B wb23 hl hR) _ F _ _ t u ht hu (by rw [c2, C.1]; exact hJa) (by rw [C.1]; omega) (by rw [C.2.1]; omega)) (fun W1 hw1 hf1 => K2 _ _ _ _ ?_))
      obtain ⟨hr1, hro, hrp, _⟩ := hr.compose ht hu
      have hx := (show rx G (cn_co F t u) 52 (lw_gr G (fun _ => 0) t u 0) (lw_gr G (fun _ => 0) t u 1) from ⟨hr.e, J.e, hr1.1.2.2.1, by omega, hro, hrp⟩)
      have hc1 := hc.scr hf1 hw1 hr1
      clear hw hr
      have hw := hw1
      have hr := hr1
      have hl := hc1.l
      have hR := hc1.R
      obtain ⟨lf, lp, hO⟩ := hc1.o
      refine xr_stp rfl rfl rfl rfl ?_
      refine xr_stp (st' := .int (Int32.ofNat 4294967295) :: _) rfl rfl rfl rfl ?_
      refine xr_j2 rfl rfl rfl rfl rfl (fun h34 => ?_) (fun h34 => ?_)
      · refine xr_stp rfl rfl rfl rfl ?_
        refine xr_getfield hO rfl rfl rfl rfl ?_
        refine xr_getfield (hw.w wb23 hl hR) rfl rfl rfl rfl ?_
        refine xr_stp (st' := .int (Int32.ofNat 52) :: _) rfl rfl rfl rfl ?_
        refine xr_stp rfl rfl rfl rfl ?_
        refine xr_vcps hw.2 rfl rfl rfl rfl rfl rfl (fun r1 K2 => rq_ncl _ _ _ 23 W1 _ G _ hw wb23 hl hR hx (cQ G (lw_gr G (fun _ => 0) t u 1) j) (by omega) r1 (dt G (lw_row G (lw_gr G (fun _ => 0) t u 1) j)) (Or.inl ⟨j, hj, hp, rfl, rfl⟩) (K2 _ _ _ _ ?_))
        have hi := ((lw_rowE hr.e J.e hx.hk.2).1 j hj).1
        have hd := dt_lt hr.e J.e hi
        refine xr_stp rfl rfl rfl rfl ?_
        refine xr_stp rfl rfl rfl rfl ?_
        refine xr_stp (st' := .int (Int32.ofNat 4294967295) :: _) rfl rfl rfl rfl ?_
        refine xr_j2 rfl rfl rfl rfl rfl (fun h68 => ?_) (fun h68 => ?_)
        · have z68 := nt_eq (by omega) (by omega) h68
          exact (by omega)
        · refine xr_stp rfl rfl rfl rfl ?_
          refine xr_j1 rfl rfl rfl rfl rfl (fun h73 => ?_) (fun h73 => ?_)
          · have z73 := n_lt0 h73
            exact (by omega)
          · refine xr_stp rfl rfl rfl rfl ?_
            refine xr_stp (st' := .int (Int32.ofNat 1) :: _) rfl rfl rfl rfl ?_
            refine xr_j2 rfl rfl rfl rfl rfl (fun h79 => ?_) (fun h79 => ?_)
            · refine xr_stp rfl rfl rfl rfl ?_
              refine xr_j1 rfl rfl rfl rfl rfl (fun h87 => ?_) (fun h87 => ?_)
              · have z87 := nt1_ne h87
                exact (by omega)
              · refine xr_stp rfl rfl rfl rfl ?_
                refine xr_stp (st' := .int (Int32.ofNat 64) :: _) rfl rfl rfl rfl ?_
                refine xs_div (by omega) (by omega) (by omega) rfl ?_
                refine xr_stp rfl rfl rfl rfl ?_
                rw [hd.2.1]
                exact xr_ret rfl rfl (K W1 hc1 (pq_k (krK hf1)))
            · have z79 := nf_le (by omega) (by omega) h79
              exact (by omega)
      · have z34 := nf_ne (by omega) (by omega) h34
        exact (by omega)
    · have z17 := nf1_ne (by omega) h17
      exact (by omega)
theorem cq_clo1 (d c s nn q dl tx sy T N fi m mm : Nat) (f : Nat → Int32) (W0 : xi_W) (G : Nat → Nat) (GS : Nat → Nat → Nat) (hc : cmx nn f q dl tx sy T N fi m mm G GS W0) (t u : Nat) (ht : t < 4) (hu : u < 4) (hne : t ≠ u) (hN : N < 90000) (h0 : lw_be G t u ≠ 0) (j : Nat) (hj : j < bc 63 (lw_gr G (fun _ => 0) t u 1)) (hp : cP G (lw_gr G (fun _ => 0) t u 1) (lw_row G (lw_gr G (fun _ => 0) t u 1) j) ≠ 0) (r : xi_R → Prop) (K : (∀ W', cmx nn f q dl tx sy T N fi m mm G GS W' → fr pq W0 W' → r (some (.int (Int32.ofNat (G (11 + 5 * lw_row G (lw_gr G (fun _ => 0) t u 1) j)))), W', c, s))) : xr (d + 6) 112 0 [(0, .ref 17), (1, .int (Int32.ofNat t)), (2, .int (Int32.ofNat u)), (3, .int (Int32.ofNat (cQ G (lw_gr G (fun _ => 0) t u 1) j))), (4, .int (Int32.ofNat 1))] [] W0 c s r := by
  obtain ⟨lf, lp, hO⟩ := hc.o
  obtain ⟨F, hw, hr⟩ := hc.w
  have hl := hc.l
  have hR := hc.R
  have J := hr.j
  have C := hr.1.2.2.2.2.1 t ht
  have hJc := J.c t ht
  have hJa := J.a t u ht hu
  have c2 := C.2.2 u hu
  have hne : t ≠ u := hne
  have hq9 := cN_le (cP G (lw_gr G (fun _ => 0) t u 1)) (lw_row G (lw_gr G (fun _ => 0) t u 1)) j 0
  have hq8 : cQ G (lw_gr G (fun _ => 0) t u 1) j ≤ j := hq9
  have hb9 := bcle 63 (lw_gr G (fun _ => 0) t u 1)
  refine xr_stp rfl rfl rfl rfl ?_
  refine xr_stp rfl rfl rfl rfl ?_
  refine xr_cps rfl rfl rfl (fun r1 K2 => cl_pair _ _ _ t u _ (by omega) (by omega) hne r1 (K2 _ _ _ _ ?_))
  refine xr_j1 rfl rfl rfl rfl rfl (fun h5 => ?_) (fun h5 => ?_)
  · have z5 := nt1_eq (by omega) h5
    exact (by omega)
  · refine xr_stp rfl rfl rfl rfl ?_
    refine xr_getfield hO rfl rfl rfl rfl ?_
    refine xr_stp rfl rfl rfl rfl ?_
    refine xr_stp rfl rfl rfl rfl ?_
    refine xr_vcps (hw.w wb23 hl hR) rfl rfl rfl rfl rfl rfl (fun r1 K2 => xr_kw0 hw (cn_hasNews (hw.B wb23 hl hR) _ F _ _ t u ht hu (by rw [c2, C.1]; exact hJa) (by rw [C.1]; omega)) (K2 _ _ _ _ ?_))
    rw [c2, C.1, if_pos (show G (346 + 4 * t + u) < G (338 + t) by unfold lw_be at h0; omega)]
    refine xr_j1 rfl rfl rfl rfl rfl (fun h17 => ?_) (fun h17 => ?_)
    · refine xr_stp rfl rfl rfl rfl ?_
      refine xr_getfield hO rfl rfl rfl rfl ?_
      refine xr_stp rfl rfl rfl rfl ?_
      refine xr_stp rfl rfl rfl rfl ?_
      refine xr_vcps (hw.w wb23 hl hR) rfl rfl rfl rfl rfl rfl (fun r1 K2 => xr_kw hw (cn_compose (hw.B wb23 hl hR) _ F _ _ t u ht hu (by rw [c2, C.1]; exact hJa) (by rw [C.1]; omega) (by rw [C.2.1]; omega)) (fun W1 hw1 hf1 => K2 _ _ _ _ ?_))
      obtain ⟨hr1, hro, hrp, _⟩ := hr.compose ht hu
      have hx := (show rx G (cn_co F t u) 52 (lw_gr G (fun _ => 0) t u 0) (lw_gr G (fun _ => 0) t u 1) from ⟨hr.e, J.e, hr1.1.2.2.1, by omega, hro, hrp⟩)
      have hc1 := hc.scr hf1 hw1 hr1
      clear hw hr
      have hw := hw1
      have hr := hr1
      have hl := hc1.l
      have hR := hc1.R
      obtain ⟨lf, lp, hO⟩ := hc1.o
      refine xr_stp rfl rfl rfl rfl ?_
      refine xr_stp (st' := .int (Int32.ofNat 4294967295) :: _) rfl rfl rfl rfl ?_
      refine xr_j2 rfl rfl rfl rfl rfl (fun h34 => ?_) (fun h34 => ?_)
      · refine xr_stp rfl rfl rfl rfl ?_
        refine xr_getfield hO rfl rfl rfl rfl ?_
        refine xr_getfield (hw.w wb23 hl hR) rfl rfl rfl rfl ?_
        refine xr_stp (st' := .int (Int32.ofNat 52) :: _) rfl rfl rfl rfl ?_
        refine xr_stp rfl rfl rfl rfl ?_
        refine xr_vcps hw.2 rfl rfl rfl rfl rfl rfl (fun r1 K2 => rq_ncl _ _ _ 23 W1 _ G _ hw wb23 hl hR hx (cQ G (lw_gr G (fun _ => 0) t u 1) j) (by omega) r1 (dt G (lw_row G (lw_gr G (fun _ => 0) t u 1) j)) (Or.inl ⟨j, hj, hp, rfl, rfl⟩) (K2 _ _ _ _ ?_))
        have hi := ((lw_rowE hr.e J.e hx.hk.2).1 j hj).1
        have hd := dt_lt hr.e J.e hi
        refine xr_stp rfl rfl rfl rfl ?_
        refine xr_stp rfl rfl rfl rfl ?_
        refine xr_stp (st' := .int (Int32.ofNat 4294967295) :: _) rfl rfl rfl rfl ?_
        refine xr_j2 rfl rfl rfl rfl rfl (fun h68 => ?_) (fun h68 => ?_)
        · have z68 := nt_eq (by omega) (by omega) h68
          exact (by omega)
        · refine xr_stp rfl rfl rfl rfl ?_
          refine xr_j1 rfl rfl rfl rfl rfl (fun h73 => ?_) (fun h73 => ?_)
          · have z73 := n_lt0 h73
            exact (by omega)
          · refine xr_stp rfl rfl rfl rfl ?_
            refine xr_stp (st' := .int (Int32.ofNat 1) :: _) rfl rfl rfl rfl ?_
            refine xr_j2 rfl rfl rfl rfl rfl (fun h79 => ?_) (fun h79 => ?_)
            · refine xr_stp rfl rfl rfl rfl ?_
              refine xr_j1 rfl rfl rfl rfl rfl (fun h87 => ?_) (fun h87 => ?_)
              · refine xr_stp rfl rfl rfl rfl ?_
                refine xr_stp (st' := .int (Int32.ofNat 64) :: _) rfl rfl rfl rfl ?_
                refine xs_mod (by omega) (by omega) (by omega) rfl ?_
                rw [hd.2.2]
                exact xr_ret rfl rfl (K W1 hc1 (pq_k (krK hf1)))
              · have z87 := nf1_ne (by omega) h87
                exact (by omega)
            · have z79 := nf_le (by omega) (by omega) h79
              exact (by omega)
      · have z34 := nf_ne (by omega) (by omega) h34
        exact (by omega)
    · have z17 := nf1_ne (by omega) h17
      exact (by omega)
theorem cq_forL (d c s nn q dl tx sy T N fi m mm : Nat) (f : Nat → Int32) (W0 : xi_W) (G : Nat → Nat) (GS : Nat → Nat → Nat) (n0 t : Nat) (hn0 : n0 ≤ 12) (ht : t < 4) (r : xi_R → Prop) : ∀ (k i N2 : Nat) (G2 F3 : Nat → Nat) (W1 : xi_W), i + k = n0 → cmx nn f q dl tx sy T N fi m mm G GS W1 → fr pq W0 W1 → kw W1 33 F3 → RL (G2 0 + 1) N2 G2 F3 → G2 5 = dl → G2 0 + k < 10000 → N2 + 65 * k + 70 < 90000 → (∀ W' G', G' = tk_ nn f q k G2 → cmx nn f q dl tx sy T N fi m mm G GS W' → fr pq W0 W' → r (some (.int (Int32.ofNat (lw_dig G' (G' (330 + 2 * t))))), W', c, s)) → xr (d + 7) 120 33 [(3, .int (Int32.ofNat i)), (0, .ref 17), (1, .int (Int32.ofNat n0)), (2, .int (Int32.ofNat t))] [] W1 c s r
  | 0, i, N2, G2, F3, W1, hi, hc, hfT, hw3, hr3, hd, hck, hN, K => by
    obtain ⟨lf, lp, hO⟩ := hc.o
    have hl := hc.l
    have hR := hc.R
    have e40 : F3 40 = G2 0 := hr3.1.2.2.2.2.2.2.1.1
    refine xr_stp rfl rfl rfl rfl ?_
    refine xr_stp rfl rfl rfl rfl ?_
    refine xr_j2 rfl rfl rfl rfl rfl (fun h35 => ?_) (fun h35 => ?_)
    · refine xr_stp rfl rfl rfl rfl ?_
      refine xr_getfield hO rfl rfl rfl rfl ?_
      refine xr_getfield (hw3.w wb33 hl hR) rfl rfl rfl rfl ?_
      refine xr_stp rfl rfl rfl rfl ?_
      refine xr_vcps hw3.2 rfl rfl rfl rfl rfl rfl (fun r1 K2 => rq_dig _ _ _ 33 W1 F3 G2 _ hw3 wb33 hl hR (hr3.xs ht) r1 (K2 _ _ _ _ ?_))
      exact xr_ret rfl rfl (K W1 G2 rfl hc hfT)
    · have z35 := nf_ge (by omega) (by omega) h35
      exact (by omega)
  | k + 1, i, N2, G2, F3, W1, hi, hc, hfT, hw3, hr3, hd, hck, hN, K => by
    have K := fun W' G' (e : G' = tk_ nn f q k (lw_ti nn f q 24 G2)) => K W' G' e
    obtain ⟨lf, lp, hO⟩ := hc.o
    have hl := hc.l
    have hR := hc.R
    have e40 : F3 40 = G2 0 := hr3.1.2.2.2.2.2.2.1.1
    have hW3 := hw3.w wb33 hl hR
    rw [e40] at hW3
    refine xr_stp rfl rfl rfl rfl ?_
    refine xr_stp rfl rfl rfl rfl ?_
    refine xr_j2 rfl rfl rfl rfl rfl (fun h35 => ?_) (fun h35 => ?_)
    · have z35 := nt_ge (by omega) (by omega) h35
      exact (by omega)
    · refine xr_stp rfl rfl rfl rfl ?_
      refine xr_getfield hO rfl rfl rfl rfl ?_
      refine xr_getfield hW3 rfl rfl rfl rfl ?_
      refine xr_stp (st' := .int (Int32.ofNat 9999) :: _) rfl rfl rfl rfl ?_
      refine xr_j2 rfl rfl rfl rfl rfl (fun h48 => ?_) (fun h48 => ?_)
      · have z48 := nt_ge (by omega) (by omega) h48
        exact (by omega)
      · refine xr_stp rfl rfl rfl rfl ?_
        refine xr_getfield hO rfl rfl rfl rfl ?_
        refine xr_stp rfl rfl rfl rfl ?_
        refine xr_getfield hO rfl rfl rfl rfl ?_
        refine xr_vcps (hw3.w wb33 hl hR) rfl rfl rfl rfl rfl rfl (fun r1 K2 => kl_tick _ _ _ 33 nn q dl tx sy T f wb33 hc.q r1 N2 G2 F3 W1 hw3 hc.ok hr3 hd.symm (by omega) (fun W2 F4 hw4 hs4 hf4 h4 h5 => K2 _ _ _ _ ?_))
        have hc2 := hc.trial hf4 hw4 hs4
        obtain ⟨lf, lp, hO⟩ := hc2.o
        refine xr_stp rfl rfl rfl rfl ?_
        refine xs_inc (e := 1) rfl rfl rfl rfl ?_
        refine xr_stp rfl rfl rfl rfl ?_
        exact cq_forL d c s nn q dl tx sy T N fi m mm f W0 G GS n0 t hn0 ht r k (i + 1) (N2 + 65) _ F4 W2 (by omega) hc2 (hfT.tr (pq_t hf4)) hw4 h4 (h5.trans hd) (by rw [lw_ti0 hr3.j nn f q (by omega)]; omega) (by omega) K
/-- 'foretold' -/
theorem cq_for (d c s nn q dl tx sy T N fi m mm : Nat) (f : Nat → Int32) (W0 : xi_W) (G : Nat → Nat) (GS : Nat → Nat → Nat) (hc : cmx nn f q dl tx sy T N fi m mm G GS W0) (n0 t : Nat) (h1 : 1 ≤ n0) (h12 : n0 ≤ 12) (ht : t < 4) (hck : G 0 + n0 ≤ 9999) (hN : N + 65 * n0 + 70 < 90000) (r : xi_R → Prop) (K : (∀ W', cmx nn f q dl tx sy T N fi m mm G GS W' → fr pq W0 W' → r (some (.int (Int32.ofNat (lw_dig (tk_ nn f q n0 G) (tk_ nn f q n0 G (330 + 2 * t))))), W', c, s))) : xr (d + 7) 120 0 [(0, .ref 17), (1, .int (Int32.ofNat n0)), (2, .int (Int32.ofNat t))] [] W0 c s r := by
  obtain ⟨lf, lp, hO⟩ := hc.o
  obtain ⟨F, hw, hr⟩ := hc.w
  have hl := hc.l
  have hR := hc.R
  have J := hr.j
  obtain ⟨F3, hw3⟩ := hc.2.2.2.2.2.2.1
  refine xr_stp rfl rfl rfl rfl ?_
  refine xr_stp (st' := .int (Int32.ofNat 1) :: _) rfl rfl rfl rfl ?_
  refine xr_j2 rfl rfl rfl rfl rfl (fun h2 => ?_) (fun h2 => ?_)
  · have z2 := nt_lt (by omega) (by omega) h2
    exact (by omega)
  · refine xr_stp rfl rfl rfl rfl ?_
    refine xr_stp (st' := .int (Int32.ofNat 12) :: _) rfl rfl rfl rfl ?_
    refine xr_j2 rfl rfl rfl rfl rfl (fun h8 => ?_) (fun h8 => ?_)
    · have z8 := nt_gt (by omega) (by omega) h8
      exact (by omega)
    · refine xr_stp rfl rfl rfl rfl ?_
      refine xr_cps rfl rfl rfl (fun r1 K2 => cl_rep _ _ _ t _ (by omega) r1 (K2 _ _ _ _ ?_))
      refine xr_j1 rfl rfl rfl rfl rfl (fun h15 => ?_) (fun h15 => ?_)
      · refine xr_stp rfl rfl rfl rfl ?_
        refine xr_getfield hO rfl rfl rfl rfl ?_
        refine xr_stp rfl rfl rfl rfl ?_
        refine xr_getfield hO rfl rfl rfl rfl ?_
        refine xr_vcps (hw3.w wb33 hl hR) rfl rfl rfl rfl rfl rfl (fun r1 K2 => kl_copy _ _ _ 33 23 W0 F3 F _ hw3 hw wb33 wb23 (by omega) hl hR r1 (fun W1 F4 hw4 hf1 hag => K2 _ _ _ _ ?_))
        have hk1 : fr (kr 33) W0 W1 := krK hf1
        have hc1 := hc.trial hk1 hw4 (hc.ok.2.2.2.2.2.1.keep hf1 wb33.k.1 wb33.k.2.1)
        have hr3 := hr.ag hag
        have hd := hc.d
        obtain ⟨lf, lp, hO⟩ := hc1.o
        refine xr_stp (st' := .int (Int32.ofNat 0) :: _) rfl rfl rfl rfl ?_
        refine xr_stp rfl rfl rfl rfl ?_
        exact cq_forL d c s nn q dl tx sy T N fi m mm f W0 G GS n0 t h12 ht r n0 0 N G F4 W1 (by omega) hc1 (pq_t hk1) hw4 hr3 hd (by omega) hN (fun W5 G5 e5 h5 h6 => by rw [e5] at *; exact K W5 h5 h6)
      · have z15 := nf1_ne (by omega) h15
        exact (by omega)
def tl_ (nn : Nat) (f : Nat → Int32) (q : Nat) : Nat → Nat → (Nat → Nat) → Nat
  | 0, _, _ => 4294967295
  | k + 1, t, G => if qu G = 1 then t else tl_ nn f q k (t + 1) (lw_ti nn f q 24 G)
theorem cq_tilL (d c s nn q dl tx sy T N fi m mm : Nat) (f : Nat → Int32) (W0 : xi_W) (G : Nat → Nat) (GS : Nat → Nat → Nat) (r : xi_R → Prop) : ∀ (k i N2 : Nat) (G2 F3 : Nat → Nat) (W1 : xi_W), i + k = 61 → cmx nn f q dl tx sy T N fi m mm G GS W1 → fr pq W0 W1 → kw W1 33 F3 → RL (G2 0 + 1) N2 G2 F3 → G2 5 = dl → N2 + 65 * k + 70 < 90000 → (∀ W', cmx nn f q dl tx sy T N fi m mm G GS W' → fr pq W0 W' → r (some (.int (Int32.ofNat (tl_ nn f q k i G2))), W', c, s)) → xr (d + 7) 139 13 [(1, .int (Int32.ofNat i)), (0, .ref 17)] [] W1 c s r
  | 0, i, N2, G2, F3, W1, hi, hc, hfT, hw3, hr3, hd, hN, K => by
    obtain ⟨lf, lp, hO⟩ := hc.o
    have hl := hc.l
    have hR := hc.R
    have e40 : F3 40 = G2 0 := hr3.1.2.2.2.2.2.2.1.1
    refine xr_stp rfl rfl rfl rfl ?_
    refine xr_stp (st' := .int (Int32.ofNat 60) :: _) rfl rfl rfl rfl ?_
    refine xr_j2 rfl rfl rfl rfl rfl (fun h16 => ?_) (fun h16 => ?_)
    · refine xr_stp (st' := .int (Int32.ofNat 4294967295) :: _) rfl rfl rfl rfl ?_
      exact xr_ret rfl rfl (K W1 hc hfT)
    · have z16 := nf_gt (by omega) (by omega) h16
      exact (by omega)
  | k + 1, i, N2, G2, F3, W1, hi, hc, hfT, hw3, hr3, hd, hN, K => by
    obtain ⟨lf, lp, hO⟩ := hc.o
    have hl := hc.l
    have hR := hc.R
    have e40 : F3 40 = G2 0 := hr3.1.2.2.2.2.2.2.1.1
    have hq2 := (qu_iff G2).1
    unfold tl_ at K
    refine xr_stp rfl rfl rfl rfl ?_
    refine xr_stp (st' := .int (Int32.ofNat 60) :: _) rfl rfl rfl rfl ?_
    refine xr_j2 rfl rfl rfl rfl rfl (fun h16 => ?_) (fun h16 => ?_)
    · have z16 := nt_gt (by omega) (by omega) h16
      exact (by omega)
    · refine xr_stp rfl rfl rfl rfl ?_
      refine xr_getfield hO rfl rfl rfl rfl ?_
      refine xr_vcps (hw3.w wb33 hl hR) rfl rfl rfl rfl rfl rfl (fun r1 K2 => kl_quiet _ _ _ 33 W1 F3 _ hw3 wb33 hl hR _ N2 G2 hr3 (by omega) r1 (K2 _ _ _ _ ?_))
      refine xr_j1 rfl rfl rfl rfl rfl (fun h26 => ?_) (fun h26 => ?_)
      · have z26 := nt1_eq (by omega) h26
        rw [if_neg (show ¬ qu G2 = 1 by omega)] at K
        refine xr_stp rfl rfl rfl rfl ?_
        refine xr_getfield hO rfl rfl rfl rfl ?_
        refine xr_stp rfl rfl rfl rfl ?_
        refine xr_getfield hO rfl rfl rfl rfl ?_
        refine xr_vcps (hw3.w wb33 hl hR) rfl rfl rfl rfl rfl rfl (fun r1 K2 => kl_tick _ _ _ 33 nn q dl tx sy T f wb33 hc.q r1 N2 G2 F3 W1 hw3 hc.ok hr3 hd.symm (by omega) (fun W2 F4 hw4 hs4 hf4 h4 h5 => K2 _ _ _ _ ?_))
        have hc2 := hc.trial hf4 hw4 hs4
        obtain ⟨lf, lp, hO⟩ := hc2.o
        refine xr_stp rfl rfl rfl rfl ?_
        refine xs_inc (e := 1) rfl rfl rfl rfl ?_
        refine xr_stp rfl rfl rfl rfl ?_
        exact cq_tilL d c s nn q dl tx sy T N fi m mm f W0 G GS r k (i + 1) (N2 + 65) _ F4 W2 (by omega) hc2 (hfT.tr (pq_t hf4)) hw4 h4 (h5.trans hd) (by omega) K
      · have z26 := nf1_eq h26
        rw [if_pos (show qu G2 = 1 by omega)] at K
        refine xr_stp rfl rfl rfl rfl ?_
        exact xr_ret rfl rfl (K W1 hc hfT)
/-- 'till' -/
theorem cq_til (d c s nn q dl tx sy T N fi m mm : Nat) (f : Nat → Int32) (W0 : xi_W) (G : Nat → Nat) (GS : Nat → Nat → Nat) (hc : cmx nn f q dl tx sy T N fi m mm G GS W0) (hN : N + 4100 < 90000) (r : xi_R → Prop) (K : (∀ W', cmx nn f q dl tx sy T N fi m mm G GS W' → fr pq W0 W' → r (some (.int (Int32.ofNat (tl_ nn f q 61 0 G))), W', c, s))) : xr (d + 7) 139 0 [(0, .ref 17)] [] W0 c s r := by
  obtain ⟨lf, lp, hO⟩ := hc.o
  obtain ⟨F, hw, hr⟩ := hc.w
  have hl := hc.l
  have hR := hc.R
  have J := hr.j
  obtain ⟨F3, hw3⟩ := hc.2.2.2.2.2.2.1
  refine xr_stp rfl rfl rfl rfl ?_
  refine xr_getfield hO rfl rfl rfl rfl ?_
  refine xr_stp rfl rfl rfl rfl ?_
  refine xr_getfield hO rfl rfl rfl rfl ?_
  refine xr_vcps (hw3.w wb33 hl hR) rfl rfl rfl rfl rfl rfl (fun r1 K2 => kl_copy _ _ _ 33 23 W0 F3 F _ hw3 hw wb33 wb23 (by omega) hl hR r1 (fun W1 F4 hw4 hf1 hag => K2 _ _ _ _ ?_))
  have hk1 : fr (kr 33) W0 W1 := krK hf1
  have hc1 := hc.trial hk1 hw4 (hc.ok.2.2.2.2.2.1.keep hf1 wb33.k.1 wb33.k.2.1)
  have hr3 := hr.ag hag
  have hd := hc.d
  obtain ⟨lf, lp, hO⟩ := hc1.o
  refine xr_stp (st' := .int (Int32.ofNat 0) :: _) rfl rfl rfl rfl ?_
  refine xr_stp rfl rfl rfl rfl ?_
  exact cq_tilL d c s nn q dl tx sy T N fi m mm f W0 G GS r 61 0 N G F4 W1 (by omega) hc1 (pq_t hk1) hw4 hr3 hd (by omega) K
