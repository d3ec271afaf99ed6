/-! loops of questions -/
def tL (G : Nat → Nat) (h : Nat) : Nat → Nat → Nat → Nat
  | 0, _, a => a
  | m + 1, x, a => tL G h m (x + 1) (a + if 1 < bc 63 (lw_of G h (x / 3) (x % 3) (G 4) 0 0) then 1 else 0)
def fL (G : Nat → Nat) (h q : Nat) : Nat → Nat → Nat → Nat
  | 0, _, a => a
  | m + 1, x, a => fL G h q m (x + 1) (a ||| if 0 < bc 63 (lw_of G h q x (G 4) 0 0) then 1 * 2 ^ x else 0)
def frL (G : Nat → Nat) : Nat → Nat → Nat → Nat
  | 0, _, a => a
  | m + 1, x, a => frL G m (x + 1) (if bc 63 (G (331 + 2 * a)) < bc 63 (G (331 + 2 * x)) then x else a)
def ldg (G : Nat → Nat) (k : Nat) : Nat → Nat → Nat → Nat
  | 0, _, a => a
  | m + 1, i, a => ldg G k m (i + 1) (a + if G (605 + 4 * i) = k then 1 else 0)
theorem cq_torL (d c s nn q dl tx sy T N fi m0 mm : Nat) (f : Nat → Int32) (W0 : xi_W) (G : Nat → Nat) (GS : Nat → Nat → Nat) (hc : cmx nn f q dl tx sy T N fi m0 mm G GS W0) (t : Nat) (ht : t < 4) (r : xi_R → Prop) : ∀ (m x a : Nat), x + m = 12 → r (some (.int (Int32.ofNat (tL G (G (330 + 2 * t)) m x a))), W0, c, s) → xr (d + 6) 132 13 [(3, .int (Int32.ofNat x)), (2, .int (Int32.ofNat a)), (0, .ref 17), (1, .int (Int32.ofNat t))] [] W0 c s r
  | 0, x, a, hx, K => by
    obtain ⟨lf, lp, hO⟩ := hc.o
    obtain ⟨F, hw, hr⟩ := hc.w
    have hl := hc.l
    have hR := hc.R
    have J := hr.j
    refine xr_stp rfl rfl rfl rfl ?_
    refine xr_stp (st' := .int (Int32.ofNat 12) :: _) rfl rfl rfl rfl ?_
    refine xr_j2 rfl rfl rfl rfl rfl (fun h16 => ?_) (fun h16 => ?_)
    · refine xr_stp rfl rfl rfl rfl ?_
      exact xr_ret rfl rfl K
    · have z16 := nf_ge (by omega) (by omega) h16
      exact (by omega)
  | m + 1, x, a, hx, K => by
    obtain ⟨lf, lp, hO⟩ := hc.o
    obtain ⟨F, hw, hr⟩ := hc.w
    have hl := hc.l
    have hR := hc.R
    have J := hr.j
    unfold tL at K
    have hb := bcle 63 (lw_of G (G (330 + 2 * t)) (x / 3) (x % 3) (G 4) 0 0)
    refine xr_stp rfl rfl rfl rfl ?_
    refine xr_stp (st' := .int (Int32.ofNat 12) :: _) rfl rfl rfl rfl ?_
    refine xr_j2 rfl rfl rfl rfl rfl (fun h16 => ?_) (fun h16 => ?_)
    · have z16 := nt_ge (by omega) (by omega) h16
      exact (by omega)
    · refine xr_stp rfl rfl rfl rfl ?_
      refine xr_getfield hO rfl rfl rfl rfl ?_
      refine xr_getfield (hw.w wb23 hl hR) rfl rfl rfl rfl ?_
      refine xr_stp rfl rfl rfl rfl ?_
      refine xr_stp rfl rfl rfl rfl ?_
      refine xr_stp (st' := .int (Int32.ofNat 3) :: _) rfl rfl rfl rfl ?_
      refine xs_div (by omega) (by omega) (by omega) rfl ?_
      refine xr_stp rfl rfl rfl rfl ?_
      refine xr_stp (st' := .int (Int32.ofNat 3) :: _) rfl rfl rfl rfl ?_
      refine xs_mod (by omega) (by omega) (by omega) rfl ?_
      refine xr_vcps hw.2 rfl rfl rfl rfl rfl rfl (fun r1 K2 => rq_many _ _ _ 23 W0 F G _ hw wb23 hl hR (hr.xs ht) (x / 3) (x % 3) (by omega) (by omega) r1 (K2 _ _ _ _ ?_))
      refine xr_stp (st' := .int (Int32.ofNat 1) :: _) rfl rfl rfl rfl ?_
      refine xr_j2 rfl rfl rfl rfl rfl (fun h37 => ?_) (fun h37 => ?_)
      · have z37 := nt_le (by omega) (by omega) h37
        rw [if_neg (show ¬ 1 < bc 63 (lw_of G (G (330 + 2 * t)) (x / 3) (x % 3) (G 4) 0 0) by omega), Nat.add_zero] at K
        refine xs_inc (e := 1) rfl rfl rfl rfl ?_
        refine xr_stp rfl rfl rfl rfl ?_
        exact cq_torL d c s nn q dl tx sy T N fi m0 mm f W0 G GS hc t ht r m (x + 1) _ (by omega) K
      · have z37 := nf_le (by omega) (by omega) h37
        rw [if_pos (show 1 < bc 63 (lw_of G (G (330 + 2 * t)) (x / 3) (x % 3) (G 4) 0 0) by omega)] at K
        refine xs_inc (e := 1) rfl rfl rfl rfl ?_
        refine xs_inc (e := 1) rfl rfl rfl rfl ?_
        refine xr_stp rfl rfl rfl rfl ?_
        exact cq_torL d c s nn q dl tx sy T N fi m0 mm f W0 G GS hc t ht r m (x + 1) _ (by omega) K
/-- 'torn' -/
theorem cq_tor (d c s nn q dl tx sy T N fi m mm : Nat) (f : Nat → Int32) (W0 : xi_W) (G : Nat → Nat) (GS : Nat → Nat → Nat) (hc : cmx nn f q dl tx sy T N fi m mm G GS W0) (t : Nat) (ht : t < 4) (r : xi_R → Prop) (K : r (some (.int (Int32.ofNat (tL G (G (330 + 2 * t)) 12 0 0))), W0, c, s)) : xr (d + 6) 132 0 [(0, .ref 17), (1, .int (Int32.ofNat t))] [] W0 c s r := by
  obtain ⟨lf, lp, hO⟩ := hc.o
  obtain ⟨F, hw, hr⟩ := hc.w
  have hl := hc.l
  have hR := hc.R
  have J := hr.j
  refine xr_stp rfl rfl rfl rfl ?_
  refine xr_cps rfl rfl rfl (fun r1 K2 => cl_rep _ _ _ t _ (by omega) r1 (K2 _ _ _ _ ?_))
  refine xr_j1 rfl rfl rfl rfl rfl (fun h4 => ?_) (fun h4 => ?_)
  · refine xr_stp (st' := .int (Int32.ofNat 0) :: _) rfl rfl rfl rfl ?_
    refine xr_stp rfl rfl rfl rfl ?_
    refine xr_stp (st' := .int (Int32.ofNat 0) :: _) rfl rfl rfl rfl ?_
    refine xr_stp rfl rfl rfl rfl ?_
    exact cq_torL d c s nn q dl tx sy T N fi m mm f W0 G GS hc t ht r 12 0 0 rfl K
  · have z4 := nf1_ne (by omega) h4
    exact (by omega)
theorem cq_fldL (d c s nn q dl tx sy T N fi m0 mm : Nat) (f : Nat → Int32) (W0 : xi_W) (G : Nat → Nat) (GS : Nat → Nat → Nat) (hc : cmx nn f q dl tx sy T N fi m0 mm G GS W0) (t q0 : Nat) (ht : t < 4) (hq : q0 < 4) (r : xi_R → Prop) : ∀ (m x a : Nat), x + m = 3 → r (some (.int (Int32.ofNat (fL G (G (330 + 2 * t)) q0 m x a))), W0, c, s) → xr (d + 6) 133 21 [(4, .int (Int32.ofNat x)), (3, .int (Int32.ofNat a)), (0, .ref 17), (1, .int (Int32.ofNat t)), (2, .int (Int32.ofNat q0))] [] W0 c s r
  | 0, x, a, hx, K => by
    obtain ⟨lf, lp, hO⟩ := hc.o
    obtain ⟨F, hw, hr⟩ := hc.w
    have hl := hc.l
    have hR := hc.R
    have J := hr.j
    refine xr_stp rfl rfl rfl rfl ?_
    refine xr_stp (st' := .int (Int32.ofNat 3) :: _) rfl rfl rfl rfl ?_
    refine xr_j2 rfl rfl rfl rfl rfl (fun h24 => ?_) (fun h24 => ?_)
    · refine xr_stp rfl rfl rfl rfl ?_
      exact xr_ret rfl rfl K
    · have z24 := nf_ge (by omega) (by omega) h24
      exact (by omega)
  | m + 1, x, a, hx, K => by
    obtain ⟨lf, lp, hO⟩ := hc.o
    obtain ⟨F, hw, hr⟩ := hc.w
    have hl := hc.l
    have hR := hc.R
    have J := hr.j
    unfold fL at K
    have hb := bcle 63 (lw_of G (G (330 + 2 * t)) q0 x (G 4) 0 0)
    refine xr_stp rfl rfl rfl rfl ?_
    refine xr_stp (st' := .int (Int32.ofNat 3) :: _) rfl rfl rfl rfl ?_
    refine xr_j2 rfl rfl rfl rfl rfl (fun h24 => ?_) (fun h24 => ?_)
    · have z24 := nt_ge (by omega) (by omega) h24
      exact (by omega)
    · refine xr_stp rfl rfl rfl rfl ?_
      refine xr_getfield hO rfl rfl rfl rfl ?_
      refine xr_getfield (hw.w wb23 hl hR) rfl rfl rfl rfl ?_
      refine xr_stp rfl rfl rfl rfl ?_
      refine xr_stp rfl rfl rfl rfl ?_
      refine xr_stp rfl rfl rfl rfl ?_
      refine xr_vcps hw.2 rfl rfl rfl rfl rfl rfl (fun r1 K2 => rq_many _ _ _ 23 W0 F G _ hw wb23 hl hR (hr.xs ht) q0 x hq (by omega) r1 (K2 _ _ _ _ ?_))
      refine xr_j1 rfl rfl rfl rfl rfl (fun h41 => ?_) (fun h41 => ?_)
      · have z41 := nt1_le (by omega) h41
        rw [if_neg (show ¬ 0 < bc 63 (lw_of G (G (330 + 2 * t)) q0 x (G 4) 0 0) by omega), Nat.or_zero] at K
        refine xs_inc (e := 1) rfl rfl rfl rfl ?_
        refine xr_stp rfl rfl rfl rfl ?_
        exact cq_fldL d c s nn q dl tx sy T N fi m0 mm f W0 G GS hc t q0 ht hq r m (x + 1) _ (by omega) K
      · have z41 := nf1_le (by omega) h41
        rw [if_pos (show 0 < bc 63 (lw_of G (G (330 + 2 * t)) q0 x (G 4) 0 0) by omega)] at K
        refine xr_stp rfl rfl rfl rfl ?_
        refine xr_stp (st' := .int (Int32.ofNat 1) :: _) rfl rfl rfl rfl ?_
        refine xr_stp rfl rfl rfl rfl ?_
        refine xs_shl (by omega) rfl ?_
        refine xs_or rfl ?_
        refine xr_stp rfl rfl rfl rfl ?_
        refine xs_inc (e := 1) rfl rfl rfl rfl ?_
        refine xr_stp rfl rfl rfl rfl ?_
        exact cq_fldL d c s nn q dl tx sy T N fi m0 mm f W0 G GS hc t q0 ht hq r m (x + 1) _ (by omega) K
/-- 'fields' -/
theorem cq_fld (d c s nn q dl tx sy T N fi m mm : Nat) (f : Nat → Int32) (W0 : xi_W) (G : Nat → Nat) (GS : Nat → Nat → Nat) (hc : cmx nn f q dl tx sy T N fi m mm G GS W0) (t q0 : Nat) (ht : t < 4) (hq : q0 < 4) (r : xi_R → Prop) (K : r (some (.int (Int32.ofNat (fL G (G (330 + 2 * t)) q0 3 0 0))), W0, c, s)) : xr (d + 6) 133 0 [(0, .ref 17), (1, .int (Int32.ofNat t)), (2, .int (Int32.ofNat q0))] [] W0 c s r := by
  obtain ⟨lf, lp, hO⟩ := hc.o
  obtain ⟨F, hw, hr⟩ := hc.w
  have hl := hc.l
  have hR := hc.R
  have J := hr.j
  refine xr_stp rfl rfl rfl rfl ?_
  refine xr_cps rfl rfl rfl (fun r1 K2 => cl_rep _ _ _ t _ (by omega) r1 (K2 _ _ _ _ ?_))
  refine xr_j1 rfl rfl rfl rfl rfl (fun h4 => ?_) (fun h4 => ?_)
  · have z4 := nt1_eq (by omega) h4
    exact (by omega)
  · refine xr_stp rfl rfl rfl rfl ?_
    refine xr_cps rfl rfl rfl (fun r1 K2 => cl_key _ _ _ q0 _ (by omega) r1 (K2 _ _ _ _ ?_))
    refine xr_j1 rfl rfl rfl rfl rfl (fun h11 => ?_) (fun h11 => ?_)
    · refine xr_stp (st' := .int (Int32.ofNat 0) :: _) rfl rfl rfl rfl ?_
      refine xr_stp rfl rfl rfl rfl ?_
      refine xr_stp (st' := .int (Int32.ofNat 0) :: _) rfl rfl rfl rfl ?_
      refine xr_stp rfl rfl rfl rfl ?_
      exact cq_fldL d c s nn q dl tx sy T N fi m mm f W0 G GS hc t q0 ht hq r 3 0 0 rfl K
    · have z11 := nf1_ne (by omega) h11
      exact (by omega)
theorem cq_freL (d c s nn q dl tx sy T N fi m0 mm : Nat) (f : Nat → Int32) (W0 : xi_W) (G : Nat → Nat) (GS : Nat → Nat → Nat) (hc : cmx nn f q dl tx sy T N fi m0 mm G GS W0) (r : xi_R → Prop) : ∀ (m x a : Nat), x + m = 4 → a < 4 → r (some (.int (Int32.ofNat (frL G m x a))), W0, c, s) → xr (d + 6) 137 4 [(2, .int (Int32.ofNat x)), (1, .int (Int32.ofNat a)), (0, .ref 17)] [] W0 c s r
  | 0, x, a, hx, ha, K => by
    obtain ⟨lf, lp, hO⟩ := hc.o
    obtain ⟨F, hw, hr⟩ := hc.w
    have hl := hc.l
    have hR := hc.R
    have J := hr.j
    refine xr_stp rfl rfl rfl rfl ?_
    refine xr_stp (st' := .int (Int32.ofNat 4) :: _) rfl rfl rfl rfl ?_
    refine xr_j2 rfl rfl rfl rfl rfl (fun h6 => ?_) (fun h6 => ?_)
    · refine xr_stp rfl rfl rfl rfl ?_
      exact xr_ret rfl rfl K
    · have z6 := nf_ge (by omega) (by omega) h6
      exact (by omega)
  | m + 1, x, a, hx, ha, K => by
    obtain ⟨lf, lp, hO⟩ := hc.o
    obtain ⟨F, hw, hr⟩ := hc.w
    have hl := hc.l
    have hR := hc.R
    have J := hr.j
    unfold frL at K
    have hb := bcle 63 (G (331 + 2 * a))
    have hb2 := bcle 63 (G (331 + 2 * x))
    refine xr_stp rfl rfl rfl rfl ?_
    refine xr_stp (st' := .int (Int32.ofNat 4) :: _) rfl rfl rfl rfl ?_
    refine xr_j2 rfl rfl rfl rfl rfl (fun h6 => ?_) (fun h6 => ?_)
    · have z6 := nt_ge (by omega) (by omega) h6
      exact (by omega)
    · refine xr_stp rfl rfl rfl rfl ?_
      refine xr_getfield hO rfl rfl rfl rfl ?_
      refine xr_getfield (hw.w wb23 hl hR) rfl rfl rfl rfl ?_
      refine xr_stp rfl rfl rfl rfl ?_
      refine xr_vcps hw.2 rfl rfl rfl rfl rfl rfl (fun r1 K2 => rq_dots _ _ _ 23 W0 F G _ hw wb23 hl hR (hr.xs (t := x) (by omega)) r1 (K2 _ _ _ _ ?_))
      refine xr_stp rfl rfl rfl rfl ?_
      refine xr_getfield hO rfl rfl rfl rfl ?_
      refine xr_getfield (hw.w wb23 hl hR) rfl rfl rfl rfl ?_
      refine xr_stp rfl rfl rfl rfl ?_
      refine xr_vcps hw.2 rfl rfl rfl rfl rfl rfl (fun r1 K2 => rq_dots _ _ _ 23 W0 F G _ hw wb23 hl hR (hr.xs (t := a) ha) r1 (K2 _ _ _ _ ?_))
      refine xr_j2 rfl rfl rfl rfl rfl (fun h31 => ?_) (fun h31 => ?_)
      · have z31 := nt_le (by omega) (by omega) h31
        rw [if_neg (show ¬ bc 63 (G (331 + 2 * a)) < bc 63 (G (331 + 2 * x)) by omega)] at K
        refine xs_inc (e := 1) rfl rfl rfl rfl ?_
        refine xr_stp rfl rfl rfl rfl ?_
        exact cq_freL d c s nn q dl tx sy T N fi m0 mm f W0 G GS hc r m (x + 1) _ (by omega) (by omega) K
      · have z31 := nf_le (by omega) (by omega) h31
        rw [if_pos (show bc 63 (G (331 + 2 * a)) < bc 63 (G (331 + 2 * x)) by omega)] at K
        refine xr_stp rfl rfl rfl rfl ?_
        refine xr_stp rfl rfl rfl rfl ?_
        refine xs_inc (e := 1) rfl rfl rfl rfl ?_
        refine xr_stp rfl rfl rfl rfl ?_
        exact cq_freL d c s nn q dl tx sy T N fi m0 mm f W0 G GS hc r m (x + 1) _ (by omega) (by omega) K
/-- 'freshest' -/
theorem cq_fre (d c s nn q dl tx sy T N fi m mm : Nat) (f : Nat → Int32) (W0 : xi_W) (G : Nat → Nat) (GS : Nat → Nat → Nat) (hc : cmx nn f q dl tx sy T N fi m mm G GS W0) (r : xi_R → Prop) (K : r (some (.int (Int32.ofNat (frL G 4 0 0))), W0, c, s)) : xr (d + 6) 137 0 [(0, .ref 17)] [] W0 c s r := by
  obtain ⟨lf, lp, hO⟩ := hc.o
  obtain ⟨F, hw, hr⟩ := hc.w
  have hl := hc.l
  have hR := hc.R
  have J := hr.j
  refine xr_stp (st' := .int (Int32.ofNat 0) :: _) rfl rfl rfl rfl ?_
  refine xr_stp rfl rfl rfl rfl ?_
  refine xr_stp (st' := .int (Int32.ofNat 1) :: _) rfl rfl rfl rfl ?_
  refine xr_stp rfl rfl rfl rfl ?_
  exact cq_freL d c s nn q dl tx sy T N fi m mm f W0 G GS hc r 3 1 0 rfl (by omega) (by rw [show frL G 4 0 0 = frL G 3 1 (if bc 63 (G (331 + 2 * 0)) < bc 63 (G (331 + 2 * 0)) then 0 else 0) from rfl, if_neg (Nat.lt_irrefl _)] at K; exact K)
theorem cq_ledL (d c s nn q dl tx sy T N fi m0 mm : Nat) (f : Nat → Int32) (W0 : xi_W) (G : Nat → Nat) (GS : Nat → Nat → Nat) (hc : cmx nn f q dl tx sy T N fi m0 mm G GS W0) (k : Nat) (hk : k < 5) (r : xi_R → Prop) : ∀ (m x a : Nat), x + m = min (G 603) 25 → r (some (.int (Int32.ofNat (ldg G k m (G 603 - min (G 603) 25 + x) a))), W0, c, s) → xr (d + 6) 143 16 [(3, .int (Int32.ofNat x)), (2, .int (Int32.ofNat a)), (0, .ref 17), (1, .int (Int32.ofNat k))] [] W0 c s r
  | 0, x, a, hx, K => by
    obtain ⟨lf, lp, hO⟩ := hc.o
    obtain ⟨F, hw, hr⟩ := hc.w
    have hl := hc.l
    have hR := hc.R
    have J := hr.j
    have BB := hr.1.2.2.2.2.2.2.2.2
    have b1 := BB.1
    have hk3 := J.k
    refine xr_stp rfl rfl rfl rfl ?_
    refine xr_stp rfl rfl rfl rfl ?_
    refine xr_getfield hO rfl rfl rfl rfl ?_
    refine xr_getfield (hw.w wb23 hl hR) rfl rfl rfl rfl ?_
    refine xr_j2 rfl rfl rfl rfl rfl (fun h24 => ?_) (fun h24 => ?_)
    · refine xr_stp rfl rfl rfl rfl ?_
      exact xr_ret rfl rfl K
    · have z24 := nf_ge (by omega) (by omega) h24
      exact (by omega)
  | m + 1, x, a, hx, K => by
    obtain ⟨lf, lp, hO⟩ := hc.o
    obtain ⟨F, hw, hr⟩ := hc.w
    have hl := hc.l
    have hR := hc.R
    have J := hr.j
    have BB := hr.1.2.2.2.2.2.2.2.2
    have b1 := BB.1
    have hk3 := J.k
    unfold ldg at K
    have b2 := BB.2 x 1 (by omega) (by omega)
    rw [b1, show 604 + 4 * (G 603 - min (G 603) 25 + x) + 1 = 605 + 4 * (G 603 - min (G 603) 25 + x) by omega] at b2
    have b3 := (hr.iv.2.2.2.2.2.1) (G 603 - min (G 603) 25 + x) (by omega)
    rw [show 604 + 4 * (G 603 - min (G 603) 25 + x) + 1 = 605 + 4 * (G 603 - min (G 603) 25 + x) by omega] at b3
    refine xr_stp rfl rfl rfl rfl ?_
    refine xr_stp rfl rfl rfl rfl ?_
    refine xr_getfield hO rfl rfl rfl rfl ?_
    refine xr_getfield (hw.w wb23 hl hR) rfl rfl rfl rfl ?_
    refine xr_j2 rfl rfl rfl rfl rfl (fun h24 => ?_) (fun h24 => ?_)
    · have z24 := nt_ge (by omega) (by omega) h24
      exact (by omega)
    · refine xr_stp rfl rfl rfl rfl ?_
      refine xr_getfield hO rfl rfl rfl rfl ?_
      refine xr_getfield (hw.w wb23 hl hR) rfl rfl rfl rfl ?_
      refine xr_stp rfl rfl rfl rfl ?_
      refine xr_stp (st' := .int (Int32.ofNat 4) :: _) rfl rfl rfl rfl ?_
      refine xs_mul rfl ?_
      refine xr_stp (st' := .int (Int32.ofNat 1) :: _) rfl rfl rfl rfl ?_
      refine xs_add rfl ?_
      refine xs_ild (hw.l wb23 hl hR) (by omega) (by omega) rfl ?_
      rw [b2]
      refine xr_stp rfl rfl rfl rfl ?_
      refine xr_j2 rfl rfl rfl rfl rfl (fun h41 => ?_) (fun h41 => ?_)
      · have z41 := nt_ne h41
        rw [if_neg z41, Nat.add_zero] at K
        refine xs_inc (e := 1) rfl rfl rfl rfl ?_
        refine xr_stp rfl rfl rfl rfl ?_
        exact cq_ledL d c s nn q dl tx sy T N fi m0 mm f W0 G GS hc k hk r m (x + 1) _ (by omega) K
      · have z41 := nf_ne (by omega) (by omega) h41
        rw [if_pos z41] at K
        refine xs_inc (e := 1) rfl rfl rfl rfl ?_
        refine xs_inc (e := 1) rfl rfl rfl rfl ?_
        refine xr_stp rfl rfl rfl rfl ?_
        exact cq_ledL d c s nn q dl tx sy T N fi m0 mm f W0 G GS hc k hk r m (x + 1) _ (by omega) K
/-- 'ledger' -/
theorem cq_led (d c s nn q dl tx sy T N fi m mm : Nat) (f : Nat → Int32) (W0 : xi_W) (G : Nat → Nat) (GS : Nat → Nat → Nat) (hc : cmx nn f q dl tx sy T N fi m mm G GS W0) (k : Nat) (hk : k < 5) (r : xi_R → Prop) (K : r (some (.int (Int32.ofNat (ldg G k (min (G 603) 25) (G 603 - min (G 603) 25) 0))), W0, c, s)) : xr (d + 6) 143 0 [(0, .ref 17), (1, .int (Int32.ofNat k))] [] W0 c s r := by
  obtain ⟨lf, lp, hO⟩ := hc.o
  obtain ⟨F, hw, hr⟩ := hc.w
  have hl := hc.l
  have hR := hc.R
  have J := hr.j
  refine xr_stp rfl rfl rfl rfl ?_
  refine xr_j1 rfl rfl rfl rfl rfl (fun h1 => ?_) (fun h1 => ?_)
  · have z1 := n_lt0 h1
    exact (by omega)
  · refine xr_stp rfl rfl rfl rfl ?_
    refine xr_stp (st' := .int (Int32.ofNat 5) :: _) rfl rfl rfl rfl ?_
    refine xr_j2 rfl rfl rfl rfl rfl (fun h6 => ?_) (fun h6 => ?_)
    · refine xr_stp (st' := .int (Int32.ofNat 0) :: _) rfl rfl rfl rfl ?_
      refine xr_stp rfl rfl rfl rfl ?_
      refine xr_stp (st' := .int (Int32.ofNat 0) :: _) rfl rfl rfl rfl ?_
      refine xr_stp rfl rfl rfl rfl ?_
      exact cq_ledL d c s nn q dl tx sy T N fi m mm f W0 G GS hc k hk r _ 0 0 (by omega) K
    · have z6 := nf_lt (by omega) (by omega) h6
      exact (by omega)
