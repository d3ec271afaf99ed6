/-! questions that write into rows of their own: joins -/
theorem cmx.scr {nn : Nat} {f : Nat → Int32} {q dl tx sy T N fi m mm : Nat} {G : Nat → Nat} {GS : Nat → Nat → Nat} {W W' : xi_W} {F' : Nat → Nat} (h : cmx nn f q dl tx sy T N fi m mm G GS W) (hf : fr (kin 23) W W') (hw : kw W' 23 F') (hr : RL (G 0 + 1) N G F') : cmx nn f q dl tx sy T N fi m mm G GS W' :=
  h.now (krK hf) hw (h.ok.2.2.2.2.2.1.keep hf wb23.k.1 wb23.k.2.1) hr h.d (Nat.le_refl _)
def aK (G : Nat → Nat) : Nat → Nat
  | 0 => 0
  | n + 1 => aK G n ||| G (331 + 2 * n)
def aH (G : Nat → Nat) : Nat → Nat
  | 0 => 0
  | n + 1 => lw_j (aH G n) (aK G n) (G (330 + 2 * n)) (G (331 + 2 * n))
theorem sc_mg {F : Nat → Nat} (Y : Nat) : ∀ j, (1 < j % 16 ∨ j / 16 < 208) → cn_mg 54 Y 4 0 F j = F j := fun j h => cn_mgu 54 Y 4 0 F j (by omega)
theorem sc_mv {F : Nat → Nat} (X Y : Nat) (hY : 52 ≤ Y) : ∀ j, (1 < j % 16 ∨ j / 16 < 208) → cn_mv F X Y 1 j = F j := fun j h => cn_mvn F X Y 1 (by omega)
theorem sc_wz {F : Nat → Nat} (Y : Nat) (hY : 52 ≤ Y) : ∀ j, (1 < j % 16 ∨ j / 16 < 208) → cn_wz 4 (Y * 4) F j = F j := fun j h => cn_wzo 4 (Y * 4) F j (by omega)
theorem sc_ga {F : Nat → Nat} (X q f : Nat) : ∀ j, (1 < j % 16 ∨ j / 16 < 208) → cn_gat F 53 X q f j = F j := fun j h => cn_gato F 53 X q f (by omega)
/-- 'joinTwo' -/
theorem cj_two (d c s nn q dl tx sy T N fi m mm : Nat) (f : Nat → Int32) (W0 : xi_W) (G : Nat → Nat) (GS : Nat → Nat → Nat) (hc : cmx nn f q dl tx sy T N fi m mm G GS W0) (t u : Nat) (ht : t < 4) (hu : u < 4) (r : xi_R → Prop) (K : ∀ W' F', kw W' 23 F' → fr (kin 23) W0 W' → RL (G 0 + 1) N G F' → rx G F' 54 (lw_j (G (330 + 2 * t)) (G (331 + 2 * t)) (G (330 + 2 * u)) (G (331 + 2 * u))) (G (331 + 2 * t) ||| G (331 + 2 * u)) → r (none, W', c, s)) : xr (d + 5) 153 0 [(0, .ref 17), (1, .int (Int32.ofNat t)), (2, .int (Int32.ofNat u))] [] W0 c s r := by
  obtain ⟨lf, lp, hO⟩ := hc.o
  obtain ⟨F, hw, hr⟩ := hc.w
  have hl := hc.l
  have hR := hc.R
  have J := hr.j
  have hfT : fr (kin 23) W0 W0 := fr.rf
  refine xr_stp rfl rfl rfl rfl ?_
  refine xr_getfield hO rfl rfl rfl rfl ?_
  refine xr_getfield (hw.w wb23 hl hR) rfl rfl rfl rfl ?_
  refine xr_stp (st' := .int (Int32.ofNat 54) :: _) rfl rfl rfl rfl ?_
  refine xr_stp rfl rfl rfl rfl ?_
  refine xr_vcps hw.2 rfl rfl rfl rfl rfl rfl (fun r1 K2 => xr_kw hw (cn_put (hw.B wb23 hl hR) _ F _ _ 54 t (by omega) (by omega)) (fun W1 hw2 hf2 => K2 _ _ _ _ ?_))
  have x1 := (hr.xs ht).mv (Y := 54) (by omega)
  have hr := hr.scr (sc_mv t 54 (by omega))
  have hfT := hfT.tr hf2
  have hc := hc.scr hf2 hw2 hr
  have hw := hw2
  have hl := hc.l
  have hR := hc.R
  obtain ⟨lf, lp, hO⟩ := hc.o
  refine xr_stp rfl rfl rfl rfl ?_
  refine xr_getfield hO rfl rfl rfl rfl ?_
  refine xr_getfield (hw.w wb23 hl hR) rfl rfl rfl rfl ?_
  refine xr_stp (st' := .int (Int32.ofNat 54) :: _) rfl rfl rfl rfl ?_
  refine xr_stp rfl rfl rfl rfl ?_
  refine xr_vcps hw.2 rfl rfl rfl rfl rfl rfl (fun r1 K2 => xr_kw hw (cn_merge (hw.B wb23 hl hR) _ _ _ _ 54 u (by omega) (by omega)) (fun W2 hw2 hf2 => K2 _ _ _ _ ?_))
  have x2 := x1.mg (hr.xs hu) (by omega)
  have hr := hr.scr (sc_mg u)
  have hfT := hfT.tr hf2
  have hc := hc.scr hf2 hw2 hr
  have hw := hw2
  have hl := hc.l
  have hR := hc.R
  obtain ⟨lf, lp, hO⟩ := hc.o
  exact xr_ret rfl rfl (K W2 _ hw hfT hr x2)
theorem cj_allL (d c s nn q dl tx sy T N fi m mm : Nat) (f : Nat → Int32) (W0 : xi_W) (G : Nat → Nat) (GS : Nat → Nat → Nat) (hc0 : cmx nn f q dl tx sy T N fi m mm G GS W0) (r : xi_R → Prop) (K : ∀ W' F', kw W' 23 F' → fr (kin 23) W0 W' → RL (G 0 + 1) N G F' → rx G F' 54 (aH G 4) (aK G 4) → r (none, W', c, s)) : ∀ (k x : Nat) (W1 : xi_W) (F : Nat → Nat), x + k = 4 → kw W1 23 F → fr (kin 23) W0 W1 → RL (G 0 + 1) N G F → rx G F 54 (aH G x) (aK G x) → xr (d + 5) 154 14 [(1, .int (Int32.ofNat x)), (0, .ref 17)] [] W1 c s r
  | 0, x, W1, F, hx, hw, hfT, hr, hX => by
    have hc := hc0.scr hfT hw hr
    obtain ⟨lf, lp, hO⟩ := hc.o
    have ex : x = 4 := by omega
    subst ex
    refine xr_stp rfl rfl rfl rfl ?_
    refine xr_stp (st' := .int (Int32.ofNat 4) :: _) rfl rfl rfl rfl ?_
    refine xr_j2 rfl rfl rfl rfl rfl (fun h16 => ?_) (fun h16 => ?_)
    · exact xr_ret rfl rfl (K W1 F hw hfT hr hX)
    · have z16 := nf_ge (by omega) (by omega) h16
      exact (by omega)
  | k + 1, x, W1, F, hx, hw, hfT, hr, hX => by
    have hc := hc0.scr hfT hw hr
    obtain ⟨lf, lp, hO⟩ := hc.o
    have hl := hc.l
    have hR := hc.R
    refine xr_stp rfl rfl rfl rfl ?_
    refine xr_stp (st' := .int (Int32.ofNat 4) :: _) rfl rfl rfl rfl ?_
    refine xr_j2 rfl rfl rfl rfl rfl (fun h16 => ?_) (fun h16 => ?_)
    · have z16 := nt_ge (by omega) (by omega) h16
      exact (by omega)
    · refine xr_stp rfl rfl rfl rfl ?_
      refine xr_getfield hO rfl rfl rfl rfl ?_
      refine xr_getfield (hw.w wb23 hl hR) rfl rfl rfl rfl ?_
      refine xr_stp (st' := .int (Int32.ofNat 54) :: _) rfl rfl rfl rfl ?_
      refine xr_stp rfl rfl rfl rfl ?_
      refine xr_vcps hw.2 rfl rfl rfl rfl rfl rfl (fun r1 K2 => xr_kw hw (cn_merge (hw.B wb23 hl hR) _ _ _ _ 54 x (by omega) (by omega)) (fun W2 hw2 hf2 => K2 _ _ _ _ ?_))
      have x2 := hX.mg (hr.xs (t := x) (by omega)) (by omega)
      have hr := hr.scr (sc_mg x)
      have hfT := hfT.tr hf2
      have hc := hc.scr hf2 hw2 hr
      have hw := hw2
      have hl := hc.l
      have hR := hc.R
      obtain ⟨lf, lp, hO⟩ := hc.o
      refine xs_inc (e := 1) rfl rfl rfl rfl ?_
      refine xr_stp rfl rfl rfl rfl ?_
      exact cj_allL d c s nn q dl tx sy T N fi m mm f W0 G GS hc0 r K k (x + 1) W2 _ (by omega) hw hfT hr x2
/-- 'joinAll' -/
theorem cj_all (d c s nn q dl tx sy T N fi m mm : Nat) (f : Nat → Int32) (W0 : xi_W) (G : Nat → Nat) (GS : Nat → Nat → Nat) (hc : cmx nn f q dl tx sy T N fi m mm G GS W0) (r : xi_R → Prop) (K : ∀ W' F', kw W' 23 F' → fr (kin 23) W0 W' → RL (G 0 + 1) N G F' → rx G F' 54 (aH G 4) (aK G 4) → r (none, W', c, s)) : xr (d + 5) 154 0 [(0, .ref 17)] [] W0 c s r := by
  obtain ⟨lf, lp, hO⟩ := hc.o
  obtain ⟨F, hw, hr⟩ := hc.w
  have hl := hc.l
  have hR := hc.R
  have J := hr.j
  have hfT : fr (kin 23) W0 W0 := fr.rf
  have hc0 := hc
  refine xr_stp rfl rfl rfl rfl ?_
  refine xr_getfield hO rfl rfl rfl rfl ?_
  refine xr_getfield (hw.w wb23 hl hR) rfl rfl rfl rfl ?_
  refine xr_stp (st' := .int (Int32.ofNat 54) :: _) rfl rfl rfl rfl ?_
  refine xr_vcps hw.2 rfl rfl rfl rfl rfl rfl (fun r1 K2 => xr_kw hw (cn_wipe (hw.B wb23 hl hR) _ F _ _ 54 (by omega)) (fun W1 hw2 hf2 => K2 _ _ _ _ ?_))
  have x1 := rx.z (F := F) (Y := 54) hr.e hr.j.e hr.1.2.2.1 (by omega)
  have hr := hr.scr (sc_wz 54 (by omega))
  have hfT := hfT.tr hf2
  have hc := hc.scr hf2 hw2 hr
  have hw := hw2
  have hl := hc.l
  have hR := hc.R
  obtain ⟨lf, lp, hO⟩ := hc.o
  refine xr_stp (st' := .int (Int32.ofNat 0) :: _) rfl rfl rfl rfl ?_
  refine xr_stp rfl rfl rfl rfl ?_
  exact cj_allL d c s nn q dl tx sy T N fi m mm f W0 G GS hc0 r K 4 0 W1 _ rfl hw hfT hr x1
theorem cj_of0 (d c s nn q dl tx sy T N fi m mm : Nat) (f : Nat → Int32) (W0 : xi_W) (G : Nat → Nat) (GS : Nat → Nat → Nat) (hc : cmx nn f q dl tx sy T N fi m mm G GS W0) (F : Nat → Nat) (h k : Nat) (hw : kw W0 23 F) (x : rx G F 54 h k) (r : xi_R → Prop) (K : r (some (.int (Int32.ofNat (bc 63 h))), W0, c, s)) : xr (d + 5) 155 0 [(0, .ref 17), (1, .int (Int32.ofNat 0))] [] W0 c s r := by
  obtain ⟨lf, lp, hO⟩ := hc.o
  have hl := hc.l
  have hR := hc.R
  refine xr_stp rfl rfl rfl rfl ?_
  refine xr_stp (pc' := 28) rfl rfl rfl rfl ?_
  refine xr_stp rfl rfl rfl rfl ?_
  refine xr_getfield hO rfl rfl rfl rfl ?_
  refine xr_getfield (hw.w wb23 hl hR) rfl rfl rfl rfl ?_
  refine xr_stp (st' := .int (Int32.ofNat 54) :: _) rfl rfl rfl rfl ?_
  refine xr_vcps hw.2 rfl rfl rfl rfl rfl rfl (fun r1 K2 => rq_ent _ _ _ 23 W0 F G _ hw wb23 hl hR x r1 (K2 _ _ _ _ ?_))
  exact xr_ret rfl rfl K
theorem cj_of1 (d c s nn q dl tx sy T N fi m mm : Nat) (f : Nat → Int32) (W0 : xi_W) (G : Nat → Nat) (GS : Nat → Nat → Nat) (hc : cmx nn f q dl tx sy T N fi m mm G GS W0) (F : Nat → Nat) (h k : Nat) (hw : kw W0 23 F) (x : rx G F 54 h k) (r : xi_R → Prop) (K : r (some (.int (Int32.ofNat (bc 63 k))), W0, c, s)) : xr (d + 5) 155 0 [(0, .ref 17), (1, .int (Int32.ofNat 1))] [] W0 c s r := by
  obtain ⟨lf, lp, hO⟩ := hc.o
  have hl := hc.l
  have hR := hc.R
  refine xr_stp rfl rfl rfl rfl ?_
  refine xr_stp (pc' := 41) rfl rfl rfl rfl ?_
  refine xr_stp rfl rfl rfl rfl ?_
  refine xr_getfield hO rfl rfl rfl rfl ?_
  refine xr_getfield (hw.w wb23 hl hR) rfl rfl rfl rfl ?_
  refine xr_stp (st' := .int (Int32.ofNat 54) :: _) rfl rfl rfl rfl ?_
  refine xr_vcps hw.2 rfl rfl rfl rfl rfl rfl (fun r1 K2 => rq_dots _ _ _ 23 W0 F G _ hw wb23 hl hR x r1 (K2 _ _ _ _ ?_))
  exact xr_ret rfl rfl K
theorem cj_of2 (d c s nn q dl tx sy T N fi m mm : Nat) (f : Nat → Int32) (W0 : xi_W) (G : Nat → Nat) (GS : Nat → Nat → Nat) (hc : cmx nn f q dl tx sy T N fi m mm G GS W0) (F : Nat → Nat) (h k : Nat) (hw : kw W0 23 F) (x : rx G F 54 h k) (r : xi_R → Prop) (K : r (some (.int (Int32.ofNat (lw_dig G h))), W0, c, s)) : xr (d + 5) 155 0 [(0, .ref 17), (1, .int (Int32.ofNat 2))] [] W0 c s r := by
  obtain ⟨lf, lp, hO⟩ := hc.o
  have hl := hc.l
  have hR := hc.R
  refine xr_stp rfl rfl rfl rfl ?_
  refine xr_stp (pc' := 54) rfl rfl rfl rfl ?_
  refine xr_stp rfl rfl rfl rfl ?_
  refine xr_getfield hO rfl rfl rfl rfl ?_
  refine xr_getfield (hw.w wb23 hl hR) rfl rfl rfl rfl ?_
  refine xr_stp (st' := .int (Int32.ofNat 54) :: _) rfl rfl rfl rfl ?_
  refine xr_vcps hw.2 rfl rfl rfl rfl rfl rfl (fun r1 K2 => rq_dig _ _ _ 23 W0 F G _ hw wb23 hl hR x r1 (K2 _ _ _ _ ?_))
  exact xr_ret rfl rfl K
theorem cj_of3 (d c s nn q dl tx sy T N fi m mm : Nat) (f : Nat → Int32) (W0 : xi_W) (G : Nat → Nat) (GS : Nat → Nat → Nat) (hc : cmx nn f q dl tx sy T N fi m mm G GS W0) (z : Nat) (hz : z = 3 ∨ z = 4294967295) (r : xi_R → Prop) (K : r (some (.int (Int32.ofNat 4294967295)), W0, c, s)) : xr (d + 5) 155 0 [(0, .ref 17), (1, .int (Int32.ofNat z))] [] W0 c s r := by
  rcases hz with rfl | rfl
  · refine xr_stp rfl rfl rfl rfl ?_
    refine xr_stp (pc' := 67) rfl rfl rfl rfl ?_
    refine xr_stp (st' := .int (Int32.ofNat 4294967295) :: _) rfl rfl rfl rfl ?_
    exact xr_ret rfl rfl K
  · refine xr_stp rfl rfl rfl rfl ?_
    refine xr_stp (pc' := 67) rfl rfl rfl rfl ?_
    refine xr_stp (st' := .int (Int32.ofNat 4294967295) :: _) rfl rfl rfl rfl ?_
    exact xr_ret rfl rfl K
/-- 'below' -/
theorem cq_bel (d c s nn q dl tx sy T N fi m mm : Nat) (f : Nat → Int32) (W0 : xi_W) (G : Nat → Nat) (GS : Nat → Nat → Nat) (hc : cmx nn f q dl tx sy T N fi m mm G GS W0) (t u : Nat) (ht : t < 4) (hu : u < 4) (r : xi_R → Prop) (K : ∀ W' v, cmx nn f q dl tx sy T N fi m mm G GS W' → fr pq W0 W' → v < 2 → (v = 1 ↔ (lw_j (G (330 + 2 * t)) (G (331 + 2 * t)) (G (330 + 2 * u)) (G (331 + 2 * u))) = G (330 + 2 * u) ∧ G (331 + 2 * t) &&& (G (331 + 2 * u) ^^^ 18446744073709551615) = 0) → r (some (.int (Int32.ofNat v)), W', c, s)) : xr (d + 6) 125 0 [(0, .ref 17), (1, .int (Int32.ofNat t)), (2, .int (Int32.ofNat u))] [] W0 c s r := by
  obtain ⟨lf, lp, hO⟩ := hc.o
  obtain ⟨F, hw, hr⟩ := hc.w
  have hl := hc.l
  have hR := hc.R
  have J := hr.j
  refine xr_stp rfl rfl rfl rfl ?_
  refine xr_cps rfl rfl rfl (fun r1 K2 => cl_rep _ _ _ t _ (by omega) r1 (K2 _ _ _ _ ?_))
  refine xr_j1 rfl rfl rfl rfl rfl (fun h4 => ?_) (fun h4 => ?_)
  · have z4 := nt1_eq (by omega) h4
    exact (by omega)
  · refine xr_stp rfl rfl rfl rfl ?_
    refine xr_cps rfl rfl rfl (fun r1 K2 => cl_rep _ _ _ u _ (by omega) r1 (K2 _ _ _ _ ?_))
    refine xr_j1 rfl rfl rfl rfl rfl (fun h11 => ?_) (fun h11 => ?_)
    · refine xr_stp rfl rfl rfl rfl ?_
      refine xr_stp rfl rfl rfl rfl ?_
      refine xr_stp rfl rfl rfl rfl ?_
      refine xr_vcps hO rfl rfl rfl rfl rfl rfl (fun r1 K2 => cj_two _ _ _ nn q dl tx sy T N fi m mm f W0 G GS hc t u ht hu r1 (fun W1 F1 hw1 hf1 hr1 hx1 => K2 _ _ _ _ ?_))
      have hc1 := hc.scr hf1 hw1 hr1
      clear hw hr
      have hw := hw1
      have hr := hr1
      have hl := hc1.l
      have hR := hc1.R
      obtain ⟨lf, lp, hO⟩ := hc1.o
      refine xr_stp rfl rfl rfl rfl ?_
      refine xr_getfield hO rfl rfl rfl rfl ?_
      refine xr_getfield (hw.w wb23 hl hR) rfl rfl rfl rfl ?_
      refine xr_stp (st' := .int (Int32.ofNat 54) :: _) rfl rfl rfl rfl ?_
      refine xr_stp rfl rfl rfl rfl ?_
      refine xr_vcps hw.2 rfl rfl rfl rfl rfl rfl (fun r1 K2 => rq_lk _ _ _ 23 W1 F1 G _ hw wb23 hl hR hx1 (hr.xs hu) r1 (fun v hv ev => K2 _ _ _ _ ?_))
      refine xr_retb (by omega) rfl rfl (K W1 v hc1 (pq_k (krK hf1)) hv ?_)
      rw [ev, and_not0 (Nat.lt_trans (J.b _) (by decide))]
      exact and_congr Iff.rfl ⟨fun e => by rw [← e]; exact su.orl _ _, fun e => su.eq (su.or e (su.rf _)) (su.orr _ _)⟩
    · have z11 := nf1_ne (by omega) h11
      exact (by omega)
/-- 'join' -/
theorem cq_joi0 (d c s nn q dl tx sy T N fi m mm : Nat) (f : Nat → Int32) (W0 : xi_W) (G : Nat → Nat) (GS : Nat → Nat → Nat) (hc : cmx nn f q dl tx sy T N fi m mm G GS W0) (t u : Nat) (ht : t < 4) (hu : u < 4) (r : xi_R → Prop) (K : (∀ W', cmx nn f q dl tx sy T N fi m mm G GS W' → fr pq W0 W' → r (some (.int (Int32.ofNat (bc 63 (lw_j (G (330 + 2 * t)) (G (331 + 2 * t)) (G (330 + 2 * u)) (G (331 + 2 * u)))))), W', c, s))) : xr (d + 6) 126 0 [(0, .ref 17), (1, .int (Int32.ofNat t)), (2, .int (Int32.ofNat u)), (3, .int (Int32.ofNat 0))] [] W0 c s r := by
  obtain ⟨lf, lp, hO⟩ := hc.o
  obtain ⟨F, hw, hr⟩ := hc.w
  have hl := hc.l
  have hR := hc.R
  have J := hr.j
  refine xr_stp rfl rfl rfl rfl ?_
  refine xr_cps rfl rfl rfl (fun r1 K2 => cl_rep _ _ _ t _ (by omega) r1 (K2 _ _ _ _ ?_))
  refine xr_j1 rfl rfl rfl rfl rfl (fun h4 => ?_) (fun h4 => ?_)
  · have z4 := nt1_eq (by omega) h4
    exact (by omega)
  · refine xr_stp rfl rfl rfl rfl ?_
    refine xr_cps rfl rfl rfl (fun r1 K2 => cl_rep _ _ _ u _ (by omega) r1 (K2 _ _ _ _ ?_))
    refine xr_j1 rfl rfl rfl rfl rfl (fun h11 => ?_) (fun h11 => ?_)
    · refine xr_stp rfl rfl rfl rfl ?_
      refine xr_stp rfl rfl rfl rfl ?_
      refine xr_stp rfl rfl rfl rfl ?_
      refine xr_vcps hO rfl rfl rfl rfl rfl rfl (fun r1 K2 => cj_two _ _ _ nn q dl tx sy T N fi m mm f W0 G GS hc t u ht hu r1 (fun W1 F1 hw1 hf1 hr1 hx1 => K2 _ _ _ _ ?_))
      have hc1 := hc.scr hf1 hw1 hr1
      clear hw hr
      have hw := hw1
      have hr := hr1
      have hl := hc1.l
      have hR := hc1.R
      obtain ⟨lf, lp, hO⟩ := hc1.o
      refine xr_stp rfl rfl rfl rfl ?_
      refine xr_stp rfl rfl rfl rfl ?_
      refine xr_vcps hO rfl rfl rfl rfl rfl rfl (fun r1 K2 => cj_of0 _ _ _ nn q dl tx sy T N fi m mm f W1 G GS hc1 F1 (lw_j (G (330 + 2 * t)) (G (331 + 2 * t)) (G (330 + 2 * u)) (G (331 + 2 * u))) (G (331 + 2 * t) ||| G (331 + 2 * u)) hw hx1 r1 (K2 _ _ _ _ ?_))
      exact xr_ret rfl rfl (K W1 hc1 (pq_k (krK hf1)))
    · have z11 := nf1_ne (by omega) h11
      exact (by omega)
/-- 'join' -/
theorem cq_joi1 (d c s nn q dl tx sy T N fi m mm : Nat) (f : Nat → Int32) (W0 : xi_W) (G : Nat → Nat) (GS : Nat → Nat → Nat) (hc : cmx nn f q dl tx sy T N fi m mm G GS W0) (t u : Nat) (ht : t < 4) (hu : u < 4) (r : xi_R → Prop) (K : (∀ W', cmx nn f q dl tx sy T N fi m mm G GS W' → fr pq W0 W' → r (some (.int (Int32.ofNat (bc 63 (G (331 + 2 * t) ||| G (331 + 2 * u))))), W', c, s))) : xr (d + 6) 126 0 [(0, .ref 17), (1, .int (Int32.ofNat t)), (2, .int (Int32.ofNat u)), (3, .int (Int32.ofNat 1))] [] W0 c s r := by
  obtain ⟨lf, lp, hO⟩ := hc.o
  obtain ⟨F, hw, hr⟩ := hc.w
  have hl := hc.l
  have hR := hc.R
  have J := hr.j
  refine xr_stp rfl rfl rfl rfl ?_
  refine xr_cps rfl rfl rfl (fun r1 K2 => cl_rep _ _ _ t _ (by omega) r1 (K2 _ _ _ _ ?_))
  refine xr_j1 rfl rfl rfl rfl rfl (fun h4 => ?_) (fun h4 => ?_)
  · have z4 := nt1_eq (by omega) h4
    exact (by omega)
  · refine xr_stp rfl rfl rfl rfl ?_
    refine xr_cps rfl rfl rfl (fun r1 K2 => cl_rep _ _ _ u _ (by omega) r1 (K2 _ _ _ _ ?_))
    refine xr_j1 rfl rfl rfl rfl rfl (fun h11 => ?_) (fun h11 => ?_)
    · refine xr_stp rfl rfl rfl rfl ?_
      refine xr_stp rfl rfl rfl rfl ?_
      refine xr_stp rfl rfl rfl rfl ?_
      refine xr_vcps hO rfl rfl rfl rfl rfl rfl (fun r1 K2 => cj_two _ _ _ nn q dl tx sy T N fi m mm f W0 G GS hc t u ht hu r1 (fun W1 F1 hw1 hf1 hr1 hx1 => K2 _ _ _ _ ?_))
      have hc1 := hc.scr hf1 hw1 hr1
      clear hw hr
      have hw := hw1
      have hr := hr1
      have hl := hc1.l
      have hR := hc1.R
      obtain ⟨lf, lp, hO⟩ := hc1.o
      refine xr_stp rfl rfl rfl rfl ?_
      refine xr_stp rfl rfl rfl rfl ?_
      refine xr_vcps hO rfl rfl rfl rfl rfl rfl (fun r1 K2 => cj_of1 _ _ _ nn q dl tx sy T N fi m mm f W1 G GS hc1 F1 (lw_j (G (330 + 2 * t)) (G (331 + 2 * t)) (G (330 + 2 * u)) (G (331 + 2 * u))) (G (331 + 2 * t) ||| G (331 + 2 * u)) hw hx1 r1 (K2 _ _ _ _ ?_))
      exact xr_ret rfl rfl (K W1 hc1 (pq_k (krK hf1)))
    · have z11 := nf1_ne (by omega) h11
      exact (by omega)
/-- 'join' -/
theorem cq_joi2 (d c s nn q dl tx sy T N fi m mm : Nat) (f : Nat → Int32) (W0 : xi_W) (G : Nat → Nat) (GS : Nat → Nat → Nat) (hc : cmx nn f q dl tx sy T N fi m mm G GS W0) (t u : Nat) (ht : t < 4) (hu : u < 4) (r : xi_R → Prop) (K : (∀ W', cmx nn f q dl tx sy T N fi m mm G GS W' → fr pq W0 W' → r (some (.int (Int32.ofNat (lw_dig G (lw_j (G (330 + 2 * t)) (G (331 + 2 * t)) (G (330 + 2 * u)) (G (331 + 2 * u)))))), W', c, s))) : xr (d + 6) 126 0 [(0, .ref 17), (1, .int (Int32.ofNat t)), (2, .int (Int32.ofNat u)), (3, .int (Int32.ofNat 2))] [] W0 c s r := by
  obtain ⟨lf, lp, hO⟩ := hc.o
  obtain ⟨F, hw, hr⟩ := hc.w
  have hl := hc.l
  have hR := hc.R
  have J := hr.j
  refine xr_stp rfl rfl rfl rfl ?_
  refine xr_cps rfl rfl rfl (fun r1 K2 => cl_rep _ _ _ t _ (by omega) r1 (K2 _ _ _ _ ?_))
  refine xr_j1 rfl rfl rfl rfl rfl (fun h4 => ?_) (fun h4 => ?_)
  · have z4 := nt1_eq (by omega) h4
    exact (by omega)
  · refine xr_stp rfl rfl rfl rfl ?_
    refine xr_cps rfl rfl rfl (fun r1 K2 => cl_rep _ _ _ u _ (by omega) r1 (K2 _ _ _ _ ?_))
    refine xr_j1 rfl rfl rfl rfl rfl (fun h11 => ?_) (fun h11 => ?_)
    · refine xr_stp rfl rfl rfl rfl ?_
      refine xr_stp rfl rfl rfl rfl ?_
      refine xr_stp rfl rfl rfl rfl ?_
      refine xr_vcps hO rfl rfl rfl rfl rfl rfl (fun r1 K2 => cj_two _ _ _ nn q dl tx sy T N fi m mm f W0 G GS hc t u ht hu r1 (fun W1 F1 hw1 hf1 hr1 hx1 => K2 _ _ _ _ ?_))
      have hc1 := hc.scr hf1 hw1 hr1
      clear hw hr
      have hw := hw1
      have hr := hr1
      have hl := hc1.l
      have hR := hc1.R
      obtain ⟨lf, lp, hO⟩ := hc1.o
      refine xr_stp rfl rfl rfl rfl ?_
      refine xr_stp rfl rfl rfl rfl ?_
      refine xr_vcps hO rfl rfl rfl rfl rfl rfl (fun r1 K2 => cj_of2 _ _ _ nn q dl tx sy T N fi m mm f W1 G GS hc1 F1 (lw_j (G (330 + 2 * t)) (G (331 + 2 * t)) (G (330 + 2 * u)) (G (331 + 2 * u))) (G (331 + 2 * t) ||| G (331 + 2 * u)) hw hx1 r1 (K2 _ _ _ _ ?_))
      exact xr_ret rfl rfl (K W1 hc1 (pq_k (krK hf1)))
    · have z11 := nf1_ne (by omega) h11
      exact (by omega)
/-- 'all' -/
theorem cq_all0 (d c s nn q dl tx sy T N fi m mm : Nat) (f : Nat → Int32) (W0 : xi_W) (G : Nat → Nat) (GS : Nat → Nat → Nat) (hc : cmx nn f q dl tx sy T N fi m mm G GS W0) (r : xi_R → Prop) (K : (∀ W', cmx nn f q dl tx sy T N fi m mm G GS W' → fr pq W0 W' → r (some (.int (Int32.ofNat (bc 63 (aH G 4)))), W', c, s))) : xr (d + 6) 127 0 [(0, .ref 17), (1, .int (Int32.ofNat 0))] [] W0 c s r := by
  obtain ⟨lf, lp, hO⟩ := hc.o
  obtain ⟨F, hw, hr⟩ := hc.w
  have hl := hc.l
  have hR := hc.R
  have J := hr.j
  refine xr_stp rfl rfl rfl rfl ?_
  refine xr_vcps hO rfl rfl rfl rfl rfl rfl (fun r1 K2 => cj_all _ _ _ nn q dl tx sy T N fi m mm f W0 G GS hc r1 (fun W1 F1 hw1 hf1 hr1 hx1 => K2 _ _ _ _ ?_))
  have hc1 := hc.scr hf1 hw1 hr1
  clear hw hr
  have hw := hw1
  have hr := hr1
  have hl := hc1.l
  have hR := hc1.R
  obtain ⟨lf, lp, hO⟩ := hc1.o
  refine xr_stp rfl rfl rfl rfl ?_
  refine xr_stp rfl rfl rfl rfl ?_
  refine xr_vcps hO rfl rfl rfl rfl rfl rfl (fun r1 K2 => cj_of0 _ _ _ nn q dl tx sy T N fi m mm f W1 G GS hc1 F1 (aH G 4) (aK G 4) hw hx1 r1 (K2 _ _ _ _ ?_))
  exact xr_ret rfl rfl (K W1 hc1 (pq_k (krK hf1)))
/-- 'all' -/
theorem cq_all1 (d c s nn q dl tx sy T N fi m mm : Nat) (f : Nat → Int32) (W0 : xi_W) (G : Nat → Nat) (GS : Nat → Nat → Nat) (hc : cmx nn f q dl tx sy T N fi m mm G GS W0) (r : xi_R → Prop) (K : (∀ W', cmx nn f q dl tx sy T N fi m mm G GS W' → fr pq W0 W' → r (some (.int (Int32.ofNat (bc 63 (aK G 4)))), W', c, s))) : xr (d + 6) 127 0 [(0, .ref 17), (1, .int (Int32.ofNat 1))] [] W0 c s r := by
  obtain ⟨lf, lp, hO⟩ := hc.o
  obtain ⟨F, hw, hr⟩ := hc.w
  have hl := hc.l
  have hR := hc.R
  have J := hr.j
  refine xr_stp rfl rfl rfl rfl ?_
  refine xr_vcps hO rfl rfl rfl rfl rfl rfl (fun r1 K2 => cj_all _ _ _ nn q dl tx sy T N fi m mm f W0 G GS hc r1 (fun W1 F1 hw1 hf1 hr1 hx1 => K2 _ _ _ _ ?_))
  have hc1 := hc.scr hf1 hw1 hr1
  clear hw hr
  have hw := hw1
  have hr := hr1
  have hl := hc1.l
  have hR := hc1.R
  obtain ⟨lf, lp, hO⟩ := hc1.o
  refine xr_stp rfl rfl rfl rfl ?_
  refine xr_stp rfl rfl rfl rfl ?_
  refine xr_vcps hO rfl rfl rfl rfl rfl rfl (fun r1 K2 => cj_of1 _ _ _ nn q dl tx sy T N fi m mm f W1 G GS hc1 F1 (aH G 4) (aK G 4) hw hx1 r1 (K2 _ _ _ _ ?_))
  exact xr_ret rfl rfl (K W1 hc1 (pq_k (krK hf1)))
/-- 'all' -/
theorem cq_all2 (d c s nn q dl tx sy T N fi m mm : Nat) (f : Nat → Int32) (W0 : xi_W) (G : Nat → Nat) (GS : Nat → Nat → Nat) (hc : cmx nn f q dl tx sy T N fi m mm G GS W0) (r : xi_R → Prop) (K : (∀ W', cmx nn f q dl tx sy T N fi m mm G GS W' → fr pq W0 W' → r (some (.int (Int32.ofNat (lw_dig G (aH G 4)))), W', c, s))) : xr (d + 6) 127 0 [(0, .ref 17), (1, .int (Int32.ofNat 2))] [] W0 c s r := by
  obtain ⟨lf, lp, hO⟩ := hc.o
  obtain ⟨F, hw, hr⟩ := hc.w
  have hl := hc.l
  have hR := hc.R
  have J := hr.j
  refine xr_stp rfl rfl rfl rfl ?_
  refine xr_vcps hO rfl rfl rfl rfl rfl rfl (fun r1 K2 => cj_all _ _ _ nn q dl tx sy T N fi m mm f W0 G GS hc r1 (fun W1 F1 hw1 hf1 hr1 hx1 => K2 _ _ _ _ ?_))
  have hc1 := hc.scr hf1 hw1 hr1
  clear hw hr
  have hw := hw1
  have hr := hr1
  have hl := hc1.l
  have hR := hc1.R
  obtain ⟨lf, lp, hO⟩ := hc1.o
  refine xr_stp rfl rfl rfl rfl ?_
  refine xr_stp rfl rfl rfl rfl ?_
  refine xr_vcps hO rfl rfl rfl rfl rfl rfl (fun r1 K2 => cj_of2 _ _ _ nn q dl tx sy T N fi m mm f W1 G GS hc1 F1 (aH G 4) (aK G 4) hw hx1 r1 (K2 _ _ _ _ ?_))
  exact xr_ret rfl rfl (K W1 hc1 (pq_k (krK hf1)))
/-- 'all' -/
theorem cq_all3 (d c s nn q dl tx sy T N fi m mm : Nat) (f : Nat → Int32) (W0 : xi_W) (G : Nat → Nat) (GS : Nat → Nat → Nat) (hc : cmx nn f q dl tx sy T N fi m mm G GS W0) (r : xi_R → Prop) (K : (∀ W', cmx nn f q dl tx sy T N fi m mm G GS W' → fr pq W0 W' → r (some (.int (Int32.ofNat 4294967295)), W', c, s))) : xr (d + 6) 127 0 [(0, .ref 17), (1, .int (Int32.ofNat 3))] [] W0 c s r := by
  obtain ⟨lf, lp, hO⟩ := hc.o
  obtain ⟨F, hw, hr⟩ := hc.w
  have hl := hc.l
  have hR := hc.R
  have J := hr.j
  refine xr_stp rfl rfl rfl rfl ?_
  refine xr_vcps hO rfl rfl rfl rfl rfl rfl (fun r1 K2 => cj_all _ _ _ nn q dl tx sy T N fi m mm f W0 G GS hc r1 (fun W1 F1 hw1 hf1 hr1 hx1 => K2 _ _ _ _ ?_))
  have hc1 := hc.scr hf1 hw1 hr1
  clear hw hr
  have hw := hw1
  have hr := hr1
  have hl := hc1.l
  have hR := hc1.R
  obtain ⟨lf, lp, hO⟩ := hc1.o
  refine xr_stp rfl rfl rfl rfl ?_
  refine xr_stp rfl rfl rfl rfl ?_
  refine xr_vcps hO rfl rfl rfl rfl rfl rfl (fun r1 K2 => cj_of3 _ _ _ nn q dl tx sy T N fi m mm f W1 G GS hc1 3 (Or.inl rfl) r1 (K2 _ _ _ _ ?_))
  exact xr_ret rfl rfl (K W1 hc1 (pq_k (krK hf1)))
theorem aK_su {lo N : Nat} {G F : Nat → Nat} (h : RL lo N G F) {t : Nat} : ∀ n, t < n → su (G (331 + 2 * t)) (aK G n)
  | 0, z => by omega
  | n + 1, z => by
    unfold aK
    by_cases e : t = n
    · subst e; exact su.orr _ _
    · exact (aK_su h n (by omega)).tr (su.orl _ _)
theorem bc_sub {a b : Nat} (ha : a < 4611686018427387904) (h : su b a) : bc 63 a - bc 63 b = bc 63 (a &&& (b ^^^ 18446744073709551615)) ∧ bc 63 b ≤ bc 63 a := by
  have e := bc_disj 63 (a &&& (b ^^^ 18446744073709551615)) b (fun i hi z => by
    rw [an_tb ha] at z
    cases y : b.testBit i
    · rw [y] at z; exact absurd z.2 (by decide)
    · rw [y] at z; exact absurd z.1 (by cases a.testBit i <;> decide))
  have e2 : (a &&& (b ^^^ 18446744073709551615)) ||| b = a := by
    apply Nat.eq_of_testBit_eq
    intro i
    rw [Nat.testBit_or, an_tb ha]
    have := h i
    revert this
    cases a.testBit i <;> cases b.testBit i <;> simp
  rw [e2] at e
  omega
/-- what a row lacks of others' entries of a key -/
theorem of_spa {G : Nat → Nat} {h k o q : Nat} (hh : h < 4611686018427387904) (hk : k < 4611686018427387904) (ho : o < 4611686018427387904) : lw_of G (lw_j h k 0 (lw_of G o q 4294967295 (G 4) 0 0)) q 4294967295 (G 4) 0 0 = lw_of G h q 4294967295 (G 4) 0 0 &&& (lw_of G o q 4294967295 (G 4) 0 0 ^^^ 18446744073709551615) := by
  apply Nat.eq_of_testBit_eq
  intro i
  rw [Bool.eq_iff_iff, lw_cx_tb]
  have l1 : lw_of G h q 4294967295 (G 4) 0 0 < 4611686018427387904 ∨ True := Or.inr trivial
  unfold lw_j
  rw [Nat.and_zero, Nat.zero_and, Nat.or_zero, Nat.zero_or, an_tb hh]
  have e : ∀ x y : Nat, (x &&& (y ^^^ 18446744073709551615)).testBit i = true ↔ x.testBit i = true ∧ (y ^^^ 18446744073709551615).testBit i = true := fun x y => by rw [Nat.testBit_and, Bool.and_eq_true]
  rw [e, lw_cx_tb, Nat.testBit_xor]
  by_cases hi : i < 64
  · rw [tb_m64 hi, Bool.xor_true, Bool.and_eq_true]
    constructor
    · rintro ⟨a, ⟨b, b2⟩, c⟩; exact ⟨⟨a, b, c⟩, b2⟩
    · rintro ⟨⟨a, b, c⟩, b2⟩; exact ⟨a, ⟨b, b2⟩, c⟩
  · have z : h.testBit i = false := Nat.testBit_lt_two_pow (Nat.lt_of_lt_of_le hh (show 4611686018427387904 ≤ 2 ^ i from Nat.pow_le_pow_right (n := 2) (by omega) (show 62 ≤ i by omega)))
    rw [z]
    constructor
    · rintro ⟨a, b, c⟩; exact absurd b (by simp)
    · rintro ⟨⟨a, b, c⟩, b2⟩; exact absurd b (by decide)
/-- 'spared' -/
theorem cq_spa (d c s nn q dl tx sy T N fi m mm : Nat) (f : Nat → Int32) (W0 : xi_W) (G : Nat → Nat) (GS : Nat → Nat → Nat) (hc : cmx nn f q dl tx sy T N fi m mm G GS W0) (t u : Nat) (ht : t < 4) (hu : u < 4) (r : xi_R → Prop) (K : (∀ W', cmx nn f q dl tx sy T N fi m mm G GS W' → fr pq W0 W' → r (some (.int (Int32.ofNat (bc 63 (lw_of G (aH G 4) u 4294967295 (G 4) 0 0 &&& (lw_of G (G (330 + 2 * t)) u 4294967295 (G 4) 0 0 ^^^ 18446744073709551615))))), W', c, s))) : xr (d + 6) 130 0 [(0, .ref 17), (1, .int (Int32.ofNat t)), (2, .int (Int32.ofNat u))] [] W0 c s r := by
  obtain ⟨lf, lp, hO⟩ := hc.o
  obtain ⟨F, hw, hr⟩ := hc.w
  have hl := hc.l
  have hR := hc.R
  have J := hr.j
  refine xr_stp rfl rfl rfl rfl ?_
  refine xr_cps rfl rfl rfl (fun r1 K2 => cl_rep _ _ _ t _ (by omega) r1 (K2 _ _ _ _ ?_))
  refine xr_j1 rfl rfl rfl rfl rfl (fun h4 => ?_) (fun h4 => ?_)
  · have z4 := nt1_eq (by omega) h4
    exact (by omega)
  · refine xr_stp rfl rfl rfl rfl ?_
    refine xr_cps rfl rfl rfl (fun r1 K2 => cl_key _ _ _ u _ (by omega) r1 (K2 _ _ _ _ ?_))
    refine xr_j1 rfl rfl rfl rfl rfl (fun h11 => ?_) (fun h11 => ?_)
    · refine xr_stp rfl rfl rfl rfl ?_
      refine xr_vcps hO rfl rfl rfl rfl rfl rfl (fun r1 K2 => cj_all _ _ _ nn q dl tx sy T N fi m mm f W0 G GS hc r1 (fun W1 F1 hw1 hf1 hr1 hx1 => K2 _ _ _ _ ?_))
      have hc1 := hc.scr hf1 hw1 hr1
      clear hw hr
      have hw := hw1
      have hr := hr1
      have hl := hc1.l
      have hR := hc1.R
      obtain ⟨lf, lp, hO⟩ := hc1.o
      refine xr_stp rfl rfl rfl rfl ?_
      refine xr_getfield hO rfl rfl rfl rfl ?_
      refine xr_getfield (hw.w wb23 hl hR) rfl rfl rfl rfl ?_
      refine xr_stp (st' := .int (Int32.ofNat 53) :: _) rfl rfl rfl rfl ?_
      refine xr_stp rfl rfl rfl rfl ?_
      refine xr_stp rfl rfl rfl rfl ?_
      refine xr_stp (st' := .int (Int32.ofNat 4294967295) :: _) rfl rfl rfl rfl ?_
      refine xr_vcps hw.2 rfl rfl rfl rfl rfl rfl (fun r1 K2 => xr_kw hw (cn_gather (hw.B wb23 hl hR) _ F1 _ _ 53 t u 4294967295 (by omega) (by omega) (by omega) (by omega) (by omega) (hr.xs ht).ok) (fun W2 hw2 hf2 => K2 _ _ _ _ ?_))
      have x2 := (hr.xs ht).ga (Y := 53) (by omega) (by omega) u 4294967295 hu
      have x3 := hx1.keep (F' := cn_gat F1 53 t u 4294967295) (fun j z => cn_gato F1 53 t u 4294967295 (by omega))
      have hr2 := hr.scr (sc_ga (F := F1) t u 4294967295)
      have hc2 := hc1.scr hf2 hw2 hr2
      clear hw hr
      have hw := hw2
      have hr := hr2
      have hl := hc2.l
      have hR := hc2.R
      obtain ⟨lf, lp, hO⟩ := hc2.o
      refine xr_stp rfl rfl rfl rfl ?_
      refine xr_getfield hO rfl rfl rfl rfl ?_
      refine xr_getfield (hw.w wb23 hl hR) rfl rfl rfl rfl ?_
      refine xr_stp (st' := .int (Int32.ofNat 54) :: _) rfl rfl rfl rfl ?_
      refine xr_stp (st' := .int (Int32.ofNat 53) :: _) rfl rfl rfl rfl ?_
      refine xr_vcps hw.2 rfl rfl rfl rfl rfl rfl (fun r1 K2 => xr_kw hw (cn_merge (hw.B wb23 hl hR) _ _ _ _ 54 53 (by omega) (by omega)) (fun W3 hw3 hf3 => K2 _ _ _ _ ?_))
      have x4 := x3.mg x2 (by omega)
      have hr3 := hr.scr (sc_mg (F := cn_gat F1 53 t u 4294967295) 53)
      have hc3 := hc2.scr hf3 hw3 hr3
      clear hw hr
      have hw := hw3
      have hr := hr3
      have hl := hc3.l
      have hR := hc3.R
      obtain ⟨lf, lp, hO⟩ := hc3.o
      refine xr_stp rfl rfl rfl rfl ?_
      refine xr_getfield hO rfl rfl rfl rfl ?_
      refine xr_getfield (hw.w wb23 hl hR) rfl rfl rfl rfl ?_
      refine xr_stp (st' := .int (Int32.ofNat 54) :: _) rfl rfl rfl rfl ?_
      refine xr_stp rfl rfl rfl rfl ?_
      refine xr_stp (st' := .int (Int32.ofNat 4294967295) :: _) rfl rfl rfl rfl ?_
      refine xr_vcps hw.2 rfl rfl rfl rfl rfl rfl (fun r1 K2 => rq_many _ _ _ 23 W3 _ G _ hw wb23 hl hR x4 u 4294967295 hu (by omega) r1 (K2 _ _ _ _ ?_))
      rw [of_spa (lt62 J.e hx1.hk.1) (lt62 J.e hx1.hk.2) (J.b _)]
      exact xr_ret rfl rfl (K W3 hc3 (pq_k (krK (hf1.tr (hf2.tr hf3)))))
    · have z11 := nf1_ne (by omega) h11
      exact (by omega)
/-- 'behind' -/
theorem cq_beh (d c s nn q dl tx sy T N fi m mm : Nat) (f : Nat → Int32) (W0 : xi_W) (G : Nat → Nat) (GS : Nat → Nat → Nat) (hc : cmx nn f q dl tx sy T N fi m mm G GS W0) (t : Nat) (ht : t < 4) (r : xi_R → Prop) (K : (∀ W', cmx nn f q dl tx sy T N fi m mm G GS W' → fr pq W0 W' → r (some (.int (Int32.ofNat (bc 63 (aK G 4 &&& (G (331 + 2 * t) ^^^ 18446744073709551615))))), W', c, s))) : xr (d + 6) 136 0 [(0, .ref 17), (1, .int (Int32.ofNat t))] [] W0 c s r := by
  obtain ⟨lf, lp, hO⟩ := hc.o
  obtain ⟨F, hw, hr⟩ := hc.w
  have hl := hc.l
  have hR := hc.R
  have J := hr.j
  refine xr_stp rfl rfl rfl rfl ?_
  refine xr_cps rfl rfl rfl (fun r1 K2 => cl_rep _ _ _ t _ (by omega) r1 (K2 _ _ _ _ ?_))
  refine xr_j1 rfl rfl rfl rfl rfl (fun h4 => ?_) (fun h4 => ?_)
  · refine xr_stp rfl rfl rfl rfl ?_
    refine xr_vcps hO rfl rfl rfl rfl rfl rfl (fun r1 K2 => cj_all _ _ _ nn q dl tx sy T N fi m mm f W0 G GS hc r1 (fun W1 F1 hw1 hf1 hr1 hx1 => K2 _ _ _ _ ?_))
    have hc1 := hc.scr hf1 hw1 hr1
    clear hw hr
    have hw := hw1
    have hr := hr1
    have hl := hc1.l
    have hR := hc1.R
    obtain ⟨lf, lp, hO⟩ := hc1.o
    refine xr_stp rfl rfl rfl rfl ?_
    refine xr_getfield hO rfl rfl rfl rfl ?_
    refine xr_getfield (hw.w wb23 hl hR) rfl rfl rfl rfl ?_
    refine xr_stp (st' := .int (Int32.ofNat 54) :: _) rfl rfl rfl rfl ?_
    refine xr_vcps hw.2 rfl rfl rfl rfl rfl rfl (fun r1 K2 => rq_dots _ _ _ 23 W1 F1 G _ hw wb23 hl hR hx1 r1 (K2 _ _ _ _ ?_))
    refine xr_stp rfl rfl rfl rfl ?_
    refine xr_getfield hO rfl rfl rfl rfl ?_
    refine xr_getfield (hw.w wb23 hl hR) rfl rfl rfl rfl ?_
    refine xr_stp rfl rfl rfl rfl ?_
    refine xr_vcps hw.2 rfl rfl rfl rfl rfl rfl (fun r1 K2 => rq_dots _ _ _ 23 W1 F1 G _ hw wb23 hl hR (hr.xs ht) r1 (K2 _ _ _ _ ?_))
    have e1 := bc_sub (lt62 J.e hx1.hk.2) (aK_su hr (t := t) 4 (by omega))
    refine xs_sub (by omega) rfl ?_
    rw [e1.1]
    exact xr_ret rfl rfl (K W1 hc1 (pq_k (krK hf1)))
  · have z4 := nf1_ne (by omega) h4
    exact (by omega)
