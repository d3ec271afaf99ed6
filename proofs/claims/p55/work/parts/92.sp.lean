/-! what speaks, what was said, the rules told -/
theorem cmx.rin {nn : Nat} {f : Nat → Int32} {q dl tx sy T N fi m mm : Nat} {G : Nat → Nat} {GS : Nat → Nat → Nat} {W W' : xi_W} {F : Nat → Nat} (h : cmx nn f q dl tx sy T N fi m mm G GS W) (hw : kw W 23 F) (hr : RL (G 0 + 1) N G F) (hf : fr rin W W') (hs : rus W') : cmx nn f q dl tx sy T N fi m mm G GS W' ∧ kw W' 23 F := by
  have k : kw W' 23 F := hw.keep wb23 h.l hf (fun i h1 h2 z => by
    have z : i = 358 ∨ i = 359 := z
    omega)
  exact ⟨h.now (hf.weak (fun i _ z => Or.inr z)) k hs hr h.d (Nat.le_refl _), k⟩
theorem pq_r {W W' : xi_W} (h : fr rin W W') : fr pq W W' := h.weak (fun i _ z => by unfold rin at z; unfold pq; omega)
theorem cmx.ru {nn : Nat} {f : Nat → Int32} {q dl tx sy sy' T N fi m mm : Nat} {G : Nat → Nat} {GS : Nat → Nat → Nat} {W W' : xi_W} (h : cmx nn f q dl tx sy T N fi m mm G GS W) (hf : fr (fun i => i = 355 ∨ i = 357) W W') (hR : ruo W' tx (if q = 0 then 4294967295 else 0) dl sy') : cmx nn f q dl tx sy' T N fi m mm G GS W' := by
  obtain ⟨⟨b0, ⟨RD, b1, b2⟩, b3, b4, b5, b6, b7⟩, ⟨lf, lp, a2⟩, a3, ⟨WF, a4, a4b⟩, a5, ⟨F0, a6, a6b⟩, ⟨F3, a7⟩, a8, a9, a10, a11⟩ := h
  have hk : ∀ {b : Nat} {F : Nat → Nat}, kw W b F → wb b → b + 10 ≤ 355 → kw W' b F := fun {b F} hw hb h2 => hw.keep hb b0 hf (fun i z1 z2 z => by
    have z : i = 355 ∨ i = 357 := z
    omega)
  exact ⟨⟨Nat.le_trans b0 hf.1, ⟨RD, hf.at b1 (by omega), b2⟩, b3, b4, b5.keep hf (fun i hi z => by
    have z : i = 355 ∨ i = 357 := z
    omega), b6.keep hf (by omega) (by omega), hR⟩, ⟨lf, lp, hf.at a2 (by omega)⟩, hf.at a3 (by omega), ⟨WF, hf.at a4 (by omega), a4b⟩, a5, ⟨F0, hk a6 wb23 (by omega), a6b⟩, ⟨F3, hk a7 wb33 (by omega)⟩, fun i hi => by
    obtain ⟨F, c1, c2⟩ := a8 i hi
    exact ⟨F, hk c1 (wbS hi) (by omega), c2⟩, a9, a10, a11⟩
/-- 'speaks' -/
theorem cq_spe0 (d c s nn q dl tx sy T N fi m mm : Nat) (f : Nat → Int32) (W0 : xi_W) (G : Nat → Nat) (GS : Nat → Nat → Nat) (hc : cmx nn f q dl tx sy T N fi m mm G GS W0) (t u : Nat) (ht : t < 4) (hu : u < 4) (hne : t ≠ u) (hN : N < 90000) (h0 : lw_be G t u = 0) (r : xi_R → Prop) (K : (r (some (.int (Int32.ofNat 0)), W0, c, s))) : xr (d + 6) 140 0 [(0, .ref 17), (1, .int (Int32.ofNat t)), (2, .int (Int32.ofNat u))] [] W0 c s r := by
  obtain ⟨lf, lp, hO⟩ := hc.o
  obtain ⟨F, hw, hr⟩ := hc.w
  have hl := hc.l
  have hR := hc.R
  have J := hr.j
  have C := hr.1.2.2.2.2.1 t ht
  have hJc := J.c t ht
  have hJa := J.a t u ht hu
  have c2 := C.2.2 u hu
  have hne : t ≠ u := hne
  refine xr_stp rfl rfl rfl rfl ?_
  refine xr_stp rfl rfl rfl rfl ?_
  refine xr_cps rfl rfl rfl (fun r1 K2 => cl_pair _ _ _ t u _ (by omega) (by omega) hne r1 (K2 _ _ _ _ ?_))
  refine xr_j1 rfl rfl rfl rfl rfl (fun h5 => ?_) (fun h5 => ?_)
  · have z5 := nt1_eq (by omega) h5
    exact (by omega)
  · refine xr_stp rfl rfl rfl rfl ?_
    refine xr_getfield hO rfl rfl rfl rfl ?_
    refine xr_stp rfl rfl rfl rfl ?_
    refine xr_stp rfl rfl rfl rfl ?_
    refine xr_vcps (hw.w wb23 hl hR) rfl rfl rfl rfl rfl rfl (fun r1 K2 => xr_kw0 hw (cn_hasNews (hw.B wb23 hl hR) _ F _ _ t u ht hu (by rw [c2, C.1]; exact hJa) (by rw [C.1]; omega)) (K2 _ _ _ _ ?_))
    rw [c2, C.1, if_neg (show ¬ G (346 + 4 * t + u) < G (338 + t) by unfold lw_be at h0; omega)]
    refine xr_j1 rfl rfl rfl rfl rfl (fun h17 => ?_) (fun h17 => ?_)
    · have z17 := nt1_ne h17
      exact (by omega)
    · refine xr_stp (st' := .int (Int32.ofNat 0) :: _) rfl rfl rfl rfl ?_
      exact xr_retb (by omega) rfl rfl K
theorem cq_spe1_0 (d c s nn q dl tx sy T N fi m mm : Nat) (f : Nat → Int32) (W0 : xi_W) (G : Nat → Nat) (GS : Nat → Nat → Nat) (hc : cmx nn f q dl tx sy T N fi m mm G GS W0) (t u : Nat) (ht : t < 4) (hu : u < 4) (hne : t ≠ u) (hq : q = 0) (hN : N < 90000) (h0 : lw_be G t u ≠ 0) (r : xi_R → Prop) (K : (∀ W', cmx nn f q dl tx sy T N fi m mm G GS W' → fr pq W0 W' → r (some (.int (Int32.ofNat (lw_sp nn f G q t u (lw_be G t u)))), W', c, s))) : xr (d + 6) 140 0 [(0, .ref 17), (1, .int (Int32.ofNat t)), (2, .int (Int32.ofNat u))] [] W0 c s r := by
  subst hq
  obtain ⟨⟨b0, ⟨RD, rd1, rd2⟩, htx, htx4, _⟩, _⟩ := id hc
  obtain ⟨lf, lp, hO⟩ := hc.o
  obtain ⟨F, hw, hr⟩ := hc.w
  have hl := hc.l
  have hR := hc.R
  have hR : ruo W0 tx 4294967295 dl sy := hR
  have J := hr.j
  have C := hr.1.2.2.2.2.1 t ht
  have hJc := J.c t ht
  have hJa := J.a t u ht hu
  have c2 := C.2.2 u hu
  have hne : t ≠ u := hne
  refine xr_stp rfl rfl rfl rfl ?_
  refine xr_stp rfl rfl rfl rfl ?_
  refine xr_cps rfl rfl rfl (fun r1 K2 => cl_pair _ _ _ t u _ (by omega) (by omega) hne r1 (K2 _ _ _ _ ?_))
  refine xr_j1 rfl rfl rfl rfl rfl (fun h5 => ?_) (fun h5 => ?_)
  · have z5 := nt1_eq (by omega) h5
    exact (by omega)
  · refine xr_stp rfl rfl rfl rfl ?_
    refine xr_getfield hO rfl rfl rfl rfl ?_
    refine xr_stp rfl rfl rfl rfl ?_
    refine xr_stp rfl rfl rfl rfl ?_
    refine xr_vcps (hw.w wb23 hl hR) rfl rfl rfl rfl rfl rfl (fun r1 K2 => xr_kw0 hw (cn_hasNews (hw.B wb23 hl hR) _ F _ _ t u ht hu (by rw [c2, C.1]; exact hJa) (by rw [C.1]; omega)) (K2 _ _ _ _ ?_))
    rw [c2, C.1, if_pos (show G (346 + 4 * t + u) < G (338 + t) by unfold lw_be at h0; omega)]
    refine xr_j1 rfl rfl rfl rfl rfl (fun h17 => ?_) (fun h17 => ?_)
    · refine xr_stp rfl rfl rfl rfl ?_
      refine xr_getfield hO rfl rfl rfl rfl ?_
      refine xr_stp rfl rfl rfl rfl ?_
      refine xr_getfield hO rfl rfl rfl rfl ?_
      refine xr_stp rfl rfl rfl rfl ?_
      refine xr_getfield hO rfl rfl rfl rfl ?_
      refine xr_getfield hR rfl rfl rfl rfl ?_
      refine xr_vcps hR rfl rfl rfl rfl rfl rfl (fun r1 K2 => ru_num0 _ _ _ W0 r1 (K2 _ _ _ _ ?_))
      refine xr_stp rfl rfl rfl rfl ?_
      refine xr_getfield hO rfl rfl rfl rfl ?_
      refine xr_stp rfl rfl rfl rfl ?_
      refine xr_stp rfl rfl rfl rfl ?_
      refine xr_stp rfl rfl rfl rfl ?_
      refine xr_getfield hO rfl rfl rfl rfl ?_
      refine xr_stp rfl rfl rfl rfl ?_
      refine xr_stp rfl rfl rfl rfl ?_
      refine xr_vcps (hw.w wb23 hl hR) rfl rfl rfl rfl rfl rfl (fun r1 K2 => xr_kw0 hw (cn_lag (hw.B wb23 hl hR) _ F _ _ t u ht hu (by rw [c2, C.1]; exact hJa)) (K2 _ _ _ _ ?_))
      rw [c2, C.1]
      refine xr_vcps hR rfl rfl rfl rfl rfl rfl (fun r1 K2 => po_lets (d := d + 2) hw wb23 hc.ok hr.1 (by first | exact Or.inl ⟨rfl, rfl⟩ | exact Or.inr ⟨rfl, rfl⟩) ht hu (by omega) r1 (fun W2 hs2 hf2 => K2 _ _ _ _ ?_))
      obtain ⟨hc2, hw2⟩ := hc.rin hw hr hf2 hs2
      exact xr_retb (by have := lw_sple nn f G 0 t u (lw_be G t u); unfold lw_be at this; omega) rfl rfl (K W2 hc2 (pq_r hf2))
    · have z17 := nf1_ne (by omega) h17
      exact (by omega)
theorem cq_spe1_1 (d c s nn q dl tx sy T N fi m mm : Nat) (f : Nat → Int32) (W0 : xi_W) (G : Nat → Nat) (GS : Nat → Nat → Nat) (hc : cmx nn f q dl tx sy T N fi m mm G GS W0) (t u : Nat) (ht : t < 4) (hu : u < 4) (hne : t ≠ u) (hq : q = 1) (hN : N < 90000) (h0 : lw_be G t u ≠ 0) (r : xi_R → Prop) (K : (∀ W', cmx nn f q dl tx sy T N fi m mm G GS W' → fr pq W0 W' → r (some (.int (Int32.ofNat (lw_sp nn f G q t u (lw_be G t u)))), W', c, s))) : xr (d + 6) 140 0 [(0, .ref 17), (1, .int (Int32.ofNat t)), (2, .int (Int32.ofNat u))] [] W0 c s r := by
  subst hq
  obtain ⟨⟨b0, ⟨RD, rd1, rd2⟩, htx, htx4, _⟩, _⟩ := id hc
  obtain ⟨lf, lp, hO⟩ := hc.o
  obtain ⟨F, hw, hr⟩ := hc.w
  have hl := hc.l
  have hR := hc.R
  have hR : ruo W0 tx 0 dl sy := hR
  have J := hr.j
  have C := hr.1.2.2.2.2.1 t ht
  have hJc := J.c t ht
  have hJa := J.a t u ht hu
  have c2 := C.2.2 u hu
  have hne : t ≠ u := hne
  refine xr_stp rfl rfl rfl rfl ?_
  refine xr_stp rfl rfl rfl rfl ?_
  refine xr_cps rfl rfl rfl (fun r1 K2 => cl_pair _ _ _ t u _ (by omega) (by omega) hne r1 (K2 _ _ _ _ ?_))
  refine xr_j1 rfl rfl rfl rfl rfl (fun h5 => ?_) (fun h5 => ?_)
  · have z5 := nt1_eq (by omega) h5
    exact (by omega)
  · refine xr_stp rfl rfl rfl rfl ?_
    refine xr_getfield hO rfl rfl rfl rfl ?_
    refine xr_stp rfl rfl rfl rfl ?_
    refine xr_stp rfl rfl rfl rfl ?_
    refine xr_vcps (hw.w wb23 hl hR) rfl rfl rfl rfl rfl rfl (fun r1 K2 => xr_kw0 hw (cn_hasNews (hw.B wb23 hl hR) _ F _ _ t u ht hu (by rw [c2, C.1]; exact hJa) (by rw [C.1]; omega)) (K2 _ _ _ _ ?_))
    rw [c2, C.1, if_pos (show G (346 + 4 * t + u) < G (338 + t) by unfold lw_be at h0; omega)]
    refine xr_j1 rfl rfl rfl rfl rfl (fun h17 => ?_) (fun h17 => ?_)
    · refine xr_stp rfl rfl rfl rfl ?_
      refine xr_getfield hO rfl rfl rfl rfl ?_
      refine xr_stp rfl rfl rfl rfl ?_
      refine xr_getfield hO rfl rfl rfl rfl ?_
      refine xr_stp rfl rfl rfl rfl ?_
      refine xr_getfield hO rfl rfl rfl rfl ?_
      refine xr_getfield hR rfl rfl rfl rfl ?_
      refine xr_vcps hR rfl rfl rfl rfl rfl rfl (fun r1 K2 => ru_num1 _ _ _ 0 tx 0 dl sy T W0 RD hR rd1 rd2 (by omega) htx htx4 r1 (K2 _ _ _ _ ?_))
      refine xr_stp rfl rfl rfl rfl ?_
      refine xr_getfield hO rfl rfl rfl rfl ?_
      refine xr_stp rfl rfl rfl rfl ?_
      refine xr_stp rfl rfl rfl rfl ?_
      refine xr_stp rfl rfl rfl rfl ?_
      refine xr_getfield hO rfl rfl rfl rfl ?_
      refine xr_stp rfl rfl rfl rfl ?_
      refine xr_stp rfl rfl rfl rfl ?_
      refine xr_vcps (hw.w wb23 hl hR) rfl rfl rfl rfl rfl rfl (fun r1 K2 => xr_kw0 hw (cn_lag (hw.B wb23 hl hR) _ F _ _ t u ht hu (by rw [c2, C.1]; exact hJa)) (K2 _ _ _ _ ?_))
      rw [c2, C.1]
      refine xr_vcps hR rfl rfl rfl rfl rfl rfl (fun r1 K2 => po_lets (d := d + 2) hw wb23 hc.ok hr.1 (by first | exact Or.inl ⟨rfl, rfl⟩ | exact Or.inr ⟨rfl, rfl⟩) ht hu (by omega) r1 (fun W2 hs2 hf2 => K2 _ _ _ _ ?_))
      obtain ⟨hc2, hw2⟩ := hc.rin hw hr hf2 hs2
      exact xr_retb (by have := lw_sple nn f G 1 t u (lw_be G t u); unfold lw_be at this; omega) rfl rfl (K W2 hc2 (pq_r hf2))
    · have z17 := nf1_ne (by omega) h17
      exact (by omega)
theorem cq_spe1 (d c s nn q dl tx sy T N fi m mm : Nat) (f : Nat → Int32) (W0 : xi_W) (G : Nat → Nat) (GS : Nat → Nat → Nat) (hc : cmx nn f q dl tx sy T N fi m mm G GS W0) (t u : Nat) (ht : t < 4) (hu : u < 4) (hne : t ≠ u) (hN : N < 90000) (h0 : lw_be G t u ≠ 0) (r : xi_R → Prop) (K : (∀ W', cmx nn f q dl tx sy T N fi m mm G GS W' → fr pq W0 W' → r (some (.int (Int32.ofNat (lw_sp nn f G q t u (lw_be G t u)))), W', c, s))) : xr (d + 6) 140 0 [(0, .ref 17), (1, .int (Int32.ofNat t)), (2, .int (Int32.ofNat u))] [] W0 c s r := by
  have hq := hc.q
  have e : q = 0 ∨ q = 1 := by omega
  rcases e with e | e
  · exact cq_spe1_0 d c s nn q dl tx sy T N fi m mm f W0 G GS hc t u ht hu hne e hN h0 r K
  · exact cq_spe1_1 d c s nn q dl tx sy T N fi m mm f W0 G GS hc t u ht hu hne e hN h0 r K
theorem cs_say (d c s tx ru dl sy t u b v : Nat) (TD : Nat → Nat) (W0 : xi_W) (hR : ruo W0 tx ru dl sy) (hT : W0[357]? = some (lw_i 32 TD)) (hsy : sy < 8) (r : xi_R → Prop) (K : ∀ W', ruo W' tx ru dl (sy + 1) → W'[357]? = some (lw_i 32 (xn_u (xn_u (xn_u (xn_u TD (sy * 4) t) (sy * 4 + 1) u) (sy * 4 + 2) b) (sy * 4 + 3) v)) → fr (fun i => i = 355 ∨ i = 357) W0 W' → r (some (.int (Int32.ofNat (sy + 1))), W', c, s)) : xr d 56 0 [(0, .ref 355), (1, .int (Int32.ofNat t)), (2, .int (Int32.ofNat u)), (3, .int (Int32.ofNat b)), (4, .int (Int32.ofNat v))] [] W0 c s r := by
  have hF : fr (fun i => i = 355 ∨ i = 357) W0 W0 := fr.rf
  refine xr_stp rfl rfl rfl rfl ?_
  refine xr_getfield hR rfl rfl rfl rfl ?_
  refine xr_stp (st' := .int (Int32.ofNat 8) :: _) rfl rfl rfl rfl ?_
  refine xr_j2 rfl rfl rfl rfl rfl (fun h6 => ?_) (fun h6 => ?_)
  · refine xr_stp rfl rfl rfl rfl ?_
    refine xr_getfield hR rfl rfl rfl rfl ?_
    refine xr_stp (st' := .int (Int32.ofNat 4) :: _) rfl rfl rfl rfl ?_
    refine xs_mul rfl ?_
    refine xr_stp rfl rfl rfl rfl ?_
    refine xr_stp rfl rfl rfl rfl ?_
    refine xr_getfield hR rfl rfl rfl rfl ?_
    refine xr_stp rfl rfl rfl rfl ?_
    refine xr_stp rfl rfl rfl rfl ?_
    refine xs_istk hT (by omega) (by omega) (by omega) rfl (fun W hT hf1 => ?_)
    have hR := hf1.at hR (by omega)
    have hF := hF.tr2 hf1 (fun _ e => Or.inl (Or.inr e))
    refine xr_stp rfl rfl rfl rfl ?_
    refine xr_getfield hR rfl rfl rfl rfl ?_
    refine xr_stp rfl rfl rfl rfl ?_
    refine xr_stp (st' := .int (Int32.ofNat 1) :: _) rfl rfl rfl rfl ?_
    refine xs_add rfl ?_
    refine xr_stp rfl rfl rfl rfl ?_
    refine xs_istk hT (by omega) (by omega) (by omega) rfl (fun W hT hf1 => ?_)
    have hR := hf1.at hR (by omega)
    have hF := hF.tr2 hf1 (fun _ e => Or.inl (Or.inr e))
    refine xr_stp rfl rfl rfl rfl ?_
    refine xr_getfield hR rfl rfl rfl rfl ?_
    refine xr_stp rfl rfl rfl rfl ?_
    refine xr_stp (st' := .int (Int32.ofNat 2) :: _) rfl rfl rfl rfl ?_
    refine xs_add rfl ?_
    refine xr_stp rfl rfl rfl rfl ?_
    refine xs_istk hT (by omega) (by omega) (by omega) rfl (fun W hT hf1 => ?_)
    have hR := hf1.at hR (by omega)
    have hF := hF.tr2 hf1 (fun _ e => Or.inl (Or.inr e))
    refine xr_stp rfl rfl rfl rfl ?_
    refine xr_getfield hR rfl rfl rfl rfl ?_
    refine xr_stp rfl rfl rfl rfl ?_
    refine xr_stp (st' := .int (Int32.ofNat 3) :: _) rfl rfl rfl rfl ?_
    refine xs_add rfl ?_
    refine xr_stp rfl rfl rfl rfl ?_
    refine xs_istk hT (by omega) (by omega) (by omega) rfl (fun W hT hf1 => ?_)
    have hR := hf1.at hR (by omega)
    have hF := hF.tr2 hf1 (fun _ e => Or.inl (Or.inr e))
    refine xr_stp rfl rfl rfl rfl ?_
    refine xr_stp rfl rfl rfl rfl ?_
    refine xr_getfield hR rfl rfl rfl rfl ?_
    refine xr_stp (st' := .int (Int32.ofNat 1) :: _) rfl rfl rfl rfl ?_
    refine xs_add rfl ?_
    refine xr_putk hR (by omega) rfl rfl rfl rfl rfl rfl (fun W hR hf1 => ?_)
    have hT := hf1.at hT (by omega)
    have hF := hF.tr2 hf1 (fun _ e => Or.inl (Or.inl e))
    refine xr_stp rfl rfl rfl rfl ?_
    refine xr_getfield hR rfl rfl rfl rfl ?_
    exact xr_ret rfl rfl (K W hR hT hF)
  · have z6 := nf_lt (by omega) (by omega) h6
    exact (by omega)
/-- 'said' -/
theorem cq_sai (d c s nn q dl tx sy T N fi m mm : Nat) (f : Nat → Int32) (W0 : xi_W) (G : Nat → Nat) (GS : Nat → Nat → Nat) (hc : cmx nn f q dl tx sy T N fi m mm G GS W0) (t u b v : Nat) (ht : t < 4) (hu : u < 4) (hne : t ≠ u) (hb : b < 100) (hv : v < 2) (TD : Nat → Nat) (hT : W0[357]? = some (lw_i 32 TD)) (hsy : sy < 8) (r : xi_R → Prop) (K : ∀ W', cmx nn f q dl tx (sy + 1) T N fi m mm G GS W' → W'[357]? = some (lw_i 32 (xn_u (xn_u (xn_u (xn_u TD (sy * 4) t) (sy * 4 + 1) u) (sy * 4 + 2) b) (sy * 4 + 3) v)) → fr (fun i => i = 355 ∨ i = 357) W0 W' → r (some (.int (Int32.ofNat (sy + 1))), W', c, s)) : xr (d + 6) 141 0 [(0, .ref 17), (1, .int (Int32.ofNat t)), (2, .int (Int32.ofNat u)), (3, .int (Int32.ofNat b)), (4, .int (Int32.ofNat v))] [] W0 c s r := by
  obtain ⟨lf, lp, hO⟩ := hc.o
  obtain ⟨F, hw, hr⟩ := hc.w
  have hl := hc.l
  have hR := hc.R
  have J := hr.j
  refine xr_stp rfl rfl rfl rfl ?_
  refine xr_stp (st' := .int (Int32.ofNat 4294967295) :: _) rfl rfl rfl rfl ?_
  refine xr_j2 rfl rfl rfl rfl rfl (fun h2 => ?_) (fun h2 => ?_)
  · refine xr_stp rfl rfl rfl rfl ?_
    refine xr_stp rfl rfl rfl rfl ?_
    refine xr_cps rfl rfl rfl (fun r1 K2 => cl_pair _ _ _ t u _ (by omega) (by omega) hne r1 (K2 _ _ _ _ ?_))
    refine xr_j1 rfl rfl rfl rfl rfl (fun h20 => ?_) (fun h20 => ?_)
    · have z20 := nt1_eq (by omega) h20
      exact (by omega)
    · refine xr_stp rfl rfl rfl rfl ?_
      refine xr_j1 rfl rfl rfl rfl rfl (fun h24 => ?_) (fun h24 => ?_)
      · have z24 := n_lt0 h24
        exact (by omega)
      · refine xr_stp rfl rfl rfl rfl ?_
        refine xr_stp (st' := .int (Int32.ofNat 99) :: _) rfl rfl rfl rfl ?_
        refine xr_j2 rfl rfl rfl rfl rfl (fun h30 => ?_) (fun h30 => ?_)
        · have z30 := nt_gt (by omega) (by omega) h30
          exact (by omega)
        · refine xr_stp rfl rfl rfl rfl ?_
          refine xr_j1 rfl rfl rfl rfl rfl (fun h35 => ?_) (fun h35 => ?_)
          · have z35 := n_lt0 h35
            exact (by omega)
          · refine xr_stp rfl rfl rfl rfl ?_
            refine xr_stp (st' := .int (Int32.ofNat 1) :: _) rfl rfl rfl rfl ?_
            refine xr_j2 rfl rfl rfl rfl rfl (fun h41 => ?_) (fun h41 => ?_)
            · refine xr_stp rfl rfl rfl rfl ?_
              refine xr_getfield hO rfl rfl rfl rfl ?_
              refine xr_stp rfl rfl rfl rfl ?_
              refine xr_stp rfl rfl rfl rfl ?_
              refine xr_stp rfl rfl rfl rfl ?_
              refine xr_stp rfl rfl rfl rfl ?_
              refine xr_vcps hR rfl rfl rfl rfl rfl rfl (fun r1 K2 => cs_say _ _ _ tx _ dl sy t u b v TD W0 hR hT hsy r1 (fun W1 hR1 hT1 hf1 => K2 _ _ _ _ ?_))
              exact xr_ret rfl rfl (K W1 (hc.ru hf1 hR1) hT1 hf1)
            · have z41 := nf_le (by omega) (by omega) h41
              exact (by omega)
  · have z2 := nf_ne (by omega) (by omega) h2
    exact (by omega)
theorem cq_sai0 (d c s tx ru dl sy : Nat) (W0 : xi_W) (lf lp : Int32) (hO : W0[17]? = some (.inr (6, [.ref 18, .int lf, .int lp, .ref 23, .ref 33, .ref 43, .ref 355, .ref 360, .ref 370, .ref 682]))) (hR : ruo W0 tx ru dl sy) (u b v : Nat) (r : xi_R → Prop) (K : ∀ W', ruo W' tx ru dl 0 → fr (fun i => i = 355) W0 W' → r (some (.int (Int32.ofNat 0)), W', c, s)) : xr d 141 0 [(0, .ref 17), (1, .int (Int32.ofNat 4294967295)), (2, .int (Int32.ofNat u)), (3, .int (Int32.ofNat b)), (4, .int (Int32.ofNat v))] [] W0 c s r := by
  have hF : fr (fun i => i = 355) W0 W0 := fr.rf
  refine xr_stp rfl rfl rfl rfl ?_
  refine xr_stp (st' := .int (Int32.ofNat 4294967295) :: _) rfl rfl rfl rfl ?_
  refine xr_j2 rfl rfl rfl rfl rfl (fun h2 => ?_) (fun h2 => ?_)
  · have z2 := nt_ne h2
    exact (by omega)
  · refine xr_stp rfl rfl rfl rfl ?_
    refine xr_getfield hO rfl rfl rfl rfl ?_
    refine xr_stp (st' := .int (Int32.ofNat 0) :: _) rfl rfl rfl rfl ?_
    refine xr_putk hR (by omega) rfl rfl rfl rfl rfl rfl (fun W hR hf1 => ?_)
    have hO := hf1.at hO (by omega)
    have hF := hF.tr2 hf1 (fun _ e => Or.inl e)
    refine xr_stp (st' := .int (Int32.ofNat 0) :: _) rfl rfl rfl rfl ?_
    exact xr_ret rfl rfl (K W hR hF)
theorem cq_byN (d c s tx ru dl sy : Nat) (W0 : xi_W) (lf lp : Int32) (hO : W0[17]? = some (.inr (6, [.ref 18, .int lf, .int lp, .ref 23, .ref 33, .ref 43, .ref 355, .ref 360, .ref 370, .ref 682]))) (hR : ruo W0 tx ru dl sy) (r : xi_R → Prop) (K : ∀ W', ruo W' tx 4294967295 dl sy → fr (fun i => i = 355) W0 W' → r (some (.int (Int32.ofNat 1)), W', c, s)) : xr d 99 0 [(0, .ref 17), (1, .int (Int32.ofNat 4294967295))] [] W0 c s r := by
  have hF : fr (fun i => i = 355) W0 W0 := fr.rf
  refine xr_stp rfl rfl rfl rfl ?_
  refine xr_stp (st' := .int (Int32.ofNat 4294967295) :: _) rfl rfl rfl rfl ?_
  refine xr_j2 rfl rfl rfl rfl rfl (fun h2 => ?_) (fun h2 => ?_)
  · refine xr_stp rfl rfl rfl rfl ?_
    refine xr_getfield hO rfl rfl rfl rfl ?_
    refine xr_stp rfl rfl rfl rfl ?_
    refine xr_putk hR (by omega) rfl rfl rfl rfl rfl rfl (fun W hR hf1 => ?_)
    have hO := hf1.at hO (by omega)
    have hF := hF.tr2 hf1 (fun _ e => Or.inl e)
    refine xr_stp (st' := .int (Int32.ofNat 1) :: _) rfl rfl rfl rfl ?_
    exact xr_retb (by omega) rfl rfl (K W hR hF)
  · have z2 := nf_eq h2
    exact (by omega)
theorem cq_by0 (d c s tx ru dl sy : Nat) (W0 : xi_W) (lf lp : Int32) (hO : W0[17]? = some (.inr (6, [.ref 18, .int lf, .int lp, .ref 23, .ref 33, .ref 43, .ref 355, .ref 360, .ref 370, .ref 682]))) (hR : ruo W0 tx ru dl sy) (RD : Nat → Option Nat) (T : Nat) (rd1 : rud W0 RD) (rd2 : RD 0 = some T) (htx : 0 < tx) (htx4 : tx ≤ 4) (r : xi_R → Prop) (K : ∀ W', ruo W' tx 0 dl sy → fr (fun i => i = 355) W0 W' → r (some (.int (Int32.ofNat 1)), W', c, s)) : xr (d + 1) 99 0 [(0, .ref 17), (1, .int (Int32.ofNat 0))] [] W0 c s r := by
  have hF : fr (fun i => i = 355) W0 W0 := fr.rf
  refine xr_stp rfl rfl rfl rfl ?_
  refine xr_stp (st' := .int (Int32.ofNat 4294967295) :: _) rfl rfl rfl rfl ?_
  refine xr_j2 rfl rfl rfl rfl rfl (fun h2 => ?_) (fun h2 => ?_)
  · have z2 := nt_eq (by omega) (by omega) h2
    exact (by omega)
  · refine xr_stp rfl rfl rfl rfl ?_
    refine xr_getfield hO rfl rfl rfl rfl ?_
    refine xr_stp rfl rfl rfl rfl ?_
    refine xr_vcps hR rfl rfl rfl rfl rfl rfl (fun r1 K2 => ru_num1 _ _ _ 0 tx _ dl sy T W0 RD hR rd1 rd2 (by omega) htx htx4 r1 (K2 _ _ _ _ ?_))
    refine xr_stp rfl rfl rfl rfl ?_
    refine xr_stp rfl rfl rfl rfl ?_
    refine xr_getfield hO rfl rfl rfl rfl ?_
    refine xr_stp rfl rfl rfl rfl ?_
    refine xr_putk hR (by omega) rfl rfl rfl rfl rfl rfl (fun W hR hf1 => ?_)
    have hO := hf1.at hO (by omega)
    have hF := hF.tr2 hf1 (fun _ e => Or.inl e)
    refine xr_stp (st' := .int (Int32.ofNat 1) :: _) rfl rfl rfl rfl ?_
    exact xr_retb (by omega) rfl rfl (K W hR hF)
theorem cq_dly (d c s tx ru dl sy : Nat) (W0 : xi_W) (lf lp : Int32) (hO : W0[17]? = some (.inr (6, [.ref 18, .int lf, .int lp, .ref 23, .ref 33, .ref 43, .ref 355, .ref 360, .ref 370, .ref 682]))) (hR : ruo W0 tx ru dl sy) (n : Nat) (h1 : 1 ≤ n) (h9 : n ≤ 9) (r : xi_R → Prop) (K : ∀ W', ruo W' tx ru n sy → fr (fun i => i = 355) W0 W' → r (some (.int (Int32.ofNat 1)), W', c, s)) : xr d 100 0 [(0, .ref 17), (1, .int (Int32.ofNat n))] [] W0 c s r := by
  have hF : fr (fun i => i = 355) W0 W0 := fr.rf
  refine xr_stp rfl rfl rfl rfl ?_
  refine xr_stp (st' := .int (Int32.ofNat 1) :: _) rfl rfl rfl rfl ?_
  refine xr_j2 rfl rfl rfl rfl rfl (fun h2 => ?_) (fun h2 => ?_)
  · have z2 := nt_lt (by omega) (by omega) h2
    exact (by omega)
  · refine xr_stp rfl rfl rfl rfl ?_
    refine xr_stp (st' := .int (Int32.ofNat 9) :: _) rfl rfl rfl rfl ?_
    refine xr_j2 rfl rfl rfl rfl rfl (fun h8 => ?_) (fun h8 => ?_)
    · refine xr_stp rfl rfl rfl rfl ?_
      refine xr_getfield hO rfl rfl rfl rfl ?_
      refine xr_stp rfl rfl rfl rfl ?_
      refine xr_putk hR (by omega) rfl rfl rfl rfl rfl rfl (fun W hR hf1 => ?_)
      have hO := hf1.at hO (by omega)
      have hF := hF.tr2 hf1 (fun _ e => Or.inl e)
      refine xr_stp (st' := .int (Int32.ofNat 1) :: _) rfl rfl rfl rfl ?_
      exact xr_retb (by omega) rfl rfl (K W hR hF)
    · have z8 := nf_le (by omega) (by omega) h8
      exact (by omega)
/-- 'about' -/
theorem cq_abo0 (d c s nn q dl tx sy T N fi m mm : Nat) (f : Nat → Int32) (W0 : xi_W) (G : Nat → Nat) (GS : Nat → Nat → Nat) (hc : cmx nn f q dl tx sy T N fi m mm G GS W0) (r : xi_R → Prop) (K : (r (some (.int (Int32.ofNat tx)), W0, c, s))) : xr (d + 6) 146 0 [(0, .ref 17), (1, .int (Int32.ofNat 0))] [] W0 c s r := by
  obtain ⟨lf, lp, hO⟩ := hc.o
  obtain ⟨F, hw, hr⟩ := hc.w
  have hl := hc.l
  have hR := hc.R
  have J := hr.j
  refine xr_stp rfl rfl rfl rfl ?_
  refine xr_stp (pc' := 40) rfl rfl rfl rfl ?_
  refine xr_stp rfl rfl rfl rfl ?_
  refine xr_getfield hO rfl rfl rfl rfl ?_
  refine xr_getfield hR rfl rfl rfl rfl ?_
  exact xr_ret rfl rfl K
/-- 'about' -/
theorem cq_abo1 (d c s nn q dl tx sy T N fi m mm : Nat) (f : Nat → Int32) (W0 : xi_W) (G : Nat → Nat) (GS : Nat → Nat → Nat) (hc : cmx nn f q dl tx sy T N fi m mm G GS W0) (r : xi_R → Prop) (K : (r (some (.int (Int32.ofNat (if q = 0 then 4294967295 else 0))), W0, c, s))) : xr (d + 6) 146 0 [(0, .ref 17), (1, .int (Int32.ofNat 1))] [] W0 c s r := by
  obtain ⟨lf, lp, hO⟩ := hc.o
  obtain ⟨F, hw, hr⟩ := hc.w
  have hl := hc.l
  have hR := hc.R
  have J := hr.j
  refine xr_stp rfl rfl rfl rfl ?_
  refine xr_stp (pc' := 48) rfl rfl rfl rfl ?_
  refine xr_stp rfl rfl rfl rfl ?_
  refine xr_getfield hO rfl rfl rfl rfl ?_
  refine xr_getfield hR rfl rfl rfl rfl ?_
  exact xr_ret rfl rfl K
/-- 'about' -/
theorem cq_abo2 (d c s nn q dl tx sy T N fi m mm : Nat) (f : Nat → Int32) (W0 : xi_W) (G : Nat → Nat) (GS : Nat → Nat → Nat) (hc : cmx nn f q dl tx sy T N fi m mm G GS W0) (r : xi_R → Prop) (K : (r (some (.int (Int32.ofNat m)), W0, c, s))) : xr (d + 6) 146 0 [(0, .ref 17), (1, .int (Int32.ofNat 2))] [] W0 c s r := by
  obtain ⟨lf, lp, hO⟩ := hc.o
  obtain ⟨F, hw, hr⟩ := hc.w
  have hl := hc.l
  have hR := hc.R
  have J := hr.j
  refine xr_stp rfl rfl rfl rfl ?_
  refine xr_stp (pc' := 56) rfl rfl rfl rfl ?_
  refine xr_stp rfl rfl rfl rfl ?_
  refine xr_getfield hO rfl rfl rfl rfl ?_
  refine xr_getfield hc.st rfl rfl rfl rfl ?_
  exact xr_ret rfl rfl K
/-- 'about' -/
theorem cq_abo3 (d c s nn q dl tx sy T N fi m mm : Nat) (f : Nat → Int32) (W0 : xi_W) (G : Nat → Nat) (GS : Nat → Nat → Nat) (hc : cmx nn f q dl tx sy T N fi m mm G GS W0) (r : xi_R → Prop) (K : (r (some (.int (Int32.ofNat sy)), W0, c, s))) : xr (d + 6) 146 0 [(0, .ref 17), (1, .int (Int32.ofNat 3))] [] W0 c s r := by
  obtain ⟨lf, lp, hO⟩ := hc.o
  obtain ⟨F, hw, hr⟩ := hc.w
  have hl := hc.l
  have hR := hc.R
  have J := hr.j
  refine xr_stp rfl rfl rfl rfl ?_
  refine xr_stp (pc' := 64) rfl rfl rfl rfl ?_
  refine xr_stp rfl rfl rfl rfl ?_
  refine xr_getfield hO rfl rfl rfl rfl ?_
  refine xr_getfield hR rfl rfl rfl rfl ?_
  exact xr_ret rfl rfl K
/-- 'about' -/
theorem cq_abo5 (d c s nn q dl tx sy T N fi m mm : Nat) (f : Nat → Int32) (W0 : xi_W) (G : Nat → Nat) (GS : Nat → Nat → Nat) (hc : cmx nn f q dl tx sy T N fi m mm G GS W0) (r : xi_R → Prop) (K : (r (some (.int (Int32.ofNat dl)), W0, c, s))) : xr (d + 6) 146 0 [(0, .ref 17), (1, .int (Int32.ofNat 5))] [] W0 c s r := by
  obtain ⟨lf, lp, hO⟩ := hc.o
  obtain ⟨F, hw, hr⟩ := hc.w
  have hl := hc.l
  have hR := hc.R
  have J := hr.j
  refine xr_stp rfl rfl rfl rfl ?_
  refine xr_stp (pc' := 80) rfl rfl rfl rfl ?_
  refine xr_stp rfl rfl rfl rfl ?_
  refine xr_getfield hO rfl rfl rfl rfl ?_
  refine xr_getfield hR rfl rfl rfl rfl ?_
  exact xr_ret rfl rfl K
/-- what was said fits a text -/
def fi_ok (nn : Nat) (f : Nat → Int32) (G TD : Nat → Nat) (n : Nat) : Prop := ∀ i, i < n → lw_sp nn f G 1 (TD (i * 4)) (TD (i * 4 + 1)) (TD (i * 4 + 2)) = TD (i * 4 + 3)
def sa_ok (TD : Nat → Nat) (n : Nat) : Prop := ∀ i, i < n → TD (i * 4) < 4 ∧ TD (i * 4 + 1) < 4 ∧ TD (i * 4 + 2) < 100 ∧ TD (i * 4 + 3) < 2
theorem cw_fitL (d c s nn q dl tx sy T N fi m mm : Nat) (f : Nat → Int32) (W0 : xi_W) (G : Nat → Nat) (GS : Nat → Nat → Nat) (TD : Nat → Nat) (hsa : sa_ok TD sy) (hsy : sy ≤ 8) (r : xi_R → Prop) : ∀ (k i : Nat) (L1 : xi_L) (W1 : xi_W) (F : Nat → Nat), i + k = sy → cmx nn f q dl tx sy T N fi m mm G GS W1 → W1[357]? = some (lw_i 32 TD) → fr rin W0 W1 → kw W1 23 F → RL (G 0 + 1) N G F → (L1 = [(3, .int (Int32.ofNat i)), (0, .ref 355), (1, .int (Int32.ofNat 0)), (2, .ref 23)] ∨ ∃ e1 e2, L1 = [(3, .int (Int32.ofNat i)), (5, .int e1), (4, .int e2), (0, .ref 355), (1, .int (Int32.ofNat 0)), (2, .ref 23)]) → (∀ W' v, cmx nn f q dl tx sy T N fi m mm G GS W' → fr rin W0 W' → v < 2 → (v = 1 ↔ ∀ j, i ≤ j → j < sy → lw_sp nn f G 1 (TD (j * 4)) (TD (j * 4 + 1)) (TD (j * 4 + 2)) = TD (j * 4 + 3)) → r (some (.int (Int32.ofNat v)), W', c, s)) → xr (d + 4) 59 2 L1 [] W1 c s r
  | 0, i, L1, W1, F, hi, hc, hT, hfT, hw, hr, hL1, K => by
    have hR := hc.R
    rcases hL1 with rfl | ⟨_, _, rfl⟩
    all_goals
      refine xr_stp rfl rfl rfl rfl ?_
      refine xr_stp rfl rfl rfl rfl ?_
      refine xr_getfield hR rfl rfl rfl rfl ?_
      refine xr_j2 rfl rfl rfl rfl rfl (fun h7 => ?_) (fun h7 => ?_)
      · refine xr_stp (st' := .int (Int32.ofNat 1) :: _) rfl rfl rfl rfl ?_
        exact xr_retb (by omega) rfl rfl (K W1 1 hc hfT (by omega) ⟨fun _ j h1 h2 => by omega, fun _ => rfl⟩)
      · have z7 := nf_ge (by omega) (by omega) h7
        exact (by omega)
  | k + 1, i, L1, W1, F, hi, hc, hT, hfT, hw, hr, hL1, K => by
    obtain ⟨⟨hl, ⟨RD, rd1, rd2⟩, htx, htx4, hX, b6, hR⟩, _⟩ := id hc
    have hsi := hsa i (by omega)
    rcases hL1 with rfl | ⟨_, _, rfl⟩
    all_goals
      refine xr_stp rfl rfl rfl rfl ?_
      refine xr_stp rfl rfl rfl rfl ?_
      refine xr_getfield hR rfl rfl rfl rfl ?_
      refine xr_j2 rfl rfl rfl rfl rfl (fun h7 => ?_) (fun h7 => ?_)
      · have z7 := nt_ge (by omega) (by omega) h7
        exact (by omega)
      · refine xr_stp rfl rfl rfl rfl ?_
        refine xr_stp (st' := .int (Int32.ofNat 4) :: _) rfl rfl rfl rfl ?_
        refine xs_mul rfl ?_
        refine xr_stp rfl rfl rfl rfl ?_
        refine xr_stp rfl rfl rfl rfl ?_
        refine xr_stp rfl rfl rfl rfl ?_
        refine xr_stp rfl rfl rfl rfl ?_
        refine xr_vcps hR rfl rfl rfl rfl rfl rfl (fun r1 K2 => ru_num1 _ _ _ 0 tx _ dl sy T W1 RD hR rd1 rd2 (by omega) htx htx4 r1 (K2 _ _ _ _ ?_))
        refine xr_stp rfl rfl rfl rfl ?_
        refine xr_stp rfl rfl rfl rfl ?_
        refine xr_getfield hR rfl rfl rfl rfl ?_
        refine xr_stp rfl rfl rfl rfl ?_
        refine xs_ild hT (by omega) (by omega) rfl ?_
        refine xr_stp rfl rfl rfl rfl ?_
        refine xr_getfield hR rfl rfl rfl rfl ?_
        refine xr_stp rfl rfl rfl rfl ?_
        refine xr_stp (st' := .int (Int32.ofNat 1) :: _) rfl rfl rfl rfl ?_
        refine xs_add rfl ?_
        refine xs_ild hT (by omega) (by omega) rfl ?_
        refine xr_stp rfl rfl rfl rfl ?_
        refine xr_getfield hR rfl rfl rfl rfl ?_
        refine xr_stp rfl rfl rfl rfl ?_
        refine xr_stp (st' := .int (Int32.ofNat 2) :: _) rfl rfl rfl rfl ?_
        refine xs_add rfl ?_
        refine xs_ild hT (by omega) (by omega) rfl ?_
        refine xr_vcps hR rfl rfl rfl rfl rfl rfl (fun r1 K2 => rl_lets1 _ _ _ 23 (TD (i * 4)) (TD (i * 4 + 1)) (TD (i * 4 + 2)) tx _ dl sy T nn f W1 hr.1 hw wb23 hl hR hX b6 (by omega) (by omega) (by omega) r1 (fun W2 hs2 hf2 => K2 _ _ _ _ ?_))
        obtain ⟨hc2, hw2⟩ := hc.rin hw hr hf2 hs2
        have hT2 := hf2.at hT (fun z => by have z : (357 : Nat) = 358 ∨ 357 = 359 := z; omega)
        have hfT := hfT.tr hf2
        have hR := hc2.R
        have hT := hT2
        have hle := lw_sple nn f G 1 (TD (i * 4)) (TD (i * 4 + 1)) (TD (i * 4 + 2))
        refine xr_stp rfl rfl rfl rfl ?_
        refine xr_stp rfl rfl rfl rfl ?_
        refine xr_stp rfl rfl rfl rfl ?_
        refine xr_getfield hR rfl rfl rfl rfl ?_
        refine xr_stp rfl rfl rfl rfl ?_
        refine xr_stp (st' := .int (Int32.ofNat 3) :: _) rfl rfl rfl rfl ?_
        refine xs_add rfl ?_
        refine xs_ild hT (by omega) (by omega) rfl ?_
        refine xr_stp (st' := .int (Int32.ofNat 1) :: _) rfl rfl rfl rfl ?_
        refine xr_j2 rfl rfl rfl rfl rfl (fun h64 => ?_) (fun h64 => ?_)
        · have z64 := nt_ne h64
          refine xr_stp (st' := .int (Int32.ofNat 0) :: _) rfl rfl rfl rfl ?_
          refine xr_j2 rfl rfl rfl rfl rfl (fun h72 => ?_) (fun h72 => ?_)
          · have z72 := nt_eq (by omega) (by omega) h72
            have zz : lw_sp nn f G 1 (TD (i * 4)) (TD (i * 4 + 1)) (TD (i * 4 + 2)) = TD (i * 4 + 3) := by omega
            refine xs_inc (e := 1) rfl rfl rfl rfl ?_
            refine xr_stp rfl rfl rfl rfl ?_
            refine cw_fitL d c s nn q dl tx sy T N fi m mm f W0 G GS TD hsa hsy r k (i + 1) _ W2 F (by omega) hc2 hT hfT hw2 hr (Or.inr ⟨_, _, rfl⟩) (fun W5 v g1 g2 g3 g4 => K W5 v g1 g2 g3 ?_)
            rw [g4]
            exact ⟨fun z j h1 h2 => by
              by_cases e : j = i
              · rw [e]; exact zz
              · exact z j (by omega) h2, fun z j h1 h2 => z j (by omega) h2⟩
          · have z72 := nf_eq h72
            have zz : lw_sp nn f G 1 (TD (i * 4)) (TD (i * 4 + 1)) (TD (i * 4 + 2)) ≠ TD (i * 4 + 3) := by omega
            refine xr_stp (st' := .int (Int32.ofNat 0) :: _) rfl rfl rfl rfl ?_
            exact xr_retb (by omega) rfl rfl (K W2 0 hc2 hfT (by omega) ⟨fun z => absurd z (by omega), fun z => absurd (z i (Nat.le_refl _) (by omega)) zz⟩)
        · have z64 := nf_ne (by omega) (by omega) h64
          refine xr_stp (st' := .int (Int32.ofNat 1) :: _) rfl rfl rfl rfl ?_
          refine xr_stp rfl rfl rfl rfl ?_
          refine xr_j2 rfl rfl rfl rfl rfl (fun h72 => ?_) (fun h72 => ?_)
          · have z72 := nt_eq (by omega) (by omega) h72
            have zz : lw_sp nn f G 1 (TD (i * 4)) (TD (i * 4 + 1)) (TD (i * 4 + 2)) = TD (i * 4 + 3) := by omega
            refine xs_inc (e := 1) rfl rfl rfl rfl ?_
            refine xr_stp rfl rfl rfl rfl ?_
            refine cw_fitL d c s nn q dl tx sy T N fi m mm f W0 G GS TD hsa hsy r k (i + 1) _ W2 F (by omega) hc2 hT hfT hw2 hr (Or.inr ⟨_, _, rfl⟩) (fun W5 v g1 g2 g3 g4 => K W5 v g1 g2 g3 ?_)
            rw [g4]
            exact ⟨fun z j h1 h2 => by
              by_cases e : j = i
              · rw [e]; exact zz
              · exact z j (by omega) h2, fun z j h1 h2 => z j (by omega) h2⟩
          · have z72 := nf_eq h72
            have zz : lw_sp nn f G 1 (TD (i * 4)) (TD (i * 4 + 1)) (TD (i * 4 + 2)) ≠ TD (i * 4 + 3) := by omega
            refine xr_stp (st' := .int (Int32.ofNat 0) :: _) rfl rfl rfl rfl ?_
            exact xr_retb (by omega) rfl rfl (K W2 0 hc2 hfT (by omega) ⟨fun z => absurd z (by omega), fun z => absurd (z i (Nat.le_refl _) (by omega)) zz⟩)
theorem cw_fit (d c s nn q dl tx sy T N fi m mm : Nat) (f : Nat → Int32) (W0 : xi_W) (G : Nat → Nat) (GS : Nat → Nat → Nat) (TD : Nat → Nat) (hc : cmx nn f q dl tx sy T N fi m mm G GS W0) (hT : W0[357]? = some (lw_i 32 TD)) (hsa : sa_ok TD sy) (hsy : sy ≤ 8) (r : xi_R → Prop) (K : (∀ W' v, cmx nn f q dl tx sy T N fi m mm G GS W' → fr rin W0 W' → v < 2 → (v = 1 ↔ ∀ j,  j < sy → lw_sp nn f G 1 (TD (j * 4)) (TD (j * 4 + 1)) (TD (j * 4 + 2)) = TD (j * 4 + 3)) → r (some (.int (Int32.ofNat v)), W', c, s))) : xr (d + 4) 59 0 [(0, .ref 355), (1, .int (Int32.ofNat 0)), (2, .ref 23)] [] W0 c s r := by
  obtain ⟨F, hw, hr⟩ := hc.w
  refine xr_stp (st' := .int (Int32.ofNat 0) :: _) rfl rfl rfl rfl ?_
  refine xr_stp rfl rfl rfl rfl ?_
  exact cw_fitL d c s nn q dl tx sy T N fi m mm f W0 G GS TD hsa hsy r sy 0 _ W0 F (by omega) hc hT fr.rf hw hr (Or.inl rfl) (fun W5 v g1 g2 g3 g4 => K W5 v g1 g2 g3 (g4.trans ⟨fun z j h2 => z j (Nat.zero_le _) h2, fun z j _ h2 => z j h2⟩))
theorem cw_who2 (d c s nn q dl tx sy T N fi m mm : Nat) (f : Nat → Int32) (W0 : xi_W) (G : Nat → Nat) (GS : Nat → Nat → Nat) (htx : tx = 1) (TD : Nat → Nat) (r : xi_R → Prop) (K : (∀ W' v, cmx nn f q dl tx sy T N fi m mm G GS W' → fr rin W0 W' → v < 2 → (v = 1 ↔ ∀ j,  j < sy → lw_sp nn f G 1 (TD (j * 4)) (TD (j * 4 + 1)) (TD (j * 4 + 2)) = TD (j * 4 + 3)) → r (some (.int (Int32.ofNat v)), W', c, s))) (W1 : xi_W) (v : Nat) (hc1 : cmx nn f q dl tx sy T N fi m mm G GS W1) (hf1 : fr rin W0 W1) (hv : v < 2) (g4 : v = 1 ↔ ∀ j, j < sy → lw_sp nn f G 1 (TD (j * 4)) (TD (j * 4 + 1)) (TD (j * 4 + 2)) = TD (j * 4 + 3)) : xr (d + 6) 142 36 [(2, .int (Int32.ofNat 0)), (1, .int (Int32.ofNat v)), (0, .ref 17)] [] W1 c s r := by
  obtain ⟨lf, lp, hO⟩ := hc1.o
  have hR := hc1.R
  refine xs_inc (e := 1) rfl rfl rfl rfl ?_
  refine xr_stp rfl rfl rfl rfl ?_
  refine xr_stp rfl rfl rfl rfl ?_
  refine xr_stp rfl rfl rfl rfl ?_
  refine xr_getfield hO rfl rfl rfl rfl ?_
  refine xr_getfield hR rfl rfl rfl rfl ?_
  refine xr_j2 rfl rfl rfl rfl rfl (fun h12 => ?_) (fun h12 => ?_)
  · refine xr_stp rfl rfl rfl rfl ?_
    exact xr_ret rfl rfl (K W1 v hc1 hf1 hv g4)
  · have z12 := nf_ge (by omega) (by omega) h12
    exact (by omega)
theorem cw_who3 (d c s nn q dl tx sy T N fi m mm : Nat) (f : Nat → Int32) (W0 : xi_W) (G : Nat → Nat) (GS : Nat → Nat → Nat) (htx : tx = 1) (TD : Nat → Nat) (r : xi_R → Prop) (K : (∀ W' v, cmx nn f q dl tx sy T N fi m mm G GS W' → fr rin W0 W' → v < 2 → (v = 1 ↔ ∀ j,  j < sy → lw_sp nn f G 1 (TD (j * 4)) (TD (j * 4 + 1)) (TD (j * 4 + 2)) = TD (j * 4 + 3)) → r (some (.int (Int32.ofNat v)), W', c, s))) (W1 : xi_W) (v : Nat) (hc1 : cmx nn f q dl tx sy T N fi m mm G GS W1) (hf1 : fr rin W0 W1) (hv : v < 2) (g4 : v = 1 ↔ ∀ j, j < sy → lw_sp nn f G 1 (TD (j * 4)) (TD (j * 4 + 1)) (TD (j * 4 + 2)) = TD (j * 4 + 3)) : xr (d + 6) 142 36 [(1, .int (Int32.ofNat v)), (2, .int (Int32.ofNat 0)), (0, .ref 17)] [] W1 c s r := by
  obtain ⟨lf, lp, hO⟩ := hc1.o
  have hR := hc1.R
  refine xs_inc (e := 1) rfl rfl rfl rfl ?_
  refine xr_stp rfl rfl rfl rfl ?_
  refine xr_stp rfl rfl rfl rfl ?_
  refine xr_stp rfl rfl rfl rfl ?_
  refine xr_getfield hO rfl rfl rfl rfl ?_
  refine xr_getfield hR rfl rfl rfl rfl ?_
  refine xr_j2 rfl rfl rfl rfl rfl (fun h12 => ?_) (fun h12 => ?_)
  · refine xr_stp rfl rfl rfl rfl ?_
    exact xr_ret rfl rfl (K W1 v hc1 hf1 hv g4)
  · have z12 := nf_ge (by omega) (by omega) h12
    exact (by omega)
/-- 'whose' -/
theorem cq_who (d c s nn q dl tx sy T N fi m mm : Nat) (f : Nat → Int32) (W0 : xi_W) (G : Nat → Nat) (GS : Nat → Nat → Nat) (hc : cmx nn f q dl tx sy T N fi m mm G GS W0) (htx : tx = 1) (TD : Nat → Nat) (hT : W0[357]? = some (lw_i 32 TD)) (hsa : sa_ok TD sy) (hsy : sy ≤ 8) (r : xi_R → Prop) (K : ∀ W' v, cmx nn f q dl tx sy T N fi m mm G GS W' → fr rin W0 W' → v < 2 → (v = 1 ↔ ∀ j,  j < sy → lw_sp nn f G 1 (TD (j * 4)) (TD (j * 4 + 1)) (TD (j * 4 + 2)) = TD (j * 4 + 3)) → r (some (.int (Int32.ofNat v)), W', c, s)) : xr (d + 6) 142 0 [(0, .ref 17)] [] W0 c s r := by
  obtain ⟨lf, lp, hO⟩ := hc.o
  have hR := hc.R
  refine xr_stp (st' := .int (Int32.ofNat 0) :: _) rfl rfl rfl rfl ?_
  refine xr_stp rfl rfl rfl rfl ?_
  refine xr_stp (st' := .int (Int32.ofNat 0) :: _) rfl rfl rfl rfl ?_
  refine xr_stp rfl rfl rfl rfl ?_
  refine xr_stp rfl rfl rfl rfl ?_
  refine xr_stp rfl rfl rfl rfl ?_
  refine xr_getfield hO rfl rfl rfl rfl ?_
  refine xr_getfield hR rfl rfl rfl rfl ?_
  refine xr_j2 rfl rfl rfl rfl rfl (fun h12 => ?_) (fun h12 => ?_)
  · have z12 := nt_ge (by omega) (by omega) h12
    exact (by omega)
  · refine xr_stp rfl rfl rfl rfl ?_
    refine xr_getfield hO rfl rfl rfl rfl ?_
    refine xr_stp rfl rfl rfl rfl ?_
    refine xr_stp rfl rfl rfl rfl ?_
    refine xr_getfield hO rfl rfl rfl rfl ?_
    refine xr_vcps hR rfl rfl rfl rfl rfl rfl (fun r1 K2 => cw_fit _ _ _ nn q dl tx sy T N fi m mm f W0 G GS TD hc hT hsa hsy r1 (fun W1 v hc1 hf1 hv g4 => K2 _ _ _ _ ?_))
    obtain ⟨lf, lp, hO⟩ := hc1.o
    have hR := hc1.R
    refine xr_j1 rfl rfl rfl rfl rfl (fun h27 => ?_) (fun h27 => ?_)
    · have z27 := nt1_eq (by omega) h27
      subst z27
      exact cw_who2 d c s nn q dl tx sy T N fi m mm f W0 G GS htx TD r K W1 _ hc1 hf1 (by decide) g4
    · have z27 := nf1_eq h27
      have z27 : v = 1 := by omega
      subst z27
      -- ONE
      refine xr_stp rfl rfl rfl rfl ?_
      refine xr_stp (st' := .int (Int32.ofNat 1) :: _) rfl rfl rfl rfl ?_
      refine xr_stp rfl rfl rfl rfl ?_
      refine xs_shl (by omega) rfl ?_
      refine xs_or rfl ?_
      refine xr_stp rfl rfl rfl rfl ?_
      exact cw_who3 d c s nn q dl tx sy T N fi m mm f W0 G GS htx TD r K W1 (0 ||| 1 * 2 ^ 0) hc1 hf1 (by decide) g4
