/-! takeBack, undo, day, years -/
theorem st_back0 (d c s nn q dl tx sy T N fi m : Nat) (f : Nat → Int32) (W0 : xi_W) (G : Nat → Nat) (GS : Nat → Nat → Nat) (hc : cmx nn f q dl tx sy T N fi 0 m G GS W0) (r : xi_R → Prop) (K : r (some (.int (Int32.ofNat 4294967295)), W0, c, s)) : xr (d + 3) 64 0 [(0, .ref 43), (1, .ref 23)] [] W0 c s r := by
  have hS := hc.st
  refine xr_stp rfl rfl rfl rfl ?_
  refine xr_getfield hS rfl rfl rfl rfl ?_
  refine xr_j1 rfl rfl rfl rfl rfl (fun h4 => ?_) (fun h4 => ?_)
  · exact absurd rfl (nt1_ne (a := 0) h4)
  · refine xr_stp (st' := .int (Int32.ofNat 4294967295) :: _) rfl rfl rfl rfl ?_
    exact xr_ret rfl rfl K
theorem st_back (d c s nn q dl tx sy T N fi m : Nat) (f : Nat → Int32) (W0 : xi_W) (G : Nat → Nat) (GS : Nat → Nat → Nat) (hc : cmx nn f q dl tx sy T N fi (m + 1) (m + 1) G GS W0) (r : xi_R → Prop) (K : ∀ W', cmx nn f q dl tx sy T N fi m m (GS m) GS W' → fr pq W0 W' → r (some (.int (Int32.ofNat m)), W', c, s)) : xr (d + 3) 64 0 [(0, .ref 43), (1, .ref 23)] [] W0 c s r := by
  have h0 := hc
  have hF : fr (· = 43) W0 W0 := fr.rf
  obtain ⟨_, _, hS, ⟨WF, hA, hWF⟩, hb, _⟩ := hc
  refine xr_stp rfl rfl rfl rfl ?_
  refine xr_getfield hS rfl rfl rfl rfl ?_
  refine xr_j1 rfl rfl rfl rfl rfl (fun h4 => ?_) (fun h4 => ?_)
  · refine xr_stp rfl rfl rfl rfl ?_
    refine xr_stp rfl rfl rfl rfl ?_
    refine xr_getfield hS rfl rfl rfl rfl ?_
    refine xr_stp (st' := .int (Int32.ofNat 1) :: _) rfl rfl rfl rfl ?_
    refine xs_pred rfl ?_
    refine xr_putk hS (by omega) rfl rfl rfl rfl rfl rfl (fun W hS hf1 => ?_)
    have hA := hf1.at hA (by omega)
    have hF := hF.tr2 hf1 (fun _ e => Or.inl e)
    refine xr_stp rfl rfl rfl rfl ?_
    refine xr_stp rfl rfl rfl rfl ?_
    refine xr_getfield hS rfl rfl rfl rfl ?_
    refine xr_stp rfl rfl rfl rfl ?_
    refine xr_stp rfl rfl rfl rfl ?_
    refine xr_getfield hS rfl rfl rfl rfl ?_
    have h1 := h0.steps (mm' := m + 1) (GS' := GS) hF hS ⟨hb.1, by omega, by omega, by omega⟩ (fun k hk => ⟨k, hk, rfl, rfl⟩)
    refine xr_vcps hS rfl rfl rfl rfl rfl rfl (fun r1 K2 => st_slot _ _ _ 43 44 fi _ m W WF hS hA (by omega) (by omega) r1 (K2 _ _ _ _ ?_))
    refine xs_rld hA (by omega) (by omega) (by omega) rfl ?_
    rw [show WF ((fi + m) % 31) = some (45 + 10 * ((fi + m) % 31)) from hWF _ (by omega)]
    change xr _ _ _ _ (.ref (45 + 10 * ((fi + m) % 31)) :: _) _ _ _ _
    obtain ⟨a1, a2, a3, a4, a5, ⟨F0, a6, a6b⟩, a7, a8, a9, a10, a11⟩ := h1
    have h1 := h0.steps (mm' := m + 1) (GS' := GS) hF hS ⟨hb.1, by omega, by omega, by omega⟩ (fun k hk => ⟨k, hk, rfl, rfl⟩)
    obtain ⟨Fm, hm, hm2⟩ := a8 ((fi + m) % 31) (by omega)
    have hm3 := hm2 m (by omega) rfl
    refine xr_vcps (a6.w wb23 a1.1 a1.2.2.2.2.2.2) rfl rfl rfl rfl rfl rfl (fun r1 K2 => kl_copy _ _ _ 23 (45 + 10 * ((fi + m) % 31)) W F0 Fm _ a6 hm wb23 (wbS (by omega)) (by omega) a1.1 a1.2.2.2.2.2.2 r1 (fun W1 F1 hw1 hf1 hag => K2 _ _ _ _ ?_))
    have hk1 : fr (kr 23) W W1 := hf1.weak (fun i _ z => Or.inl z)
    have h2 := h1.now (G' := GS m) (N' := N) hk1 hw1 (a1.2.2.2.2.2.1.keep hf1 wb23.k.1 wb23.k.2.1) (hm3.ag hag) (a10 m (by omega)) (Nat.le_refl _)
    have h3 := h2.less (mm' := m) (Nat.le_refl _) (by omega)
    have hS := h3.st
    refine xr_stp rfl rfl rfl rfl ?_
    refine xr_getfield hS rfl rfl rfl rfl ?_
    exact xr_ret rfl rfl (K W1 h3 ((pq_c hF).tr (pq_k hk1)))
  · exact absurd (nf1_ne (a := m + 1) (by omega) h4) (by omega)
theorem cl_undo0 (d c s nn q dl tx sy T N fi m : Nat) (f : Nat → Int32) (W0 : xi_W) (G : Nat → Nat) (GS : Nat → Nat → Nat) (hc : cmx nn f q dl tx sy T N fi 0 m G GS W0) (r : xi_R → Prop) (K : r (some (.int (Int32.ofNat 4294967295)), W0, c, s)) : xr (d + 4) 108 0 [(0, .ref 17)] [] W0 c s r := by
  obtain ⟨lf, lp, hO⟩ := hc.o
  refine xr_stp rfl rfl rfl rfl ?_
  refine xr_getfield hO rfl rfl rfl rfl ?_
  refine xr_stp rfl rfl rfl rfl ?_
  refine xr_getfield hO rfl rfl rfl rfl ?_
  refine xr_vcps hc.st rfl rfl rfl rfl rfl rfl (fun r1 K2 => st_back0 _ _ _ nn q dl tx sy T N fi m f W0 G GS hc r1 (K2 _ _ _ _ ?_))
  exact xr_ret rfl rfl K
theorem cl_undo (d c s nn q dl tx sy T N fi m : Nat) (f : Nat → Int32) (W0 : xi_W) (G : Nat → Nat) (GS : Nat → Nat → Nat) (hc : cmx nn f q dl tx sy T N fi (m + 1) (m + 1) G GS W0) (r : xi_R → Prop) (K : ∀ W', cmx nn f q dl tx sy T N fi m m (GS m) GS W' → fr pq W0 W' → r (some (.int (Int32.ofNat m)), W', c, s)) : xr (d + 4) 108 0 [(0, .ref 17)] [] W0 c s r := by
  obtain ⟨lf, lp, hO⟩ := hc.o
  refine xr_stp rfl rfl rfl rfl ?_
  refine xr_getfield hO rfl rfl rfl rfl ?_
  refine xr_stp rfl rfl rfl rfl ?_
  refine xr_getfield hO rfl rfl rfl rfl ?_
  refine xr_vcps hc.st rfl rfl rfl rfl rfl rfl (fun r1 K2 => st_back _ _ _ nn q dl tx sy T N fi m f W0 G GS hc r1 (fun W1 hc1 hf1 => K2 _ _ _ _ ?_))
  exact xr_ret rfl rfl (K W1 hc1 hf1)
