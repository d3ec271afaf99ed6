/-! the class's own methods: set, clear, reset, send -/
def pq : Nat → Prop := fun i => 23 ≤ i ∧ i < 360 ∧ ¬ (355 ≤ i ∧ i ≤ 357)
def stg (m : Nat) (GS : Nat → Nat → Nat) (G : Nat → Nat) : Nat → Nat → Nat := fun k => if k = m then G else GS k
def sto (m : Nat) (GS : Nat → Nat → Nat) (G : Nat → Nat) : Nat → Nat → Nat := fun k => stg m GS G (k + (m + 1 - min (m + 1) 30))
theorem cmx.o {nn : Nat} {f : Nat → Int32} {q dl tx sy T N fi m mm : Nat} {G : Nat → Nat} {GS : Nat → Nat → Nat} {W : xi_W} (h : cmx nn f q dl tx sy T N fi m mm G GS W) : ∃ lf lp : Int32, W[17]? = some (.inr (6, [.ref 18, .int lf, .int lp, .ref 23, .ref 33, .ref 43, .ref 355, .ref 360, .ref 370, .ref 682])) := h.2.1
theorem cmx.ok {nn : Nat} {f : Nat → Int32} {q dl tx sy T N fi m mm : Nat} {G : Nat → Nat} {GS : Nat → Nat → Nat} {W : xi_W} (h : cmx nn f q dl tx sy T N fi m mm G GS W) : rl_ok nn f q dl tx sy T W := h.1
theorem cmx.st {nn : Nat} {f : Nat → Int32} {q dl tx sy T N fi m mm : Nat} {G : Nat → Nat} {GS : Nat → Nat → Nat} {W : xi_W} (h : cmx nn f q dl tx sy T N fi m mm G GS W) : W[43]? = some (.inr (3, [.ref 44, .int (Int32.ofNat fi), .int (Int32.ofNat m)])) := h.2.2.1
theorem cmx.l {nn : Nat} {f : Nat → Int32} {q dl tx sy T N fi m mm : Nat} {G : Nat → Nat} {GS : Nat → Nat → Nat} {W : xi_W} (h : cmx nn f q dl tx sy T N fi m mm G GS W) : 687 ≤ W.length := h.1.1
theorem cmx.R {nn : Nat} {f : Nat → Int32} {q dl tx sy T N fi m mm : Nat} {G : Nat → Nat} {GS : Nat → Nat → Nat} {W : xi_W} (h : cmx nn f q dl tx sy T N fi m mm G GS W) : ruo W tx (if q = 0 then 4294967295 else 0) dl sy := h.1.2.2.2.2.2.2
theorem cmx.w {nn : Nat} {f : Nat → Int32} {q dl tx sy T N fi m mm : Nat} {G : Nat → Nat} {GS : Nat → Nat → Nat} {W : xi_W} (h : cmx nn f q dl tx sy T N fi m mm G GS W) : ∃ F, kw W 23 F ∧ RL (G 0 + 1) N G F := h.2.2.2.2.2.1
theorem cmx.b {nn : Nat} {f : Nat → Int32} {q dl tx sy T N fi m mm : Nat} {G : Nat → Nat} {GS : Nat → Nat → Nat} {W : xi_W} (h : cmx nn f q dl tx sy T N fi m mm G GS W) : fi < 31 ∧ m ≤ mm ∧ mm ≤ 31 ∧ m ≤ 30 := h.2.2.2.2.1
theorem cmx.d {nn : Nat} {f : Nat → Int32} {q dl tx sy T N fi m mm : Nat} {G : Nat → Nat} {GS : Nat → Nat → Nat} {W : xi_W} (h : cmx nn f q dl tx sy T N fi m mm G GS W) : G 5 = dl := h.2.2.2.2.2.2.2.2.1
theorem cmx.q {nn : Nat} {f : Nat → Int32} {q dl tx sy T N fi m mm : Nat} {G : Nat → Nat} {GS : Nat → Nat → Nat} {W : xi_W} (h : cmx nn f q dl tx sy T N fi m mm G GS W) : q < 2 := h.2.2.2.2.2.2.2.2.2.2
theorem pq_k {W W' : xi_W} (h : fr (kr 23) W W') : fr pq W W' := h.weak (fun i _ z => by unfold kr kin rin at z; unfold pq; omega)
theorem pq_t {W W' : xi_W} (h : fr (kr 33) W W') : fr pq W W' := h.weak (fun i _ z => by unfold kr kin rin at z; unfold pq; omega)
theorem pq_s {W W' : xi_W} (h : fr (fun i => 45 ≤ i ∧ i < 355) W W') : fr pq W W' := h.weak (fun i _ z => by unfold pq; omega)
theorem pq_c {W W' : xi_W} (h : fr (fun i => i = 43) W W') : fr pq W W' := h.weak (fun i _ z => by unfold pq; omega)
theorem cl_rep (d c s n : Nat) (W : xi_W) (hn : n < 4) (r : xi_R → Prop) (K : r (some (.int (Int32.ofNat 1)), W, c, s)) : xr d 147 0 [(0, .int (Int32.ofNat n))] [] W c s r := by
  refine xr_stp rfl rfl rfl rfl ?_
  refine xr_j1 rfl rfl rfl rfl rfl (fun h1 => ?_) (fun h1 => ?_)
  · exact absurd (show n < 2147483648 by omega) (n_lt0 h1)
  · refine xr_stp rfl rfl rfl rfl ?_
    refine xr_stp (st' := .int (Int32.ofNat 4) :: _) rfl rfl rfl rfl ?_
    refine xr_j2 rfl rfl rfl rfl rfl (fun h6 => ?_) (fun h6 => ?_)
    · exact absurd (nt_ge (by omega) (by omega) h6) (by omega)
    · refine xr_stp (st' := .int (Int32.ofNat 1) :: _) rfl rfl rfl rfl ?_
      refine xr_stp rfl rfl rfl rfl ?_
      exact xr_retb (by omega) rfl rfl K
theorem cl_key (d c s n : Nat) (W : xi_W) (hn : n < 4) (r : xi_R → Prop) (K : r (some (.int (Int32.ofNat 1)), W, c, s)) : xr d 149 0 [(0, .int (Int32.ofNat n))] [] W c s r := by
  refine xr_stp rfl rfl rfl rfl ?_
  refine xr_j1 rfl rfl rfl rfl rfl (fun h1 => ?_) (fun h1 => ?_)
  · exact absurd (show n < 2147483648 by omega) (n_lt0 h1)
  · refine xr_stp rfl rfl rfl rfl ?_
    refine xr_stp (st' := .int (Int32.ofNat 4) :: _) rfl rfl rfl rfl ?_
    refine xr_j2 rfl rfl rfl rfl rfl (fun h6 => ?_) (fun h6 => ?_)
    · exact absurd (nt_ge (by omega) (by omega) h6) (by omega)
    · refine xr_stp (st' := .int (Int32.ofNat 1) :: _) rfl rfl rfl rfl ?_
      refine xr_stp rfl rfl rfl rfl ?_
      exact xr_retb (by omega) rfl rfl K
theorem cl_cell (d c s n k g : Nat) (W : xi_W) (hn : n < 4) (hk : k < 4) (hg : g < 3) (r : xi_R → Prop) (K : r (some (.int (Int32.ofNat 1)), W, c, s)) : xr (d + 1) 150 0 [(0, .int (Int32.ofNat n)), (1, .int (Int32.ofNat k)), (2, .int (Int32.ofNat g))] [] W c s r := by
  refine xr_stp rfl rfl rfl rfl ?_
  refine xr_cps rfl rfl rfl (fun r1 K2 => cl_rep _ _ _ n _ (by omega) r1 (K2 _ _ _ _ ?_))
  refine xr_j1 rfl rfl rfl rfl rfl (fun h4 => ?_) (fun h4 => ?_)
  · exact absurd (nt1_eq (a := 1) (by omega) h4) (by omega)
  · refine xr_stp rfl rfl rfl rfl ?_
    refine xr_cps rfl rfl rfl (fun r1 K2 => cl_key _ _ _ k _ (by omega) r1 (K2 _ _ _ _ ?_))
    refine xr_j1 rfl rfl rfl rfl rfl (fun h11 => ?_) (fun h11 => ?_)
    · exact absurd (nt1_eq (a := 1) (by omega) h11) (by omega)
    · refine xr_stp rfl rfl rfl rfl ?_
      refine xr_j1 rfl rfl rfl rfl rfl (fun h15 => ?_) (fun h15 => ?_)
      · exact absurd (show g < 2147483648 by omega) (n_lt0 h15)
      · refine xr_stp rfl rfl rfl rfl ?_
        refine xr_stp (st' := .int (Int32.ofNat 3) :: _) rfl rfl rfl rfl ?_
        refine xr_j2 rfl rfl rfl rfl rfl (fun h20 => ?_) (fun h20 => ?_)
        · exact absurd (nt_ge (by omega) (by omega) h20) (by omega)
        · refine xr_stp (st' := .int (Int32.ofNat 1) :: _) rfl rfl rfl rfl ?_
          refine xr_stp rfl rfl rfl rfl ?_
          exact xr_retb (by omega) rfl rfl K
theorem cl_pair (d c s n k : Nat) (W : xi_W) (hn : n < 4) (hk : k < 4) (hne : n ≠ k) (r : xi_R → Prop) (K : r (some (.int (Int32.ofNat 1)), W, c, s)) : xr (d + 1) 148 0 [(0, .int (Int32.ofNat n)), (1, .int (Int32.ofNat k))] [] W c s r := by
  refine xr_stp rfl rfl rfl rfl ?_
  refine xr_cps rfl rfl rfl (fun r1 K2 => cl_rep _ _ _ n _ (by omega) r1 (K2 _ _ _ _ ?_))
  refine xr_j1 rfl rfl rfl rfl rfl (fun h4 => ?_) (fun h4 => ?_)
  · exact absurd (nt1_eq (a := 1) (by omega) h4) (by omega)
  · refine xr_stp rfl rfl rfl rfl ?_
    refine xr_cps rfl rfl rfl (fun r1 K2 => cl_rep _ _ _ k _ (by omega) r1 (K2 _ _ _ _ ?_))
    refine xr_j1 rfl rfl rfl rfl rfl (fun h11 => ?_) (fun h11 => ?_)
    · exact absurd (nt1_eq (a := 1) (by omega) h11) (by omega)
    · refine xr_stp rfl rfl rfl rfl ?_
      refine xr_stp rfl rfl rfl rfl ?_
      refine xr_j2 rfl rfl rfl rfl rfl (fun h16 => ?_) (fun h16 => ?_)
      · exact absurd (nt_eq (by omega) (by omega) h16) hne
      · refine xr_stp (st' := .int (Int32.ofNat 1) :: _) rfl rfl rfl rfl ?_
        refine xr_stp rfl rfl rfl rfl ?_
        exact xr_retb (by omega) rfl rfl K
/-- 'stepped' -/
theorem cl_stp (d c s nn q dl tx sy T N fi m : Nat) (f : Nat → Int32) (W0 : xi_W) (G : Nat → Nat) (GS : Nat → Nat → Nat) (v : Nat) (hc : cmx nn f q dl tx sy T N fi m (m + 1) G GS W0) (hv : v < 4294967295) (r : xi_R → Prop) (K : ∀ W' fi', cmx nn f q dl tx sy T N fi' (min (m + 1) 30) (min (m + 1) 30) G (fun k => GS (k + (m + 1 - min (m + 1) 30))) W' → fr (fun i => i = 43) W0 W' → r (some (.int (Int32.ofNat v)), W', c, s)) : xr (d + 2) 151 0 [(0, .ref 17), (1, .int (Int32.ofNat v))] [] W0 c s r := by
  obtain ⟨lf, lp, hO⟩ := hc.o
  refine xr_stp rfl rfl rfl rfl ?_
  refine xr_stp (st' := .int (Int32.ofNat 4294967295) :: _) rfl rfl rfl rfl ?_
  refine xr_j2 rfl rfl rfl rfl rfl (fun h2 => ?_) (fun h2 => ?_)
  · exact absurd (nt_eq (by omega) (by omega) h2) (by omega)
  · refine xr_stp rfl rfl rfl rfl ?_
    refine xr_getfield hO rfl rfl rfl rfl ?_
    refine xr_vcps hc.st rfl rfl rfl rfl rfl rfl (fun r1 K2 => st_commit _ _ _ nn q dl tx sy T N fi m f W0 G GS hc r1 (fun W1 fi1 hc1 hf1 => K2 _ _ _ _ ?_))
    refine xr_stp rfl rfl rfl rfl ?_
    exact xr_ret rfl rfl (K W1 fi1 hc1 hf1)
theorem cl_stn (d c s : Nat) (W0 : xi_W) (L : List Value) (hO : W0[17]? = some (.inr (6, L))) (r : xi_R → Prop) (K : r (some (.int (Int32.ofNat 4294967295)), W0, c, s)) : xr d 151 0 [(0, .ref 17), (1, .int (Int32.ofNat 4294967295))] [] W0 c s r := by
  refine xr_stp rfl rfl rfl rfl ?_
  refine xr_stp (st' := .int (Int32.ofNat 4294967295) :: _) rfl rfl rfl rfl ?_
  refine xr_j2 rfl rfl rfl rfl rfl (fun h2 => ?_) (fun h2 => ?_)
  · refine xr_stp rfl rfl rfl rfl ?_
    exact xr_ret rfl rfl K
  · exact absurd h2 (by decide +kernel)
theorem cl_back {nn q dl tx sy T N fi m : Nat} {f : Nat → Int32} {W : xi_W} {G : Nat → Nat} {GS : Nat → Nat → Nat} (h : cmx nn f q dl tx sy T N fi m (m + 1) G (fun k => if k = m then G else GS k) W) : cmx nn f q dl tx sy T N fi m m G GS W := (h.less (Nat.le_refl _) (by omega)).ext (fun k hk => by show GS k = if k = m then G else GS k; rw [if_neg (by omega)])
/-- 'set' -/
theorem cl_set (d c s nn q dl tx sy T N fi m : Nat) (f : Nat → Int32) (W0 : xi_W) (G : Nat → Nat) (GS : Nat → Nat → Nat) (t k g v : Nat) (hc : cmx nn f q dl tx sy T N fi m m G GS W0) (h4 : G 4 ≤ 61) (ht : t < 4) (hk : k < 4) (hg : g < 3) (hv : v < 100) (hN : N + 100 < 90000) (r : xi_R → Prop) (K : (∀ W' fi', cmx nn f q dl tx sy T (N + 1) fi' (min (m + 1) 30) (min (m + 1) 30) (lw_se G t k g v) (sto m GS G) W' → fr pq W0 W' → r (some (.int (Int32.ofNat (lw_nx G t (G 4) 0 1))), W', c, s))) : xr (d + 5) 101 0 [(0, .ref 17), (1, .int (Int32.ofNat t)), (2, .int (Int32.ofNat k)), (3, .int (Int32.ofNat g)), (4, .int (Int32.ofNat v))] [] W0 c s r := by
  obtain ⟨lf, lp, hO⟩ := hc.o
  have hnx := lw_nxle G t (G 4) 0 1
  refine xr_stp rfl rfl rfl rfl ?_
  refine xr_stp rfl rfl rfl rfl ?_
  refine xr_stp rfl rfl rfl rfl ?_
  refine xr_cps rfl rfl rfl (fun r1 K2 => cl_cell _ _ _ t k g _ (by omega) (by omega) (by omega) r1 (K2 _ _ _ _ ?_))
  refine xr_j1 rfl rfl rfl rfl rfl (fun h6 => ?_) (fun h6 => ?_)
  · exact absurd (nt1_eq (a := 1) (by omega) h6) (by omega)
  · refine xr_stp rfl rfl rfl rfl ?_
    refine xr_j1 rfl rfl rfl rfl rfl (fun h11 => ?_) (fun h11 => ?_)
    · exact absurd (show v < 2147483648 by omega) (n_lt0 h11)
    · refine xr_stp rfl rfl rfl rfl ?_
      refine xr_stp (st' := .int (Int32.ofNat 100) :: _) rfl rfl rfl rfl ?_
      refine xr_j2 rfl rfl rfl rfl rfl (fun h18 => ?_) (fun h18 => ?_)
      · refine xr_stp rfl rfl rfl rfl ?_
        refine xr_getfield hO rfl rfl rfl rfl ?_
        refine xr_stp rfl rfl rfl rfl ?_
        refine xr_getfield hO rfl rfl rfl rfl ?_
        refine xr_vcps hc.st rfl rfl rfl rfl rfl rfl (fun r1 K2 => st_stage _ _ _ nn q dl tx sy T N fi m m f W0 G GS hc r1 (fun W1 hc1 hf1 => K2 _ _ _ _ ?_))
        obtain ⟨lf, lp, hO⟩ := hc1.o
        obtain ⟨F, hw, hr⟩ := hc1.w
        have hl := hc1.l
        have hR := hc1.R
        have hd1 := hc1.d
        refine xr_stp rfl rfl rfl rfl ?_
        refine xr_stp rfl rfl rfl rfl ?_
        refine xr_getfield hO rfl rfl rfl rfl ?_
        refine xr_stp rfl rfl rfl rfl ?_
        refine xr_stp rfl rfl rfl rfl ?_
        refine xr_stp rfl rfl rfl rfl ?_
        refine xr_stp rfl rfl rfl rfl ?_
        refine xr_vcps (hw.w wb23 hl hR) rfl rfl rfl rfl rfl rfl (fun r1 K2 => kl_place _ _ _ 23 (G 0 + 1) N t k g v W1 F G _ hw wb23 hl hR hr (by omega) h4 ht hk hg hv r1 (fun W2 F2 hw2 hf2 h2 => K2 _ _ _ _ ?_))
        have e0 := lw_seo hr.j (t := t) k g v ht h4 (j := 0) (by omega)
        have e5 := lw_seo hr.j (t := t) k g v ht h4 (j := 5) (by omega)
        have hc2 := hc1.now (G' := lw_se G t k g v) (krK hf2) hw2 (hc1.ok.2.2.2.2.2.1.keep hf2 wb23.k.1 wb23.k.2.1) (by rw [e0]; exact h2) (by rw [e5]; exact hd1) (Nat.le_succ N)
        obtain ⟨lf, lp, hO⟩ := hc2.o
        refine xr_vcps hO rfl rfl rfl rfl rfl rfl (fun r1 K2 => cl_stp _ _ _ nn q dl tx sy T _ fi m f W2 _ _ (lw_nx G t (G 4) 0 1) hc2 (by omega) r1 (fun W3 fi3 hc3 hf3 => K2 _ _ _ _ ?_))
        exact xr_ret rfl rfl (K W3 fi3 hc3 ((pq_s hf1).tr ((pq_k (krK hf2)).tr (pq_c hf3))))
      · exact absurd (nf_lt (by omega) (by omega) h18) (by omega)
theorem cl_clear (d c s nn q dl tx sy T N fi m : Nat) (f : Nat → Int32) (W0 : xi_W) (G : Nat → Nat) (GS : Nat → Nat → Nat) (t k g : Nat) (hc : cmx nn f q dl tx sy T N fi m m G GS W0) (ht : t < 4) (hk : k < 4) (hg : g < 3) (hN : N + 100 < 90000) (r : xi_R → Prop) (K0 : lw_cx G t k g = 0 → (∀ W', cmx nn f q dl tx sy T N fi m m G GS W' → fr pq W0 W' → r (some (.int (Int32.ofNat 4294967295)), W', c, s))) (K : lw_cx G t k g ≠ 0 → (∀ W' fi', cmx nn f q dl tx sy T (N + 1) fi' (min (m + 1) 30) (min (m + 1) 30) (lw_cl G t k g) (sto m GS G) W' → fr pq W0 W' → r (some (.int (Int32.ofNat (bc 63 (lw_cx G t k g)))), W', c, s))) : xr (d + 5) 102 0 [(0, .ref 17), (1, .int (Int32.ofNat t)), (2, .int (Int32.ofNat k)), (3, .int (Int32.ofNat g))] [] W0 c s r := by
  obtain ⟨lf, lp, hO⟩ := hc.o
  refine xr_stp rfl rfl rfl rfl ?_
  refine xr_stp rfl rfl rfl rfl ?_
  refine xr_stp rfl rfl rfl rfl ?_
  refine xr_cps rfl rfl rfl (fun r1 K2 => cl_cell _ _ _ t k g _ (by omega) (by omega) (by omega) r1 (K2 _ _ _ _ ?_))
  refine xr_j1 rfl rfl rfl rfl rfl (fun h6 => ?_) (fun h6 => ?_)
  · refine xr_stp rfl rfl rfl rfl ?_
    refine xr_getfield hO rfl rfl rfl rfl ?_
    refine xr_stp rfl rfl rfl rfl ?_
    refine xr_getfield hO rfl rfl rfl rfl ?_
    refine xr_vcps hc.st rfl rfl rfl rfl rfl rfl (fun r1 K2 => st_stage _ _ _ nn q dl tx sy T N fi m m f W0 G GS hc r1 (fun W1 hc1 hf1 => K2 _ _ _ _ ?_))
    obtain ⟨lf, lp, hO⟩ := hc1.o
    obtain ⟨F, hw, hr⟩ := hc1.w
    have hl := hc1.l
    have hR := hc1.R
    have hd1 := hc1.d
    refine xr_stp rfl rfl rfl rfl ?_
    refine xr_stp rfl rfl rfl rfl ?_
    refine xr_getfield hO rfl rfl rfl rfl ?_
    refine xr_stp rfl rfl rfl rfl ?_
    refine xr_stp rfl rfl rfl rfl ?_
    refine xr_stp rfl rfl rfl rfl ?_
    refine xr_vcps (hw.w wb23 hl hR) rfl rfl rfl rfl rfl rfl (fun r1 K2 => kl_remove _ _ _ 23 (G 0 + 1) N t k g W1 F G _ hw wb23 hl hR hr (by omega) ht hk (by omega) r1 (fun z => K2 _ _ _ _ ?_) (fun z W2 F2 hw2 hf2 h2 => K2 _ _ _ _ ?_))
    · refine xr_vcps hO rfl rfl rfl rfl rfl rfl (fun r1 K2 => cl_stn _ _ _ W1 _ hO r1 (K2 _ _ _ _ ?_))
      exact xr_ret rfl rfl (K0 z W1 (cl_back hc1) (pq_s hf1))
    · have e0 := lw_clro hr.j (t := t) k g ht (j := 0) (by omega)
      have e5 := lw_clro hr.j (t := t) k g ht (j := 5) (by omega)
      have ec : lw_clr G t k g = lw_cl G t k g := if_neg z
      rw [ec] at e0 e5
      have hbc := bcle 63 (lw_cx G t k g)
      have hc2 := hc1.now (G' := lw_cl G t k g) (krK hf2) hw2 (hc1.ok.2.2.2.2.2.1.keep hf2 wb23.k.1 wb23.k.2.1) (by rw [e0]; exact h2) (by rw [e5]; exact hd1) (Nat.le_succ N)
      obtain ⟨lf, lp, hO⟩ := hc2.o
      refine xr_vcps hO rfl rfl rfl rfl rfl rfl (fun r1 K2 => cl_stp _ _ _ nn q dl tx sy T _ fi m f W2 _ _ (bc 63 (lw_cx G t k g)) hc2 (by omega) r1 (fun W3 fi3 hc3 hf3 => K2 _ _ _ _ ?_))
      exact xr_ret rfl rfl (K z W3 fi3 hc3 ((pq_s hf1).tr ((pq_k (krK hf2)).tr (pq_c hf3))))
  · exact absurd (nf1_ne (a := 1) (by omega) h6) (by omega)
theorem cl_reset (d c s nn q dl tx sy T N fi m : Nat) (f : Nat → Int32) (W0 : xi_W) (G : Nat → Nat) (GS : Nat → Nat → Nat) (t k : Nat) (hc : cmx nn f q dl tx sy T N fi m m G GS W0) (ht : t < 4) (hk : k < 4) (hN : N + 100 < 90000) (r : xi_R → Prop) (K0 : lw_cx G t k 4294967295 = 0 → (∀ W', cmx nn f q dl tx sy T N fi m m G GS W' → fr pq W0 W' → r (some (.int (Int32.ofNat 4294967295)), W', c, s))) (K : lw_cx G t k 4294967295 ≠ 0 → (∀ W' fi', cmx nn f q dl tx sy T (N + 1) fi' (min (m + 1) 30) (min (m + 1) 30) (lw_cl G t k 4294967295) (sto m GS G) W' → fr pq W0 W' → r (some (.int (Int32.ofNat (bc 63 (lw_cx G t k 4294967295)))), W', c, s))) : xr (d + 5) 103 0 [(0, .ref 17), (1, .int (Int32.ofNat t)), (2, .int (Int32.ofNat k))] [] W0 c s r := by
  obtain ⟨lf, lp, hO⟩ := hc.o
  refine xr_stp rfl rfl rfl rfl ?_
  refine xr_cps rfl rfl rfl (fun r1 K2 => cl_rep _ _ _ t _ (by omega) r1 (K2 _ _ _ _ ?_))
  refine xr_j1 rfl rfl rfl rfl rfl (fun h4 => ?_) (fun h4 => ?_)
  · exact absurd (nt1_eq (a := 1) (by omega) h4) (by omega)
  · refine xr_stp rfl rfl rfl rfl ?_
    refine xr_cps rfl rfl rfl (fun r1 K2 => cl_key _ _ _ k _ (by omega) r1 (K2 _ _ _ _ ?_))
    refine xr_j1 rfl rfl rfl rfl rfl (fun h11 => ?_) (fun h11 => ?_)
    · refine xr_stp rfl rfl rfl rfl ?_
      refine xr_getfield hO rfl rfl rfl rfl ?_
      refine xr_stp rfl rfl rfl rfl ?_
      refine xr_getfield hO rfl rfl rfl rfl ?_
      refine xr_vcps hc.st rfl rfl rfl rfl rfl rfl (fun r1 K2 => st_stage _ _ _ nn q dl tx sy T N fi m m f W0 G GS hc r1 (fun W1 hc1 hf1 => K2 _ _ _ _ ?_))
      obtain ⟨lf, lp, hO⟩ := hc1.o
      obtain ⟨F, hw, hr⟩ := hc1.w
      have hl := hc1.l
      have hR := hc1.R
      have hd1 := hc1.d
      refine xr_stp rfl rfl rfl rfl ?_
      refine xr_stp rfl rfl rfl rfl ?_
      refine xr_getfield hO rfl rfl rfl rfl ?_
      refine xr_stp rfl rfl rfl rfl ?_
      refine xr_stp rfl rfl rfl rfl ?_
      refine xr_stp (st' := .int (Int32.ofNat 4294967295) :: _) rfl rfl rfl rfl ?_
      refine xr_vcps (hw.w wb23 hl hR) rfl rfl rfl rfl rfl rfl (fun r1 K2 => kl_remove _ _ _ 23 (G 0 + 1) N t k 4294967295 W1 F G _ hw wb23 hl hR hr (by omega) ht hk (by omega) r1 (fun z => K2 _ _ _ _ ?_) (fun z W2 F2 hw2 hf2 h2 => K2 _ _ _ _ ?_))
      · refine xr_vcps hO rfl rfl rfl rfl rfl rfl (fun r1 K2 => cl_stn _ _ _ W1 _ hO r1 (K2 _ _ _ _ ?_))
        exact xr_ret rfl rfl (K0 z W1 (cl_back hc1) (pq_s hf1))
      · have e0 := lw_clro hr.j (t := t) k 4294967295 ht (j := 0) (by omega)
        have e5 := lw_clro hr.j (t := t) k 4294967295 ht (j := 5) (by omega)
        have ec : lw_clr G t k 4294967295 = lw_cl G t k 4294967295 := if_neg z
        rw [ec] at e0 e5
        have hbc := bcle 63 (lw_cx G t k 4294967295)
        have hc2 := hc1.now (G' := lw_cl G t k 4294967295) (krK hf2) hw2 (hc1.ok.2.2.2.2.2.1.keep hf2 wb23.k.1 wb23.k.2.1) (by rw [e0]; exact h2) (by rw [e5]; exact hd1) (Nat.le_succ N)
        obtain ⟨lf, lp, hO⟩ := hc2.o
        refine xr_vcps hO rfl rfl rfl rfl rfl rfl (fun r1 K2 => cl_stp _ _ _ nn q dl tx sy T _ fi m f W2 _ _ (bc 63 (lw_cx G t k 4294967295)) hc2 (by omega) r1 (fun W3 fi3 hc3 hf3 => K2 _ _ _ _ ?_))
        exact xr_ret rfl rfl (K z W3 fi3 hc3 ((pq_s hf1).tr ((pq_k (krK hf2)).tr (pq_c hf3))))
    · exact absurd (nf1_ne (a := 1) (by omega) h11) (by omega)
theorem cl_send (d c s nn q dl tx sy T N fi m : Nat) (f : Nat → Int32) (W0 : xi_W) (G : Nat → Nat) (GS : Nat → Nat → Nat) (t k : Nat) (hc : cmx nn f q dl tx sy T N fi m m G GS W0) (ht : t < 4) (hk : k < 4) (hne : t ≠ k) (hN : N + 100 < 90000) (r : xi_R → Prop) (K0 : lw_be G t k = 0 → (∀ W', cmx nn f q dl tx sy T N fi m m G GS W' → fr pq W0 W' → r (some (.int (Int32.ofNat 4294967295)), W', c, s))) (K : lw_be G t k ≠ 0 → (∀ W' fi', cmx nn f q dl tx sy T (N + 1) fi' (min (m + 1) 30) (min (m + 1) 30) (lw_sn nn f G q t k) (sto m GS G) W' → fr pq W0 W' → r (some (.int (Int32.ofNat (G (338 + t)))), W', c, s))) : xr (d + 6) 104 0 [(0, .ref 17), (1, .int (Int32.ofNat t)), (2, .int (Int32.ofNat k))] [] W0 c s r := by
  obtain ⟨lf, lp, hO⟩ := hc.o
  refine xr_stp rfl rfl rfl rfl ?_
  refine xr_stp rfl rfl rfl rfl ?_
  refine xr_cps rfl rfl rfl (fun r1 K2 => cl_pair _ _ _ t k _ (by omega) (by omega) hne r1 (K2 _ _ _ _ ?_))
  refine xr_j1 rfl rfl rfl rfl rfl (fun h5 => ?_) (fun h5 => ?_)
  · refine xr_stp rfl rfl rfl rfl ?_
    refine xr_getfield hO rfl rfl rfl rfl ?_
    refine xr_stp rfl rfl rfl rfl ?_
    refine xr_getfield hO rfl rfl rfl rfl ?_
    refine xr_vcps hc.st rfl rfl rfl rfl rfl rfl (fun r1 K2 => st_stage _ _ _ nn q dl tx sy T N fi m m f W0 G GS hc r1 (fun W1 hc1 hf1 => K2 _ _ _ _ ?_))
    obtain ⟨lf, lp, hO⟩ := hc1.o
    obtain ⟨F, hw, hr⟩ := hc1.w
    have hl := hc1.l
    have hR := hc1.R
    have hd1 := hc1.d
    refine xr_stp rfl rfl rfl rfl ?_
    refine xr_stp rfl rfl rfl rfl ?_
    refine xr_getfield hO rfl rfl rfl rfl ?_
    refine xr_stp rfl rfl rfl rfl ?_
    refine xr_getfield hO rfl rfl rfl rfl ?_
    refine xr_stp rfl rfl rfl rfl ?_
    refine xr_stp rfl rfl rfl rfl ?_
    refine xr_vcps (hw.w wb23 hl hR) rfl rfl rfl rfl rfl rfl (fun r1 K2 => kl_send d _ _ 23 (G 0 + 1) N nn q dl tx sy T f W1 F G t k hw wb23 hc1.ok hr hd1.symm (by omega) (by have := hr.j.d0; omega) hc1.q ht hk hne r1 (fun z => K2 _ _ _ _ ?_) (fun z W2 F2 hw2 hs2 hf2 h2 => K2 _ _ _ _ ?_))
    · refine xr_vcps hO rfl rfl rfl rfl rfl rfl (fun r1 K2 => cl_stn _ _ _ W1 _ hO r1 (K2 _ _ _ _ ?_))
      exact xr_ret rfl rfl (K0 z W1 (cl_back hc1) (pq_s hf1))
    · have e0 := lw_sndo nn f q G t k (j := 0) (by omega)
      have e5 := lw_sndo nn f q G t k (j := 5) (by omega)
      have ec : lw_snd nn f q G t k = lw_sn nn f G q t k := if_neg z
      rw [ec] at e0 e5
      have hcb := hr.j.c t ht
      have hc2 := hc1.now (G' := lw_sn nn f G q t k) hf2 hw2 hs2 (by rw [e0]; exact h2) (by rw [e5]; exact hd1) (Nat.le_succ N)
      obtain ⟨lf, lp, hO⟩ := hc2.o
      refine xr_vcps hO rfl rfl rfl rfl rfl rfl (fun r1 K2 => cl_stp _ _ _ nn q dl tx sy T _ fi m f W2 _ _ (G (338 + t)) hc2 (by omega) r1 (fun W3 fi3 hc3 hf3 => K2 _ _ _ _ ?_))
      exact xr_ret rfl rfl (K z W3 fi3 hc3 ((pq_s hf1).tr ((pq_k hf2).tr (pq_c hf3))))
  · exact absurd (nf1_ne (a := 1) (by omega) h5) (by omega)
