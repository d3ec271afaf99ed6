/-! same: the book, the end -/
theorem ldg_u (G : Nat → Nat) (g0 i : Nat) (hi : g0 ≤ i) : xn_u (fun k => ldg G k (i - g0) g0 0) (G (605 + 4 * i)) (ldg G (G (605 + 4 * i)) (i - g0) g0 0 + 1) = fun k => ldg G k (i + 1 - g0) g0 0 := by
  funext k
  unfold xn_u
  rw [show i + 1 - g0 = i - g0 + 1 by omega, ldg_top, show g0 + (i - g0) = i by omega]
  by_cases e : k = G (605 + 4 * i)
  · rw [if_pos e, if_pos e.symm, e]
  · rw [if_neg e, if_neg (fun z => e z.symm)]
    rfl
theorem sa_bI (d c s : Nat) (nn q dl tx sy T N fi m mm A : Nat) (f : Nat → Int32) (G : Nat → Nat) (GS : Nat → Nat → Nat) (r : xi_R → Prop) (qv fv R : Nat) (W0 : xi_W) (hs : scn nn f q dl tx sy T N fi m mm G GS A W0) (i : Nat) (hi1 : G 603 - 25 ≤ i) (hi2 : i < G 603) : ∀ (m1 k : Nat), k + m1 = 4 → xr (d + 8) 202 891 [(0, .ref 17), (3, .ref A), (4, .int (Int32.ofNat qv)), (5, .int (Int32.ofNat fv)), (7, .int (Int32.ofNat (G 603 - 25))), (8, .ref R), (9, .int (Int32.ofNat i))] [] W0 c s r → xr (d + 8) 202 848 [(0, .ref 17), (3, .ref A), (4, .int (Int32.ofNat qv)), (5, .int (Int32.ofNat fv)), (7, .int (Int32.ofNat (G 603 - 25))), (8, .ref R), (9, .int (Int32.ofNat i)), (10, .int (Int32.ofNat k))] [] W0 c s r
  | 0, k, hk, K => by
    obtain rfl : k = 4 := by omega
    refine xr_stp rfl rfl rfl rfl ?_
    refine xr_stp (st' := .int (Int32.ofNat 4) :: _) rfl rfl rfl rfl ?_
    refine xr_j2 rfl rfl rfl rfl rfl (fun h851 => ?_) (fun h851 => ?_)
    · refine xr_loc [(0, .ref 17), (3, .ref A), (4, .int (Int32.ofNat qv)), (5, .int (Int32.ofNat fv)), (7, .int (Int32.ofNat (G 603 - 25))), (8, .ref R), (9, .int (Int32.ofNat i))] ⟨rfl, rfl, rfl, rfl, rfl, rfl, rfl, trivial⟩ rfl ?_
      exact K
    · have z851 := nf_ge (by omega) (by omega) h851
      exact (by omega)
  | m1 + 1, k, hk, K => by
    obtain ⟨hc, hA, hS, gA, hz, hN, hnn⟩ := id hs
    obtain ⟨F, hw, hr⟩ := hc.w
    have J := hr.j
    have he := hr.e
    have J4 := J.e
    have b63 := J.b63
    have gA7 : 17 ≤ A := by omega
    obtain ⟨lf, lp, hO⟩ := hc.o
    have hm3 := J.k
    have hbk := hz.2.1 i k hi2 (by omega)
    have e1 : 604 + 4 * (G 603 - min (G 603) 25 + (i - (G 603 - 25))) + k = 604 + 4 * i + k := by omega
    refine xr_stp rfl rfl rfl rfl ?_
    refine xr_stp (st' := .int (Int32.ofNat 4) :: _) rfl rfl rfl rfl ?_
    refine xr_j2 rfl rfl rfl rfl rfl (fun h851 => ?_) (fun h851 => ?_)
    · have z851 := nt_ge (by omega) (by omega) h851
      exact (by omega)
    · refine xr_stp rfl rfl rfl rfl ?_
      refine xr_stp rfl rfl rfl rfl ?_
      refine xr_stp rfl rfl rfl rfl ?_
      refine xs_sub (by omega) rfl ?_
      refine xr_stp rfl rfl rfl rfl ?_
      refine xr_vcps hO rfl rfl rfl rfl rfl rfl (fun r1 K2 => cq_boo _ _ _ nn q dl tx sy T N fi m mm f W0 G GS hc (i - (G 603 - 25)) k (by omega) (by omega) r1 (K2 _ _ _ _ ?_))
      rw [e1]
      refine xs_i2l (by omega) rfl ?_
      refine xr_stp rfl rfl rfl rfl ?_
      refine xr_stp (st' := .int (Int32.ofNat 604) :: _) rfl rfl rfl rfl ?_
      refine xr_stp (st' := .int (Int32.ofNat 4) :: _) rfl rfl rfl rfl ?_
      refine xr_stp rfl rfl rfl rfl ?_
      refine xs_mul rfl ?_
      refine xs_add rfl ?_
      refine xr_stp rfl rfl rfl rfl ?_
      refine xs_add rfl ?_
      refine xs_ald hA gA7 (by omega) (by omega) rfl ?_
      refine xs_lc (by omega) (by exact b63 _) rfl ?_
      refine xr_j1 rfl rfl rfl rfl rfl (fun h880 => ?_) (fun h880 => ?_)
      · refine xs_inc (e := 1) rfl rfl rfl rfl ?_
        refine xr_stp rfl rfl rfl rfl ?_
        refine xr_loc [(0, .ref 17), (3, .ref A), (4, .int (Int32.ofNat qv)), (5, .int (Int32.ofNat fv)), (7, .int (Int32.ofNat (G 603 - 25))), (8, .ref R), (9, .int (Int32.ofNat i)), (10, .int (Int32.ofNat (k + 1)))] ⟨rfl, rfl, rfl, rfl, rfl, rfl, rfl, rfl, trivial⟩ rfl ?_
        exact sa_bI d c s nn q dl tx sy T N fi m mm A f G GS r qv fv R W0 hs i hi1 hi2 m1 (k + 1) (by omega) K
      · have z880 := lf_eq h880
        exact (by omega)
theorem sa_bO (d c s : Nat) (nn q dl tx sy T N fi m mm A : Nat) (f : Nat → Int32) (G : Nat → Nat) (GS : Nat → Nat → Nat) (r : xi_R → Prop) (qv fv R : Nat) (gR : 696 ≤ R) (nRA : R ≠ A) : ∀ (m1 i : Nat) (W0 : xi_W), i + m1 = G 603 → G 603 - 25 ≤ i → scn nn f q dl tx sy T N fi m mm G GS A W0 → W0[R]? = some (lw_i 5 (fun k => ldg G k (i - (G 603 - 25)) (G 603 - 25) 0)) → (∀ W', scn nn f q dl tx sy T N fi m mm G GS A W' → W'[R]? = some (lw_i 5 (fun k => ldg G k (min (G 603) 25) (G 603 - min (G 603) 25) 0)) → fr (fun i => i = R) W0 W' → xr (d + 8) 202 915 [(0, .ref 17), (3, .ref A), (4, .int (Int32.ofNat qv)), (5, .int (Int32.ofNat fv)), (7, .int (Int32.ofNat (G 603 - 25))), (8, .ref R)] [] W' c s r) → xr (d + 8) 202 833 [(0, .ref 17), (3, .ref A), (4, .int (Int32.ofNat qv)), (5, .int (Int32.ofNat fv)), (7, .int (Int32.ofNat (G 603 - 25))), (8, .ref R), (9, .int (Int32.ofNat i))] [] W0 c s r
  | 0, i, W0, hi, hi1, hs, hV, K => by
    obtain ⟨hc, hA, hS, gA, hz, hN, hnn⟩ := id hs
    obtain ⟨F, hw, hr⟩ := hc.w
    have J := hr.j
    have he := hr.e
    have J4 := J.e
    have b63 := J.b63
    have gA7 : 17 ≤ A := by omega
    obtain ⟨lf, lp, hO⟩ := hc.o
    have hm3 := J.k
    obtain rfl : i = G 603 := by omega
    rw [show G 603 - (G 603 - 25) = min (G 603) 25 by omega, show G 603 - 25 = G 603 - min (G 603) 25 by omega] at hV
    refine xr_stp rfl rfl rfl rfl ?_
    refine xs_i2l (by omega) rfl ?_
    refine xr_stp rfl rfl rfl rfl ?_
    refine xr_stp (st' := .int (Int32.ofNat 603) :: _) rfl rfl rfl rfl ?_
    refine xs_ald hA gA7 (by omega) (by omega) rfl ?_
    refine xs_lc (by omega) (by exact b63 _) rfl ?_
    refine xr_j1 rfl rfl rfl rfl rfl (fun h842 => ?_) (fun h842 => ?_)
    · refine xr_loc [(0, .ref 17), (3, .ref A), (4, .int (Int32.ofNat qv)), (5, .int (Int32.ofNat fv)), (7, .int (Int32.ofNat (G 603 - 25))), (8, .ref R)] ⟨rfl, rfl, rfl, rfl, rfl, rfl, trivial⟩ rfl ?_
      exact K W0 hs hV fr.rf
    · have z842 := lf_ge h842
      exact (by omega)
  | m1 + 1, i, W0, hi, hi1, hs, hV, K => by
    obtain ⟨hc, hA, hS, gA, hz, hN, hnn⟩ := id hs
    obtain ⟨F, hw, hr⟩ := hc.w
    have J := hr.j
    have he := hr.e
    have J4 := J.e
    have b63 := J.b63
    have gA7 : 17 ≤ A := by omega
    obtain ⟨lf, lp, hO⟩ := hc.o
    have hm3 := J.k
    have hb5 : G (605 + 4 * i) < 5 := by have := hz.2.2 i (by omega); rw [show 604 + 4 * i + 1 = 605 + 4 * i by omega] at this; exact this
    refine xr_stp rfl rfl rfl rfl ?_
    refine xs_i2l (by omega) rfl ?_
    refine xr_stp rfl rfl rfl rfl ?_
    refine xr_stp (st' := .int (Int32.ofNat 603) :: _) rfl rfl rfl rfl ?_
    refine xs_ald hA gA7 (by omega) (by omega) rfl ?_
    refine xs_lc (by omega) (by exact b63 _) rfl ?_
    refine xr_j1 rfl rfl rfl rfl rfl (fun h842 => ?_) (fun h842 => ?_)
    · have z842 := lt_ge h842
      exact (by omega)
    · refine xr_stp (st' := .int (Int32.ofNat 0) :: _) rfl rfl rfl rfl ?_
      refine xr_stp rfl rfl rfl rfl ?_
      refine xr_loc [(0, .ref 17), (3, .ref A), (4, .int (Int32.ofNat qv)), (5, .int (Int32.ofNat fv)), (7, .int (Int32.ofNat (G 603 - 25))), (8, .ref R), (9, .int (Int32.ofNat i)), (10, .int (Int32.ofNat 0))] ⟨rfl, rfl, rfl, rfl, rfl, rfl, rfl, rfl, trivial⟩ rfl ?_
      refine sa_bI d c s nn q dl tx sy T N fi m mm A f G GS r qv fv R W0 hs i hi1 (by omega) 4 0 rfl ?_
      refine xr_stp rfl rfl rfl rfl ?_
      refine xr_stp rfl rfl rfl rfl ?_
      refine xr_stp (st' := .int (Int32.ofNat 605) :: _) rfl rfl rfl rfl ?_
      refine xr_stp (st' := .int (Int32.ofNat 4) :: _) rfl rfl rfl rfl ?_
      refine xr_stp rfl rfl rfl rfl ?_
      refine xs_mul rfl ?_
      refine xs_add rfl ?_
      refine xs_ald hA gA7 (by omega) (by omega) rfl ?_
      refine xs_l2i rfl ?_
      refine xr_stp rfl rfl rfl rfl ?_
      refine xs_ild hV (by omega) (by omega) rfl ?_
      refine xr_stp (st' := .int (Int32.ofNat 1) :: _) rfl rfl rfl rfl ?_
      refine xs_add rfl ?_
      refine xs_istk hV (by omega) hb5 (by omega) rfl (fun W1 hV1 hf1 => ?_)
      rw [ldg_u G (G 603 - 25) i hi1] at hV1
      refine xs_inc (e := 1) rfl rfl rfl rfl ?_
      refine xr_stp rfl rfl rfl rfl ?_
      refine xr_loc [(0, .ref 17), (3, .ref A), (4, .int (Int32.ofNat qv)), (5, .int (Int32.ofNat fv)), (7, .int (Int32.ofNat (G 603 - 25))), (8, .ref R), (9, .int (Int32.ofNat (i + 1)))] ⟨rfl, rfl, rfl, rfl, rfl, rfl, rfl, trivial⟩ rfl ?_
      exact sa_bO d c s nn q dl tx sy T N fi m mm A f G GS r qv fv R gR nRA m1 (i + 1) W1 (by omega) (by omega) (hs.oth hf1 (fun j z => by have z : j = R := z; omega)) hV1 (fun W5 k1 k2 k3 => K W5 k1 k2 ((hf1.weak (P2 := fun i => i = R) (fun i _ z => z)).tr k3))
theorem ldg_le (G : Nat → Nat) (k : Nat) : ∀ (m i a : Nat), ldg G k m i a ≤ a + m
  | 0, i, a => Nat.le_refl _
  | m + 1, i, a => by
    have := ldg_le G k m (i + 1) (a + if G (605 + 4 * i) = k then 1 else 0)
    have e : (if G (605 + 4 * i) = k then 1 else 0) ≤ 1 := by split <;> omega
    show ldg G k m (i + 1) (a + if G (605 + 4 * i) = k then 1 else 0) ≤ a + (m + 1)
    omega
theorem sa_le (d c s : Nat) (nn q dl tx sy T N fi m mm A : Nat) (f : Nat → Int32) (G : Nat → Nat) (GS : Nat → Nat → Nat) (r : xi_R → Prop) (qv fv R : Nat) (W0 : xi_W) (hs : scn nn f q dl tx sy T N fi m mm G GS A W0) (hV : W0[R]? = some (lw_i 5 (fun k => ldg G k (min (G 603) 25) (G 603 - min (G 603) 25) 0))) : ∀ (m1 k : Nat), k + m1 = 5 → xr (d + 8) 202 946 [(0, .ref 17), (3, .ref A), (4, .int (Int32.ofNat qv)), (5, .int (Int32.ofNat fv)), (7, .int (Int32.ofNat (G 603 - 25))), (8, .ref R)] [] W0 c s r → xr (d + 8) 202 918 [(0, .ref 17), (3, .ref A), (4, .int (Int32.ofNat qv)), (5, .int (Int32.ofNat fv)), (7, .int (Int32.ofNat (G 603 - 25))), (8, .ref R), (9, .int (Int32.ofNat k))] [] W0 c s r
  | 0, k, hk, K => by
    obtain rfl : k = 5 := by omega
    refine xr_stp rfl rfl rfl rfl ?_
    refine xr_stp (st' := .int (Int32.ofNat 5) :: _) rfl rfl rfl rfl ?_
    refine xr_j2 rfl rfl rfl rfl rfl (fun h921 => ?_) (fun h921 => ?_)
    · refine xr_loc [(0, .ref 17), (3, .ref A), (4, .int (Int32.ofNat qv)), (5, .int (Int32.ofNat fv)), (7, .int (Int32.ofNat (G 603 - 25))), (8, .ref R)] ⟨rfl, rfl, rfl, rfl, rfl, rfl, trivial⟩ rfl ?_
      exact K
    · have z921 := nf_ge (by omega) (by omega) h921
      exact (by omega)
  | m1 + 1, k, hk, K => by
    obtain ⟨hc, hA, hS, gA, hz, hN, hnn⟩ := id hs
    obtain ⟨F, hw, hr⟩ := hc.w
    have J := hr.j
    have he := hr.e
    have J4 := J.e
    have b63 := J.b63
    have gA7 : 17 ≤ A := by omega
    obtain ⟨lf, lp, hO⟩ := hc.o
    have hle := ldg_le G k (min (G 603) 25) (G 603 - min (G 603) 25) 0
    refine xr_stp rfl rfl rfl rfl ?_
    refine xr_stp (st' := .int (Int32.ofNat 5) :: _) rfl rfl rfl rfl ?_
    refine xr_j2 rfl rfl rfl rfl rfl (fun h921 => ?_) (fun h921 => ?_)
    · have z921 := nt_ge (by omega) (by omega) h921
      exact (by omega)
    · refine xr_stp rfl rfl rfl rfl ?_
      refine xr_stp rfl rfl rfl rfl ?_
      refine xr_vcps hO rfl rfl rfl rfl rfl rfl (fun r1 K2 => cq_led _ _ _ nn q dl tx sy T N fi m mm f W0 G GS hc k (by omega) r1 (K2 _ _ _ _ ?_))
      refine xr_stp rfl rfl rfl rfl ?_
      refine xr_stp rfl rfl rfl rfl ?_
      refine xs_ild hV (by omega) (by omega) rfl ?_
      refine xr_j2 rfl rfl rfl rfl rfl (fun h935 => ?_) (fun h935 => ?_)
      · refine xs_inc (e := 1) rfl rfl rfl rfl ?_
        refine xr_stp rfl rfl rfl rfl ?_
        refine xr_loc [(0, .ref 17), (3, .ref A), (4, .int (Int32.ofNat qv)), (5, .int (Int32.ofNat fv)), (7, .int (Int32.ofNat (G 603 - 25))), (8, .ref R), (9, .int (Int32.ofNat (k + 1)))] ⟨rfl, rfl, rfl, rfl, rfl, rfl, rfl, trivial⟩ rfl ?_
        exact sa_le d c s nn q dl tx sy T N fi m mm A f G GS r qv fv R W0 hs hV m1 (k + 1) (by omega) K
      · have z935 := nf_eq h935
        exact (by omega)
theorem cq_isZ (d c s nn q dl tx sy T N fi m mm : Nat) (f : Nat → Int32) (W0 : xi_W) (G : Nat → Nat) (GS : Nat → Nat → Nat) (hc : cmx nn f q dl tx sy T N fi m mm G GS W0) (k : Nat) (hk : k < 4) (r : xi_R → Prop) (K : r (some (.int (Int32.ofNat (G k))), W0, c, s)) : xr (d + 6) 118 0 [(0, .ref 17), (1, .int (Int32.ofNat k))] [] W0 c s r := by
  have e : k = 0 ∨ k = 1 ∨ k = 2 ∨ k = 3 := by omega
  rcases e with rfl | rfl | rfl | rfl
  · exact cq_is0 d c s nn q dl tx sy T N fi m mm f W0 G GS hc r K
  · exact cq_is1 d c s nn q dl tx sy T N fi m mm f W0 G GS hc r K
  · exact cq_is2 d c s nn q dl tx sy T N fi m mm f W0 G GS hc r K
  · exact cq_is3 d c s nn q dl tx sy T N fi m mm f W0 G GS hc r K
theorem sa_is (d c s : Nat) (nn q dl tx sy T N fi m mm A : Nat) (f : Nat → Int32) (G : Nat → Nat) (GS : Nat → Nat → Nat) (r : xi_R → Prop) (qv fv R : Nat) (W0 : xi_W) (hs : scn nn f q dl tx sy T N fi m mm G GS A W0) : ∀ (m1 k : Nat), k + m1 = 4 → xr (d + 8) 202 978 [(0, .ref 17), (3, .ref A), (4, .int (Int32.ofNat qv)), (5, .int (Int32.ofNat fv)), (7, .int (Int32.ofNat (G 603 - 25))), (8, .ref R)] [] W0 c s r → xr (d + 8) 202 949 [(0, .ref 17), (3, .ref A), (4, .int (Int32.ofNat qv)), (5, .int (Int32.ofNat fv)), (7, .int (Int32.ofNat (G 603 - 25))), (8, .ref R), (9, .int (Int32.ofNat k))] [] W0 c s r
  | 0, k, hk, K => by
    obtain rfl : k = 4 := by omega
    refine xr_stp rfl rfl rfl rfl ?_
    refine xr_stp (st' := .int (Int32.ofNat 4) :: _) rfl rfl rfl rfl ?_
    refine xr_j2 rfl rfl rfl rfl rfl (fun h952 => ?_) (fun h952 => ?_)
    · refine xr_loc [(0, .ref 17), (3, .ref A), (4, .int (Int32.ofNat qv)), (5, .int (Int32.ofNat fv)), (7, .int (Int32.ofNat (G 603 - 25))), (8, .ref R)] ⟨rfl, rfl, rfl, rfl, rfl, rfl, trivial⟩ rfl ?_
      exact K
    · have z952 := nf_ge (by omega) (by omega) h952
      exact (by omega)
  | m1 + 1, k, hk, K => by
    obtain ⟨hc, hA, hS, gA, hz, hN, hnn⟩ := id hs
    obtain ⟨F, hw, hr⟩ := hc.w
    have J := hr.j
    have he := hr.e
    have J4 := J.e
    have b63 := J.b63
    have gA7 : 17 ≤ A := by omega
    obtain ⟨lf, lp, hO⟩ := hc.o
    have hgk : G k < 1000000 := by
      have := J.n0
      have := J.x
      have := J.n2
      have := J.n3
      have e : k = 0 ∨ k = 1 ∨ k = 2 ∨ k = 3 := by omega
      rcases e with rfl | rfl | rfl | rfl <;> omega
    refine xr_stp rfl rfl rfl rfl ?_
    refine xr_stp (st' := .int (Int32.ofNat 4) :: _) rfl rfl rfl rfl ?_
    refine xr_j2 rfl rfl rfl rfl rfl (fun h952 => ?_) (fun h952 => ?_)
    · have z952 := nt_ge (by omega) (by omega) h952
      exact (by omega)
    · refine xr_stp rfl rfl rfl rfl ?_
      refine xr_stp rfl rfl rfl rfl ?_
      refine xr_vcps hO rfl rfl rfl rfl rfl rfl (fun r1 K2 => cq_isZ _ _ _ nn q dl tx sy T N fi m mm f W0 G GS hc k (by omega) r1 (K2 _ _ _ _ ?_))
      refine xs_i2l (by omega) rfl ?_
      refine xr_stp rfl rfl rfl rfl ?_
      refine xr_stp rfl rfl rfl rfl ?_
      refine xs_ald hA gA7 (by omega) (by omega) rfl ?_
      refine xs_lc (by omega) (by omega) rfl ?_
      refine xr_j1 rfl rfl rfl rfl rfl (fun h967 => ?_) (fun h967 => ?_)
      · refine xs_inc (e := 1) rfl rfl rfl rfl ?_
        refine xr_stp rfl rfl rfl rfl ?_
        refine xr_loc [(0, .ref 17), (3, .ref A), (4, .int (Int32.ofNat qv)), (5, .int (Int32.ofNat fv)), (7, .int (Int32.ofNat (G 603 - 25))), (8, .ref R), (9, .int (Int32.ofNat (k + 1)))] ⟨rfl, rfl, rfl, rfl, rfl, rfl, rfl, trivial⟩ rfl ?_
        exact sa_is d c s nn q dl tx sy T N fi m mm A f G GS r qv fv R W0 hs m1 (k + 1) (by omega) K
      · have z967 := lf_eq h967
        exact (by omega)
theorem frL_lt (G : Nat → Nat) : ∀ (m x a : Nat), x + m = 4 → a < 4 → frL G m x a < 4
  | 0, x, a, h, ha => ha
  | m + 1, x, a, h, ha => by
    unfold frL
    exact frL_lt G m (x + 1) _ (by omega) (by split <;> omega)
theorem sa_end (d c s : Nat) (nn q dl tx sy T N fi m mm A : Nat) (f : Nat → Int32) (G : Nat → Nat) (GS : Nat → Nat → Nat) (r : xi_R → Prop) (qv fv R : Nat) (W0 : xi_W) (hs : scn nn f q dl tx sy T N fi m mm G GS A W0) (hqv : qv = qu G) (hfv : fv = frL G 4 0 0) (K : r (some (.int (Int32.ofNat 1)), W0, c, s)) : xr (d + 8) 202 978 [(0, .ref 17), (3, .ref A), (4, .int (Int32.ofNat qv)), (5, .int (Int32.ofNat fv)), (7, .int (Int32.ofNat (G 603 - 25))), (8, .ref R)] [] W0 c s r := by
  obtain ⟨hc, hA, hS, gA, hz, hN, hnn⟩ := id hs
  obtain ⟨F, hw, hr⟩ := hc.w
  have J := hr.j
  have he := hr.e
  have J4 := J.e
  have b63 := J.b63
  have gA7 : 17 ≤ A := by omega
  obtain ⟨lf, lp, hO⟩ := hc.o
  have hm3 := J.k
  have hm := J.m
  have hqu := (qu_iff G).1
  have hfr : fv < 4 := by rw [hfv]; exact frL_lt G 4 0 0 rfl (by omega)
  refine xr_stp rfl rfl rfl rfl ?_
  refine xr_stp (st' := .int (Int32.ofNat 4294967295) :: _) rfl rfl rfl rfl ?_
  refine xr_stp (st' := .int (Int32.ofNat 0) :: _) rfl rfl rfl rfl ?_
  refine xr_vcps hO rfl rfl rfl rfl rfl rfl (fun r1 K2 => cq_booN _ _ _ nn q dl tx sy T N fi m mm f W0 G GS hc 0 r1 (K2 _ _ _ _ ?_))
  refine xs_i2l (by omega) rfl ?_
  refine xr_stp rfl rfl rfl rfl ?_
  refine xr_stp (st' := .int (Int32.ofNat 603) :: _) rfl rfl rfl rfl ?_
  refine xs_ald hA gA7 (by omega) (by omega) rfl ?_
  refine xr_stp rfl rfl rfl rfl ?_
  refine xs_i2l (by omega) rfl ?_
  refine xs_lsub (by omega) rfl ?_
  refine xs_lc (by omega) (by omega) rfl ?_
  refine xr_j1 rfl rfl rfl rfl rfl (fun h995 => ?_) (fun h995 => ?_)
  · have z995 := lt_ne h995
    exact (by omega)
  · refine xr_stp rfl rfl rfl rfl ?_
    refine xr_stp (st' := .int (Int32.ofNat 4294967295) :: _) rfl rfl rfl rfl ?_
    refine xr_stp (st' := .int (Int32.ofNat 0) :: _) rfl rfl rfl rfl ?_
    refine xr_vcps hO rfl rfl rfl rfl rfl rfl (fun r1 K2 => cq_fliN _ _ _ nn q dl tx sy T N fi m mm f W0 G GS hc 0 r1 (K2 _ _ _ _ ?_))
    refine xs_i2l (by omega) rfl ?_
    refine xr_stp rfl rfl rfl rfl ?_
    refine xr_stp (st' := .int (Int32.ofNat 410) :: _) rfl rfl rfl rfl ?_
    refine xs_ald hA gA7 (by omega) (by omega) rfl ?_
    refine xs_lc (by omega) (by omega) rfl ?_
    refine xr_j1 rfl rfl rfl rfl rfl (fun h1011 => ?_) (fun h1011 => ?_)
    · have z1011 := lt_ne h1011
      exact (by omega)
    · refine xr_stp rfl rfl rfl rfl ?_
      refine xr_stp rfl rfl rfl rfl ?_
      refine xr_stp (st' := .int (Int32.ofNat 410) :: _) rfl rfl rfl rfl ?_
      refine xs_ald hA gA7 (by omega) (by omega) rfl ?_
      refine xs_l2i rfl ?_
      refine xr_stp (st' := .int (Int32.ofNat 0) :: _) rfl rfl rfl rfl ?_
      refine xr_vcps hO rfl rfl rfl rfl rfl rfl (fun r1 K2 => cq_fliE _ _ _ nn q dl tx sy T N fi m mm f W0 G GS hc (G 410) 0 (Nat.le_refl _) (by omega) r1 (K2 _ _ _ _ ?_))
      refine xr_stp (st' := .int (Int32.ofNat 4294967294) :: _) rfl rfl rfl rfl ?_
      refine xr_j2 rfl rfl rfl rfl rfl (fun h1027 => ?_) (fun h1027 => ?_)
      · have z1027 := nt_ne h1027
        exact (by omega)
      · refine xr_stp rfl rfl rfl rfl ?_
        refine xr_vcps hO rfl rfl rfl rfl rfl rfl (fun r1 K2 => cq_qui _ _ _ nn q dl tx sy T N fi m mm f W0 G GS hc (by omega) r1 (K2 _ _ _ _ ?_))
        refine xr_stp rfl rfl rfl rfl ?_
        refine xr_j2 rfl rfl rfl rfl rfl (fun h1036 => ?_) (fun h1036 => ?_)
        · have z1036 := nt_ne h1036
          exact (by omega)
        · refine xr_stp rfl rfl rfl rfl ?_
          refine xr_vcps hO rfl rfl rfl rfl rfl rfl (fun r1 K2 => cq_fre _ _ _ nn q dl tx sy T N fi m mm f W0 G GS hc r1 (K2 _ _ _ _ ?_))
          rw [← hfv]
          refine xr_stp rfl rfl rfl rfl ?_
          refine xr_j2 rfl rfl rfl rfl rfl (fun h1045 => ?_) (fun h1045 => ?_)
          · have z1045 := nt_ne h1045
            exact (by omega)
          · refine xr_stp (st' := .int (Int32.ofNat 1) :: _) rfl rfl rfl rfl ?_
            refine xr_stp rfl rfl rfl rfl ?_
            exact xr_retb (by omega) rfl rfl K
theorem sa_same (d c s : Nat) (nn q dl tx sy T N fi m mm A : Nat) (f : Nat → Int32) (G : Nat → Nat) (GS : Nat → Nat → Nat) (r : xi_R → Prop) (W0 : xi_W) (hs : scn nn f q dl tx sy T N fi m mm G GS A W0) (K : ∀ W' c' s', c' ≤ c + 34 → s' ≤ s + 2505 → scn nn f q dl tx sy T N fi m mm G GS A W' → fr pq W0 W' → r (some (.int (Int32.ofNat 1)), W', c', s')) : xr (d + 8) 202 0 [(0, .ref 17), (1, .ref 16), (2, .int (Int32.ofNat q)), (3, .ref A)] [] W0 c s r := by
  obtain ⟨hc, hA, hS, gA, hz, hN, hnn⟩ := id hs
  obtain ⟨F, hw, hr⟩ := hc.w
  have J := hr.j
  have he := hr.e
  have J4 := J.e
  have b63 := J.b63
  have gA7 : 17 ≤ A := by omega
  obtain ⟨lf, lp, hO⟩ := hc.o
  have key : xr (d + 8) 202 23 [(0, .ref 17), (1, .ref 16), (2, .int (Int32.ofNat q)), (3, .ref A), (4, .int (Int32.ofNat (if G 410 = 0 then 1 else 0))), (5, .int (Int32.ofNat 0)), (6, .int (Int32.ofNat 0))] [] W0 c s r := by
    refine sa_r d nn q dl tx sy T N fi m mm A f G GS r 4 0 _ 0 W0 c s rfl hs (by omega) (fun W1 c1 s1 kc1 ks1 hs1 hf1 => ?_)
    have hs1 := hs1
    obtain ⟨hc1, hA1, hS1, gA1, hz1, hN1, hnn1⟩ := id hs1
    obtain ⟨F1, hw1, hr1⟩ := hc1.w
    have J1 := hr1.j
    have hm3 := J1.k
    have hm4 := J1.m
    refine xr_stp rfl rfl rfl rfl ?_
    refine xs_clo hA1 (by omega) rfl rfl rfl rfl (fun B W2 eB hB hf2 => ?_)
    refine xs_chk hB (by have := hc1.l; omega) rfl rfl rfl ?_
    have hs2 := hs1.new hf2
    have lA := (List.getElem?_eq_some_iff.mp hA1).1
    have gB : 696 ≤ B := by omega
    have nBA : B ≠ A := by omega
    refine xr_stp rfl rfl rfl rfl ?_
    refine xr_stp (st' := .int (Int32.ofNat 0) :: _) rfl rfl rfl rfl ?_
    refine xr_stp rfl rfl rfl rfl ?_
    refine xr_loc [(0, .ref 17), (3, .ref A), (4, .int (Int32.ofNat (sqO G 4 0 (if G 410 = 0 then 1 else 0)))), (5, .int (Int32.ofNat (frL G 4 0 0))), (6, .ref B), (7, .int (Int32.ofNat 0))] ⟨rfl, rfl, rfl, rfl, rfl, rfl, trivial⟩ rfl ?_
    refine sa_f d nn q dl tx sy T N fi m mm A f G GS r (sqO G 4 0 (if G 410 = 0 then 1 else 0)) (frL G 4 0 0) B (G 410) 0 W2 _ _ (Nat.zero_add _) hs2 hB gB nBA (fun W3 c3 s3 kc3 ks3 hs3 hf3 => ?_)
    obtain ⟨hc3, hA3, -⟩ := id hs3
    refine xr_stp (st' := .int (Int32.ofNat 0) :: _) rfl rfl rfl rfl ?_
    refine xr_stp rfl rfl rfl rfl ?_
    refine xr_stp (st' := .int (Int32.ofNat 603) :: _) rfl rfl rfl rfl ?_
    refine xs_ald hA3 (by omega) (by omega) (by omega) rfl ?_
    refine xs_l2i rfl ?_
    refine xr_stp (st' := .int (Int32.ofNat 25) :: _) rfl rfl rfl rfl ?_
    refine xs_smx (by omega) (by omega) (by omega) rfl rfl rfl rfl ?_
    rw [Nat.zero_max]
    refine xr_stp rfl rfl rfl rfl ?_
    refine xr_stp (st' := .int (Int32.ofNat 5) :: _) rfl rfl rfl rfl ?_
    refine xs_newi (by omega) rfl (fun R W4 eR hV hf4 => ?_)
    have hs4 := hs3.new hf4
    have lA3 := (List.getElem?_eq_some_iff.mp hA3).1
    have l4 := hc3.l
    refine xr_stp rfl rfl rfl rfl ?_
    refine xr_stp rfl rfl rfl rfl ?_
    refine xr_stp rfl rfl rfl rfl ?_
    refine xr_loc [(0, .ref 17), (3, .ref A), (4, .int (Int32.ofNat (sqO G 4 0 (if G 410 = 0 then 1 else 0)))), (5, .int (Int32.ofNat (frL G 4 0 0))), (7, .int (Int32.ofNat (G 603 - 25))), (8, .ref R), (9, .int (Int32.ofNat (G 603 - 25)))] ⟨rfl, rfl, rfl, rfl, rfl, rfl, rfl, trivial⟩ rfl ?_
    refine sa_bO d _ _ nn q dl tx sy T N fi m mm A f G GS r (sqO G 4 0 (if G 410 = 0 then 1 else 0)) (frL G 4 0 0) R (by omega) (by omega) (G 603 - (G 603 - 25)) (G 603 - 25) W4 (by omega) (Nat.le_refl _) hs4 (by rw [Nat.sub_self]; exact hV) (fun W5 hs5 hV5 hf5 => ?_)
    refine xr_stp (st' := .int (Int32.ofNat 0) :: _) rfl rfl rfl rfl ?_
    refine xr_stp rfl rfl rfl rfl ?_
    refine xr_loc [(0, .ref 17), (3, .ref A), (4, .int (Int32.ofNat (sqO G 4 0 (if G 410 = 0 then 1 else 0)))), (5, .int (Int32.ofNat (frL G 4 0 0))), (7, .int (Int32.ofNat (G 603 - 25))), (8, .ref R), (9, .int (Int32.ofNat 0))] ⟨rfl, rfl, rfl, rfl, rfl, rfl, rfl, trivial⟩ rfl ?_
    refine sa_le d _ _ nn q dl tx sy T N fi m mm A f G GS r (sqO G 4 0 (if G 410 = 0 then 1 else 0)) (frL G 4 0 0) R W5 hs5 hV5 5 0 rfl ?_
    refine xr_stp (st' := .int (Int32.ofNat 0) :: _) rfl rfl rfl rfl ?_
    refine xr_stp rfl rfl rfl rfl ?_
    refine xr_loc [(0, .ref 17), (3, .ref A), (4, .int (Int32.ofNat (sqO G 4 0 (if G 410 = 0 then 1 else 0)))), (5, .int (Int32.ofNat (frL G 4 0 0))), (7, .int (Int32.ofNat (G 603 - 25))), (8, .ref R), (9, .int (Int32.ofNat 0))] ⟨rfl, rfl, rfl, rfl, rfl, rfl, rfl, trivial⟩ rfl ?_
    refine sa_is d _ _ nn q dl tx sy T N fi m mm A f G GS r (sqO G 4 0 (if G 410 = 0 then 1 else 0)) (frL G 4 0 0) R W5 hs5 4 0 rfl ?_
    refine sa_end d _ _ nn q dl tx sy T N fi m mm A f G GS r (sqO G 4 0 (if G 410 = 0 then 1 else 0)) (frL G 4 0 0) R W5 hs5 (sq_qu G) rfl ?_
    refine K W5 _ _ (by omega) (by omega) hs5 ⟨by have := hf1.1; have := hf2.1; have := hf3.1; have := hf4.1; have := hf5.1; omega, fun i hi hp => (hf5.2 i (by have := hf1.1; have := hf2.1; have := hf3.1; have := hf4.1; omega) (fun (z : i = R) => by have := hf1.1; have := hf2.1; have := hf3.1; omega)).trans ((hf4.2 i (by have := hf1.1; have := hf2.1; have := hf3.1; omega) (fun z => z)).trans ((hf3.2 i (by have := hf1.1; have := hf2.1; omega) (fun (z : i = B) => by have := hf1.1; omega)).trans ((hf2.2 i (by have := hf1.1; omega) (fun z => z)).trans (hf1.2 i hi hp))))⟩
  by_cases z0 : G 410 = 0
  · refine xr_stp rfl rfl rfl rfl ?_
    refine xr_stp (st' := .int (Int32.ofNat 410) :: _) rfl rfl rfl rfl ?_
    refine xs_ald hA gA7 (by omega) (by omega) rfl ?_
    refine xr_stp (st' := .long (Int64.ofNat 0) :: _) rfl rfl rfl rfl ?_
    refine xs_lc (by exact b63 _) (by omega) rfl ?_
    refine xr_j1 rfl rfl rfl rfl rfl (fun h7 => ?_) (fun h7 => ?_)
    · have z7 := lt_ne h7
      exact (by omega)
    · refine xr_stp (st' := .int (Int32.ofNat 1) :: _) rfl rfl rfl rfl ?_
      refine xr_stp rfl rfl rfl rfl ?_
      refine xr_stp rfl rfl rfl rfl ?_
      refine xr_stp (st' := .int (Int32.ofNat 0) :: _) rfl rfl rfl rfl ?_
      refine xr_stp rfl rfl rfl rfl ?_
      refine xr_stp (st' := .int (Int32.ofNat 0) :: _) rfl rfl rfl rfl ?_
      refine xr_stp rfl rfl rfl rfl ?_
      have e4 : (if G 410 = 0 then 1 else 0) = 1 := if_pos z0
      refine xr_loc [(0, .ref 17), (1, .ref 16), (2, .int (Int32.ofNat q)), (3, .ref A), (4, .int (Int32.ofNat (if G 410 = 0 then 1 else 0))), (5, .int (Int32.ofNat 0)), (6, .int (Int32.ofNat 0))] ⟨rfl, rfl, rfl, rfl, (by rw [e4]; rfl), rfl, rfl, trivial⟩ rfl ?_
      exact key
  · refine xr_stp rfl rfl rfl rfl ?_
    refine xr_stp (st' := .int (Int32.ofNat 410) :: _) rfl rfl rfl rfl ?_
    refine xs_ald hA gA7 (by omega) (by omega) rfl ?_
    refine xr_stp (st' := .long (Int64.ofNat 0) :: _) rfl rfl rfl rfl ?_
    refine xs_lc (by exact b63 _) (by omega) rfl ?_
    refine xr_j1 rfl rfl rfl rfl rfl (fun h7 => ?_) (fun h7 => ?_)
    · refine xr_stp (st' := .int (Int32.ofNat 0) :: _) rfl rfl rfl rfl ?_
      refine xr_stp rfl rfl rfl rfl ?_
      refine xr_stp (st' := .int (Int32.ofNat 0) :: _) rfl rfl rfl rfl ?_
      refine xr_stp rfl rfl rfl rfl ?_
      refine xr_stp (st' := .int (Int32.ofNat 0) :: _) rfl rfl rfl rfl ?_
      refine xr_stp rfl rfl rfl rfl ?_
      have e4 : (if G 410 = 0 then 1 else 0) = 0 := if_neg z0
      refine xr_loc [(0, .ref 17), (1, .ref 16), (2, .int (Int32.ofNat q)), (3, .ref A), (4, .int (Int32.ofNat (if G 410 = 0 then 1 else 0))), (5, .int (Int32.ofNat 0)), (6, .int (Int32.ofNat 0))] ⟨rfl, rfl, rfl, rfl, (by rw [e4]; rfl), rfl, rfl, trivial⟩ rfl ?_
      exact key
    · have z7 := lf_ne h7
      exact (by omega)
