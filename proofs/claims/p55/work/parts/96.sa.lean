/-! same: one replica's loops -/
theorem cq_entZ (d c s nn q dl tx sy T N fi m mm : Nat) (f : Nat → Int32) (W0 : xi_W) (G : Nat → Nat) (GS : Nat → Nat → Nat) (hc : cmx nn f q dl tx sy T N fi m mm G GS W0) (t i z : Nat) (ht : t < 4) (hi : i < bc 63 (G (330 + 2 * t))) (hz : z < 5) (r : xi_R → Prop) (K : r (some (.int (Int32.ofNat (G (10 + 5 * lw_row G (G (330 + 2 * t)) i + z)))), W0, c, s)) : xr (d + 6) 110 0 [(0, .ref 17), (1, .int (Int32.ofNat t)), (2, .int (Int32.ofNat i)), (3, .int (Int32.ofNat z))] [] W0 c s r := by
  have e : z = 0 ∨ z = 1 ∨ z = 2 ∨ z = 3 ∨ z = 4 := by omega
  rcases e with rfl | rfl | rfl | rfl | rfl
  · exact cq_ent0 d c s nn q dl tx sy T N fi m mm f W0 G GS hc t i ht hi r K
  · exact cq_ent1 d c s nn q dl tx sy T N fi m mm f W0 G GS hc t i ht hi r (by rw [show 11 + 5 * lw_row G (G (330 + 2 * t)) i = 10 + 5 * lw_row G (G (330 + 2 * t)) i + 1 by omega]; exact K)
  · exact cq_ent2 d c s nn q dl tx sy T N fi m mm f W0 G GS hc t i ht hi r (by rw [show 12 + 5 * lw_row G (G (330 + 2 * t)) i = 10 + 5 * lw_row G (G (330 + 2 * t)) i + 2 by omega]; exact K)
  · exact cq_ent3 d c s nn q dl tx sy T N fi m mm f W0 G GS hc t i ht hi r (by rw [show 13 + 5 * lw_row G (G (330 + 2 * t)) i = 10 + 5 * lw_row G (G (330 + 2 * t)) i + 3 by omega]; exact K)
  · exact cq_ent4 d c s nn q dl tx sy T N fi m mm f W0 G GS hc t i ht hi r (by rw [show 14 + 5 * lw_row G (G (330 + 2 * t)) i = 10 + 5 * lw_row G (G (330 + 2 * t)) i + 4 by omega]; exact K)
theorem sa_z (d c s : Nat) (W0 : xi_W) (nn q dl tx sy T N fi m mm A : Nat) (f : Nat → Int32) (G : Nat → Nat) (GS : Nat → Nat → Nat) (hs : scn nn f q dl tx sy T N fi m mm G GS A W0) (t qv fv R k : Nat) (ht : t < 4) (nb : Nat) (hnb : nb = bc 63 (G (330 + 2 * t))) (hR : W0[R]? = some (lw_i nb (lw_row G (G (330 + 2 * t))))) (gR : 17 ≤ R) (hk : k < nb) (r : xi_R → Prop) : ∀ (m1 z : Nat), z + m1 = 5 → xr (d + 8) 202 179 [(0, .ref 17), (1, .ref 16), (2, .int (Int32.ofNat q)), (3, .ref A), (4, .int (Int32.ofNat qv)), (5, .int (Int32.ofNat fv)), (6, .int (Int32.ofNat t)), (7, .long (Int64.ofNat (G (330 + 2 * t)))), (9, .long (Int64.ofNat (G (331 + 2 * t)))), (11, .ref R), (12, .int (Int32.ofNat k)), (13, .int (Int32.ofNat 5))] [] W0 c s r → xr (d + 8) 202 135 [(0, .ref 17), (1, .ref 16), (2, .int (Int32.ofNat q)), (3, .ref A), (4, .int (Int32.ofNat qv)), (5, .int (Int32.ofNat fv)), (6, .int (Int32.ofNat t)), (7, .long (Int64.ofNat (G (330 + 2 * t)))), (9, .long (Int64.ofNat (G (331 + 2 * t)))), (11, .ref R), (12, .int (Int32.ofNat k)), (13, .int (Int32.ofNat z))] [] W0 c s r
  | 0, z, hz5, K => by
    obtain rfl : z = 5 := by omega
    refine xr_stp rfl rfl rfl rfl ?_
    refine xr_stp (st' := .int (Int32.ofNat 5) :: _) rfl rfl rfl rfl ?_
    refine xr_j2 rfl rfl rfl rfl rfl (fun h138 => ?_) (fun h138 => ?_)
    · refine xr_loc [(0, .ref 17), (1, .ref 16), (2, .int (Int32.ofNat q)), (3, .ref A), (4, .int (Int32.ofNat qv)), (5, .int (Int32.ofNat fv)), (6, .int (Int32.ofNat t)), (7, .long (Int64.ofNat (G (330 + 2 * t)))), (9, .long (Int64.ofNat (G (331 + 2 * t)))), (11, .ref R), (12, .int (Int32.ofNat k)), (13, .int (Int32.ofNat 5))] ⟨rfl, rfl, rfl, rfl, rfl, rfl, rfl, rfl, rfl, rfl, rfl, rfl, trivial⟩ rfl ?_
      exact K
    · have z138 := nf_ge (by omega) (by omega) h138
      exact (by omega)
  | m1 + 1, z, hz5, K => by
    obtain ⟨hc, hA, hS, gA, hz, hN, hnn⟩ := id hs
    obtain ⟨F, hw, hr⟩ := hc.w
    have J := hr.j
    have he := hr.e
    have J4 := J.e
    have b63 := J.b63
    have gA7 : 17 ≤ A := by omega
    obtain ⟨lf, lp, hO⟩ := hc.o
    have hx := (hr.xs ht).hk
    have hb6 := bcle 63 (G (330 + 2 * t))
    have g1 := en.dgE he J4 hx.1 k (by omega) z (by omega)
    have g2 := ((lw_rowE he J4 hx.1).1 k (by omega)).1
    refine xr_stp rfl rfl rfl rfl ?_
    refine xr_stp (st' := .int (Int32.ofNat 5) :: _) rfl rfl rfl rfl ?_
    refine xr_j2 rfl rfl rfl rfl rfl (fun h138 => ?_) (fun h138 => ?_)
    · have z138 := nt_ge (by omega) (by omega) h138
      exact (by omega)
    · refine xr_stp rfl rfl rfl rfl ?_
      refine xr_stp rfl rfl rfl rfl ?_
      refine xr_stp rfl rfl rfl rfl ?_
      refine xr_stp rfl rfl rfl rfl ?_
      refine xr_vcps hO rfl rfl rfl rfl rfl rfl (fun r1 K2 => cq_entZ _ _ _ nn q dl tx sy T N fi m mm f W0 G GS hc t k z ht (by omega) (by omega) r1 (K2 _ _ _ _ ?_))
      refine xs_i2l (by omega) rfl ?_
      refine xr_stp rfl rfl rfl rfl ?_
      refine xr_stp (st' := .int (Int32.ofNat 10) :: _) rfl rfl rfl rfl ?_
      refine xr_stp (st' := .int (Int32.ofNat 5) :: _) rfl rfl rfl rfl ?_
      refine xr_stp rfl rfl rfl rfl ?_
      refine xr_stp rfl rfl rfl rfl ?_
      refine xs_ild hR (by omega) (by omega) rfl ?_
      refine xs_mul rfl ?_
      refine xs_add rfl ?_
      refine xr_stp rfl rfl rfl rfl ?_
      refine xs_add rfl ?_
      refine xs_ald hA gA7 (by omega) (by omega) rfl ?_
      refine xs_lc (by omega) (by omega) rfl ?_
      refine xr_j1 rfl rfl rfl rfl rfl (fun h168 => ?_) (fun h168 => ?_)
      · refine xs_inc (e := 1) rfl rfl rfl rfl ?_
        refine xr_stp rfl rfl rfl rfl ?_
        refine xr_loc [(0, .ref 17), (1, .ref 16), (2, .int (Int32.ofNat q)), (3, .ref A), (4, .int (Int32.ofNat qv)), (5, .int (Int32.ofNat fv)), (6, .int (Int32.ofNat t)), (7, .long (Int64.ofNat (G (330 + 2 * t)))), (9, .long (Int64.ofNat (G (331 + 2 * t)))), (11, .ref R), (12, .int (Int32.ofNat k)), (13, .int (Int32.ofNat (z + 1)))] ⟨rfl, rfl, rfl, rfl, rfl, rfl, rfl, rfl, rfl, rfl, rfl, rfl, trivial⟩ rfl ?_
        exact sa_z d c s W0 nn q dl tx sy T N fi m mm A f G GS hs t qv fv R k ht nb hnb hR gR hk r m1 (z + 1) (by omega) K
      · have z168 := lf_eq h168
        exact (by omega)
theorem sa_k (d c s : Nat) (W0 : xi_W) (nn q dl tx sy T N fi m mm A : Nat) (f : Nat → Int32) (G : Nat → Nat) (GS : Nat → Nat → Nat) (hs : scn nn f q dl tx sy T N fi m mm G GS A W0) (t qv fv R : Nat) (ht : t < 4) (nb : Nat) (hnb : nb = bc 63 (G (330 + 2 * t))) (hR : W0[R]? = some (lw_i nb (lw_row G (G (330 + 2 * t))))) (gR : 17 ≤ R) (r : xi_R → Prop) : ∀ (m1 k : Nat), k + m1 = nb → xr (d + 8) 202 185 [(0, .ref 17), (1, .ref 16), (2, .int (Int32.ofNat q)), (3, .ref A), (4, .int (Int32.ofNat qv)), (5, .int (Int32.ofNat fv)), (6, .int (Int32.ofNat t)), (7, .long (Int64.ofNat (G (330 + 2 * t)))), (9, .long (Int64.ofNat (G (331 + 2 * t)))), (11, .ref R), (12, .int (Int32.ofNat nb))] [] W0 c s r → xr (d + 8) 202 124 [(0, .ref 17), (1, .ref 16), (2, .int (Int32.ofNat q)), (3, .ref A), (4, .int (Int32.ofNat qv)), (5, .int (Int32.ofNat fv)), (6, .int (Int32.ofNat t)), (7, .long (Int64.ofNat (G (330 + 2 * t)))), (9, .long (Int64.ofNat (G (331 + 2 * t)))), (11, .ref R), (12, .int (Int32.ofNat k))] [] W0 c s r
  | 0, k, hk5, K => by
    have hb6 := bcle 63 (G (330 + 2 * t))
    obtain rfl : k = nb := by omega
    refine xr_stp rfl rfl rfl rfl ?_
    refine xr_stp rfl rfl rfl rfl ?_
    refine xs_iln hR rfl ?_
    refine xr_j2 rfl rfl rfl rfl rfl (fun h129 => ?_) (fun h129 => ?_)
    · refine xr_loc [(0, .ref 17), (1, .ref 16), (2, .int (Int32.ofNat q)), (3, .ref A), (4, .int (Int32.ofNat qv)), (5, .int (Int32.ofNat fv)), (6, .int (Int32.ofNat t)), (7, .long (Int64.ofNat (G (330 + 2 * t)))), (9, .long (Int64.ofNat (G (331 + 2 * t)))), (11, .ref R), (12, .int (Int32.ofNat k))] ⟨rfl, rfl, rfl, rfl, rfl, rfl, rfl, rfl, rfl, rfl, rfl, trivial⟩ rfl ?_
      exact K
    · have z129 := nf_ge (by omega) (by omega) h129
      exact (by omega)
  | m1 + 1, k, hk5, K => by
    obtain ⟨hc, hA, hS, gA, hz, hN, hnn⟩ := id hs
    obtain ⟨F, hw, hr⟩ := hc.w
    have J := hr.j
    have he := hr.e
    have J4 := J.e
    have b63 := J.b63
    have gA7 : 17 ≤ A := by omega
    obtain ⟨lf, lp, hO⟩ := hc.o
    have hx := (hr.xs ht).hk
    have hb6 := bcle 63 (G (330 + 2 * t))
    refine xr_stp rfl rfl rfl rfl ?_
    refine xr_stp rfl rfl rfl rfl ?_
    refine xs_iln hR rfl ?_
    refine xr_j2 rfl rfl rfl rfl rfl (fun h129 => ?_) (fun h129 => ?_)
    · have z129 := nt_ge (by omega) (by omega) h129
      exact (by omega)
    · refine xr_stp (st' := .int (Int32.ofNat 0) :: _) rfl rfl rfl rfl ?_
      refine xr_stp rfl rfl rfl rfl ?_
      refine xr_loc [(0, .ref 17), (1, .ref 16), (2, .int (Int32.ofNat q)), (3, .ref A), (4, .int (Int32.ofNat qv)), (5, .int (Int32.ofNat fv)), (6, .int (Int32.ofNat t)), (7, .long (Int64.ofNat (G (330 + 2 * t)))), (9, .long (Int64.ofNat (G (331 + 2 * t)))), (11, .ref R), (12, .int (Int32.ofNat k)), (13, .int (Int32.ofNat 0))] ⟨rfl, rfl, rfl, rfl, rfl, rfl, rfl, rfl, rfl, rfl, rfl, rfl, trivial⟩ rfl ?_
      refine sa_z d c s W0 nn q dl tx sy T N fi m mm A f G GS hs t qv fv R k ht nb hnb hR gR (by omega) r 5 0 rfl ?_
      refine xs_inc (e := 1) rfl rfl rfl rfl ?_
      refine xr_stp rfl rfl rfl rfl ?_
      refine xr_loc [(0, .ref 17), (1, .ref 16), (2, .int (Int32.ofNat q)), (3, .ref A), (4, .int (Int32.ofNat qv)), (5, .int (Int32.ofNat fv)), (6, .int (Int32.ofNat t)), (7, .long (Int64.ofNat (G (330 + 2 * t)))), (9, .long (Int64.ofNat (G (331 + 2 * t)))), (11, .ref R), (12, .int (Int32.ofNat (k + 1)))] ⟨rfl, rfl, rfl, rfl, rfl, rfl, rfl, rfl, rfl, rfl, rfl, trivial⟩ rfl ?_
      exact sa_k d c s W0 nn q dl tx sy T N fi m mm A f G GS hs t qv fv R ht nb hnb hR gR r m1 (k + 1) (by omega) K
theorem sa_y (d c s : Nat) (W0 : xi_W) (nn q dl tx sy T N fi m mm A : Nat) (f : Nat → Int32) (G : Nat → Nat) (GS : Nat → Nat → Nat) (hs : scn nn f q dl tx sy T N fi m mm G GS A W0) (t qv fv R : Nat) (ht : t < 4) (r : xi_R → Prop) : ∀ (m1 z a : Nat), z + m1 = 4 → xr (d + 8) 202 230 [(0, .ref 17), (1, .ref 16), (2, .int (Int32.ofNat q)), (3, .ref A), (4, .int (Int32.ofNat qv)), (5, .int (Int32.ofNat fv)), (6, .int (Int32.ofNat t)), (7, .long (Int64.ofNat (G (330 + 2 * t)))), (9, .long (Int64.ofNat (G (331 + 2 * t)))), (11, .ref R), (12, .int (Int32.ofNat (kY G (G (330 + 2 * t)) m1 z a))), (13, .int (Int32.ofNat 4))] [] W0 c s r → xr (d + 8) 202 191 [(0, .ref 17), (1, .ref 16), (2, .int (Int32.ofNat q)), (3, .ref A), (4, .int (Int32.ofNat qv)), (5, .int (Int32.ofNat fv)), (6, .int (Int32.ofNat t)), (7, .long (Int64.ofNat (G (330 + 2 * t)))), (9, .long (Int64.ofNat (G (331 + 2 * t)))), (11, .ref R), (12, .int (Int32.ofNat a)), (13, .int (Int32.ofNat z))] [] W0 c s r
  | 0, z, a, hk5, K => by
    obtain rfl : z = 4 := by omega
    unfold kY at K
    refine xr_stp rfl rfl rfl rfl ?_
    refine xr_stp (st' := .int (Int32.ofNat 4) :: _) rfl rfl rfl rfl ?_
    refine xr_j2 rfl rfl rfl rfl rfl (fun h194 => ?_) (fun h194 => ?_)
    · refine xr_loc [(0, .ref 17), (1, .ref 16), (2, .int (Int32.ofNat q)), (3, .ref A), (4, .int (Int32.ofNat qv)), (5, .int (Int32.ofNat fv)), (6, .int (Int32.ofNat t)), (7, .long (Int64.ofNat (G (330 + 2 * t)))), (9, .long (Int64.ofNat (G (331 + 2 * t)))), (11, .ref R), (12, .int (Int32.ofNat a)), (13, .int (Int32.ofNat 4))] ⟨rfl, rfl, rfl, rfl, rfl, rfl, rfl, rfl, rfl, rfl, rfl, rfl, trivial⟩ rfl ?_
      exact K
    · have z194 := nf_ge (by omega) (by omega) h194
      exact (by omega)
  | m1 + 1, z, a, hk5, K => by
    obtain ⟨hc, hA, hS, gA, hz, hN, hnn⟩ := id hs
    obtain ⟨F, hw, hr⟩ := hc.w
    have J := hr.j
    have he := hr.e
    have J4 := J.e
    have b63 := J.b63
    have gA7 : 17 ≤ A := by omega
    obtain ⟨lf, lp, hO⟩ := hc.o
    unfold kY at K
    refine xr_stp rfl rfl rfl rfl ?_
    refine xr_stp (st' := .int (Int32.ofNat 4) :: _) rfl rfl rfl rfl ?_
    refine xr_j2 rfl rfl rfl rfl rfl (fun h194 => ?_) (fun h194 => ?_)
    · have z194 := nt_ge (by omega) (by omega) h194
      exact (by omega)
    · refine xr_stp rfl rfl rfl rfl ?_
      refine xr_stp rfl rfl rfl rfl ?_
      refine xr_stp rfl rfl rfl rfl ?_
      refine xr_stp rfl rfl rfl rfl ?_
      refine xr_stp (st' := .int (Int32.ofNat 4294967295) :: _) rfl rfl rfl rfl ?_
      refine xr_cps rfl rfl rfl (fun r1 K2 => lw_ofm _ _ _ A W0 G hA gA7 b63 (by omega) (G (330 + 2 * t)) z 4294967295 (b63 _) (by omega) (Or.inr rfl) r1 (K2 _ _ _ _ ?_))
      refine xr_stp (st' := .long (Int64.ofNat 0) :: _) rfl rfl rfl rfl ?_
      refine xs_lc (by have := lw_of_lt G (G (330 + 2 * t)) z 4294967295; have := lt62 J4 this; omega) (by omega) rfl ?_
      refine xr_j1 rfl rfl rfl rfl rfl (fun h210 => ?_) (fun h210 => ?_)
      · have z210 := lt_eq h210
        rw [if_pos z210] at K
        refine xr_stp (st' := .int (Int32.ofNat 0) :: _) rfl rfl rfl rfl ?_
        refine xs_or rfl ?_
        refine xr_stp rfl rfl rfl rfl ?_
        refine xs_inc (e := 1) rfl rfl rfl rfl ?_
        refine xr_stp rfl rfl rfl rfl ?_
        refine xr_loc [(0, .ref 17), (1, .ref 16), (2, .int (Int32.ofNat q)), (3, .ref A), (4, .int (Int32.ofNat qv)), (5, .int (Int32.ofNat fv)), (6, .int (Int32.ofNat t)), (7, .long (Int64.ofNat (G (330 + 2 * t)))), (9, .long (Int64.ofNat (G (331 + 2 * t)))), (11, .ref R), (12, .int (Int32.ofNat (a ||| 0))), (13, .int (Int32.ofNat (z + 1)))] ⟨rfl, rfl, rfl, rfl, rfl, rfl, rfl, rfl, rfl, rfl, rfl, rfl, trivial⟩ rfl ?_
        exact sa_y d c s W0 nn q dl tx sy T N fi m mm A f G GS hs t qv fv R ht r m1 (z + 1) _ (by omega) K
      · have z210 := lf_eq h210
        rw [if_neg z210] at K
        refine xr_stp (st' := .int (Int32.ofNat 1) :: _) rfl rfl rfl rfl ?_
        refine xr_stp rfl rfl rfl rfl ?_
        refine xs_shl (by omega) rfl ?_
        refine xr_stp rfl rfl rfl rfl ?_
        refine xs_or rfl ?_
        refine xr_stp rfl rfl rfl rfl ?_
        refine xs_inc (e := 1) rfl rfl rfl rfl ?_
        refine xr_stp rfl rfl rfl rfl ?_
        refine xr_loc [(0, .ref 17), (1, .ref 16), (2, .int (Int32.ofNat q)), (3, .ref A), (4, .int (Int32.ofNat qv)), (5, .int (Int32.ofNat fv)), (6, .int (Int32.ofNat t)), (7, .long (Int64.ofNat (G (330 + 2 * t)))), (9, .long (Int64.ofNat (G (331 + 2 * t)))), (11, .ref R), (12, .int (Int32.ofNat (a ||| 1 * 2 ^ z))), (13, .int (Int32.ofNat (z + 1)))] ⟨rfl, rfl, rfl, rfl, rfl, rfl, rfl, rfl, rfl, rfl, rfl, rfl, trivial⟩ rfl ?_
        exact sa_y d c s W0 nn q dl tx sy T N fi m mm A f G GS hs t qv fv R ht r m1 (z + 1) _ (by omega) K
theorem sa_d (d c s : Nat) (W0 : xi_W) (nn q dl tx sy T N fi m mm A : Nat) (f : Nat → Int32) (G : Nat → Nat) (GS : Nat → Nat → Nat) (hs : scn nn f q dl tx sy T N fi m mm G GS A W0) (t qv fv R : Nat) (ht : t < 4) (r : xi_R → Prop) : ∀ (m1 z : Nat), z + m1 = G (338 + t) - G (342 + t) → xr (d + 8) 202 456 [(0, .ref 17), (1, .ref 16), (2, .int (Int32.ofNat q)), (3, .ref A), (4, .int (Int32.ofNat qv)), (5, .int (Int32.ofNat fv)), (6, .int (Int32.ofNat t)), (7, .long (Int64.ofNat (G (330 + 2 * t)))), (9, .long (Int64.ofNat (G (331 + 2 * t)))), (11, .ref R), (13, .int (Int32.ofNat (G (338 + t) - G (342 + t)))), (14, .int (Int32.ofNat (G (338 + t) - G (342 + t))))] [] W0 c s r → xr (d + 8) 202 351 [(0, .ref 17), (1, .ref 16), (2, .int (Int32.ofNat q)), (3, .ref A), (4, .int (Int32.ofNat qv)), (5, .int (Int32.ofNat fv)), (6, .int (Int32.ofNat t)), (7, .long (Int64.ofNat (G (330 + 2 * t)))), (9, .long (Int64.ofNat (G (331 + 2 * t)))), (11, .ref R), (13, .int (Int32.ofNat (G (338 + t) - G (342 + t)))), (14, .int (Int32.ofNat z))] [] W0 c s r
  | 0, z, hz5, K => by
    obtain ⟨hc, hA, hS, gA, hz, hN, hnn⟩ := id hs
    obtain ⟨F, hw, hr⟩ := hc.w
    have J := hr.j
    have he := hr.e
    have J4 := J.e
    have b63 := J.b63
    have gA7 : 17 ≤ A := by omega
    obtain ⟨lf, lp, hO⟩ := hc.o
    have hJc := J.c t ht
    obtain rfl : z = G (338 + t) - G (342 + t) := by omega
    refine xr_stp rfl rfl rfl rfl ?_
    refine xr_stp rfl rfl rfl rfl ?_
    refine xr_j2 rfl rfl rfl rfl rfl (fun h355 => ?_) (fun h355 => ?_)
    · refine xr_loc [(0, .ref 17), (1, .ref 16), (2, .int (Int32.ofNat q)), (3, .ref A), (4, .int (Int32.ofNat qv)), (5, .int (Int32.ofNat fv)), (6, .int (Int32.ofNat t)), (7, .long (Int64.ofNat (G (330 + 2 * t)))), (9, .long (Int64.ofNat (G (331 + 2 * t)))), (11, .ref R), (13, .int (Int32.ofNat (G (338 + t) - G (342 + t)))), (14, .int (Int32.ofNat (G (338 + t) - G (342 + t))))] ⟨rfl, rfl, rfl, rfl, rfl, rfl, rfl, rfl, rfl, rfl, rfl, rfl, trivial⟩ rfl ?_
      exact K
    · have z355 := nf_ge (by omega) (by omega) h355
      exact (by omega)
  | m1 + 1, z, hz5, K => by
    obtain ⟨hc, hA, hS, gA, hz, hN, hnn⟩ := id hs
    obtain ⟨F, hw, hr⟩ := hc.w
    have J := hr.j
    have he := hr.e
    have J4 := J.e
    have b63 := J.b63
    have gA7 : 17 ≤ A := by omega
    obtain ⟨lf, lp, hO⟩ := hc.o
    have hJc := J.c t ht
    have hz5b : z < G (338 + t) - G (342 + t) := by omega
    have e0 : dq G t (G (342 + t) + z + 1) 0 = G (362 + 12 * t + 2 * z) := by
      unfold dq
      rw [show 362 + 12 * t + 2 * (G (342 + t) + z + 1 - 1 - G (342 + t)) + 0 = 362 + 12 * t + 2 * z by omega]
    have e1 : dq G t (G (342 + t) + z + 1) 1 = G (363 + 12 * t + 2 * z) := by
      unfold dq
      rw [show 362 + 12 * t + 2 * (G (342 + t) + z + 1 - 1 - G (342 + t)) + 1 = 363 + 12 * t + 2 * z by omega]
    have f0 := bcle 63 (G (362 + 12 * t + 2 * z))
    have f1 := bcle 63 (G (363 + 12 * t + 2 * z))
    refine xr_stp rfl rfl rfl rfl ?_
    refine xr_stp rfl rfl rfl rfl ?_
    refine xr_j2 rfl rfl rfl rfl rfl (fun h355 => ?_) (fun h355 => ?_)
    · have z355 := nt_ge (by omega) (by omega) h355
      exact (by omega)
    · refine xr_stp rfl rfl rfl rfl ?_
      refine xr_stp rfl rfl rfl rfl ?_
      refine xr_stp rfl rfl rfl rfl ?_
      refine xr_stp (st' := .int (Int32.ofNat 0) :: _) rfl rfl rfl rfl ?_
      refine xr_vcps hO rfl rfl rfl rfl rfl rfl (fun r1 K2 => cq_del0 _ _ _ nn q dl tx sy T N fi m mm f W0 G GS hc t z ht hz5b (by omega) r1 (K2 _ _ _ _ ?_))
      refine xs_i2l (by omega) rfl ?_
      refine xr_stp rfl rfl rfl rfl ?_
      refine xr_stp (st' := .int (Int32.ofNat 342) :: _) rfl rfl rfl rfl ?_
      refine xr_stp rfl rfl rfl rfl ?_
      refine xs_add rfl ?_
      refine xs_ald hA gA7 (by omega) (by omega) rfl ?_
      refine xr_stp (st' := .long (Int64.ofNat 1) :: _) rfl rfl rfl rfl ?_
      refine xs_ladd rfl ?_
      refine xr_stp rfl rfl rfl rfl ?_
      refine xs_i2l (by omega) rfl ?_
      refine xs_ladd rfl ?_
      refine xs_lc (by omega) (by omega) rfl ?_
      refine xr_j1 rfl rfl rfl rfl rfl (fun h383 => ?_) (fun h383 => ?_)
      · have z383 := lt_ne h383
        exact (by omega)
      · refine xr_stp rfl rfl rfl rfl ?_
        refine xr_stp rfl rfl rfl rfl ?_
        refine xr_stp rfl rfl rfl rfl ?_
        refine xr_stp (st' := .int (Int32.ofNat 1) :: _) rfl rfl rfl rfl ?_
        refine xr_vcps hO rfl rfl rfl rfl rfl rfl (fun r1 K2 => cq_del1 _ _ _ nn q dl tx sy T N fi m mm f W0 G GS hc t z ht hz5b (by omega) r1 (K2 _ _ _ _ ?_))
        rw [e0]
        refine xr_stp rfl rfl rfl rfl ?_
        refine xr_stp (st' := .int (Int32.ofNat 362) :: _) rfl rfl rfl rfl ?_
        refine xr_stp (st' := .int (Int32.ofNat 12) :: _) rfl rfl rfl rfl ?_
        refine xr_stp rfl rfl rfl rfl ?_
        refine xs_mul rfl ?_
        refine xs_add rfl ?_
        refine xr_stp (st' := .int (Int32.ofNat 2) :: _) rfl rfl rfl rfl ?_
        refine xr_stp rfl rfl rfl rfl ?_
        refine xs_mul rfl ?_
        refine xs_add rfl ?_
        refine xs_ald hA gA7 (by omega) (by omega) rfl ?_
        refine xr_cps rfl rfl rfl (fun r1 K2 => lw_many _ _ _ _ W0 (b63 _) r1 (K2 _ _ _ _ ?_))
        refine xr_j2 rfl rfl rfl rfl rfl (fun h414 => ?_) (fun h414 => ?_)
        · have z414 := nt_ne h414
          exact (by omega)
        · refine xr_stp rfl rfl rfl rfl ?_
          refine xr_stp rfl rfl rfl rfl ?_
          refine xr_stp rfl rfl rfl rfl ?_
          refine xr_stp (st' := .int (Int32.ofNat 2) :: _) rfl rfl rfl rfl ?_
          refine xr_vcps hO rfl rfl rfl rfl rfl rfl (fun r1 K2 => cq_del2 _ _ _ nn q dl tx sy T N fi m mm f W0 G GS hc t z ht hz5b (by omega) r1 (K2 _ _ _ _ ?_))
          rw [e1]
          refine xr_stp rfl rfl rfl rfl ?_
          refine xr_stp (st' := .int (Int32.ofNat 363) :: _) rfl rfl rfl rfl ?_
          refine xr_stp (st' := .int (Int32.ofNat 12) :: _) rfl rfl rfl rfl ?_
          refine xr_stp rfl rfl rfl rfl ?_
          refine xs_mul rfl ?_
          refine xs_add rfl ?_
          refine xr_stp (st' := .int (Int32.ofNat 2) :: _) rfl rfl rfl rfl ?_
          refine xr_stp rfl rfl rfl rfl ?_
          refine xs_mul rfl ?_
          refine xs_add rfl ?_
          refine xs_ald hA gA7 (by omega) (by omega) rfl ?_
          refine xr_cps rfl rfl rfl (fun r1 K2 => lw_many _ _ _ _ W0 (b63 _) r1 (K2 _ _ _ _ ?_))
          refine xr_j2 rfl rfl rfl rfl rfl (fun h445 => ?_) (fun h445 => ?_)
          · refine xs_inc (e := 1) rfl rfl rfl rfl ?_
            refine xr_stp rfl rfl rfl rfl ?_
            refine xr_loc [(0, .ref 17), (1, .ref 16), (2, .int (Int32.ofNat q)), (3, .ref A), (4, .int (Int32.ofNat qv)), (5, .int (Int32.ofNat fv)), (6, .int (Int32.ofNat t)), (7, .long (Int64.ofNat (G (330 + 2 * t)))), (9, .long (Int64.ofNat (G (331 + 2 * t)))), (11, .ref R), (13, .int (Int32.ofNat (G (338 + t) - G (342 + t)))), (14, .int (Int32.ofNat (z + 1)))] ⟨rfl, rfl, rfl, rfl, rfl, rfl, rfl, rfl, rfl, rfl, rfl, rfl, trivial⟩ rfl ?_
            exact sa_d d c s W0 nn q dl tx sy T N fi m mm A f G GS hs t qv fv R ht r m1 (z + 1) (by omega) K
          · have z445 := nf_eq h445
            exact (by omega)
