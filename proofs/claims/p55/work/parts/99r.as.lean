/-! asks: one field's entries -/
theorem xs_lcm1 {d i pc a : Nat} {l : xi_L} {st : List Value} {w : xi_W} {c s : Nat} {r : xi_R → Prop} (ha : a < 4611686018427387904) (hc : xt_cd i pc = some .lcmp) (h : xr d i (pc + 1) l (.int (Int32.ofNat 1) :: st) w c s r) : xr d i pc l (.long (Int64.ofNat 18446744073709551615) :: .long (Int64.ofNat a) :: st) w c s r := by
  refine xr_stp (pc' := pc + 1) (l' := l) (w' := w) (c' := c) (s' := s) (st' := .int (lg_cmp (Int64.ofNat a) (Int64.ofNat 18446744073709551615)) :: st) hc rfl rfl (by simp only [xi_stp, xi_b2l]) ?_
  have e : lg_cmp (Int64.ofNat a) (Int64.ofNat 18446744073709551615) = Int32.ofNat 1 := by
    unfold lg_cmp
    rw [if_pos ?_]
    · rfl
    · show Int64.ofNat 18446744073709551615 < Int64.ofNat a
      rw [Int64.lt_iff_toInt_lt, nl_int (show a < 9223372036854775808 by omega), show (Int64.ofNat 18446744073709551615).toInt = -1 from by decide]
      omega
  rw [e]
  exact h
theorem ae_L (d c s : Nat) (tm B : Nat) (nn q dl tx sy T N fi m mm A : Nat) (f : Nat → Int32) (G : Nat → Nat) (GS : Nat → Nat → Nat) (r : xi_R → Prop) (a y : Nat) (ha : a < 4) (hy : y < 4) (g fs_ tn R : Nat) (W0 : xi_W) (hg : g < 3) (hs : scn nn f q dl tx sy T N fi m mm G GS A W0) (hR : W0[R]? = some (lw_i (bc 63 (lw_of G (G (330 + 2 * a)) y g (G 4) 0 0)) (lw_row G (lw_of G (G (330 + 2 * a)) y g (G 4) 0 0)))) (gR : 17 ≤ R) : ∀ (m1 k best wi sm : Nat), k + m1 = bc 63 (lw_of G (G (330 + 2 * a)) y g (G 4) 0 0) → 1 ≤ k → best < 100000 → xr (d + 9) 204 658 [(0, .ref 17), (1, .ref 16), (2, .int (Int32.ofNat q)), (3, .ref A), (4, .int (Int32.ofNat tm)), (5, .ref B), (9, .long (Int64.ofNat (aH G 4))), (11, .long (Int64.ofNat (aK G 4))), (17, .int (Int32.ofNat a)), (18, .long (Int64.ofNat (G (330 + 2 * a)))), (20, .long (Int64.ofNat (G (331 + 2 * a)))), (22, .int (Int32.ofNat tn)), (23, .int (Int32.ofNat y)), (24, .long (Int64.ofNat (lw_of G (G (330 + 2 * a)) y 4294967295 (G 4) 0 0))), (26, .int (Int32.ofNat fs_)), (27, .int (Int32.ofNat (vS G (lw_row G (lw_of G (G (330 + 2 * a)) y g (G 4) 0 0)) m1 k sm))), (28, .int (Int32.ofNat g)), (32, .int (Int32.ofNat (wF G (lw_row G (lw_of G (G (330 + 2 * a)) y g (G 4) 0 0)) m1 k best wi)))] [] W0 c s r → xr (d + 9) 204 548 [(0, .ref 17), (1, .ref 16), (2, .int (Int32.ofNat q)), (3, .ref A), (4, .int (Int32.ofNat tm)), (5, .ref B), (9, .long (Int64.ofNat (aH G 4))), (11, .long (Int64.ofNat (aK G 4))), (17, .int (Int32.ofNat a)), (18, .long (Int64.ofNat (G (330 + 2 * a)))), (20, .long (Int64.ofNat (G (331 + 2 * a)))), (22, .int (Int32.ofNat tn)), (23, .int (Int32.ofNat y)), (24, .long (Int64.ofNat (lw_of G (G (330 + 2 * a)) y 4294967295 (G 4) 0 0))), (26, .int (Int32.ofNat fs_)), (27, .int (Int32.ofNat sm)), (28, .int (Int32.ofNat g)), (29, .ref R), (30, .long (Int64.ofNat best)), (32, .int (Int32.ofNat wi)), (33, .int (Int32.ofNat k))] [] W0 c s r
  | 0, k, best, wi, sm, hk, hk1, hb, K => by
    have hn63 := bcle 63 (lw_of G (G (330 + 2 * a)) y g (G 4) 0 0)
    have hk : k = bc 63 (lw_of G (G (330 + 2 * a)) y g (G 4) 0 0) := by omega
    unfold wF vS at K
    refine xr_stp rfl rfl rfl rfl ?_
    refine xr_stp rfl rfl rfl rfl ?_
    refine xs_iln hR rfl ?_
    refine xr_j2 rfl rfl rfl rfl rfl (fun h553 => ?_) (fun h553 => ?_)
    · refine xr_loc [(0, .ref 17), (1, .ref 16), (2, .int (Int32.ofNat q)), (3, .ref A), (4, .int (Int32.ofNat tm)), (5, .ref B), (9, .long (Int64.ofNat (aH G 4))), (11, .long (Int64.ofNat (aK G 4))), (17, .int (Int32.ofNat a)), (18, .long (Int64.ofNat (G (330 + 2 * a)))), (20, .long (Int64.ofNat (G (331 + 2 * a)))), (22, .int (Int32.ofNat tn)), (23, .int (Int32.ofNat y)), (24, .long (Int64.ofNat (lw_of G (G (330 + 2 * a)) y 4294967295 (G 4) 0 0))), (26, .int (Int32.ofNat fs_)), (27, .int (Int32.ofNat sm)), (28, .int (Int32.ofNat g)), (32, .int (Int32.ofNat wi))] ⟨rfl, rfl, rfl, rfl, rfl, rfl, rfl, rfl, rfl, rfl, rfl, rfl, rfl, rfl, rfl, rfl, rfl, rfl, trivial⟩ rfl ?_
      exact K
    · have z553 := nf_ge (by omega) (by omega) h553
      exact (by omega)
  | m1 + 1, k, best, wi, sm, hk, hk1, hb, K => by
    unfold wF vS at K
    obtain ⟨hc, hA, hS, gA, hz, hN, hnn⟩ := id hs
    obtain ⟨F, hw, hr⟩ := hc.w
    have J := hr.j
    have he := hr.e
    have J4 := J.e
    have b63 := J.b63
    have gA7 : 17 ≤ A := by omega
    obtain ⟨lf, lp, hO⟩ := hc.o
    have hn63 := bcle 63 (lw_of G (G (330 + 2 * a)) y g (G 4) 0 0)
    have hdg := en.dgE he J4 (lw_of_lt G (G (330 + 2 * a)) y g) k (by omega)
    have hrg := ((lw_rowE he J4 (lw_of_lt G (G (330 + 2 * a)) y g)).1 k (by omega)).1
    have e1 : 10 + 5 * lw_row G (lw_of G (G (330 + 2 * a)) y g (G 4) 0 0) k + 1 = 11 + 5 * lw_row G (lw_of G (G (330 + 2 * a)) y g (G 4) 0 0) k := by omega
    have e4 : 10 + 5 * lw_row G (lw_of G (G (330 + 2 * a)) y g (G 4) 0 0) k + 4 = 14 + 5 * lw_row G (lw_of G (G (330 + 2 * a)) y g (G 4) 0 0) k := by omega
    have d0 := hdg 0 (by omega)
    have d1 := hdg 1 (by omega)
    have d4 := hdg 4 (by omega)
    have d0 : G (10 + 5 * lw_row G (lw_of G (G (330 + 2 * a)) y g (G 4) 0 0) k) < 1000 := d0
    rw [e1] at d1
    rw [e4] at d4
    refine xr_stp rfl rfl rfl rfl ?_
    refine xr_stp rfl rfl rfl rfl ?_
    refine xs_iln hR rfl ?_
    refine xr_j2 rfl rfl rfl rfl rfl (fun h553 => ?_) (fun h553 => ?_)
    · have z553 := nt_ge (by omega) (by omega) h553
      exact (by omega)
    · refine xr_stp (st' := .int (Int32.ofNat 10) :: _) rfl rfl rfl rfl ?_
      refine xr_stp (st' := .int (Int32.ofNat 5) :: _) rfl rfl rfl rfl ?_
      refine xr_stp rfl rfl rfl rfl ?_
      refine xr_stp rfl rfl rfl rfl ?_
      refine xs_ild hR (by omega) (by omega) rfl ?_
      refine xs_mul rfl ?_
      refine xs_add rfl ?_
      refine xr_stp rfl rfl rfl rfl ?_
      refine xr_stp rfl rfl rfl rfl ?_
      refine xr_stp rfl rfl rfl rfl ?_
      refine xr_stp rfl rfl rfl rfl ?_
      refine xr_stp (st' := .int (Int32.ofNat 4) :: _) rfl rfl rfl rfl ?_
      refine xs_add rfl ?_
      refine xs_ald hA gA7 (by omega) (by omega) rfl ?_
      rw [e4]
      refine xs_l2i rfl ?_
      refine xs_add rfl ?_
      refine xr_stp rfl rfl rfl rfl ?_
      refine xr_stp rfl rfl rfl rfl ?_
      refine xr_stp rfl rfl rfl rfl ?_
      refine xr_stp (st' := .int (Int32.ofNat 1) :: _) rfl rfl rfl rfl ?_
      refine xs_add rfl ?_
      refine xs_ald hA gA7 (by omega) (by omega) rfl ?_
      rw [e1]
      refine xr_stp (st' := .long (Int64.ofNat 10) :: _) rfl rfl rfl rfl ?_
      refine xs_lmul rfl ?_
      refine xr_stp rfl rfl rfl rfl ?_
      refine xr_stp rfl rfl rfl rfl ?_
      refine xs_ald hA gA7 (by omega) (by omega) rfl ?_
      refine xs_ladd rfl ?_
      refine xr_stp rfl rfl rfl rfl ?_
      refine xs_lc (by omega) (by omega) rfl ?_
      refine xr_j1 rfl rfl rfl rfl rfl (fun h598 => ?_) (fun h598 => ?_)
      · have z598 := lt_le h598
        rw [if_neg (show ¬ best < sc G (lw_row G (lw_of G (G (330 + 2 * a)) y g (G 4) 0 0) k) by show ¬ best < (G (11 + 5 * lw_row G (lw_of G (G (330 + 2 * a)) y g (G 4) 0 0) k) * 10 + G (10 + 5 * lw_row G (lw_of G (G (330 + 2 * a)) y g (G 4) 0 0) k)); omega)] at K
        refine xr_stp rfl rfl rfl rfl ?_
        refine xr_stp rfl rfl rfl rfl ?_
        refine xr_stp rfl rfl rfl rfl ?_
        refine xr_stp rfl rfl rfl rfl ?_
        refine xr_stp rfl rfl rfl rfl ?_
        refine xr_vcps hO rfl rfl rfl rfl rfl rfl (fun r1 K2 => cq_valI _ _ _ nn q dl tx sy T N fi m mm f W0 G GS hc a y g ha hy hg k (by omega) r1 (K2 _ _ _ _ ?_))
        refine xs_i2l (by omega) rfl ?_
        refine xr_stp rfl rfl rfl rfl ?_
        refine xr_stp rfl rfl rfl rfl ?_
        refine xr_stp (st' := .int (Int32.ofNat 4) :: _) rfl rfl rfl rfl ?_
        refine xs_add rfl ?_
        refine xs_ald hA gA7 (by omega) (by omega) rfl ?_
        rw [e4]
        refine xs_lc (by omega) (by omega) rfl ?_
        refine xr_j1 rfl rfl rfl rfl rfl (fun h647 => ?_) (fun h647 => ?_)
        · refine xs_inc (e := 1) rfl rfl rfl rfl ?_
          refine xr_stp rfl rfl rfl rfl ?_
          refine xr_loc [(0, .ref 17), (1, .ref 16), (2, .int (Int32.ofNat q)), (3, .ref A), (4, .int (Int32.ofNat tm)), (5, .ref B), (9, .long (Int64.ofNat (aH G 4))), (11, .long (Int64.ofNat (aK G 4))), (17, .int (Int32.ofNat a)), (18, .long (Int64.ofNat (G (330 + 2 * a)))), (20, .long (Int64.ofNat (G (331 + 2 * a)))), (22, .int (Int32.ofNat tn)), (23, .int (Int32.ofNat y)), (24, .long (Int64.ofNat (lw_of G (G (330 + 2 * a)) y 4294967295 (G 4) 0 0))), (26, .int (Int32.ofNat fs_)), (27, .int (Int32.ofNat (sm + G (14 + 5 * lw_row G (lw_of G (G (330 + 2 * a)) y g (G 4) 0 0) k)))), (28, .int (Int32.ofNat g)), (29, .ref R), (30, .long (Int64.ofNat best)), (32, .int (Int32.ofNat wi)), (33, .int (Int32.ofNat (k + 1)))] ⟨rfl, rfl, rfl, rfl, rfl, rfl, rfl, rfl, rfl, rfl, rfl, rfl, rfl, rfl, rfl, rfl, rfl, rfl, rfl, rfl, rfl, trivial⟩ rfl ?_
          exact ae_L d c s tm B nn q dl tx sy T N fi m mm A f G GS r a y ha hy g fs_ tn R W0 hg hs hR gR m1 (k + 1) _ _ _ (by omega) (by omega) (by omega) K
        · have z647 := lf_eq h647
          exact (by omega)
      · have z598 := lf_le h598
        rw [if_pos (show best < sc G (lw_row G (lw_of G (G (330 + 2 * a)) y g (G 4) 0 0) k) from z598)] at K
        refine xr_stp rfl rfl rfl rfl ?_
        refine xr_stp rfl rfl rfl rfl ?_
        refine xr_stp (st' := .int (Int32.ofNat 1) :: _) rfl rfl rfl rfl ?_
        refine xs_add rfl ?_
        refine xs_ald hA gA7 (by omega) (by omega) rfl ?_
        rw [e1]
        refine xr_stp (st' := .long (Int64.ofNat 10) :: _) rfl rfl rfl rfl ?_
        refine xs_lmul rfl ?_
        refine xr_stp rfl rfl rfl rfl ?_
        refine xr_stp rfl rfl rfl rfl ?_
        refine xs_ald hA gA7 (by omega) (by omega) rfl ?_
        refine xs_ladd rfl ?_
        refine xr_stp rfl rfl rfl rfl ?_
        refine xr_stp rfl rfl rfl rfl ?_
        refine xr_stp rfl rfl rfl rfl ?_
        refine xr_stp (st' := .int (Int32.ofNat 4) :: _) rfl rfl rfl rfl ?_
        refine xs_add rfl ?_
        refine xs_ald hA gA7 (by omega) (by omega) rfl ?_
        rw [e4]
        refine xs_l2i rfl ?_
        refine xr_stp rfl rfl rfl rfl ?_
        refine xr_stp rfl rfl rfl rfl ?_
        refine xr_stp rfl rfl rfl rfl ?_
        refine xr_stp rfl rfl rfl rfl ?_
        refine xr_stp rfl rfl rfl rfl ?_
        refine xr_stp rfl rfl rfl rfl ?_
        refine xr_vcps hO rfl rfl rfl rfl rfl rfl (fun r1 K2 => cq_valI _ _ _ nn q dl tx sy T N fi m mm f W0 G GS hc a y g ha hy hg k (by omega) r1 (K2 _ _ _ _ ?_))
        refine xs_i2l (by omega) rfl ?_
        refine xr_stp rfl rfl rfl rfl ?_
        refine xr_stp rfl rfl rfl rfl ?_
        refine xr_stp (st' := .int (Int32.ofNat 4) :: _) rfl rfl rfl rfl ?_
        refine xs_add rfl ?_
        refine xs_ald hA gA7 (by omega) (by omega) rfl ?_
        rw [e4]
        refine xs_lc (by omega) (by omega) rfl ?_
        refine xr_j1 rfl rfl rfl rfl rfl (fun h647 => ?_) (fun h647 => ?_)
        · refine xs_inc (e := 1) rfl rfl rfl rfl ?_
          refine xr_stp rfl rfl rfl rfl ?_
          refine xr_loc [(0, .ref 17), (1, .ref 16), (2, .int (Int32.ofNat q)), (3, .ref A), (4, .int (Int32.ofNat tm)), (5, .ref B), (9, .long (Int64.ofNat (aH G 4))), (11, .long (Int64.ofNat (aK G 4))), (17, .int (Int32.ofNat a)), (18, .long (Int64.ofNat (G (330 + 2 * a)))), (20, .long (Int64.ofNat (G (331 + 2 * a)))), (22, .int (Int32.ofNat tn)), (23, .int (Int32.ofNat y)), (24, .long (Int64.ofNat (lw_of G (G (330 + 2 * a)) y 4294967295 (G 4) 0 0))), (26, .int (Int32.ofNat fs_)), (27, .int (Int32.ofNat (sm + G (14 + 5 * lw_row G (lw_of G (G (330 + 2 * a)) y g (G 4) 0 0) k)))), (28, .int (Int32.ofNat g)), (29, .ref R), (30, .long (Int64.ofNat (G (11 + 5 * lw_row G (lw_of G (G (330 + 2 * a)) y g (G 4) 0 0) k) * 10 + G (10 + 5 * lw_row G (lw_of G (G (330 + 2 * a)) y g (G 4) 0 0) k)))), (32, .int (Int32.ofNat (G (14 + 5 * lw_row G (lw_of G (G (330 + 2 * a)) y g (G 4) 0 0) k)))), (33, .int (Int32.ofNat (k + 1)))] ⟨rfl, rfl, rfl, rfl, rfl, rfl, rfl, rfl, rfl, rfl, rfl, rfl, rfl, rfl, rfl, rfl, rfl, rfl, rfl, rfl, rfl, trivial⟩ rfl ?_
          exact ae_L d c s tm B nn q dl tx sy T N fi m mm A f G GS r a y ha hy g fs_ tn R W0 hg hs hR gR m1 (k + 1) _ _ _ (by omega) (by omega) (by omega) K
        · have z647 := lf_eq h647
          exact (by omega)
theorem ae_0 (d c s : Nat) (tm B : Nat) (nn q dl tx sy T N fi m mm A : Nat) (f : Nat → Int32) (G : Nat → Nat) (GS : Nat → Nat → Nat) (r : xi_R → Prop) (a y : Nat) (ha : a < 4) (hy : y < 4) (g fs_ tn sm R : Nat) (W0 : xi_W) (hg : g < 3) (hs : scn nn f q dl tx sy T N fi m mm G GS A W0) (hR : W0[R]? = some (lw_i (bc 63 (lw_of G (G (330 + 2 * a)) y g (G 4) 0 0)) (lw_row G (lw_of G (G (330 + 2 * a)) y g (G 4) 0 0)))) (gR : 17 ≤ R) (K : xr (d + 9) 204 658 [(0, .ref 17), (1, .ref 16), (2, .int (Int32.ofNat q)), (3, .ref A), (4, .int (Int32.ofNat tm)), (5, .ref B), (9, .long (Int64.ofNat (aH G 4))), (11, .long (Int64.ofNat (aK G 4))), (17, .int (Int32.ofNat a)), (18, .long (Int64.ofNat (G (330 + 2 * a)))), (20, .long (Int64.ofNat (G (331 + 2 * a)))), (22, .int (Int32.ofNat tn)), (23, .int (Int32.ofNat y)), (24, .long (Int64.ofNat (lw_of G (G (330 + 2 * a)) y 4294967295 (G 4) 0 0))), (26, .int (Int32.ofNat fs_)), (27, .int (Int32.ofNat (vS G (lw_row G (lw_of G (G (330 + 2 * a)) y g (G 4) 0 0)) (bc 63 (lw_of G (G (330 + 2 * a)) y g (G 4) 0 0)) 0 sm))), (28, .int (Int32.ofNat g)), (32, .int (Int32.ofNat (wn G (G (330 + 2 * a)) y g)))] [] W0 c s r) : xr (d + 9) 204 548 [(0, .ref 17), (1, .ref 16), (2, .int (Int32.ofNat q)), (3, .ref A), (4, .int (Int32.ofNat tm)), (5, .ref B), (9, .long (Int64.ofNat (aH G 4))), (11, .long (Int64.ofNat (aK G 4))), (17, .int (Int32.ofNat a)), (18, .long (Int64.ofNat (G (330 + 2 * a)))), (20, .long (Int64.ofNat (G (331 + 2 * a)))), (22, .int (Int32.ofNat tn)), (23, .int (Int32.ofNat y)), (24, .long (Int64.ofNat (lw_of G (G (330 + 2 * a)) y 4294967295 (G 4) 0 0))), (26, .int (Int32.ofNat fs_)), (27, .int (Int32.ofNat sm)), (28, .int (Int32.ofNat g)), (29, .ref R), (30, .long (Int64.ofNat 18446744073709551615)), (32, .int (Int32.ofNat 4294967295)), (33, .int (Int32.ofNat 0))] [] W0 c s r := by
  obtain ⟨hc, hA, hS, gA, hz, hN, hnn⟩ := id hs
  obtain ⟨F, hw, hr⟩ := hc.w
  have J := hr.j
  have he := hr.e
  have J4 := J.e
  have b63 := J.b63
  have gA7 : 17 ≤ A := by omega
  obtain ⟨lf, lp, hO⟩ := hc.o
  have hn63 := bcle 63 (lw_of G (G (330 + 2 * a)) y g (G 4) 0 0)
  by_cases hn : bc 63 (lw_of G (G (330 + 2 * a)) y g (G 4) 0 0) = 0
  · rw [hn, show wn G (G (330 + 2 * a)) y g = 4294967295 from if_pos hn] at K
    unfold vS at K
    refine xr_stp rfl rfl rfl rfl ?_
    refine xr_stp rfl rfl rfl rfl ?_
    refine xs_iln hR rfl ?_
    refine xr_j2 rfl rfl rfl rfl rfl (fun h553 => ?_) (fun h553 => ?_)
    · refine xr_loc [(0, .ref 17), (1, .ref 16), (2, .int (Int32.ofNat q)), (3, .ref A), (4, .int (Int32.ofNat tm)), (5, .ref B), (9, .long (Int64.ofNat (aH G 4))), (11, .long (Int64.ofNat (aK G 4))), (17, .int (Int32.ofNat a)), (18, .long (Int64.ofNat (G (330 + 2 * a)))), (20, .long (Int64.ofNat (G (331 + 2 * a)))), (22, .int (Int32.ofNat tn)), (23, .int (Int32.ofNat y)), (24, .long (Int64.ofNat (lw_of G (G (330 + 2 * a)) y 4294967295 (G 4) 0 0))), (26, .int (Int32.ofNat fs_)), (27, .int (Int32.ofNat sm)), (28, .int (Int32.ofNat g)), (32, .int (Int32.ofNat 4294967295))] ⟨rfl, rfl, rfl, rfl, rfl, rfl, rfl, rfl, rfl, rfl, rfl, rfl, rfl, rfl, rfl, rfl, rfl, rfl, trivial⟩ rfl ?_
      exact K
    · have z553 := nf_ge (by omega) (by omega) h553
      exact (by omega)
  · rw [show wn G (G (330 + 2 * a)) y g = wF G (lw_row G (lw_of G (G (330 + 2 * a)) y g (G 4) 0 0)) (bc 63 (lw_of G (G (330 + 2 * a)) y g (G 4) 0 0) - 1) 1 (sc G (lw_row G (lw_of G (G (330 + 2 * a)) y g (G 4) 0 0) 0)) (G (14 + 5 * lw_row G (lw_of G (G (330 + 2 * a)) y g (G 4) 0 0) 0)) from if_neg hn, show bc 63 (lw_of G (G (330 + 2 * a)) y g (G 4) 0 0) = (bc 63 (lw_of G (G (330 + 2 * a)) y g (G 4) 0 0) - 1) + 1 by omega] at K
    rw [Nat.add_sub_cancel] at K
    unfold vS at K
    have hn63 := bcle 63 (lw_of G (G (330 + 2 * a)) y g (G 4) 0 0)
    have hdg := en.dgE he J4 (lw_of_lt G (G (330 + 2 * a)) y g) 0 (by omega)
    have hrg := ((lw_rowE he J4 (lw_of_lt G (G (330 + 2 * a)) y g)).1 0 (by omega)).1
    have e1 : 10 + 5 * lw_row G (lw_of G (G (330 + 2 * a)) y g (G 4) 0 0) 0 + 1 = 11 + 5 * lw_row G (lw_of G (G (330 + 2 * a)) y g (G 4) 0 0) 0 := by omega
    have e4 : 10 + 5 * lw_row G (lw_of G (G (330 + 2 * a)) y g (G 4) 0 0) 0 + 4 = 14 + 5 * lw_row G (lw_of G (G (330 + 2 * a)) y g (G 4) 0 0) 0 := by omega
    have d0 := hdg 0 (by omega)
    have d1 := hdg 1 (by omega)
    have d4 := hdg 4 (by omega)
    have d0 : G (10 + 5 * lw_row G (lw_of G (G (330 + 2 * a)) y g (G 4) 0 0) 0) < 1000 := d0
    rw [e1] at d1
    rw [e4] at d4
    refine xr_stp rfl rfl rfl rfl ?_
    refine xr_stp rfl rfl rfl rfl ?_
    refine xs_iln hR rfl ?_
    refine xr_j2 rfl rfl rfl rfl rfl (fun h553 => ?_) (fun h553 => ?_)
    · have z553 := nt_ge (by omega) (by omega) h553
      exact (by omega)
    · refine xr_stp (st' := .int (Int32.ofNat 10) :: _) rfl rfl rfl rfl ?_
      refine xr_stp (st' := .int (Int32.ofNat 5) :: _) rfl rfl rfl rfl ?_
      refine xr_stp rfl rfl rfl rfl ?_
      refine xr_stp rfl rfl rfl rfl ?_
      refine xs_ild hR (by omega) (by omega) rfl ?_
      refine xs_mul rfl ?_
      refine xs_add rfl ?_
      refine xr_stp rfl rfl rfl rfl ?_
      refine xr_stp rfl rfl rfl rfl ?_
      refine xr_stp rfl rfl rfl rfl ?_
      refine xr_stp rfl rfl rfl rfl ?_
      refine xr_stp (st' := .int (Int32.ofNat 4) :: _) rfl rfl rfl rfl ?_
      refine xs_add rfl ?_
      refine xs_ald hA gA7 (by omega) (by omega) rfl ?_
      rw [e4]
      refine xs_l2i rfl ?_
      refine xs_add rfl ?_
      refine xr_stp rfl rfl rfl rfl ?_
      refine xr_stp rfl rfl rfl rfl ?_
      refine xr_stp rfl rfl rfl rfl ?_
      refine xr_stp (st' := .int (Int32.ofNat 1) :: _) rfl rfl rfl rfl ?_
      refine xs_add rfl ?_
      refine xs_ald hA gA7 (by omega) (by omega) rfl ?_
      rw [e1]
      refine xr_stp (st' := .long (Int64.ofNat 10) :: _) rfl rfl rfl rfl ?_
      refine xs_lmul rfl ?_
      refine xr_stp rfl rfl rfl rfl ?_
      refine xr_stp rfl rfl rfl rfl ?_
      refine xs_ald hA gA7 (by omega) (by omega) rfl ?_
      refine xs_ladd rfl ?_
      refine xr_stp rfl rfl rfl rfl ?_
      refine xs_lcm1 (by omega) rfl ?_
      refine xr_j1 rfl rfl rfl rfl rfl (fun h598 => ?_) (fun h598 => ?_)
      · exact absurd h598 (by decide +kernel)
      · refine xr_stp rfl rfl rfl rfl ?_
        refine xr_stp rfl rfl rfl rfl ?_
        refine xr_stp (st' := .int (Int32.ofNat 1) :: _) rfl rfl rfl rfl ?_
        refine xs_add rfl ?_
        refine xs_ald hA gA7 (by omega) (by omega) rfl ?_
        rw [e1]
        refine xr_stp (st' := .long (Int64.ofNat 10) :: _) rfl rfl rfl rfl ?_
        refine xs_lmul rfl ?_
        refine xr_stp rfl rfl rfl rfl ?_
        refine xr_stp rfl rfl rfl rfl ?_
        refine xs_ald hA gA7 (by omega) (by omega) rfl ?_
        refine xs_ladd rfl ?_
        refine xr_stp rfl rfl rfl rfl ?_
        refine xr_stp rfl rfl rfl rfl ?_
        refine xr_stp rfl rfl rfl rfl ?_
        refine xr_stp (st' := .int (Int32.ofNat 4) :: _) rfl rfl rfl rfl ?_
        refine xs_add rfl ?_
        refine xs_ald hA gA7 (by omega) (by omega) rfl ?_
        rw [e4]
        refine xs_l2i rfl ?_
        refine xr_stp rfl rfl rfl rfl ?_
        refine xr_stp rfl rfl rfl rfl ?_
        refine xr_stp rfl rfl rfl rfl ?_
        refine xr_stp rfl rfl rfl rfl ?_
        refine xr_stp rfl rfl rfl rfl ?_
        refine xr_stp rfl rfl rfl rfl ?_
        refine xr_vcps hO rfl rfl rfl rfl rfl rfl (fun r1 K2 => cq_valI _ _ _ nn q dl tx sy T N fi m mm f W0 G GS hc a y g ha hy hg 0 (by omega) r1 (K2 _ _ _ _ ?_))
        refine xs_i2l (by omega) rfl ?_
        refine xr_stp rfl rfl rfl rfl ?_
        refine xr_stp rfl rfl rfl rfl ?_
        refine xr_stp (st' := .int (Int32.ofNat 4) :: _) rfl rfl rfl rfl ?_
        refine xs_add rfl ?_
        refine xs_ald hA gA7 (by omega) (by omega) rfl ?_
        rw [e4]
        refine xs_lc (by omega) (by omega) rfl ?_
        refine xr_j1 rfl rfl rfl rfl rfl (fun h647 => ?_) (fun h647 => ?_)
        · refine xs_inc (e := 1) rfl rfl rfl rfl ?_
          refine xr_stp rfl rfl rfl rfl ?_
          refine xr_loc [(0, .ref 17), (1, .ref 16), (2, .int (Int32.ofNat q)), (3, .ref A), (4, .int (Int32.ofNat tm)), (5, .ref B), (9, .long (Int64.ofNat (aH G 4))), (11, .long (Int64.ofNat (aK G 4))), (17, .int (Int32.ofNat a)), (18, .long (Int64.ofNat (G (330 + 2 * a)))), (20, .long (Int64.ofNat (G (331 + 2 * a)))), (22, .int (Int32.ofNat tn)), (23, .int (Int32.ofNat y)), (24, .long (Int64.ofNat (lw_of G (G (330 + 2 * a)) y 4294967295 (G 4) 0 0))), (26, .int (Int32.ofNat fs_)), (27, .int (Int32.ofNat (sm + G (14 + 5 * lw_row G (lw_of G (G (330 + 2 * a)) y g (G 4) 0 0) 0)))), (28, .int (Int32.ofNat g)), (29, .ref R), (30, .long (Int64.ofNat (G (11 + 5 * lw_row G (lw_of G (G (330 + 2 * a)) y g (G 4) 0 0) 0) * 10 + G (10 + 5 * lw_row G (lw_of G (G (330 + 2 * a)) y g (G 4) 0 0) 0)))), (32, .int (Int32.ofNat (G (14 + 5 * lw_row G (lw_of G (G (330 + 2 * a)) y g (G 4) 0 0) 0)))), (33, .int (Int32.ofNat 1))] ⟨rfl, rfl, rfl, rfl, rfl, rfl, rfl, rfl, rfl, rfl, rfl, rfl, rfl, rfl, rfl, rfl, rfl, rfl, rfl, rfl, rfl, trivial⟩ rfl ?_
          exact ae_L d c s tm B nn q dl tx sy T N fi m mm A f G GS r a y ha hy g fs_ tn R W0 hg hs hR gR (bc 63 (lw_of G (G (330 + 2 * a)) y g (G 4) 0 0) - 1) 1 _ _ _ (by omega) (by omega) (by omega) K
        · have z647 := lf_eq h647
          exact (by omega)
