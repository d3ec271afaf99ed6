/-! asks: what would be sent, its cloud -/
theorem cQ_s (G : Nat → Nat) (k j : Nat) : cQ G k (j + 1) = cQ G k j + (if cP G k (lw_row G k j) = 0 then 0 else 1) := by
  unfold cQ
  rw [cN_top, Nat.zero_add]
theorem xs_i2lm {d i pc : Nat} {l : xi_L} {st : List Value} {w : xi_W} {c s : Nat} {r : xi_R → Prop} (hc : xt_cd i pc = some .i2l) (h : xr d i (pc + 1) l (.long (Int64.ofNat 18446744073709551615) :: st) w c s r) : xr d i pc l (.int (Int32.ofNat 4294967295) :: st) w c s r :=
  xr_stp hc rfl rfl (by simp only [xi_stp, xi_u1]; rfl) h
theorem xs_lcm0 {d i pc a : Nat} {l : xi_L} {st : List Value} {w : xi_W} {c s : Nat} {r : xi_R → Prop} (ha : a < 4611686018427387904) (hc : xt_cd i pc = some .lcmp) (h : xr d i (pc + 1) l (.int (Int32.ofInt (-1)) :: st) w c s r) : xr d i pc l (.long (Int64.ofNat a) :: .long (Int64.ofNat 18446744073709551615) :: st) w c s r := by
  refine xr_stp (pc' := pc + 1) (l' := l) (w' := w) (c' := c) (s' := s) (st' := .int (lg_cmp (Int64.ofNat 18446744073709551615) (Int64.ofNat a)) :: st) hc rfl rfl (by simp only [xi_stp, xi_b2l]) ?_
  have e : lg_cmp (Int64.ofNat 18446744073709551615) (Int64.ofNat a) = Int32.ofInt (-1) := by
    unfold lg_cmp
    have h1 : ¬ Int64.ofNat 18446744073709551615 > Int64.ofNat a := fun z => by
      have z : Int64.ofNat a < Int64.ofNat 18446744073709551615 := z
      rw [Int64.lt_iff_toInt_lt, nl_int (show a < 9223372036854775808 by omega), show (Int64.ofNat 18446744073709551615).toInt = -1 from by decide] at z
      omega
    have h2 : ¬ Int64.ofNat 18446744073709551615 = Int64.ofNat a := fun z => by
      have z := congrArg Int64.toInt z
      rw [nl_int (show a < 9223372036854775808 by omega), show (Int64.ofNat 18446744073709551615).toInt = -1 from by decide] at z
      omega
    rw [if_neg h1, if_neg h2]
    rfl
  rw [e]
  exact h
theorem acl_L (d c s : Nat) (tm B : Nat) (nn q dl tx sy T N fi m mm A : Nat) (f : Nat → Int32) (G : Nat → Nat) (GS : Nat → Nat → Nat) (r : xi_R → Prop) (a b : Nat) (ha : a < 4) (hb : b < 4) (hne : a ≠ b) (h0 : lw_be G a b ≠ 0) (R : Nat) (gR : 696 ≤ R) : ∀ (m1 j : Nat) (W0 : xi_W), j + m1 = bc 63 (lw_gr G (fun _ => 0) a b 1) → 1 ≤ j → scn nn f q dl tx sy T N fi m mm G GS A W0 → W0[R]? = some (lw_i (bc 63 (lw_gr G (fun _ => 0) a b 1)) (lw_row G (lw_gr G (fun _ => 0) a b 1))) → (∀ W', scn nn f q dl tx sy T N fi m mm G GS A W' → fr pq W0 W' → xr (d + 9) 204 1490 [(0, .ref 17), (1, .ref 16), (2, .int (Int32.ofNat q)), (3, .ref A), (4, .int (Int32.ofNat tm)), (5, .ref B), (9, .long (Int64.ofNat (aH G 4))), (11, .long (Int64.ofNat (aK G 4))), (17, .int (Int32.ofNat a)), (18, .long (Int64.ofNat (G (330 + 2 * a)))), (20, .long (Int64.ofNat (G (331 + 2 * a)))), (23, .int (Int32.ofNat b)), (35, .int (Int32.ofNat 1)), (38, .int (Int32.ofNat (cQ G (lw_gr G (fun _ => 0) a b 1) (bc 63 (lw_gr G (fun _ => 0) a b 1)))))] [] W' c s r) → xr (d + 9) 204 1363 [(0, .ref 17), (1, .ref 16), (2, .int (Int32.ofNat q)), (3, .ref A), (4, .int (Int32.ofNat tm)), (5, .ref B), (9, .long (Int64.ofNat (aH G 4))), (11, .long (Int64.ofNat (aK G 4))), (17, .int (Int32.ofNat a)), (18, .long (Int64.ofNat (G (330 + 2 * a)))), (20, .long (Int64.ofNat (G (331 + 2 * a)))), (23, .int (Int32.ofNat b)), (35, .int (Int32.ofNat 1)), (37, .ref R), (38, .int (Int32.ofNat (cQ G (lw_gr G (fun _ => 0) a b 1) j))), (39, .int (Int32.ofNat (G (10 + 5 * lw_row G (lw_gr G (fun _ => 0) a b 1) (j - 1))))), (40, .long (Int64.ofNat (min (cT G (lw_gr G (fun _ => 0) a b 1) (lw_row G (lw_gr G (fun _ => 0) a b 1) (j - 1))) (G (11 + 5 * lw_row G (lw_gr G (fun _ => 0) a b 1) (j - 1)))))), (42, .int (Int32.ofNat j))] [] W0 c s r
  | 0, j, W0, hj0, hj1, hs, hR, K => by
    have hn63 := bcle 63 (lw_gr G (fun _ => 0) a b 1)
    have hj0 : j = bc 63 (lw_gr G (fun _ => 0) a b 1) := by omega
    refine xr_stp rfl rfl rfl rfl ?_
    refine xr_stp rfl rfl rfl rfl ?_
    refine xs_iln hR rfl ?_
    refine xr_j2 rfl rfl rfl rfl rfl (fun h1368 => ?_) (fun h1368 => ?_)
    · refine xr_loc [(0, .ref 17), (1, .ref 16), (2, .int (Int32.ofNat q)), (3, .ref A), (4, .int (Int32.ofNat tm)), (5, .ref B), (9, .long (Int64.ofNat (aH G 4))), (11, .long (Int64.ofNat (aK G 4))), (17, .int (Int32.ofNat a)), (18, .long (Int64.ofNat (G (330 + 2 * a)))), (20, .long (Int64.ofNat (G (331 + 2 * a)))), (23, .int (Int32.ofNat b)), (35, .int (Int32.ofNat 1)), (38, .int (Int32.ofNat (cQ G (lw_gr G (fun _ => 0) a b 1) (bc 63 (lw_gr G (fun _ => 0) a b 1)))))] ⟨rfl, rfl, rfl, rfl, rfl, rfl, rfl, rfl, rfl, rfl, rfl, rfl, rfl, (by rw [← hj0]; rfl), trivial⟩ rfl ?_
      exact K W0 hs fr.rf
    · have z1368 := nf_ge (by omega) (by omega) h1368
      exact (by omega)
  | m1 + 1, j, W0, hj0, hj1, hs, hR, K => by
    have hj : j < bc 63 (lw_gr G (fun _ => 0) a b 1) := by omega
    obtain ⟨hc, hA, hS, gA, hz, hN, hnn⟩ := id hs
    obtain ⟨F, hw, hr⟩ := hc.w
    have J := hr.j
    have he := hr.e
    have J4 := J.e
    have b63 := J.b63
    have gA7 : 17 ≤ A := by omega
    obtain ⟨lf, lp, hO⟩ := hc.o
    have hcp := (hr.compose ha hb).2.2
    have hkk : (lw_gr G (fun _ => 0) a b 1) < 2 ^ G 4 := hcp.1.2
    have hkl := lt62 J4 hkk
    have hn63 := bcle 63 (lw_gr G (fun _ => 0) a b 1)
    have hdg := en.dgE he J4 hkk j hj
    have d0 : G (10 + 5 * lw_row G (lw_gr G (fun _ => 0) a b 1) j) < 1000 := hdg 0 (by omega)
    have e1 : 10 + 5 * lw_row G (lw_gr G (fun _ => 0) a b 1) j + 1 = 11 + 5 * lw_row G (lw_gr G (fun _ => 0) a b 1) j := by omega
    have d1 := hdg 1 (by omega)
    rw [e1] at d1
    have hrg := ((lw_rowE he J4 hkk).1 j hj).1
    have hst := cl_st he J4 hkk hj
    have hcs := cP_st he J4 hkk hj
    have hqs := cQ_s G (lw_gr G (fun _ => 0) a b 1) j
    have hq9 : cQ G (lw_gr G (fun _ => 0) a b 1) j ≤ j := cN_le (cP G (lw_gr G (fun _ => 0) a b 1)) (lw_row G (lw_gr G (fun _ => 0) a b 1)) j 0
    have hct : cT G (lw_gr G (fun _ => 0) a b 1) (lw_row G (lw_gr G (fun _ => 0) a b 1) j) ≤ 62 := tr_le 62 _
    have dp : G (10 + 5 * lw_row G (lw_gr G (fun _ => 0) a b 1) (j - 1)) < 1000 := en.dgE he J4 hkk (j - 1) (by omega) 0 (by omega)
    have key : xr (d + 9) 204 1407 [(0, .ref 17), (1, .ref 16), (2, .int (Int32.ofNat q)), (3, .ref A), (4, .int (Int32.ofNat tm)), (5, .ref B), (9, .long (Int64.ofNat (aH G 4))), (11, .long (Int64.ofNat (aK G 4))), (17, .int (Int32.ofNat a)), (18, .long (Int64.ofNat (G (330 + 2 * a)))), (20, .long (Int64.ofNat (G (331 + 2 * a)))), (23, .int (Int32.ofNat b)), (35, .int (Int32.ofNat 1)), (37, .ref R), (38, .int (Int32.ofNat (cQ G (lw_gr G (fun _ => 0) a b 1) j))), (39, .int (Int32.ofNat (G (10 + 5 * lw_row G (lw_gr G (fun _ => 0) a b 1) (j - 1))))), (40, .long (Int64.ofNat (min (cT G (lw_gr G (fun _ => 0) a b 1) (lw_row G (lw_gr G (fun _ => 0) a b 1) j)) (G (11 + 5 * lw_row G (lw_gr G (fun _ => 0) a b 1) j) - 1)))), (42, .int (Int32.ofNat j)), (43, .int (Int32.ofNat (10 + 5 * lw_row G (lw_gr G (fun _ => 0) a b 1) j)))] [] W0 c s r := by
      by_cases hcp0 : cP G (lw_gr G (fun _ => 0) a b 1) (lw_row G (lw_gr G (fun _ => 0) a b 1) j) = 0
      · have hg1 := hcs.mp hcp0
        rw [if_pos hcp0] at hqs
        have hge : G (11 + 5 * lw_row G (lw_gr G (fun _ => 0) a b 1) j) ≤ cT G (lw_gr G (fun _ => 0) a b 1) (lw_row G (lw_gr G (fun _ => 0) a b 1) j) := by unfold cP at hcp0; split at hcp0 <;> omega
        refine xr_stp rfl rfl rfl rfl ?_
        refine xr_stp rfl rfl rfl rfl ?_
        refine xs_ald hA gA7 (by omega) (by omega) rfl ?_
        refine xs_l2i rfl ?_
        refine xr_stp rfl rfl rfl rfl ?_
        refine xr_stp rfl rfl rfl rfl ?_
        refine xr_stp rfl rfl rfl rfl ?_
        refine xr_stp (st' := .int (Int32.ofNat 1) :: _) rfl rfl rfl rfl ?_
        refine xs_add rfl ?_
        refine xs_ald hA gA7 (by omega) (by omega) rfl ?_
        rw [e1]
        refine xr_stp rfl rfl rfl rfl ?_
        refine xr_stp (st' := .long (Int64.ofNat 1) :: _) rfl rfl rfl rfl ?_
        refine xs_ladd rfl ?_
        refine xs_lc (by omega) (by omega) rfl ?_
        refine xr_j1 rfl rfl rfl rfl rfl (fun h1425 => ?_) (fun h1425 => ?_)
        · have z1425 := lt_ne h1425
          exact (by omega)
        · refine xr_stp rfl rfl rfl rfl ?_
          refine xr_stp (st' := .long (Int64.ofNat 1) :: _) rfl rfl rfl rfl ?_
          refine xs_ladd rfl ?_
          refine xr_stp rfl rfl rfl rfl ?_
          refine xr_stp rfl rfl rfl rfl ?_
          refine xs_inc (e := 1) rfl rfl rfl rfl ?_
          refine xr_stp rfl rfl rfl rfl ?_
          refine xr_loc [(0, .ref 17), (1, .ref 16), (2, .int (Int32.ofNat q)), (3, .ref A), (4, .int (Int32.ofNat tm)), (5, .ref B), (9, .long (Int64.ofNat (aH G 4))), (11, .long (Int64.ofNat (aK G 4))), (17, .int (Int32.ofNat a)), (18, .long (Int64.ofNat (G (330 + 2 * a)))), (20, .long (Int64.ofNat (G (331 + 2 * a)))), (23, .int (Int32.ofNat b)), (35, .int (Int32.ofNat 1)), (37, .ref R), (38, .int (Int32.ofNat (cQ G (lw_gr G (fun _ => 0) a b 1) (j + 1)))), (39, .int (Int32.ofNat (G (10 + 5 * lw_row G (lw_gr G (fun _ => 0) a b 1) j)))), (40, .long (Int64.ofNat (min (cT G (lw_gr G (fun _ => 0) a b 1) (lw_row G (lw_gr G (fun _ => 0) a b 1) j)) (G (11 + 5 * lw_row G (lw_gr G (fun _ => 0) a b 1) j))))), (42, .int (Int32.ofNat ((j + 1))))] ⟨rfl, rfl, rfl, rfl, rfl, rfl, rfl, rfl, rfl, rfl, rfl, rfl, rfl, rfl, (by rw [hqs, Nat.add_zero]; rfl), rfl, (by rw [show min (cT G (lw_gr G (fun _ => 0) a b 1) (lw_row G (lw_gr G (fun _ => 0) a b 1) j)) (G (11 + 5 * lw_row G (lw_gr G (fun _ => 0) a b 1) j)) = (min (cT G (lw_gr G (fun _ => 0) a b 1) (lw_row G (lw_gr G (fun _ => 0) a b 1) j)) (G (11 + 5 * lw_row G (lw_gr G (fun _ => 0) a b 1) j) - 1)) + 1 by omega]; rfl), rfl, trivial⟩ rfl ?_
          exact acl_L d c s tm B nn q dl tx sy T N fi m mm A f G GS r a b ha hb hne h0 R gR m1 (j + 1) W0 (by omega) (by omega) hs hR (fun W5 k1 k2 => K W5 k1 (fr.rf.tr k2))
      · have hg1 : ¬ G (11 + 5 * lw_row G (lw_gr G (fun _ => 0) a b 1) j) = min (cT G (lw_gr G (fun _ => 0) a b 1) (lw_row G (lw_gr G (fun _ => 0) a b 1) j)) (G (11 + 5 * lw_row G (lw_gr G (fun _ => 0) a b 1) j) - 1) + 1 := fun z => hcp0 (hcs.mpr z)
        rw [if_neg hcp0] at hqs
        have hlt : cT G (lw_gr G (fun _ => 0) a b 1) (lw_row G (lw_gr G (fun _ => 0) a b 1) j) < G (11 + 5 * lw_row G (lw_gr G (fun _ => 0) a b 1) j) := by unfold cP at hcp0; split at hcp0 <;> omega
        refine xr_stp rfl rfl rfl rfl ?_
        refine xr_stp rfl rfl rfl rfl ?_
        refine xs_ald hA gA7 (by omega) (by omega) rfl ?_
        refine xs_l2i rfl ?_
        refine xr_stp rfl rfl rfl rfl ?_
        refine xr_stp rfl rfl rfl rfl ?_
        refine xr_stp rfl rfl rfl rfl ?_
        refine xr_stp (st' := .int (Int32.ofNat 1) :: _) rfl rfl rfl rfl ?_
        refine xs_add rfl ?_
        refine xs_ald hA gA7 (by omega) (by omega) rfl ?_
        rw [e1]
        refine xr_stp rfl rfl rfl rfl ?_
        refine xr_stp (st' := .long (Int64.ofNat 1) :: _) rfl rfl rfl rfl ?_
        refine xs_ladd rfl ?_
        refine xs_lc (by omega) (by omega) rfl ?_
        refine xr_j1 rfl rfl rfl rfl rfl (fun h1425 => ?_) (fun h1425 => ?_)
        · refine xr_stp rfl rfl rfl rfl ?_
          refine xr_stp rfl rfl rfl rfl ?_
          refine xr_stp rfl rfl rfl rfl ?_
          refine xr_stp rfl rfl rfl rfl ?_
          refine xr_stp (st' := .int (Int32.ofNat 0) :: _) rfl rfl rfl rfl ?_
          refine xr_vcps hO rfl rfl rfl rfl rfl rfl (fun r1 K2 => cq_clo0 _ _ _ nn q dl tx sy T N fi m mm f W0 G GS hc a b ha hb hne (by omega) h0 j hj hcp0 r1 (fun W1 hc1 hf1 => K2 _ _ _ _ ?_))
          have hs1 := hs.cls hc1 hf1
          have hR := hf1.at hR (by unfold pq; omega)
          clear hA hS hO
          obtain ⟨-, hA, hS, -⟩ := id hs1
          obtain ⟨lf, lp, hO⟩ := hc1.o
          refine xs_i2l (by omega) rfl ?_
          refine xr_stp rfl rfl rfl rfl ?_
          refine xr_stp rfl rfl rfl rfl ?_
          refine xs_ald hA gA7 (by omega) (by omega) rfl ?_
          refine xs_lc (by omega) (by omega) rfl ?_
          refine xr_j1 rfl rfl rfl rfl rfl (fun h1454 => ?_) (fun h1454 => ?_)
          · have z1454 := lt_ne h1454
            exact (by omega)
          · refine xr_stp rfl rfl rfl rfl ?_
            refine xr_stp rfl rfl rfl rfl ?_
            refine xr_stp rfl rfl rfl rfl ?_
            refine xr_stp rfl rfl rfl rfl ?_
            refine xr_stp (st' := .int (Int32.ofNat 1) :: _) rfl rfl rfl rfl ?_
            refine xr_vcps hO rfl rfl rfl rfl rfl rfl (fun r1 K2 => cq_clo1 _ _ _ nn q dl tx sy T N fi m mm f W1 G GS hc1 a b ha hb hne (by omega) h0 j hj hcp0 r1 (fun W2 hc2 hf2 => K2 _ _ _ _ ?_))
            have hs2 := hs1.cls hc2 hf2
            have hR := hf2.at hR (by unfold pq; omega)
            clear hA hS hO
            obtain ⟨-, hA, hS, -⟩ := id hs2
            obtain ⟨lf, lp, hO⟩ := hc2.o
            refine xs_i2l (by omega) rfl ?_
            refine xr_stp rfl rfl rfl rfl ?_
            refine xr_stp rfl rfl rfl rfl ?_
            refine xr_stp (st' := .int (Int32.ofNat 1) :: _) rfl rfl rfl rfl ?_
            refine xs_add rfl ?_
            refine xs_ald hA gA7 (by omega) (by omega) rfl ?_
            rw [e1]
            refine xs_lc (by omega) (by omega) rfl ?_
            refine xr_j1 rfl rfl rfl rfl rfl (fun h1476 => ?_) (fun h1476 => ?_)
            · refine xs_inc (e := 1) rfl rfl rfl rfl ?_
              refine xs_inc (e := 1) rfl rfl rfl rfl ?_
              refine xr_stp rfl rfl rfl rfl ?_
              refine xr_loc [(0, .ref 17), (1, .ref 16), (2, .int (Int32.ofNat q)), (3, .ref A), (4, .int (Int32.ofNat tm)), (5, .ref B), (9, .long (Int64.ofNat (aH G 4))), (11, .long (Int64.ofNat (aK G 4))), (17, .int (Int32.ofNat a)), (18, .long (Int64.ofNat (G (330 + 2 * a)))), (20, .long (Int64.ofNat (G (331 + 2 * a)))), (23, .int (Int32.ofNat b)), (35, .int (Int32.ofNat 1)), (37, .ref R), (38, .int (Int32.ofNat (cQ G (lw_gr G (fun _ => 0) a b 1) (j + 1)))), (39, .int (Int32.ofNat (G (10 + 5 * lw_row G (lw_gr G (fun _ => 0) a b 1) j)))), (40, .long (Int64.ofNat (min (cT G (lw_gr G (fun _ => 0) a b 1) (lw_row G (lw_gr G (fun _ => 0) a b 1) j)) (G (11 + 5 * lw_row G (lw_gr G (fun _ => 0) a b 1) j))))), (42, .int (Int32.ofNat ((j + 1))))] ⟨rfl, rfl, rfl, rfl, rfl, rfl, rfl, rfl, rfl, rfl, rfl, rfl, rfl, rfl, (by rw [hqs]; rfl), rfl, (by rw [show min (cT G (lw_gr G (fun _ => 0) a b 1) (lw_row G (lw_gr G (fun _ => 0) a b 1) j)) (G (11 + 5 * lw_row G (lw_gr G (fun _ => 0) a b 1) j)) = min (cT G (lw_gr G (fun _ => 0) a b 1) (lw_row G (lw_gr G (fun _ => 0) a b 1) j)) (G (11 + 5 * lw_row G (lw_gr G (fun _ => 0) a b 1) j) - 1) by omega]; rfl), rfl, trivial⟩ rfl ?_
              exact acl_L d c s tm B nn q dl tx sy T N fi m mm A f G GS r a b ha hb hne h0 R gR m1 (j + 1) W2 (by omega) (by omega) hs2 hR (fun W5 k1 k2 => K W5 k1 ((hf1.tr hf2).tr k2))
            · have z1476 := lf_eq h1476
              exact (by omega)
        · have z1425 := lf_ne h1425
          exact (by omega)
    by_cases z1 : G (10 + 5 * lw_row G (lw_gr G (fun _ => 0) a b 1) (j - 1)) = G (10 + 5 * lw_row G (lw_gr G (fun _ => 0) a b 1) j)
    · rw [if_pos ⟨by omega, z1⟩] at hst
      refine xr_stp rfl rfl rfl rfl ?_
      refine xr_stp rfl rfl rfl rfl ?_
      refine xs_iln hR rfl ?_
      refine xr_j2 rfl rfl rfl rfl rfl (fun h1368 => ?_) (fun h1368 => ?_)
      · have z1368 := nt_ge (by omega) (by omega) h1368
        exact (by omega)
      · refine xr_stp rfl rfl rfl rfl ?_
        refine xr_j1 rfl rfl rfl rfl rfl (fun h1373 => ?_) (fun h1373 => ?_)
        · have z1373 := nt1_eq (by omega) h1373
          exact (by omega)
        · refine xr_stp (st' := .int (Int32.ofNat 10) :: _) rfl rfl rfl rfl ?_
          refine xr_stp (st' := .int (Int32.ofNat 5) :: _) rfl rfl rfl rfl ?_
          refine xr_stp rfl rfl rfl rfl ?_
          refine xr_stp rfl rfl rfl rfl ?_
          refine xs_ild hR (by omega) (by omega) rfl ?_
          refine xs_mul rfl ?_
          refine xs_add rfl ?_
          refine xr_stp rfl rfl rfl rfl ?_
          refine xr_stp rfl rfl rfl rfl ?_
          refine xs_i2l (by omega) rfl ?_
          refine xr_stp rfl rfl rfl rfl ?_
          refine xr_stp rfl rfl rfl rfl ?_
          refine xs_ald hA gA7 (by omega) (by omega) rfl ?_
          refine xs_lc (by omega) (by omega) rfl ?_
          refine xr_j1 rfl rfl rfl rfl rfl (fun h1396 => ?_) (fun h1396 => ?_)
          · have z1396 := lt_ne h1396
            exact (by omega)
          · refine xr_stp rfl rfl rfl rfl ?_
            refine xr_stp rfl rfl rfl rfl ?_
            refine xr_stp rfl rfl rfl rfl ?_
            refine xr_loc [(0, .ref 17), (1, .ref 16), (2, .int (Int32.ofNat q)), (3, .ref A), (4, .int (Int32.ofNat tm)), (5, .ref B), (9, .long (Int64.ofNat (aH G 4))), (11, .long (Int64.ofNat (aK G 4))), (17, .int (Int32.ofNat a)), (18, .long (Int64.ofNat (G (330 + 2 * a)))), (20, .long (Int64.ofNat (G (331 + 2 * a)))), (23, .int (Int32.ofNat b)), (35, .int (Int32.ofNat 1)), (37, .ref R), (38, .int (Int32.ofNat (cQ G (lw_gr G (fun _ => 0) a b 1) j))), (39, .int (Int32.ofNat (G (10 + 5 * lw_row G (lw_gr G (fun _ => 0) a b 1) (j - 1))))), (40, .long (Int64.ofNat (min (cT G (lw_gr G (fun _ => 0) a b 1) (lw_row G (lw_gr G (fun _ => 0) a b 1) j)) (G (11 + 5 * lw_row G (lw_gr G (fun _ => 0) a b 1) j) - 1)))), (42, .int (Int32.ofNat j)), (43, .int (Int32.ofNat (10 + 5 * lw_row G (lw_gr G (fun _ => 0) a b 1) j)))] ⟨rfl, rfl, rfl, rfl, rfl, rfl, rfl, rfl, rfl, rfl, rfl, rfl, rfl, rfl, rfl, rfl, (by rw [← hst]; rfl), rfl, rfl, trivial⟩ rfl ?_
            exact key
    · rw [if_neg (fun z => z1 z.2)] at hst
      refine xr_stp rfl rfl rfl rfl ?_
      refine xr_stp rfl rfl rfl rfl ?_
      refine xs_iln hR rfl ?_
      refine xr_j2 rfl rfl rfl rfl rfl (fun h1368 => ?_) (fun h1368 => ?_)
      · have z1368 := nt_ge (by omega) (by omega) h1368
        exact (by omega)
      · refine xr_stp rfl rfl rfl rfl ?_
        refine xr_j1 rfl rfl rfl rfl rfl (fun h1373 => ?_) (fun h1373 => ?_)
        · have z1373 := nt1_eq (by omega) h1373
          exact (by omega)
        · refine xr_stp (st' := .int (Int32.ofNat 10) :: _) rfl rfl rfl rfl ?_
          refine xr_stp (st' := .int (Int32.ofNat 5) :: _) rfl rfl rfl rfl ?_
          refine xr_stp rfl rfl rfl rfl ?_
          refine xr_stp rfl rfl rfl rfl ?_
          refine xs_ild hR (by omega) (by omega) rfl ?_
          refine xs_mul rfl ?_
          refine xs_add rfl ?_
          refine xr_stp rfl rfl rfl rfl ?_
          refine xr_stp rfl rfl rfl rfl ?_
          refine xs_i2l (by omega) rfl ?_
          refine xr_stp rfl rfl rfl rfl ?_
          refine xr_stp rfl rfl rfl rfl ?_
          refine xs_ald hA gA7 (by omega) (by omega) rfl ?_
          refine xs_lc (by omega) (by omega) rfl ?_
          refine xr_j1 rfl rfl rfl rfl rfl (fun h1396 => ?_) (fun h1396 => ?_)
          · refine xr_stp (st' := .long (Int64.ofNat 0) :: _) rfl rfl rfl rfl ?_
            refine xr_stp rfl rfl rfl rfl ?_
            refine xr_loc [(0, .ref 17), (1, .ref 16), (2, .int (Int32.ofNat q)), (3, .ref A), (4, .int (Int32.ofNat tm)), (5, .ref B), (9, .long (Int64.ofNat (aH G 4))), (11, .long (Int64.ofNat (aK G 4))), (17, .int (Int32.ofNat a)), (18, .long (Int64.ofNat (G (330 + 2 * a)))), (20, .long (Int64.ofNat (G (331 + 2 * a)))), (23, .int (Int32.ofNat b)), (35, .int (Int32.ofNat 1)), (37, .ref R), (38, .int (Int32.ofNat (cQ G (lw_gr G (fun _ => 0) a b 1) j))), (39, .int (Int32.ofNat (G (10 + 5 * lw_row G (lw_gr G (fun _ => 0) a b 1) (j - 1))))), (40, .long (Int64.ofNat (min (cT G (lw_gr G (fun _ => 0) a b 1) (lw_row G (lw_gr G (fun _ => 0) a b 1) j)) (G (11 + 5 * lw_row G (lw_gr G (fun _ => 0) a b 1) j) - 1)))), (42, .int (Int32.ofNat j)), (43, .int (Int32.ofNat (10 + 5 * lw_row G (lw_gr G (fun _ => 0) a b 1) j)))] ⟨rfl, rfl, rfl, rfl, rfl, rfl, rfl, rfl, rfl, rfl, rfl, rfl, rfl, rfl, rfl, rfl, (by rw [← hst]; rfl), rfl, rfl, trivial⟩ rfl ?_
            exact key
          · have z1396 := lf_ne h1396
            exact (by omega)
theorem acl_0 (d c s : Nat) (tm B : Nat) (nn q dl tx sy T N fi m mm A : Nat) (f : Nat → Int32) (G : Nat → Nat) (GS : Nat → Nat → Nat) (r : xi_R → Prop) (a b : Nat) (ha : a < 4) (hb : b < 4) (hne : a ≠ b) (h0 : lw_be G a b ≠ 0) (R : Nat) (gR : 696 ≤ R) (W0 : xi_W) (hs : scn nn f q dl tx sy T N fi m mm G GS A W0) (hR : W0[R]? = some (lw_i (bc 63 (lw_gr G (fun _ => 0) a b 1)) (lw_row G (lw_gr G (fun _ => 0) a b 1)))) (K : ∀ W', scn nn f q dl tx sy T N fi m mm G GS A W' → fr pq W0 W' → xr (d + 9) 204 1490 [(0, .ref 17), (1, .ref 16), (2, .int (Int32.ofNat q)), (3, .ref A), (4, .int (Int32.ofNat tm)), (5, .ref B), (9, .long (Int64.ofNat (aH G 4))), (11, .long (Int64.ofNat (aK G 4))), (17, .int (Int32.ofNat a)), (18, .long (Int64.ofNat (G (330 + 2 * a)))), (20, .long (Int64.ofNat (G (331 + 2 * a)))), (23, .int (Int32.ofNat b)), (35, .int (Int32.ofNat 1)), (38, .int (Int32.ofNat (cQ G (lw_gr G (fun _ => 0) a b 1) (bc 63 (lw_gr G (fun _ => 0) a b 1)))))] [] W' c s r) : xr (d + 9) 204 1363 [(0, .ref 17), (1, .ref 16), (2, .int (Int32.ofNat q)), (3, .ref A), (4, .int (Int32.ofNat tm)), (5, .ref B), (9, .long (Int64.ofNat (aH G 4))), (11, .long (Int64.ofNat (aK G 4))), (17, .int (Int32.ofNat a)), (18, .long (Int64.ofNat (G (330 + 2 * a)))), (20, .long (Int64.ofNat (G (331 + 2 * a)))), (23, .int (Int32.ofNat b)), (35, .int (Int32.ofNat 1)), (37, .ref R), (38, .int (Int32.ofNat 0)), (39, .int (Int32.ofNat 4294967295)), (40, .long (Int64.ofNat 0)), (42, .int (Int32.ofNat 0))] [] W0 c s r := by
  by_cases hn0 : bc 63 (lw_gr G (fun _ => 0) a b 1) = 0
  · rw [hn0] at hR K
    refine xr_stp rfl rfl rfl rfl ?_
    refine xr_stp rfl rfl rfl rfl ?_
    refine xs_iln hR rfl ?_
    refine xr_j2 rfl rfl rfl rfl rfl (fun h1368 => ?_) (fun h1368 => ?_)
    · refine xr_loc [(0, .ref 17), (1, .ref 16), (2, .int (Int32.ofNat q)), (3, .ref A), (4, .int (Int32.ofNat tm)), (5, .ref B), (9, .long (Int64.ofNat (aH G 4))), (11, .long (Int64.ofNat (aK G 4))), (17, .int (Int32.ofNat a)), (18, .long (Int64.ofNat (G (330 + 2 * a)))), (20, .long (Int64.ofNat (G (331 + 2 * a)))), (23, .int (Int32.ofNat b)), (35, .int (Int32.ofNat 1)), (38, .int (Int32.ofNat (cQ G (lw_gr G (fun _ => 0) a b 1) 0)))] ⟨rfl, rfl, rfl, rfl, rfl, rfl, rfl, rfl, rfl, rfl, rfl, rfl, rfl, rfl, trivial⟩ rfl ?_
      exact K W0 hs fr.rf
    · have z1368 := nf_ge (by omega) (by omega) h1368
      exact (by omega)
  · obtain ⟨j, hj00⟩ : ∃ j, j = 0 := ⟨0, rfl⟩
    have hj : j < bc 63 (lw_gr G (fun _ => 0) a b 1) := by omega
    obtain ⟨hc, hA, hS, gA, hz, hN, hnn⟩ := id hs
    obtain ⟨F, hw, hr⟩ := hc.w
    have J := hr.j
    have he := hr.e
    have J4 := J.e
    have b63 := J.b63
    have gA7 : 17 ≤ A := by omega
    obtain ⟨lf, lp, hO⟩ := hc.o
    have hcp := (hr.compose ha hb).2.2
    have hkk : (lw_gr G (fun _ => 0) a b 1) < 2 ^ G 4 := hcp.1.2
    have hkl := lt62 J4 hkk
    have hn63 := bcle 63 (lw_gr G (fun _ => 0) a b 1)
    have hdg := en.dgE he J4 hkk j hj
    have d0 : G (10 + 5 * lw_row G (lw_gr G (fun _ => 0) a b 1) j) < 1000 := hdg 0 (by omega)
    have e1 : 10 + 5 * lw_row G (lw_gr G (fun _ => 0) a b 1) j + 1 = 11 + 5 * lw_row G (lw_gr G (fun _ => 0) a b 1) j := by omega
    have d1 := hdg 1 (by omega)
    rw [e1] at d1
    have hrg := ((lw_rowE he J4 hkk).1 j hj).1
    have hst := cl_st he J4 hkk hj
    have hcs := cP_st he J4 hkk hj
    have hqs := cQ_s G (lw_gr G (fun _ => 0) a b 1) j
    have hq9 : cQ G (lw_gr G (fun _ => 0) a b 1) j ≤ j := cN_le (cP G (lw_gr G (fun _ => 0) a b 1)) (lw_row G (lw_gr G (fun _ => 0) a b 1)) j 0
    have hct : cT G (lw_gr G (fun _ => 0) a b 1) (lw_row G (lw_gr G (fun _ => 0) a b 1) j) ≤ 62 := tr_le 62 _
    rw [if_neg (by omega)] at hst
    have key : xr (d + 9) 204 1407 [(0, .ref 17), (1, .ref 16), (2, .int (Int32.ofNat q)), (3, .ref A), (4, .int (Int32.ofNat tm)), (5, .ref B), (9, .long (Int64.ofNat (aH G 4))), (11, .long (Int64.ofNat (aK G 4))), (17, .int (Int32.ofNat a)), (18, .long (Int64.ofNat (G (330 + 2 * a)))), (20, .long (Int64.ofNat (G (331 + 2 * a)))), (23, .int (Int32.ofNat b)), (35, .int (Int32.ofNat 1)), (37, .ref R), (38, .int (Int32.ofNat (cQ G (lw_gr G (fun _ => 0) a b 1) j))), (39, .int (Int32.ofNat 4294967295)), (40, .long (Int64.ofNat (min (cT G (lw_gr G (fun _ => 0) a b 1) (lw_row G (lw_gr G (fun _ => 0) a b 1) j)) (G (11 + 5 * lw_row G (lw_gr G (fun _ => 0) a b 1) j) - 1)))), (42, .int (Int32.ofNat j)), (43, .int (Int32.ofNat (10 + 5 * lw_row G (lw_gr G (fun _ => 0) a b 1) j)))] [] W0 c s r := by
      by_cases hcp0 : cP G (lw_gr G (fun _ => 0) a b 1) (lw_row G (lw_gr G (fun _ => 0) a b 1) j) = 0
      · have hg1 := hcs.mp hcp0
        rw [if_pos hcp0] at hqs
        have hge : G (11 + 5 * lw_row G (lw_gr G (fun _ => 0) a b 1) j) ≤ cT G (lw_gr G (fun _ => 0) a b 1) (lw_row G (lw_gr G (fun _ => 0) a b 1) j) := by unfold cP at hcp0; split at hcp0 <;> omega
        refine xr_stp rfl rfl rfl rfl ?_
        refine xr_stp rfl rfl rfl rfl ?_
        refine xs_ald hA gA7 (by omega) (by omega) rfl ?_
        refine xs_l2i rfl ?_
        refine xr_stp rfl rfl rfl rfl ?_
        refine xr_stp rfl rfl rfl rfl ?_
        refine xr_stp rfl rfl rfl rfl ?_
        refine xr_stp (st' := .int (Int32.ofNat 1) :: _) rfl rfl rfl rfl ?_
        refine xs_add rfl ?_
        refine xs_ald hA gA7 (by omega) (by omega) rfl ?_
        rw [e1]
        refine xr_stp rfl rfl rfl rfl ?_
        refine xr_stp (st' := .long (Int64.ofNat 1) :: _) rfl rfl rfl rfl ?_
        refine xs_ladd rfl ?_
        refine xs_lc (by omega) (by omega) rfl ?_
        refine xr_j1 rfl rfl rfl rfl rfl (fun h1425 => ?_) (fun h1425 => ?_)
        · have z1425 := lt_ne h1425
          exact (by omega)
        · refine xr_stp rfl rfl rfl rfl ?_
          refine xr_stp (st' := .long (Int64.ofNat 1) :: _) rfl rfl rfl rfl ?_
          refine xs_ladd rfl ?_
          refine xr_stp rfl rfl rfl rfl ?_
          refine xr_stp rfl rfl rfl rfl ?_
          refine xs_inc (e := 1) rfl rfl rfl rfl ?_
          refine xr_stp rfl rfl rfl rfl ?_
          refine xr_loc [(0, .ref 17), (1, .ref 16), (2, .int (Int32.ofNat q)), (3, .ref A), (4, .int (Int32.ofNat tm)), (5, .ref B), (9, .long (Int64.ofNat (aH G 4))), (11, .long (Int64.ofNat (aK G 4))), (17, .int (Int32.ofNat a)), (18, .long (Int64.ofNat (G (330 + 2 * a)))), (20, .long (Int64.ofNat (G (331 + 2 * a)))), (23, .int (Int32.ofNat b)), (35, .int (Int32.ofNat 1)), (37, .ref R), (38, .int (Int32.ofNat (cQ G (lw_gr G (fun _ => 0) a b 1) (j + 1)))), (39, .int (Int32.ofNat (G (10 + 5 * lw_row G (lw_gr G (fun _ => 0) a b 1) j)))), (40, .long (Int64.ofNat (min (cT G (lw_gr G (fun _ => 0) a b 1) (lw_row G (lw_gr G (fun _ => 0) a b 1) j)) (G (11 + 5 * lw_row G (lw_gr G (fun _ => 0) a b 1) j))))), (42, .int (Int32.ofNat ((j + 1))))] ⟨rfl, rfl, rfl, rfl, rfl, rfl, rfl, rfl, rfl, rfl, rfl, rfl, rfl, rfl, (by rw [hqs, Nat.add_zero]; rfl), rfl, (by rw [show min (cT G (lw_gr G (fun _ => 0) a b 1) (lw_row G (lw_gr G (fun _ => 0) a b 1) j)) (G (11 + 5 * lw_row G (lw_gr G (fun _ => 0) a b 1) j)) = (min (cT G (lw_gr G (fun _ => 0) a b 1) (lw_row G (lw_gr G (fun _ => 0) a b 1) j)) (G (11 + 5 * lw_row G (lw_gr G (fun _ => 0) a b 1) j) - 1)) + 1 by omega]; rfl), rfl, trivial⟩ rfl ?_
          exact acl_L d c s tm B nn q dl tx sy T N fi m mm A f G GS r a b ha hb hne h0 R gR (bc 63 (lw_gr G (fun _ => 0) a b 1) - 1) (j + 1) W0 (by omega) (by omega) hs hR (fun W5 k1 k2 => K W5 k1 (fr.rf.tr k2))
      · have hg1 : ¬ G (11 + 5 * lw_row G (lw_gr G (fun _ => 0) a b 1) j) = min (cT G (lw_gr G (fun _ => 0) a b 1) (lw_row G (lw_gr G (fun _ => 0) a b 1) j)) (G (11 + 5 * lw_row G (lw_gr G (fun _ => 0) a b 1) j) - 1) + 1 := fun z => hcp0 (hcs.mpr z)
        rw [if_neg hcp0] at hqs
        have hlt : cT G (lw_gr G (fun _ => 0) a b 1) (lw_row G (lw_gr G (fun _ => 0) a b 1) j) < G (11 + 5 * lw_row G (lw_gr G (fun _ => 0) a b 1) j) := by unfold cP at hcp0; split at hcp0 <;> omega
        refine xr_stp rfl rfl rfl rfl ?_
        refine xr_stp rfl rfl rfl rfl ?_
        refine xs_ald hA gA7 (by omega) (by omega) rfl ?_
        refine xs_l2i rfl ?_
        refine xr_stp rfl rfl rfl rfl ?_
        refine xr_stp rfl rfl rfl rfl ?_
        refine xr_stp rfl rfl rfl rfl ?_
        refine xr_stp (st' := .int (Int32.ofNat 1) :: _) rfl rfl rfl rfl ?_
        refine xs_add rfl ?_
        refine xs_ald hA gA7 (by omega) (by omega) rfl ?_
        rw [e1]
        refine xr_stp rfl rfl rfl rfl ?_
        refine xr_stp (st' := .long (Int64.ofNat 1) :: _) rfl rfl rfl rfl ?_
        refine xs_ladd rfl ?_
        refine xs_lc (by omega) (by omega) rfl ?_
        refine xr_j1 rfl rfl rfl rfl rfl (fun h1425 => ?_) (fun h1425 => ?_)
        · refine xr_stp rfl rfl rfl rfl ?_
          refine xr_stp rfl rfl rfl rfl ?_
          refine xr_stp rfl rfl rfl rfl ?_
          refine xr_stp rfl rfl rfl rfl ?_
          refine xr_stp (st' := .int (Int32.ofNat 0) :: _) rfl rfl rfl rfl ?_
          refine xr_vcps hO rfl rfl rfl rfl rfl rfl (fun r1 K2 => cq_clo0 _ _ _ nn q dl tx sy T N fi m mm f W0 G GS hc a b ha hb hne (by omega) h0 j hj hcp0 r1 (fun W1 hc1 hf1 => K2 _ _ _ _ ?_))
          have hs1 := hs.cls hc1 hf1
          have hR := hf1.at hR (by unfold pq; omega)
          clear hA hS hO
          obtain ⟨-, hA, hS, -⟩ := id hs1
          obtain ⟨lf, lp, hO⟩ := hc1.o
          refine xs_i2l (by omega) rfl ?_
          refine xr_stp rfl rfl rfl rfl ?_
          refine xr_stp rfl rfl rfl rfl ?_
          refine xs_ald hA gA7 (by omega) (by omega) rfl ?_
          refine xs_lc (by omega) (by omega) rfl ?_
          refine xr_j1 rfl rfl rfl rfl rfl (fun h1454 => ?_) (fun h1454 => ?_)
          · have z1454 := lt_ne h1454
            exact (by omega)
          · refine xr_stp rfl rfl rfl rfl ?_
            refine xr_stp rfl rfl rfl rfl ?_
            refine xr_stp rfl rfl rfl rfl ?_
            refine xr_stp rfl rfl rfl rfl ?_
            refine xr_stp (st' := .int (Int32.ofNat 1) :: _) rfl rfl rfl rfl ?_
            refine xr_vcps hO rfl rfl rfl rfl rfl rfl (fun r1 K2 => cq_clo1 _ _ _ nn q dl tx sy T N fi m mm f W1 G GS hc1 a b ha hb hne (by omega) h0 j hj hcp0 r1 (fun W2 hc2 hf2 => K2 _ _ _ _ ?_))
            have hs2 := hs1.cls hc2 hf2
            have hR := hf2.at hR (by unfold pq; omega)
            clear hA hS hO
            obtain ⟨-, hA, hS, -⟩ := id hs2
            obtain ⟨lf, lp, hO⟩ := hc2.o
            refine xs_i2l (by omega) rfl ?_
            refine xr_stp rfl rfl rfl rfl ?_
            refine xr_stp rfl rfl rfl rfl ?_
            refine xr_stp (st' := .int (Int32.ofNat 1) :: _) rfl rfl rfl rfl ?_
            refine xs_add rfl ?_
            refine xs_ald hA gA7 (by omega) (by omega) rfl ?_
            rw [e1]
            refine xs_lc (by omega) (by omega) rfl ?_
            refine xr_j1 rfl rfl rfl rfl rfl (fun h1476 => ?_) (fun h1476 => ?_)
            · refine xs_inc (e := 1) rfl rfl rfl rfl ?_
              refine xs_inc (e := 1) rfl rfl rfl rfl ?_
              refine xr_stp rfl rfl rfl rfl ?_
              refine xr_loc [(0, .ref 17), (1, .ref 16), (2, .int (Int32.ofNat q)), (3, .ref A), (4, .int (Int32.ofNat tm)), (5, .ref B), (9, .long (Int64.ofNat (aH G 4))), (11, .long (Int64.ofNat (aK G 4))), (17, .int (Int32.ofNat a)), (18, .long (Int64.ofNat (G (330 + 2 * a)))), (20, .long (Int64.ofNat (G (331 + 2 * a)))), (23, .int (Int32.ofNat b)), (35, .int (Int32.ofNat 1)), (37, .ref R), (38, .int (Int32.ofNat (cQ G (lw_gr G (fun _ => 0) a b 1) (j + 1)))), (39, .int (Int32.ofNat (G (10 + 5 * lw_row G (lw_gr G (fun _ => 0) a b 1) j)))), (40, .long (Int64.ofNat (min (cT G (lw_gr G (fun _ => 0) a b 1) (lw_row G (lw_gr G (fun _ => 0) a b 1) j)) (G (11 + 5 * lw_row G (lw_gr G (fun _ => 0) a b 1) j))))), (42, .int (Int32.ofNat ((j + 1))))] ⟨rfl, rfl, rfl, rfl, rfl, rfl, rfl, rfl, rfl, rfl, rfl, rfl, rfl, rfl, (by rw [hqs]; rfl), rfl, (by rw [show min (cT G (lw_gr G (fun _ => 0) a b 1) (lw_row G (lw_gr G (fun _ => 0) a b 1) j)) (G (11 + 5 * lw_row G (lw_gr G (fun _ => 0) a b 1) j)) = min (cT G (lw_gr G (fun _ => 0) a b 1) (lw_row G (lw_gr G (fun _ => 0) a b 1) j)) (G (11 + 5 * lw_row G (lw_gr G (fun _ => 0) a b 1) j) - 1) by omega]; rfl), rfl, trivial⟩ rfl ?_
              exact acl_L d c s tm B nn q dl tx sy T N fi m mm A f G GS r a b ha hb hne h0 R gR (bc 63 (lw_gr G (fun _ => 0) a b 1) - 1) (j + 1) W2 (by omega) (by omega) hs2 hR (fun W5 k1 k2 => K W5 k1 ((hf1.tr hf2).tr k2))
            · have z1476 := lf_eq h1476
              exact (by omega)
        · have z1425 := lf_ne h1425
          exact (by omega)
    have hR0 := hR
    subst hj00
    refine xr_stp rfl rfl rfl rfl ?_
    refine xr_stp rfl rfl rfl rfl ?_
    refine xs_iln hR rfl ?_
    refine xr_j2 rfl rfl rfl rfl rfl (fun h1368 => ?_) (fun h1368 => ?_)
    · have z1368 := nt_ge (by omega) (by omega) h1368
      exact (by omega)
    · refine xr_stp rfl rfl rfl rfl ?_
      refine xr_j1 rfl rfl rfl rfl rfl (fun h1373 => ?_) (fun h1373 => ?_)
      · have z1373 := nt1_eq (by omega) h1373
        exact (by omega)
      · refine xr_stp (st' := .int (Int32.ofNat 10) :: _) rfl rfl rfl rfl ?_
        refine xr_stp (st' := .int (Int32.ofNat 5) :: _) rfl rfl rfl rfl ?_
        refine xr_stp rfl rfl rfl rfl ?_
        refine xr_stp rfl rfl rfl rfl ?_
        refine xs_ild hR (by omega) (by omega) rfl ?_
        refine xs_mul rfl ?_
        refine xs_add rfl ?_
        refine xr_stp rfl rfl rfl rfl ?_
        refine xr_stp rfl rfl rfl rfl ?_
        refine xs_i2lm rfl ?_
        refine xr_stp rfl rfl rfl rfl ?_
        refine xr_stp rfl rfl rfl rfl ?_
        refine xs_ald hA gA7 (by omega) (by omega) rfl ?_
        refine xs_lcm0 (by omega) rfl ?_
        refine xr_j1 rfl rfl rfl rfl rfl (fun h1396 => ?_) (fun h1396 => ?_)
        · refine xr_stp (st' := .long (Int64.ofNat 0) :: _) rfl rfl rfl rfl ?_
          refine xr_stp rfl rfl rfl rfl ?_
          refine xr_loc [(0, .ref 17), (1, .ref 16), (2, .int (Int32.ofNat q)), (3, .ref A), (4, .int (Int32.ofNat tm)), (5, .ref B), (9, .long (Int64.ofNat (aH G 4))), (11, .long (Int64.ofNat (aK G 4))), (17, .int (Int32.ofNat a)), (18, .long (Int64.ofNat (G (330 + 2 * a)))), (20, .long (Int64.ofNat (G (331 + 2 * a)))), (23, .int (Int32.ofNat b)), (35, .int (Int32.ofNat 1)), (37, .ref R), (38, .int (Int32.ofNat (cQ G (lw_gr G (fun _ => 0) a b 1) 0))), (39, .int (Int32.ofNat 4294967295)), (40, .long (Int64.ofNat (min (cT G (lw_gr G (fun _ => 0) a b 1) (lw_row G (lw_gr G (fun _ => 0) a b 1) 0)) (G (11 + 5 * lw_row G (lw_gr G (fun _ => 0) a b 1) 0) - 1)))), (42, .int (Int32.ofNat 0)), (43, .int (Int32.ofNat (10 + 5 * lw_row G (lw_gr G (fun _ => 0) a b 1) 0)))] ⟨rfl, rfl, rfl, rfl, rfl, rfl, rfl, rfl, rfl, rfl, rfl, rfl, rfl, rfl, rfl, rfl, (by rw [← hst]; rfl), rfl, rfl, trivial⟩ rfl ?_
          exact key
        · exact absurd h1396 (by decide +kernel)
