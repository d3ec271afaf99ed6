/-! asks: all replicas, all pairs; joins of all -/
theorem abL (d : Nat) (tm B : Nat) (nn q dl tx sy T N fi m mm A : Nat) (f : Nat → Int32) (G : Nat → Nat) (GS : Nat → Nat → Nat) (r : xi_R → Prop) (a : Nat) (ha : a < 4) : ∀ (m1 b : Nat) (W0 : xi_W) (c s : Nat), b + m1 = 4 → scn nn f q dl tx sy T N fi m mm G GS A W0 → (∀ W' c' s', c' ≤ c + 3 * m1 → s' ≤ s + 128 * m1 → scn nn f q dl tx sy T N fi m mm G GS A W' → fr pq W0 W' → xr (d + 9) 204 1539 [(0, .ref 17), (1, .ref 16), (2, .int (Int32.ofNat q)), (3, .ref A), (4, .int (Int32.ofNat tm)), (5, .ref B), (9, .long (Int64.ofNat (aH G 4))), (11, .long (Int64.ofNat (aK G 4))), (17, .int (Int32.ofNat a)), (18, .long (Int64.ofNat (G (330 + 2 * a)))), (20, .long (Int64.ofNat (G (331 + 2 * a))))] [] W' c' s' r) → xr (d + 9) 204 809 [(0, .ref 17), (1, .ref 16), (2, .int (Int32.ofNat q)), (3, .ref A), (4, .int (Int32.ofNat tm)), (5, .ref B), (9, .long (Int64.ofNat (aH G 4))), (11, .long (Int64.ofNat (aK G 4))), (17, .int (Int32.ofNat a)), (18, .long (Int64.ofNat (G (330 + 2 * a)))), (20, .long (Int64.ofNat (G (331 + 2 * a)))), (23, .int (Int32.ofNat b))] [] W0 c s r
  | 0, b, W0, c, s, hb4, hs, K => by
    obtain rfl : b = 4 := by omega
    refine xr_stp rfl rfl rfl rfl ?_
    refine xr_stp (st' := .int (Int32.ofNat 4) :: _) rfl rfl rfl rfl ?_
    refine xr_j2 rfl rfl rfl rfl rfl (fun h812 => ?_) (fun h812 => ?_)
    · refine xr_loc [(0, .ref 17), (1, .ref 16), (2, .int (Int32.ofNat q)), (3, .ref A), (4, .int (Int32.ofNat tm)), (5, .ref B), (9, .long (Int64.ofNat (aH G 4))), (11, .long (Int64.ofNat (aK G 4))), (17, .int (Int32.ofNat a)), (18, .long (Int64.ofNat (G (330 + 2 * a)))), (20, .long (Int64.ofNat (G (331 + 2 * a))))] ⟨rfl, rfl, rfl, rfl, rfl, rfl, rfl, rfl, rfl, rfl, rfl, trivial⟩ rfl ?_
      exact K W0 c s (by omega) (by omega) hs fr.rf
    · have z812 := nf_ge (by omega) (by omega) h812
      exact (by omega)
  | m1 + 1, b, W0, c, s, hb4, hs, K => by
    have hb : b < 4 := by omega
    obtain ⟨hc, hA, hS, gA, hz, hN, hnn⟩ := id hs
    obtain ⟨F, hw, hr⟩ := hc.w
    have J := hr.j
    have he := hr.e
    have J4 := J.e
    have b63 := J.b63
    have gA7 : 17 ≤ A := by omega
    obtain ⟨lf, lp, hO⟩ := hc.o
    refine xr_stp rfl rfl rfl rfl ?_
    refine xr_stp (st' := .int (Int32.ofNat 4) :: _) rfl rfl rfl rfl ?_
    refine xr_j2 rfl rfl rfl rfl rfl (fun h812 => ?_) (fun h812 => ?_)
    · have z812 := nt_ge (by omega) (by omega) h812
      exact (by omega)
    · refine xr_stp rfl rfl rfl rfl ?_
      refine xr_stp (st' := .int (Int32.ofNat 330) :: _) rfl rfl rfl rfl ?_
      refine xr_stp (st' := .int (Int32.ofNat 2) :: _) rfl rfl rfl rfl ?_
      refine xr_stp rfl rfl rfl rfl ?_
      refine xs_mul rfl ?_
      refine xs_add rfl ?_
      refine xs_ald hA gA7 (by omega) (by omega) rfl ?_
      refine xr_stp rfl rfl rfl rfl ?_
      refine xr_stp rfl rfl rfl rfl ?_
      refine xr_stp (st' := .int (Int32.ofNat 331) :: _) rfl rfl rfl rfl ?_
      refine xr_stp (st' := .int (Int32.ofNat 2) :: _) rfl rfl rfl rfl ?_
      refine xr_stp rfl rfl rfl rfl ?_
      refine xs_mul rfl ?_
      refine xs_add rfl ?_
      refine xs_ald hA gA7 (by omega) (by omega) rfl ?_
      refine xr_stp rfl rfl rfl rfl ?_
      refine xr_stp rfl rfl rfl rfl ?_
      refine xr_stp rfl rfl rfl rfl ?_
      refine xr_stp rfl rfl rfl rfl ?_
      refine xr_stp rfl rfl rfl rfl ?_
      refine xr_cps rfl rfl rfl (fun r1 K2 => lw_joins _ _ _ _ _ _ _ _ r1 (K2 _ _ _ _ ?_))
      refine xr_stp rfl rfl rfl rfl ?_
      refine xr_stp (st' := .int (Int32.ofNat 0) :: _) rfl rfl rfl rfl ?_
      refine xr_stp rfl rfl rfl rfl ?_
      refine xr_stp (st' := .int (Int32.ofNat 0) :: _) rfl rfl rfl rfl ?_
      refine xr_stp rfl rfl rfl rfl ?_
      refine xr_stp (st' := .int (Int32.ofNat 0) :: _) rfl rfl rfl rfl ?_
      refine xr_stp rfl rfl rfl rfl ?_
      refine xr_loc [(0, .ref 17), (1, .ref 16), (2, .int (Int32.ofNat q)), (3, .ref A), (4, .int (Int32.ofNat tm)), (5, .ref B), (9, .long (Int64.ofNat (aH G 4))), (11, .long (Int64.ofNat (aK G 4))), (17, .int (Int32.ofNat a)), (18, .long (Int64.ofNat (G (330 + 2 * a)))), (20, .long (Int64.ofNat (G (331 + 2 * a)))), (23, .int (Int32.ofNat b)), (24, .long (Int64.ofNat (G (330 + 2 * b)))), (26, .long (Int64.ofNat (G (331 + 2 * b)))), (28, .long (Int64.ofNat (lw_j (G (330 + 2 * a)) (G (331 + 2 * a)) (G (330 + 2 * b)) (G (331 + 2 * b))))), (30, .int (Int32.ofNat (ct G b 0 (G (331 + 2 * a))))), (31, .int (Int32.ofNat (ct G b 0 (G (330 + 2 * a))))), (32, .int (Int32.ofNat 0))] ⟨rfl, rfl, rfl, rfl, rfl, rfl, rfl, rfl, rfl, rfl, rfl, rfl, rfl, rfl, rfl, rfl, rfl, rfl, trivial⟩ rfl ?_
      refine acL d _ _ tm B nn q dl tx sy T N fi m mm A f G GS r a b ha hb W0 hs (G 4) 0 (Nat.zero_add _) ?_
      refine abA d _ _ tm B nn q dl tx sy T N fi m mm A f G GS r a b ha hb W0 hs ?_
      refine abB d _ _ tm B nn q dl tx sy T N fi m mm A f G GS r a b ha hb W0 hs ?_
      refine abC d _ _ tm B nn q dl tx sy T N fi m mm A f G GS r a b ha hb W0 hs (fun W1 hs1 hf1 => ?_)
      refine abD d _ _ tm B nn q dl tx sy T N fi m mm A f G GS r a b ha hb W1 hs1 (fun W2 c2 s2 kc2 ks2 hs2 hf2 => ?_)
      by_cases hz0 : a = b ∨ lw_be G a b = 0
      · refine abE0 d _ _ tm B nn q dl tx sy T N fi m mm A f G GS r a b ha hb W2 hs2 hz0 (fun W3 c3 s3 kc3 ks3 hs3 hf3 => ?_)
        refine xs_inc (e := 1) rfl rfl rfl rfl ?_
        refine xr_stp rfl rfl rfl rfl ?_
        refine xr_loc [(0, .ref 17), (1, .ref 16), (2, .int (Int32.ofNat q)), (3, .ref A), (4, .int (Int32.ofNat tm)), (5, .ref B), (9, .long (Int64.ofNat (aH G 4))), (11, .long (Int64.ofNat (aK G 4))), (17, .int (Int32.ofNat a)), (18, .long (Int64.ofNat (G (330 + 2 * a)))), (20, .long (Int64.ofNat (G (331 + 2 * a)))), (23, .int (Int32.ofNat (b + 1)))] ⟨rfl, rfl, rfl, rfl, rfl, rfl, rfl, rfl, rfl, rfl, rfl, rfl, trivial⟩ rfl ?_
        exact abL d tm B nn q dl tx sy T N fi m mm A f G GS r a ha m1 (b + 1) W3 _ _ (by omega) hs3 (fun W9 c9 s9 k1 k2 k3 k4 => K W9 c9 s9 (by omega) (by omega) k3 (((hf1.tr hf2).tr hf3).tr k4))
      · refine abE1 d _ _ tm B nn q dl tx sy T N fi m mm A f G GS r a b ha hb W2 hs2 (fun e => hz0 (Or.inl e)) (fun e => hz0 (Or.inr e)) (fun W3 c3 s3 kc3 ks3 hs3 hf3 => ?_)
        refine xs_inc (e := 1) rfl rfl rfl rfl ?_
        refine xr_stp rfl rfl rfl rfl ?_
        refine xr_loc [(0, .ref 17), (1, .ref 16), (2, .int (Int32.ofNat q)), (3, .ref A), (4, .int (Int32.ofNat tm)), (5, .ref B), (9, .long (Int64.ofNat (aH G 4))), (11, .long (Int64.ofNat (aK G 4))), (17, .int (Int32.ofNat a)), (18, .long (Int64.ofNat (G (330 + 2 * a)))), (20, .long (Int64.ofNat (G (331 + 2 * a)))), (23, .int (Int32.ofNat (b + 1)))] ⟨rfl, rfl, rfl, rfl, rfl, rfl, rfl, rfl, rfl, rfl, rfl, rfl, trivial⟩ rfl ?_
        exact abL d tm B nn q dl tx sy T N fi m mm A f G GS r a ha m1 (b + 1) W3 _ _ (by omega) hs3 (fun W9 c9 s9 k1 k2 k3 k4 => K W9 c9 s9 (by omega) (by omega) k3 (((hf1.tr hf2).tr hf3).tr k4))
theorem aH_lt {lo N : Nat} {G F : Nat → Nat} (h : RL lo N G F) : ∀ n, n ≤ 4 → aH G n < 2 ^ G 4 ∧ aK G n < 2 ^ G 4
  | 0, _ => ⟨Nat.two_pow_pos _, Nat.two_pow_pos _⟩
  | n + 1, hn => by
    obtain ⟨i1, i2⟩ := aH_lt h n (by omega)
    have x := (h.xs (t := n) (by omega)).hk
    exact ⟨lw_j63 i1 x.1, Nat.or_lt_two_pow i2 x.2⟩
theorem aaL (d : Nat) (tm B : Nat) (nn q dl tx sy T N fi m mm A : Nat) (f : Nat → Int32) (G : Nat → Nat) (GS : Nat → Nat → Nat) (r : xi_R → Prop) (nBA : B ≠ A) (gB : 696 ≤ B) (htm : 1 ≤ tm) (htm2 : tm ≤ 12) (hck : G 0 + 12 ≤ 9999) : ∀ (m1 a : Nat) (W0 : xi_W) (c s : Nat), a + m1 = 4 → scn nn f q dl tx sy T N fi m mm G GS A W0 → W0[B]? = some (lw_a 1804 (tk_ nn f q tm G)) → (∀ W' c' s', c' ≤ c + 25 * m1 → s' ≤ s + 1331 * m1 → scn nn f q dl tx sy T N fi m mm G GS A W' → fr pq W0 W' → xr (d + 9) 204 1545 [(0, .ref 17), (1, .ref 16), (2, .int (Int32.ofNat q)), (3, .ref A), (4, .int (Int32.ofNat tm)), (5, .ref B), (9, .long (Int64.ofNat (aH G 4))), (11, .long (Int64.ofNat (aK G 4)))] [] W' c' s' r) → xr (d + 9) 204 380 [(0, .ref 17), (1, .ref 16), (2, .int (Int32.ofNat q)), (3, .ref A), (4, .int (Int32.ofNat tm)), (5, .ref B), (9, .long (Int64.ofNat (aH G 4))), (11, .long (Int64.ofNat (aK G 4))), (17, .int (Int32.ofNat a))] [] W0 c s r
  | 0, a, W0, c, s, ha4, hs, hB, K => by
    obtain rfl : a = 4 := by omega
    refine xr_stp rfl rfl rfl rfl ?_
    refine xr_stp (st' := .int (Int32.ofNat 4) :: _) rfl rfl rfl rfl ?_
    refine xr_j2 rfl rfl rfl rfl rfl (fun h383 => ?_) (fun h383 => ?_)
    · refine xr_loc [(0, .ref 17), (1, .ref 16), (2, .int (Int32.ofNat q)), (3, .ref A), (4, .int (Int32.ofNat tm)), (5, .ref B), (9, .long (Int64.ofNat (aH G 4))), (11, .long (Int64.ofNat (aK G 4)))] ⟨rfl, rfl, rfl, rfl, rfl, rfl, rfl, rfl, trivial⟩ rfl ?_
      exact K W0 c s (by omega) (by omega) hs fr.rf
    · have z383 := nf_ge (by omega) (by omega) h383
      exact (by omega)
  | m1 + 1, a, W0, c, s, ha4, hs, hB, K => by
    have ha : a < 4 := by omega
    obtain ⟨hc, hA, hS, gA, hz, hN, hnn⟩ := id hs
    obtain ⟨F, hw, hr⟩ := hc.w
    have J := hr.j
    have he := hr.e
    have J4 := J.e
    have b63 := J.b63
    have gA7 : 17 ≤ A := by omega
    obtain ⟨lf, lp, hO⟩ := hc.o
    have hal := aH_lt hr 4 (Nat.le_refl _)
    have haH : aH G 4 < 9223372036854775808 := by have := lt62 J4 hal.1; omega
    have haK : aK G 4 < 9223372036854775808 := by have := lt62 J4 hal.2; omega
    refine xr_stp rfl rfl rfl rfl ?_
    refine xr_stp (st' := .int (Int32.ofNat 4) :: _) rfl rfl rfl rfl ?_
    refine xr_j2 rfl rfl rfl rfl rfl (fun h383 => ?_) (fun h383 => ?_)
    · have z383 := nt_ge (by omega) (by omega) h383
      exact (by omega)
    · refine xr_stp rfl rfl rfl rfl ?_
      refine xr_stp (st' := .int (Int32.ofNat 330) :: _) rfl rfl rfl rfl ?_
      refine xr_stp (st' := .int (Int32.ofNat 2) :: _) rfl rfl rfl rfl ?_
      refine xr_stp rfl rfl rfl rfl ?_
      refine xs_mul rfl ?_
      refine xs_add rfl ?_
      refine xs_ald hA gA7 (by omega) (by omega) rfl ?_
      refine xr_stp rfl rfl rfl rfl ?_
      refine xr_stp rfl rfl rfl rfl ?_
      refine xr_stp (st' := .int (Int32.ofNat 331) :: _) rfl rfl rfl rfl ?_
      refine xr_stp (st' := .int (Int32.ofNat 2) :: _) rfl rfl rfl rfl ?_
      refine xr_stp rfl rfl rfl rfl ?_
      refine xs_mul rfl ?_
      refine xs_add rfl ?_
      refine xs_ald hA gA7 (by omega) (by omega) rfl ?_
      refine xr_stp rfl rfl rfl rfl ?_
      refine xr_stp (st' := .int (Int32.ofNat 0) :: _) rfl rfl rfl rfl ?_
      refine xr_stp rfl rfl rfl rfl ?_
      refine xr_stp (st' := .int (Int32.ofNat 0) :: _) rfl rfl rfl rfl ?_
      refine xr_stp rfl rfl rfl rfl ?_
      refine xr_loc [(0, .ref 17), (1, .ref 16), (2, .int (Int32.ofNat q)), (3, .ref A), (4, .int (Int32.ofNat tm)), (5, .ref B), (9, .long (Int64.ofNat (aH G 4))), (11, .long (Int64.ofNat (aK G 4))), (17, .int (Int32.ofNat a)), (18, .long (Int64.ofNat (G (330 + 2 * a)))), (20, .long (Int64.ofNat (G (331 + 2 * a)))), (22, .int (Int32.ofNat 0)), (23, .int (Int32.ofNat 0))] ⟨rfl, rfl, rfl, rfl, rfl, rfl, rfl, rfl, rfl, rfl, rfl, rfl, rfl, trivial⟩ rfl ?_
      refine ak_L d tm B nn q dl tx sy T N fi m mm A f G GS r a ha haH 4 0 0 W0 _ _ rfl hs (fun W1 c1 s1 kc1 ks1 hs1 hf1 => ?_)
      refine xr_loc [(0, .ref 17), (1, .ref 16), (2, .int (Int32.ofNat q)), (3, .ref A), (4, .int (Int32.ofNat tm)), (5, .ref B), (9, .long (Int64.ofNat (aH G 4))), (11, .long (Int64.ofNat (aK G 4))), (17, .int (Int32.ofNat a)), (18, .long (Int64.ofNat (G (330 + 2 * a)))), (20, .long (Int64.ofNat (G (331 + 2 * a)))), (22, .int (Int32.ofNat (tL G (G (330 + 2 * a)) 12 0 0)))] ⟨rfl, rfl, rfl, rfl, rfl, rfl, rfl, rfl, rfl, rfl, rfl, rfl, trivial⟩ rfl ?_
      have hBu := hf1.at hB (by unfold pq; omega)
      clear hA hS hO
      obtain ⟨hc1, hA, hS, -⟩ := id hs1
      obtain ⟨lf, lp, hO⟩ := hc1.o
      refine xr_stp rfl rfl rfl rfl ?_
      refine xr_stp rfl rfl rfl rfl ?_
      refine xr_vcps hO rfl rfl rfl rfl rfl rfl (fun r1 K2 => cq_tor _ _ _ nn q dl tx sy T N fi m mm f W1 G GS hc1 a ha r1 (K2 _ _ _ _ ?_))
      refine xr_stp rfl rfl rfl rfl ?_
      refine xr_j2 rfl rfl rfl rfl rfl (fun h753 => ?_) (fun h753 => ?_)
      · have z753 := nt_ne h753
        exact (by omega)
      · refine xr_stp rfl rfl rfl rfl ?_
        refine xr_stp rfl rfl rfl rfl ?_
        refine xr_vcps hO rfl rfl rfl rfl rfl rfl (fun r1 K2 => cq_beh _ _ _ nn q dl tx sy T N fi m mm f W1 G GS hc1 a ha r1 (fun W2 hc2 hf2 => K2 _ _ _ _ ?_))
        have hs2 := hs1.cls hc2 hf2
        have hBu := hf2.at hBu (by unfold pq; omega)
        clear hA hS hO
        obtain ⟨-, hA, hS, -⟩ := id hs2
        obtain ⟨lf, lp, hO⟩ := hc2.o
        refine xr_stp rfl rfl rfl rfl ?_
        refine xr_stp rfl rfl rfl rfl ?_
        refine xr_stp (st' := .long (Int64.ofNat 18446744073709551615) :: _) rfl rfl rfl rfl ?_
        refine xs_lxor rfl ?_
        refine xs_land rfl ?_
        refine xr_cps rfl rfl rfl (fun r1 K2 => lw_many _ _ _ _ _ (Nat.lt_of_le_of_lt Nat.and_le_left haK) r1 (K2 _ _ _ _ ?_))
        refine xr_j2 rfl rfl rfl rfl rfl (fun h774 => ?_) (fun h774 => ?_)
        · have z774 := nt_ne h774
          exact (by omega)
        · refine xr_stp rfl rfl rfl rfl ?_
          refine xr_stp rfl rfl rfl rfl ?_
          refine xr_stp rfl rfl rfl rfl ?_
          refine xr_vcps hO rfl rfl rfl rfl rfl rfl (fun r1 K2 => cr_for _ _ _ nn q dl tx sy T N fi m mm f W2 G GS hc2 tm a htm htm2 ha (by omega) (by omega) r1 (fun W3 hc3 hf3 hU => K2 _ _ _ _ ?_))
          obtain ⟨N9, F9, hr9⟩ := hU
          have hs3 := hs2.cls hc3 hf3
          have hBu := hf3.at hBu (by unfold pq; omega)
          clear hA hS hO
          obtain ⟨-, hA, hS, -⟩ := id hs3
          obtain ⟨lf, lp, hO⟩ := hc3.o
          refine xr_stp rfl rfl rfl rfl ?_
          refine xr_stp rfl rfl rfl rfl ?_
          refine xr_stp (st' := .int (Int32.ofNat 330) :: _) rfl rfl rfl rfl ?_
          refine xr_stp (st' := .int (Int32.ofNat 2) :: _) rfl rfl rfl rfl ?_
          refine xr_stp rfl rfl rfl rfl ?_
          refine xs_mul rfl ?_
          refine xs_add rfl ?_
          refine xs_ald hBu (by omega) (by omega) (by omega) rfl ?_
          refine xr_cps rfl rfl rfl (fun r1 K2 => lw_digest2 _ _ _ B _ W3 (tk_ nn f q tm G) hBu (by omega) hr9.j.b63 hr9.j.e (en.dgE hr9.e hr9.j.e (hr9.xs ha).hk.1) (hr9.j.b63 _) r1 (fun W4 c4 s4 kc4 ks4 hB4 hf4 => K2 _ _ _ _ ?_))
          have hs4 := hs3.new hf4
          refine xr_j2 rfl rfl rfl rfl rfl (fun h801 => ?_) (fun h801 => ?_)
          · refine xr_stp (st' := .int (Int32.ofNat 0) :: _) rfl rfl rfl rfl ?_
            refine xr_stp rfl rfl rfl rfl ?_
            refine xr_loc [(0, .ref 17), (1, .ref 16), (2, .int (Int32.ofNat q)), (3, .ref A), (4, .int (Int32.ofNat tm)), (5, .ref B), (9, .long (Int64.ofNat (aH G 4))), (11, .long (Int64.ofNat (aK G 4))), (17, .int (Int32.ofNat a)), (18, .long (Int64.ofNat (G (330 + 2 * a)))), (20, .long (Int64.ofNat (G (331 + 2 * a)))), (23, .int (Int32.ofNat 0))] ⟨rfl, rfl, rfl, rfl, rfl, rfl, rfl, rfl, rfl, rfl, rfl, rfl, trivial⟩ rfl ?_
            refine abL d tm B nn q dl tx sy T N fi m mm A f G GS r a ha 4 0 W4 _ _ rfl hs4 (fun W5 c5 s5 kc5 ks5 hs5 hf5 => ?_)
            have hf15 : fr pq W0 W5 := ⟨by have := hf1.1; have := hf2.1; have := hf3.1; have := hf4.1; have := hf5.1; omega, fun i hi hp => by have l1 := hf1.1; have l2 := hf2.1; have l3 := hf3.1; have l4 := hf4.1; exact (hf5.2 i (by omega) hp).trans ((hf4.2 i (by omega) (fun z => z)).trans ((hf3.2 i (by omega) hp).trans ((hf2.2 i (by omega) hp).trans (hf1.2 i hi hp))))⟩
            refine xs_inc (e := 1) rfl rfl rfl rfl ?_
            refine xr_stp rfl rfl rfl rfl ?_
            refine xr_loc [(0, .ref 17), (1, .ref 16), (2, .int (Int32.ofNat q)), (3, .ref A), (4, .int (Int32.ofNat tm)), (5, .ref B), (9, .long (Int64.ofNat (aH G 4))), (11, .long (Int64.ofNat (aK G 4))), (17, .int (Int32.ofNat (a + 1)))] ⟨rfl, rfl, rfl, rfl, rfl, rfl, rfl, rfl, rfl, trivial⟩ rfl ?_
            exact aaL d tm B nn q dl tx sy T N fi m mm A f G GS r nBA gB htm htm2 hck m1 (a + 1) W5 _ _ (by omega) hs5 (hf15.at hB (by unfold pq; omega)) (fun W9 c9 s9 k1 k2 k3 k4 => K W9 c9 s9 (by omega) (by omega) k3 (hf15.tr k4))
          · have z801 := nf_eq h801
            exact (by omega)
def oK (G : Nat → Nat) : Nat → Nat
  | 0 => 0
  | n + 1 => oK G n ||| G (337 - 2 * n)
def oH (G : Nat → Nat) : Nat → Nat
  | 0 => 0
  | n + 1 => lw_j (G (336 - 2 * n)) (G (337 - 2 * n)) (oH G n) (oK G n)
theorem lw_j_tb {a ka b kb i : Nat} (ha : a < 4611686018427387904) (hb : b < 4611686018427387904) : (lw_j a ka b kb).testBit i = ((a.testBit i && b.testBit i) || (a.testBit i && !kb.testBit i) || (b.testBit i && !ka.testBit i)) := by
  unfold lw_j
  rw [Nat.testBit_or, Nat.testBit_or, Nat.testBit_and, an_tb ha, an_tb hb]
theorem aH_oH {lo N : Nat} {G F : Nat → Nat} (h : RL lo N G F) : aH G 4 = oH G 4 := by
  have J4 := h.j.e
  have x0 := h.xs (t := 0) (by omega)
  have x1 := h.xs (t := 1) (by omega)
  have x2 := h.xs (t := 2) (by omega)
  have x3 := h.xs (t := 3) (by omega)
  have s0 := x0.2.2.2.2.2.1
  have s1 := x1.2.2.2.2.2.1
  have s2 := x2.2.2.2.2.2.1
  have s3 := x3.2.2.2.2.2.1
  have l0 := lt62 J4 x0.hk.1
  have l1 := lt62 J4 x1.hk.1
  have l2 := lt62 J4 x2.hk.1
  have l3 := lt62 J4 x3.hk.1
  have z : (0 : Nat) < 4611686018427387904 := by omega
  have p : (4611686018427387904 : Nat) = 2 ^ 62 := rfl
  apply Nat.eq_of_testBit_eq
  intro i
  have t0 := s0 i
  have t1 := s1 i
  have t2 := s2 i
  have t3 := s3 i
  show (lw_j (lw_j (lw_j (lw_j 0 0 (G (330 + 2 * 0)) (G (331 + 2 * 0))) (0 ||| G (331 + 2 * 0)) (G (330 + 2 * 1)) (G (331 + 2 * 1))) (0 ||| G (331 + 2 * 0) ||| G (331 + 2 * 1)) (G (330 + 2 * 2)) (G (331 + 2 * 2))) (0 ||| G (331 + 2 * 0) ||| G (331 + 2 * 1) ||| G (331 + 2 * 2)) (G (330 + 2 * 3)) (G (331 + 2 * 3))).testBit i = (lw_j (G (330 + 2 * 0)) (G (331 + 2 * 0)) (lw_j (G (330 + 2 * 1)) (G (331 + 2 * 1)) (lw_j (G (330 + 2 * 2)) (G (331 + 2 * 2)) (lw_j (G (330 + 2 * 3)) (G (331 + 2 * 3)) 0 0) (0 ||| G (331 + 2 * 3))) (0 ||| G (331 + 2 * 3) ||| G (331 + 2 * 2))) (0 ||| G (331 + 2 * 3) ||| G (331 + 2 * 2) ||| G (331 + 2 * 1))).testBit i
  have jl : ∀ {a ka b kb : Nat}, a < 4611686018427387904 → b < 4611686018427387904 → lw_j a ka b kb < 4611686018427387904 := fun h1 h2 => by
    rw [p] at h1 h2 ⊢
    exact lw_j63 h1 h2
  rw [lw_j_tb (jl (jl (jl z l0) l1) l2) l3, lw_j_tb (jl (jl z l0) l1) l2, lw_j_tb (jl z l0) l1, lw_j_tb z l0, lw_j_tb l0 (jl l1 (jl l2 (jl l3 z))), lw_j_tb l1 (jl l2 (jl l3 z)), lw_j_tb l2 (jl l3 z), lw_j_tb l3 z]
  simp only [Nat.testBit_or, Nat.zero_testBit]
  revert t0 t1 t2 t3
  cases (G (330 + 2 * 0)).testBit i <;> cases (G (331 + 2 * 0)).testBit i <;> cases (G (330 + 2 * 1)).testBit i <;> cases (G (331 + 2 * 1)).testBit i <;> cases (G (330 + 2 * 2)).testBit i <;> cases (G (331 + 2 * 2)).testBit i <;> cases (G (330 + 2 * 3)).testBit i <;> cases (G (331 + 2 * 3)).testBit i <;> simp
theorem agL (d c s : Nat) (tm B : Nat) (nn q dl tx sy T N fi m mm A : Nat) (f : Nat → Int32) (G : Nat → Nat) (GS : Nat → Nat → Nat) (r : xi_R → Prop) (W0 : xi_W) (hs : scn nn f q dl tx sy T N fi m mm G GS A W0) : ∀ (m1 i : Nat), i + m1 = 4 → xr (d + 9) 204 318 [(0, .ref 17), (1, .ref 16), (2, .int (Int32.ofNat q)), (3, .ref A), (4, .int (Int32.ofNat tm)), (5, .ref B), (9, .long (Int64.ofNat (aH G 4))), (11, .long (Int64.ofNat (aK G 4))), (13, .long (Int64.ofNat (oH G 4))), (15, .long (Int64.ofNat (oK G 4)))] [] W0 c s r → xr (d + 9) 204 218 [(0, .ref 17), (1, .ref 16), (2, .int (Int32.ofNat q)), (3, .ref A), (4, .int (Int32.ofNat tm)), (5, .ref B), (9, .long (Int64.ofNat (aH G i))), (11, .long (Int64.ofNat (aK G i))), (13, .long (Int64.ofNat (oH G i))), (15, .long (Int64.ofNat (oK G i))), (17, .int (Int32.ofNat i))] [] W0 c s r
  | 0, i, hi, K => by
    obtain rfl : i = 4 := by omega
    refine xr_stp rfl rfl rfl rfl ?_
    refine xr_stp (st' := .int (Int32.ofNat 4) :: _) rfl rfl rfl rfl ?_
    refine xr_j2 rfl rfl rfl rfl rfl (fun h221 => ?_) (fun h221 => ?_)
    · refine xr_loc [(0, .ref 17), (1, .ref 16), (2, .int (Int32.ofNat q)), (3, .ref A), (4, .int (Int32.ofNat tm)), (5, .ref B), (9, .long (Int64.ofNat (aH G 4))), (11, .long (Int64.ofNat (aK G 4))), (13, .long (Int64.ofNat (oH G 4))), (15, .long (Int64.ofNat (oK G 4)))] ⟨rfl, rfl, rfl, rfl, rfl, rfl, rfl, rfl, rfl, rfl, trivial⟩ rfl ?_
      exact K
    · have z221 := nf_ge (by omega) (by omega) h221
      exact (by omega)
  | m1 + 1, i, hi, K => by
    obtain ⟨hc, hA, hS, gA, hz, hN, hnn⟩ := id hs
    obtain ⟨F, hw, hr⟩ := hc.w
    have J := hr.j
    have he := hr.e
    have J4 := J.e
    have b63 := J.b63
    have gA7 : 17 ≤ A := by omega
    obtain ⟨lf, lp, hO⟩ := hc.o
    have hi4 : i < 4 := by omega
    refine xr_stp rfl rfl rfl rfl ?_
    refine xr_stp (st' := .int (Int32.ofNat 4) :: _) rfl rfl rfl rfl ?_
    refine xr_j2 rfl rfl rfl rfl rfl (fun h221 => ?_) (fun h221 => ?_)
    · have z221 := nt_ge (by omega) (by omega) h221
      exact (by omega)
    · refine xr_stp rfl rfl rfl rfl ?_
      refine xr_stp rfl rfl rfl rfl ?_
      refine xr_stp rfl rfl rfl rfl ?_
      refine xr_stp (st' := .int (Int32.ofNat 330) :: _) rfl rfl rfl rfl ?_
      refine xr_stp (st' := .int (Int32.ofNat 2) :: _) rfl rfl rfl rfl ?_
      refine xr_stp rfl rfl rfl rfl ?_
      refine xs_mul rfl ?_
      refine xs_add rfl ?_
      refine xs_ald hA gA7 (by omega) (by omega) rfl ?_
      refine xr_stp rfl rfl rfl rfl ?_
      refine xr_stp (st' := .int (Int32.ofNat 331) :: _) rfl rfl rfl rfl ?_
      refine xr_stp (st' := .int (Int32.ofNat 2) :: _) rfl rfl rfl rfl ?_
      refine xr_stp rfl rfl rfl rfl ?_
      refine xs_mul rfl ?_
      refine xs_add rfl ?_
      refine xs_ald hA gA7 (by omega) (by omega) rfl ?_
      refine xr_cps rfl rfl rfl (fun r1 K2 => lw_joins _ _ _ _ _ _ _ _ r1 (K2 _ _ _ _ ?_))
      refine xr_stp rfl rfl rfl rfl ?_
      refine xr_stp rfl rfl rfl rfl ?_
      refine xr_stp rfl rfl rfl rfl ?_
      refine xr_stp (st' := .int (Int32.ofNat 331) :: _) rfl rfl rfl rfl ?_
      refine xr_stp (st' := .int (Int32.ofNat 2) :: _) rfl rfl rfl rfl ?_
      refine xr_stp rfl rfl rfl rfl ?_
      refine xs_mul rfl ?_
      refine xs_add rfl ?_
      refine xs_ald hA gA7 (by omega) (by omega) rfl ?_
      refine xs_lor rfl ?_
      refine xr_stp rfl rfl rfl rfl ?_
      refine xr_stp rfl rfl rfl rfl ?_
      refine xr_stp (st' := .int (Int32.ofNat 336) :: _) rfl rfl rfl rfl ?_
      refine xr_stp (st' := .int (Int32.ofNat 2) :: _) rfl rfl rfl rfl ?_
      refine xr_stp rfl rfl rfl rfl ?_
      refine xs_mul rfl ?_
      refine xs_sub (by omega) rfl ?_
      refine xs_ald hA gA7 (by omega) (by omega) rfl ?_
      refine xr_stp rfl rfl rfl rfl ?_
      refine xr_stp (st' := .int (Int32.ofNat 337) :: _) rfl rfl rfl rfl ?_
      refine xr_stp (st' := .int (Int32.ofNat 2) :: _) rfl rfl rfl rfl ?_
      refine xr_stp rfl rfl rfl rfl ?_
      refine xs_mul rfl ?_
      refine xs_sub (by omega) rfl ?_
      refine xs_ald hA gA7 (by omega) (by omega) rfl ?_
      refine xr_stp rfl rfl rfl rfl ?_
      refine xr_stp rfl rfl rfl rfl ?_
      refine xr_cps rfl rfl rfl (fun r1 K2 => lw_joins _ _ _ _ _ _ _ _ r1 (K2 _ _ _ _ ?_))
      refine xr_stp rfl rfl rfl rfl ?_
      refine xr_stp rfl rfl rfl rfl ?_
      refine xr_stp rfl rfl rfl rfl ?_
      refine xr_stp (st' := .int (Int32.ofNat 337) :: _) rfl rfl rfl rfl ?_
      refine xr_stp (st' := .int (Int32.ofNat 2) :: _) rfl rfl rfl rfl ?_
      refine xr_stp rfl rfl rfl rfl ?_
      refine xs_mul rfl ?_
      refine xs_sub (by omega) rfl ?_
      refine xs_ald hA gA7 (by omega) (by omega) rfl ?_
      refine xs_lor rfl ?_
      refine xr_stp rfl rfl rfl rfl ?_
      refine xs_inc (e := 1) rfl rfl rfl rfl ?_
      refine xr_stp rfl rfl rfl rfl ?_
      refine xr_loc [(0, .ref 17), (1, .ref 16), (2, .int (Int32.ofNat q)), (3, .ref A), (4, .int (Int32.ofNat tm)), (5, .ref B), (9, .long (Int64.ofNat (aH G (i + 1)))), (11, .long (Int64.ofNat (aK G (i + 1)))), (13, .long (Int64.ofNat (oH G (i + 1)))), (15, .long (Int64.ofNat (oK G (i + 1)))), (17, .int (Int32.ofNat ((i + 1))))] ⟨rfl, rfl, rfl, rfl, rfl, rfl, rfl, rfl, rfl, rfl, rfl, trivial⟩ rfl ?_
      exact agL d c s tm B nn q dl tx sy T N fi m mm A f G GS r W0 hs m1 (i + 1) (by omega) K
theorem ag_E (d c s : Nat) (tm B : Nat) (nn q dl tx sy T N fi m mm A : Nat) (f : Nat → Int32) (G : Nat → Nat) (GS : Nat → Nat → Nat) (r : xi_R → Prop) (W0 : xi_W) (hs : scn nn f q dl tx sy T N fi m mm G GS A W0) (K : ∀ W' c' s', c' ≤ c + 1 → s' ≤ s + 63 → scn nn f q dl tx sy T N fi m mm G GS A W' → fr pq W0 W' → xr (d + 9) 204 377 [(0, .ref 17), (1, .ref 16), (2, .int (Int32.ofNat q)), (3, .ref A), (4, .int (Int32.ofNat tm)), (5, .ref B), (9, .long (Int64.ofNat (aH G 4))), (11, .long (Int64.ofNat (aK G 4)))] [] W' c' s' r) : xr (d + 9) 204 318 [(0, .ref 17), (1, .ref 16), (2, .int (Int32.ofNat q)), (3, .ref A), (4, .int (Int32.ofNat tm)), (5, .ref B), (9, .long (Int64.ofNat (aH G 4))), (11, .long (Int64.ofNat (aK G 4))), (13, .long (Int64.ofNat (oH G 4))), (15, .long (Int64.ofNat (oK G 4)))] [] W0 c s r := by
  obtain ⟨hc, hA, hS, gA, hz, hN, hnn⟩ := id hs
  obtain ⟨F, hw, hr⟩ := hc.w
  have J := hr.j
  have he := hr.e
  have J4 := J.e
  have b63 := J.b63
  have gA7 : 17 ≤ A := by omega
  obtain ⟨lf, lp, hO⟩ := hc.o
  have hal := aH_lt hr 4 (Nat.le_refl _)
  have haH : aH G 4 < 4611686018427387904 := lt62 J4 hal.1
  have haK : aK G 4 < 4611686018427387904 := lt62 J4 hal.2
  have hoh := aH_oH hr
  refine xr_stp rfl rfl rfl rfl ?_
  refine xr_stp rfl rfl rfl rfl ?_
  refine xs_lc (by omega) (by omega) rfl ?_
  refine xr_j1 rfl rfl rfl rfl rfl (fun h323 => ?_) (fun h323 => ?_)
  · have z323 := lt_ne h323
    exact (by omega)
  · refine xr_stp rfl rfl rfl rfl ?_
    refine xr_stp (st' := .int (Int32.ofNat 0) :: _) rfl rfl rfl rfl ?_
    refine xr_vcps hO rfl rfl rfl rfl rfl rfl (fun r1 K2 => cq_all0 _ _ _ nn q dl tx sy T N fi m mm f W0 G GS hc r1 (fun W1 hc1 hf1 => K2 _ _ _ _ ?_))
    have hs1 := hs.cls hc1 hf1
    clear hA hS hO
    obtain ⟨-, hA, hS, -⟩ := id hs1
    obtain ⟨lf, lp, hO⟩ := hc1.o
    refine xr_stp rfl rfl rfl rfl ?_
    refine xr_cps rfl rfl rfl (fun r1 K2 => lw_many _ _ _ _ _ (by omega) r1 (K2 _ _ _ _ ?_))
    refine xr_j2 rfl rfl rfl rfl rfl (fun h336 => ?_) (fun h336 => ?_)
    · have z336 := nt_ne h336
      exact (by omega)
    · refine xr_stp rfl rfl rfl rfl ?_
      refine xr_stp (st' := .int (Int32.ofNat 1) :: _) rfl rfl rfl rfl ?_
      refine xr_vcps hO rfl rfl rfl rfl rfl rfl (fun r1 K2 => cq_all1 _ _ _ nn q dl tx sy T N fi m mm f W1 G GS hc1 r1 (fun W2 hc2 hf2 => K2 _ _ _ _ ?_))
      have hs2 := hs1.cls hc2 hf2
      clear hA hS hO
      obtain ⟨-, hA, hS, -⟩ := id hs2
      obtain ⟨lf, lp, hO⟩ := hc2.o
      refine xr_stp rfl rfl rfl rfl ?_
      refine xr_cps rfl rfl rfl (fun r1 K2 => lw_many _ _ _ _ _ (by omega) r1 (K2 _ _ _ _ ?_))
      refine xr_j2 rfl rfl rfl rfl rfl (fun h349 => ?_) (fun h349 => ?_)
      · have z349 := nt_ne h349
        exact (by omega)
      · refine xr_stp rfl rfl rfl rfl ?_
        refine xr_stp (st' := .int (Int32.ofNat 2) :: _) rfl rfl rfl rfl ?_
        refine xr_vcps hO rfl rfl rfl rfl rfl rfl (fun r1 K2 => cq_all2 _ _ _ nn q dl tx sy T N fi m mm f W2 G GS hc2 r1 (fun W3 hc3 hf3 => K2 _ _ _ _ ?_))
        have hs3 := hs2.cls hc3 hf3
        clear hA hS hO
        obtain ⟨-, hA, hS, -⟩ := id hs3
        obtain ⟨lf, lp, hO⟩ := hc3.o
        refine xr_stp rfl rfl rfl rfl ?_
        refine xr_stp rfl rfl rfl rfl ?_
        refine xr_cps rfl rfl rfl (fun r1 K2 => lw_digest2 _ _ _ A _ W3 G hA gA7 b63 J4 (en.dgE he J4 hal.1) (by omega) r1 (fun W4 c4 s4 kc4 ks4 hA4 hf4 => K2 _ _ _ _ ?_))
        have hs4 := hs3.new hf4
        clear hA hS hO
        obtain ⟨hc4, hA, hS, -⟩ := id hs4
        obtain ⟨lf, lp, hO⟩ := hc4.o
        refine xr_j2 rfl rfl rfl rfl rfl (fun h363 => ?_) (fun h363 => ?_)
        · have z363 := nt_ne h363
          exact (by omega)
        · refine xr_stp rfl rfl rfl rfl ?_
          refine xr_stp (st' := .int (Int32.ofNat 3) :: _) rfl rfl rfl rfl ?_
          refine xr_vcps hO rfl rfl rfl rfl rfl rfl (fun r1 K2 => cq_all3 _ _ _ nn q dl tx sy T N fi m mm f W4 G GS hc4 r1 (fun W5 hc5 hf5 => K2 _ _ _ _ ?_))
          refine xr_stp (st' := .int (Int32.ofNat 4294967295) :: _) rfl rfl rfl rfl ?_
          refine xr_j2 rfl rfl rfl rfl rfl (fun h372 => ?_) (fun h372 => ?_)
          · refine xr_loc [(0, .ref 17), (1, .ref 16), (2, .int (Int32.ofNat q)), (3, .ref A), (4, .int (Int32.ofNat tm)), (5, .ref B), (9, .long (Int64.ofNat (aH G 4))), (11, .long (Int64.ofNat (aK G 4)))] ⟨rfl, rfl, rfl, rfl, rfl, rfl, rfl, rfl, trivial⟩ rfl ?_
            exact K W5 _ _ (by omega) (by omega) (hs4.cls hc5 hf5) (((((hf1.tr hf2).tr hf3)).nn hf4).tr hf5)
          · have z372 := nf_eq h372
            exact (by omega)
