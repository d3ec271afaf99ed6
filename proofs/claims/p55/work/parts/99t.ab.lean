/-! asks: foretold; how many of a replica -/
theorem cr_forL (d c s nn q dl tx sy T N fi m mm : Nat) (f : Nat → Int32) (W0 : xi_W) (G : Nat → Nat) (GS : Nat → Nat → Nat) (n0 t : Nat) (hn0 : n0 ≤ 12) (ht : t < 4) (r : xi_R → Prop) : ∀ (k i N2 : Nat) (G2 F3 : Nat → Nat) (W1 : xi_W), i + k = n0 → cmx nn f q dl tx sy T N fi m mm G GS W1 → fr pq W0 W1 → kw W1 33 F3 → RL (G2 0 + 1) N2 G2 F3 → G2 5 = dl → G2 0 + k < 10000 → N2 + 65 * k + 70 < 90000 → (∀ W' G', G' = tk_ nn f q k G2 → cmx nn f q dl tx sy T N fi m mm G GS W' → fr pq W0 W' → (∃ N3 F9, RL (G' 0 + 1) N3 G' F9) → r (some (.int (Int32.ofNat (lw_dig G' (G' (330 + 2 * t))))), W', c, s)) → xr (d + 7) 120 33 [(3, .int (Int32.ofNat i)), (0, .ref 17), (1, .int (Int32.ofNat n0)), (2, .int (Int32.ofNat t))] [] W1 c s r
  | 0, i, N2, G2, F3, W1, hi, hc, hfT, hw3, hr3, hd, hck, hN, K => by
    obtain ⟨lf, lp, hO⟩ := hc.o
    have hl := hc.l
    have hR := hc.R
    have e40 : F3 40 = G2 0 := hr3.1.2.2.2.2.2.2.1.1
    refine xr_stp rfl rfl rfl rfl ?_
    refine xr_stp rfl rfl rfl rfl ?_
    refine xr_j2 rfl rfl rfl rfl rfl (fun h35 => ?_) (fun h35 => ?_)
    · refine xr_stp rfl rfl rfl rfl ?_
      refine xr_getfield hO rfl rfl rfl rfl ?_
      refine xr_getfield (hw3.w wb33 hl hR) rfl rfl rfl rfl ?_
      refine xr_stp rfl rfl rfl rfl ?_
      refine xr_vcps hw3.2 rfl rfl rfl rfl rfl rfl (fun r1 K2 => rq_dig _ _ _ 33 W1 F3 G2 _ hw3 wb33 hl hR (hr3.xs ht) r1 (K2 _ _ _ _ ?_))
      exact xr_ret rfl rfl (K W1 G2 rfl hc hfT ⟨_, _, hr3⟩)
    · have z35 := nf_ge (by omega) (by omega) h35
      exact (by omega)
  | k + 1, i, N2, G2, F3, W1, hi, hc, hfT, hw3, hr3, hd, hck, hN, K => by
    have K := fun W' G' (e : G' = tk_ nn f q k (lw_ti nn f q 24 G2)) => K W' G' e
    obtain ⟨lf, lp, hO⟩ := hc.o
    have hl := hc.l
    have hR := hc.R
    have e40 : F3 40 = G2 0 := hr3.1.2.2.2.2.2.2.1.1
    have hW3 := hw3.w wb33 hl hR
    rw [e40] at hW3
    refine xr_stp rfl rfl rfl rfl ?_
    refine xr_stp rfl rfl rfl rfl ?_
    refine xr_j2 rfl rfl rfl rfl rfl (fun h35 => ?_) (fun h35 => ?_)
    · have z35 := nt_ge (by omega) (by omega) h35
      exact (by omega)
    · refine xr_stp rfl rfl rfl rfl ?_
      refine xr_getfield hO rfl rfl rfl rfl ?_
      refine xr_getfield hW3 rfl rfl rfl rfl ?_
      refine xr_stp (st' := .int (Int32.ofNat 9999) :: _) rfl rfl rfl rfl ?_
      refine xr_j2 rfl rfl rfl rfl rfl (fun h48 => ?_) (fun h48 => ?_)
      · have z48 := nt_ge (by omega) (by omega) h48
        exact (by omega)
      · refine xr_stp rfl rfl rfl rfl ?_
        refine xr_getfield hO rfl rfl rfl rfl ?_
        refine xr_stp rfl rfl rfl rfl ?_
        refine xr_getfield hO rfl rfl rfl rfl ?_
        refine xr_vcps (hw3.w wb33 hl hR) rfl rfl rfl rfl rfl rfl (fun r1 K2 => kl_tick _ _ _ 33 nn q dl tx sy T f wb33 hc.q r1 N2 G2 F3 W1 hw3 hc.ok hr3 hd.symm (by omega) (fun W2 F4 hw4 hs4 hf4 h4 h5 => K2 _ _ _ _ ?_))
        have hc2 := hc.trial hf4 hw4 hs4
        obtain ⟨lf, lp, hO⟩ := hc2.o
        refine xr_stp rfl rfl rfl rfl ?_
        refine xs_inc (e := 1) rfl rfl rfl rfl ?_
        refine xr_stp rfl rfl rfl rfl ?_
        exact cr_forL d c s nn q dl tx sy T N fi m mm f W0 G GS n0 t hn0 ht r k (i + 1) (N2 + 65) _ F4 W2 (by omega) hc2 (hfT.tr (pq_t hf4)) hw4 h4 (h5.trans hd) (by rw [lw_ti0 hr3.j nn f q (by omega)]; omega) (by omega) K
theorem cr_for (d c s nn q dl tx sy T N fi m mm : Nat) (f : Nat → Int32) (W0 : xi_W) (G : Nat → Nat) (GS : Nat → Nat → Nat) (hc : cmx nn f q dl tx sy T N fi m mm G GS W0) (n0 t : Nat) (h1 : 1 ≤ n0) (h12 : n0 ≤ 12) (ht : t < 4) (hck : G 0 + n0 ≤ 9999) (hN : N + 65 * n0 + 70 < 90000) (r : xi_R → Prop) (K : (∀ W', cmx nn f q dl tx sy T N fi m mm G GS W' → fr pq W0 W' → (∃ N3 F9, RL (tk_ nn f q n0 G 0 + 1) N3 (tk_ nn f q n0 G) F9) → r (some (.int (Int32.ofNat (lw_dig (tk_ nn f q n0 G) (tk_ nn f q n0 G (330 + 2 * t))))), W', c, s))) : xr (d + 7) 120 0 [(0, .ref 17), (1, .int (Int32.ofNat n0)), (2, .int (Int32.ofNat t))] [] W0 c s r := by
  obtain ⟨lf, lp, hO⟩ := hc.o
  obtain ⟨F, hw, hr⟩ := hc.w
  have hl := hc.l
  have hR := hc.R
  have J := hr.j
  obtain ⟨F3, hw3⟩ := hc.2.2.2.2.2.2.1
  refine xr_stp rfl rfl rfl rfl ?_
  refine xr_stp (st' := .int (Int32.ofNat 1) :: _) rfl rfl rfl rfl ?_
  refine xr_j2 rfl rfl rfl rfl rfl (fun h2 => ?_) (fun h2 => ?_)
  · have z2 := nt_lt (by omega) (by omega) h2
    exact (by omega)
  · refine xr_stp rfl rfl rfl rfl ?_
    refine xr_stp (st' := .int (Int32.ofNat 12) :: _) rfl rfl rfl rfl ?_
    refine xr_j2 rfl rfl rfl rfl rfl (fun h8 => ?_) (fun h8 => ?_)
    · have z8 := nt_gt (by omega) (by omega) h8
      exact (by omega)
    · refine xr_stp rfl rfl rfl rfl ?_
      refine xr_cps rfl rfl rfl (fun r1 K2 => cl_rep _ _ _ t _ (by omega) r1 (K2 _ _ _ _ ?_))
      refine xr_j1 rfl rfl rfl rfl rfl (fun h15 => ?_) (fun h15 => ?_)
      · refine xr_stp rfl rfl rfl rfl ?_
        refine xr_getfield hO rfl rfl rfl rfl ?_
        refine xr_stp rfl rfl rfl rfl ?_
        refine xr_getfield hO rfl rfl rfl rfl ?_
        refine xr_vcps (hw3.w wb33 hl hR) rfl rfl rfl rfl rfl rfl (fun r1 K2 => kl_copy _ _ _ 33 23 W0 F3 F _ hw3 hw wb33 wb23 (by omega) hl hR r1 (fun W1 F4 hw4 hf1 hag => K2 _ _ _ _ ?_))
        have hk1 : fr (kr 33) W0 W1 := krK hf1
        have hc1 := hc.trial hk1 hw4 (hc.ok.2.2.2.2.2.1.keep hf1 wb33.k.1 wb33.k.2.1)
        have hr3 := hr.ag hag
        have hd := hc.d
        obtain ⟨lf, lp, hO⟩ := hc1.o
        refine xr_stp (st' := .int (Int32.ofNat 0) :: _) rfl rfl rfl rfl ?_
        refine xr_stp rfl rfl rfl rfl ?_
        exact cr_forL d c s nn q dl tx sy T N fi m mm f W0 G GS n0 t h12 ht r n0 0 N G F4 W1 (by omega) hc1 (pq_t hk1) hw4 hr3 hd (by omega) hN (fun W5 G5 e5 h5 h6 h7 => by rw [e5] at *; exact K W5 h5 h6 h7)
      · have z15 := nf1_ne (by omega) h15
        exact (by omega)
theorem tr_nb : ∀ (n x : Nat), tr n x < n → x.testBit (tr n x) = false
  | 0, x, h => absurd h (Nat.not_lt_zero _)
  | n + 1, x, h => by
    unfold tr at h ⊢
    by_cases e : x % 2 = 1
    · rw [if_pos e] at h ⊢
      rw [Nat.testBit_succ]
      exact tr_nb n (x / 2) (by omega)
    · rw [if_neg e, Nat.testBit_zero]
      exact decide_eq_false e
theorem cP_st {G : Nat → Nat} (he : en G (G 4)) (hm : G 4 ≤ 62) {k : Nat} (hk : k < 2 ^ G 4) {j : Nat} (hj : j < bc 63 k) : cP G k (lw_row G k j) = 0 ↔ G (11 + 5 * lw_row G k j) = min (cT G k (lw_row G k j)) (G (11 + 5 * lw_row G k j) - 1) + 1 := by
  obtain ⟨w1, w2⟩ := (lw_rowE he hm hk).1 j hj
  have hn := he.num w1
  have hb : (pr G (G (10 + 5 * lw_row G k j)) (G 4) k).testBit (G (11 + 5 * lw_row G k j) - 1) = true := (pr_bit G _ k _ (G 4)).mpr ⟨lw_row G k j, w1, rfl, w2, by omega⟩
  have hne : cT G k (lw_row G k j) ≠ G (11 + 5 * lw_row G k j) - 1 := fun e => by
    unfold cT at e
    have := tr_nb 62 (pr G (G (10 + 5 * lw_row G k j)) (G 4) k) (by rw [e]; omega)
    rw [e, hb] at this
    cases this
  unfold cP
  by_cases e : cT G k (lw_row G k j) < G (11 + 5 * lw_row G k j)
  · rw [if_pos e]
    exact ⟨fun z => absurd z (by omega), fun z => absurd z (by omega)⟩
  · rw [if_neg e]
    exact ⟨fun _ => by omega, fun _ => rfl⟩
theorem tb_q (x i : Nat) : x / 2 ^ i % 2 = if x.testBit i = true then 1 else 0 := by
  rw [Nat.testBit_eq_decide_div_mod_eq]
  by_cases h : x / 2 ^ i % 2 = 1
  · rw [if_pos (decide_eq_true h)]; exact h
  · rw [if_neg (fun z => h (of_decide_eq_true z))]
    omega
theorem acL (d c s : Nat) (tm B : Nat) (nn q dl tx sy T N fi m mm A : Nat) (f : Nat → Int32) (G : Nat → Nat) (GS : Nat → Nat → Nat) (r : xi_R → Prop) (a b : Nat) (ha : a < 4) (hb : b < 4) (W0 : xi_W) (hs : scn nn f q dl tx sy T N fi m mm G GS A W0) : ∀ (m1 i : Nat), i + m1 = G 4 → xr (d + 9) 204 949 [(0, .ref 17), (1, .ref 16), (2, .int (Int32.ofNat q)), (3, .ref A), (4, .int (Int32.ofNat tm)), (5, .ref B), (9, .long (Int64.ofNat (aH G 4))), (11, .long (Int64.ofNat (aK G 4))), (17, .int (Int32.ofNat a)), (18, .long (Int64.ofNat (G (330 + 2 * a)))), (20, .long (Int64.ofNat (G (331 + 2 * a)))), (23, .int (Int32.ofNat b)), (24, .long (Int64.ofNat (G (330 + 2 * b)))), (26, .long (Int64.ofNat (G (331 + 2 * b)))), (28, .long (Int64.ofNat (lw_j (G (330 + 2 * a)) (G (331 + 2 * a)) (G (330 + 2 * b)) (G (331 + 2 * b))))), (30, .int (Int32.ofNat (ct G b (G 4) (G (331 + 2 * a))))), (31, .int (Int32.ofNat (ct G b (G 4) (G (330 + 2 * a)))))] [] W0 c s r → xr (d + 9) 204 861 [(0, .ref 17), (1, .ref 16), (2, .int (Int32.ofNat q)), (3, .ref A), (4, .int (Int32.ofNat tm)), (5, .ref B), (9, .long (Int64.ofNat (aH G 4))), (11, .long (Int64.ofNat (aK G 4))), (17, .int (Int32.ofNat a)), (18, .long (Int64.ofNat (G (330 + 2 * a)))), (20, .long (Int64.ofNat (G (331 + 2 * a)))), (23, .int (Int32.ofNat b)), (24, .long (Int64.ofNat (G (330 + 2 * b)))), (26, .long (Int64.ofNat (G (331 + 2 * b)))), (28, .long (Int64.ofNat (lw_j (G (330 + 2 * a)) (G (331 + 2 * a)) (G (330 + 2 * b)) (G (331 + 2 * b))))), (30, .int (Int32.ofNat (ct G b i (G (331 + 2 * a))))), (31, .int (Int32.ofNat (ct G b i (G (330 + 2 * a))))), (32, .int (Int32.ofNat i))] [] W0 c s r
  | 0, i, hi, K => by
    obtain ⟨hc, hA, hS, gA, hz, hN, hnn⟩ := id hs
    obtain ⟨F, hw, hr⟩ := hc.w
    have J := hr.j
    have he := hr.e
    have J4 := J.e
    have b63 := J.b63
    have gA7 : 17 ≤ A := by omega
    obtain ⟨lf, lp, hO⟩ := hc.o
    obtain rfl : i = G 4 := by omega
    refine xr_stp rfl rfl rfl rfl ?_
    refine xs_i2l (by omega) rfl ?_
    refine xr_stp rfl rfl rfl rfl ?_
    refine xr_stp (st' := .int (Int32.ofNat 4) :: _) rfl rfl rfl rfl ?_
    refine xs_ald hA gA7 (by omega) (by omega) rfl ?_
    refine xs_lc (by omega) (by omega) rfl ?_
    refine xr_j1 rfl rfl rfl rfl rfl (fun h868 => ?_) (fun h868 => ?_)
    · refine xr_loc [(0, .ref 17), (1, .ref 16), (2, .int (Int32.ofNat q)), (3, .ref A), (4, .int (Int32.ofNat tm)), (5, .ref B), (9, .long (Int64.ofNat (aH G 4))), (11, .long (Int64.ofNat (aK G 4))), (17, .int (Int32.ofNat a)), (18, .long (Int64.ofNat (G (330 + 2 * a)))), (20, .long (Int64.ofNat (G (331 + 2 * a)))), (23, .int (Int32.ofNat b)), (24, .long (Int64.ofNat (G (330 + 2 * b)))), (26, .long (Int64.ofNat (G (331 + 2 * b)))), (28, .long (Int64.ofNat (lw_j (G (330 + 2 * a)) (G (331 + 2 * a)) (G (330 + 2 * b)) (G (331 + 2 * b))))), (30, .int (Int32.ofNat (ct G b (G 4) (G (331 + 2 * a))))), (31, .int (Int32.ofNat (ct G b (G 4) (G (330 + 2 * a)))))] ⟨rfl, rfl, rfl, rfl, rfl, rfl, rfl, rfl, rfl, rfl, rfl, rfl, rfl, rfl, rfl, rfl, rfl, trivial⟩ rfl ?_
      exact K
    · have z868 := lf_ge h868
      exact (by omega)
  | m1 + 1, i, hi, K => by
    obtain ⟨hc, hA, hS, gA, hz, hN, hnn⟩ := id hs
    obtain ⟨F, hw, hr⟩ := hc.w
    have J := hr.j
    have he := hr.e
    have J4 := J.e
    have b63 := J.b63
    have gA7 : 17 ≤ A := by omega
    obtain ⟨lf, lp, hO⟩ := hc.o
    have hei := (he i (by omega)).1
    by_cases e1 : G (10 + 5 * i) = b
    · by_cases e2 : (G (331 + 2 * a)).testBit i = true
      · by_cases e3 : (G (330 + 2 * a)).testBit i = true
        · refine xr_stp rfl rfl rfl rfl ?_
          refine xs_i2l (by omega) rfl ?_
          refine xr_stp rfl rfl rfl rfl ?_
          refine xr_stp (st' := .int (Int32.ofNat 4) :: _) rfl rfl rfl rfl ?_
          refine xs_ald hA gA7 (by omega) (by omega) rfl ?_
          refine xs_lc (by omega) (by omega) rfl ?_
          refine xr_j1 rfl rfl rfl rfl rfl (fun h868 => ?_) (fun h868 => ?_)
          · have z868 := lt_ge h868
            exact (by omega)
          · refine xr_stp rfl rfl rfl rfl ?_
            refine xr_stp rfl rfl rfl rfl ?_
            refine xr_stp (st' := .int (Int32.ofNat 10) :: _) rfl rfl rfl rfl ?_
            refine xr_stp (st' := .int (Int32.ofNat 5) :: _) rfl rfl rfl rfl ?_
            refine xr_stp rfl rfl rfl rfl ?_
            refine xs_mul rfl ?_
            refine xs_add rfl ?_
            refine xs_ald hA gA7 (by omega) (by omega) rfl ?_
            refine xr_stp rfl rfl rfl rfl ?_
            refine xs_i2l (by omega) rfl ?_
            refine xs_lc (by omega) (by omega) rfl ?_
            refine xr_j1 rfl rfl rfl rfl rfl (fun h886 => ?_) (fun h886 => ?_)
            · have z886 := lt_ne h886
              exact (by omega)
            · refine xr_stp rfl rfl rfl rfl ?_
              refine xr_stp rfl rfl rfl rfl ?_
              refine xr_cps rfl rfl rfl (fun r1 K2 => lw_bit _ _ _ (G (331 + 2 * a)) i W0 (b63 _) (by omega) r1 (K2 _ _ _ _ ?_))
              rw [tb_q, if_pos e2]
              refine xr_j1 rfl rfl rfl rfl rfl (fun h896 => ?_) (fun h896 => ?_)
              · have z896 := nt1_eq (by omega) h896
                exact (by omega)
              · refine xr_stp (st' := .int (Int32.ofNat 1) :: _) rfl rfl rfl rfl ?_
                refine xr_stp rfl rfl rfl rfl ?_
                refine xs_add rfl ?_
                refine xr_stp rfl rfl rfl rfl ?_
                refine xr_stp rfl rfl rfl rfl ?_
                refine xr_stp rfl rfl rfl rfl ?_
                refine xr_stp (st' := .int (Int32.ofNat 10) :: _) rfl rfl rfl rfl ?_
                refine xr_stp (st' := .int (Int32.ofNat 5) :: _) rfl rfl rfl rfl ?_
                refine xr_stp rfl rfl rfl rfl ?_
                refine xs_mul rfl ?_
                refine xs_add rfl ?_
                refine xs_ald hA gA7 (by omega) (by omega) rfl ?_
                refine xr_stp rfl rfl rfl rfl ?_
                refine xs_i2l (by omega) rfl ?_
                refine xs_lc (by omega) (by omega) rfl ?_
                refine xr_j1 rfl rfl rfl rfl rfl (fun h922 => ?_) (fun h922 => ?_)
                · have z922 := lt_ne h922
                  exact (by omega)
                · refine xr_stp rfl rfl rfl rfl ?_
                  refine xr_stp rfl rfl rfl rfl ?_
                  refine xr_cps rfl rfl rfl (fun r1 K2 => lw_bit _ _ _ (G (330 + 2 * a)) i W0 (b63 _) (by omega) r1 (K2 _ _ _ _ ?_))
                  rw [tb_q, if_pos e3]
                  refine xr_j1 rfl rfl rfl rfl rfl (fun h932 => ?_) (fun h932 => ?_)
                  · have z932 := nt1_eq (by omega) h932
                    exact (by omega)
                  · refine xr_stp (st' := .int (Int32.ofNat 1) :: _) rfl rfl rfl rfl ?_
                    refine xr_stp rfl rfl rfl rfl ?_
                    refine xs_add rfl ?_
                    refine xr_stp rfl rfl rfl rfl ?_
                    refine xs_inc (e := 1) rfl rfl rfl rfl ?_
                    refine xr_stp rfl rfl rfl rfl ?_
                    refine xr_loc [(0, .ref 17), (1, .ref 16), (2, .int (Int32.ofNat q)), (3, .ref A), (4, .int (Int32.ofNat tm)), (5, .ref B), (9, .long (Int64.ofNat (aH G 4))), (11, .long (Int64.ofNat (aK G 4))), (17, .int (Int32.ofNat a)), (18, .long (Int64.ofNat (G (330 + 2 * a)))), (20, .long (Int64.ofNat (G (331 + 2 * a)))), (23, .int (Int32.ofNat b)), (24, .long (Int64.ofNat (G (330 + 2 * b)))), (26, .long (Int64.ofNat (G (331 + 2 * b)))), (28, .long (Int64.ofNat (lw_j (G (330 + 2 * a)) (G (331 + 2 * a)) (G (330 + 2 * b)) (G (331 + 2 * b))))), (30, .int (Int32.ofNat (ct G b i (G (331 + 2 * a)) + 1))), (31, .int (Int32.ofNat (ct G b i (G (330 + 2 * a)) + 1))), (32, .int (Int32.ofNat (i + 1)))] ⟨rfl, rfl, rfl, rfl, rfl, rfl, rfl, rfl, rfl, rfl, rfl, rfl, rfl, rfl, rfl, rfl, rfl, rfl, trivial⟩ rfl ?_
                    have f1 : ct G b (i + 1) (G (331 + 2 * a)) = ct G b i (G (331 + 2 * a)) + 1 := by show _ + (if G (10 + 5 * i) = b ∧ (G (331 + 2 * a)).testBit i = true then 1 else 0) = _; rw [if_pos ⟨e1, e2⟩]
                    have f2 : ct G b (i + 1) (G (330 + 2 * a)) = ct G b i (G (330 + 2 * a)) + 1 := by show _ + (if G (10 + 5 * i) = b ∧ (G (330 + 2 * a)).testBit i = true then 1 else 0) = _; rw [if_pos ⟨e1, e3⟩]
                    rw [← f1, ← f2]
                    exact acL d c s tm B nn q dl tx sy T N fi m mm A f G GS r a b ha hb W0 hs m1 (i + 1) (by omega) K
        · refine xr_stp rfl rfl rfl rfl ?_
          refine xs_i2l (by omega) rfl ?_
          refine xr_stp rfl rfl rfl rfl ?_
          refine xr_stp (st' := .int (Int32.ofNat 4) :: _) rfl rfl rfl rfl ?_
          refine xs_ald hA gA7 (by omega) (by omega) rfl ?_
          refine xs_lc (by omega) (by omega) rfl ?_
          refine xr_j1 rfl rfl rfl rfl rfl (fun h868 => ?_) (fun h868 => ?_)
          · have z868 := lt_ge h868
            exact (by omega)
          · refine xr_stp rfl rfl rfl rfl ?_
            refine xr_stp rfl rfl rfl rfl ?_
            refine xr_stp (st' := .int (Int32.ofNat 10) :: _) rfl rfl rfl rfl ?_
            refine xr_stp (st' := .int (Int32.ofNat 5) :: _) rfl rfl rfl rfl ?_
            refine xr_stp rfl rfl rfl rfl ?_
            refine xs_mul rfl ?_
            refine xs_add rfl ?_
            refine xs_ald hA gA7 (by omega) (by omega) rfl ?_
            refine xr_stp rfl rfl rfl rfl ?_
            refine xs_i2l (by omega) rfl ?_
            refine xs_lc (by omega) (by omega) rfl ?_
            refine xr_j1 rfl rfl rfl rfl rfl (fun h886 => ?_) (fun h886 => ?_)
            · have z886 := lt_ne h886
              exact (by omega)
            · refine xr_stp rfl rfl rfl rfl ?_
              refine xr_stp rfl rfl rfl rfl ?_
              refine xr_cps rfl rfl rfl (fun r1 K2 => lw_bit _ _ _ (G (331 + 2 * a)) i W0 (b63 _) (by omega) r1 (K2 _ _ _ _ ?_))
              rw [tb_q, if_pos e2]
              refine xr_j1 rfl rfl rfl rfl rfl (fun h896 => ?_) (fun h896 => ?_)
              · have z896 := nt1_eq (by omega) h896
                exact (by omega)
              · refine xr_stp (st' := .int (Int32.ofNat 1) :: _) rfl rfl rfl rfl ?_
                refine xr_stp rfl rfl rfl rfl ?_
                refine xs_add rfl ?_
                refine xr_stp rfl rfl rfl rfl ?_
                refine xr_stp rfl rfl rfl rfl ?_
                refine xr_stp rfl rfl rfl rfl ?_
                refine xr_stp (st' := .int (Int32.ofNat 10) :: _) rfl rfl rfl rfl ?_
                refine xr_stp (st' := .int (Int32.ofNat 5) :: _) rfl rfl rfl rfl ?_
                refine xr_stp rfl rfl rfl rfl ?_
                refine xs_mul rfl ?_
                refine xs_add rfl ?_
                refine xs_ald hA gA7 (by omega) (by omega) rfl ?_
                refine xr_stp rfl rfl rfl rfl ?_
                refine xs_i2l (by omega) rfl ?_
                refine xs_lc (by omega) (by omega) rfl ?_
                refine xr_j1 rfl rfl rfl rfl rfl (fun h922 => ?_) (fun h922 => ?_)
                · have z922 := lt_ne h922
                  exact (by omega)
                · refine xr_stp rfl rfl rfl rfl ?_
                  refine xr_stp rfl rfl rfl rfl ?_
                  refine xr_cps rfl rfl rfl (fun r1 K2 => lw_bit _ _ _ (G (330 + 2 * a)) i W0 (b63 _) (by omega) r1 (K2 _ _ _ _ ?_))
                  rw [tb_q, if_neg e3]
                  refine xr_j1 rfl rfl rfl rfl rfl (fun h932 => ?_) (fun h932 => ?_)
                  · refine xr_stp (st' := .int (Int32.ofNat 0) :: _) rfl rfl rfl rfl ?_
                    refine xs_add rfl ?_
                    refine xr_stp rfl rfl rfl rfl ?_
                    refine xs_inc (e := 1) rfl rfl rfl rfl ?_
                    refine xr_stp rfl rfl rfl rfl ?_
                    refine xr_loc [(0, .ref 17), (1, .ref 16), (2, .int (Int32.ofNat q)), (3, .ref A), (4, .int (Int32.ofNat tm)), (5, .ref B), (9, .long (Int64.ofNat (aH G 4))), (11, .long (Int64.ofNat (aK G 4))), (17, .int (Int32.ofNat a)), (18, .long (Int64.ofNat (G (330 + 2 * a)))), (20, .long (Int64.ofNat (G (331 + 2 * a)))), (23, .int (Int32.ofNat b)), (24, .long (Int64.ofNat (G (330 + 2 * b)))), (26, .long (Int64.ofNat (G (331 + 2 * b)))), (28, .long (Int64.ofNat (lw_j (G (330 + 2 * a)) (G (331 + 2 * a)) (G (330 + 2 * b)) (G (331 + 2 * b))))), (30, .int (Int32.ofNat (ct G b i (G (331 + 2 * a)) + 1))), (31, .int (Int32.ofNat (ct G b i (G (330 + 2 * a)) + 0))), (32, .int (Int32.ofNat (i + 1)))] ⟨rfl, rfl, rfl, rfl, rfl, rfl, rfl, rfl, rfl, rfl, rfl, rfl, rfl, rfl, rfl, rfl, rfl, rfl, trivial⟩ rfl ?_
                    have f1 : ct G b (i + 1) (G (331 + 2 * a)) = ct G b i (G (331 + 2 * a)) + 1 := by show _ + (if G (10 + 5 * i) = b ∧ (G (331 + 2 * a)).testBit i = true then 1 else 0) = _; rw [if_pos ⟨e1, e2⟩]
                    have f2 : ct G b (i + 1) (G (330 + 2 * a)) = ct G b i (G (330 + 2 * a)) + 0 := by show _ + (if G (10 + 5 * i) = b ∧ (G (330 + 2 * a)).testBit i = true then 1 else 0) = _; rw [if_neg (fun z => e3 z.2)]
                    rw [← f1, ← f2]
                    exact acL d c s tm B nn q dl tx sy T N fi m mm A f G GS r a b ha hb W0 hs m1 (i + 1) (by omega) K
                  · have z932 := nf1_eq h932
                    exact (by omega)
      · by_cases e3 : (G (330 + 2 * a)).testBit i = true
        · refine xr_stp rfl rfl rfl rfl ?_
          refine xs_i2l (by omega) rfl ?_
          refine xr_stp rfl rfl rfl rfl ?_
          refine xr_stp (st' := .int (Int32.ofNat 4) :: _) rfl rfl rfl rfl ?_
          refine xs_ald hA gA7 (by omega) (by omega) rfl ?_
          refine xs_lc (by omega) (by omega) rfl ?_
          refine xr_j1 rfl rfl rfl rfl rfl (fun h868 => ?_) (fun h868 => ?_)
          · have z868 := lt_ge h868
            exact (by omega)
          · refine xr_stp rfl rfl rfl rfl ?_
            refine xr_stp rfl rfl rfl rfl ?_
            refine xr_stp (st' := .int (Int32.ofNat 10) :: _) rfl rfl rfl rfl ?_
            refine xr_stp (st' := .int (Int32.ofNat 5) :: _) rfl rfl rfl rfl ?_
            refine xr_stp rfl rfl rfl rfl ?_
            refine xs_mul rfl ?_
            refine xs_add rfl ?_
            refine xs_ald hA gA7 (by omega) (by omega) rfl ?_
            refine xr_stp rfl rfl rfl rfl ?_
            refine xs_i2l (by omega) rfl ?_
            refine xs_lc (by omega) (by omega) rfl ?_
            refine xr_j1 rfl rfl rfl rfl rfl (fun h886 => ?_) (fun h886 => ?_)
            · have z886 := lt_ne h886
              exact (by omega)
            · refine xr_stp rfl rfl rfl rfl ?_
              refine xr_stp rfl rfl rfl rfl ?_
              refine xr_cps rfl rfl rfl (fun r1 K2 => lw_bit _ _ _ (G (331 + 2 * a)) i W0 (b63 _) (by omega) r1 (K2 _ _ _ _ ?_))
              rw [tb_q, if_neg e2]
              refine xr_j1 rfl rfl rfl rfl rfl (fun h896 => ?_) (fun h896 => ?_)
              · refine xr_stp (st' := .int (Int32.ofNat 0) :: _) rfl rfl rfl rfl ?_
                refine xs_add rfl ?_
                refine xr_stp rfl rfl rfl rfl ?_
                refine xr_stp rfl rfl rfl rfl ?_
                refine xr_stp rfl rfl rfl rfl ?_
                refine xr_stp (st' := .int (Int32.ofNat 10) :: _) rfl rfl rfl rfl ?_
                refine xr_stp (st' := .int (Int32.ofNat 5) :: _) rfl rfl rfl rfl ?_
                refine xr_stp rfl rfl rfl rfl ?_
                refine xs_mul rfl ?_
                refine xs_add rfl ?_
                refine xs_ald hA gA7 (by omega) (by omega) rfl ?_
                refine xr_stp rfl rfl rfl rfl ?_
                refine xs_i2l (by omega) rfl ?_
                refine xs_lc (by omega) (by omega) rfl ?_
                refine xr_j1 rfl rfl rfl rfl rfl (fun h922 => ?_) (fun h922 => ?_)
                · have z922 := lt_ne h922
                  exact (by omega)
                · refine xr_stp rfl rfl rfl rfl ?_
                  refine xr_stp rfl rfl rfl rfl ?_
                  refine xr_cps rfl rfl rfl (fun r1 K2 => lw_bit _ _ _ (G (330 + 2 * a)) i W0 (b63 _) (by omega) r1 (K2 _ _ _ _ ?_))
                  rw [tb_q, if_pos e3]
                  refine xr_j1 rfl rfl rfl rfl rfl (fun h932 => ?_) (fun h932 => ?_)
                  · have z932 := nt1_eq (by omega) h932
                    exact (by omega)
                  · refine xr_stp (st' := .int (Int32.ofNat 1) :: _) rfl rfl rfl rfl ?_
                    refine xr_stp rfl rfl rfl rfl ?_
                    refine xs_add rfl ?_
                    refine xr_stp rfl rfl rfl rfl ?_
                    refine xs_inc (e := 1) rfl rfl rfl rfl ?_
                    refine xr_stp rfl rfl rfl rfl ?_
                    refine xr_loc [(0, .ref 17), (1, .ref 16), (2, .int (Int32.ofNat q)), (3, .ref A), (4, .int (Int32.ofNat tm)), (5, .ref B), (9, .long (Int64.ofNat (aH G 4))), (11, .long (Int64.ofNat (aK G 4))), (17, .int (Int32.ofNat a)), (18, .long (Int64.ofNat (G (330 + 2 * a)))), (20, .long (Int64.ofNat (G (331 + 2 * a)))), (23, .int (Int32.ofNat b)), (24, .long (Int64.ofNat (G (330 + 2 * b)))), (26, .long (Int64.ofNat (G (331 + 2 * b)))), (28, .long (Int64.ofNat (lw_j (G (330 + 2 * a)) (G (331 + 2 * a)) (G (330 + 2 * b)) (G (331 + 2 * b))))), (30, .int (Int32.ofNat (ct G b i (G (331 + 2 * a)) + 0))), (31, .int (Int32.ofNat (ct G b i (G (330 + 2 * a)) + 1))), (32, .int (Int32.ofNat (i + 1)))] ⟨rfl, rfl, rfl, rfl, rfl, rfl, rfl, rfl, rfl, rfl, rfl, rfl, rfl, rfl, rfl, rfl, rfl, rfl, trivial⟩ rfl ?_
                    have f1 : ct G b (i + 1) (G (331 + 2 * a)) = ct G b i (G (331 + 2 * a)) + 0 := by show _ + (if G (10 + 5 * i) = b ∧ (G (331 + 2 * a)).testBit i = true then 1 else 0) = _; rw [if_neg (fun z => e2 z.2)]
                    have f2 : ct G b (i + 1) (G (330 + 2 * a)) = ct G b i (G (330 + 2 * a)) + 1 := by show _ + (if G (10 + 5 * i) = b ∧ (G (330 + 2 * a)).testBit i = true then 1 else 0) = _; rw [if_pos ⟨e1, e3⟩]
                    rw [← f1, ← f2]
                    exact acL d c s tm B nn q dl tx sy T N fi m mm A f G GS r a b ha hb W0 hs m1 (i + 1) (by omega) K
              · have z896 := nf1_eq h896
                exact (by omega)
        · refine xr_stp rfl rfl rfl rfl ?_
          refine xs_i2l (by omega) rfl ?_
          refine xr_stp rfl rfl rfl rfl ?_
          refine xr_stp (st' := .int (Int32.ofNat 4) :: _) rfl rfl rfl rfl ?_
          refine xs_ald hA gA7 (by omega) (by omega) rfl ?_
          refine xs_lc (by omega) (by omega) rfl ?_
          refine xr_j1 rfl rfl rfl rfl rfl (fun h868 => ?_) (fun h868 => ?_)
          · have z868 := lt_ge h868
            exact (by omega)
          · refine xr_stp rfl rfl rfl rfl ?_
            refine xr_stp rfl rfl rfl rfl ?_
            refine xr_stp (st' := .int (Int32.ofNat 10) :: _) rfl rfl rfl rfl ?_
            refine xr_stp (st' := .int (Int32.ofNat 5) :: _) rfl rfl rfl rfl ?_
            refine xr_stp rfl rfl rfl rfl ?_
            refine xs_mul rfl ?_
            refine xs_add rfl ?_
            refine xs_ald hA gA7 (by omega) (by omega) rfl ?_
            refine xr_stp rfl rfl rfl rfl ?_
            refine xs_i2l (by omega) rfl ?_
            refine xs_lc (by omega) (by omega) rfl ?_
            refine xr_j1 rfl rfl rfl rfl rfl (fun h886 => ?_) (fun h886 => ?_)
            · have z886 := lt_ne h886
              exact (by omega)
            · refine xr_stp rfl rfl rfl rfl ?_
              refine xr_stp rfl rfl rfl rfl ?_
              refine xr_cps rfl rfl rfl (fun r1 K2 => lw_bit _ _ _ (G (331 + 2 * a)) i W0 (b63 _) (by omega) r1 (K2 _ _ _ _ ?_))
              rw [tb_q, if_neg e2]
              refine xr_j1 rfl rfl rfl rfl rfl (fun h896 => ?_) (fun h896 => ?_)
              · refine xr_stp (st' := .int (Int32.ofNat 0) :: _) rfl rfl rfl rfl ?_
                refine xs_add rfl ?_
                refine xr_stp rfl rfl rfl rfl ?_
                refine xr_stp rfl rfl rfl rfl ?_
                refine xr_stp rfl rfl rfl rfl ?_
                refine xr_stp (st' := .int (Int32.ofNat 10) :: _) rfl rfl rfl rfl ?_
                refine xr_stp (st' := .int (Int32.ofNat 5) :: _) rfl rfl rfl rfl ?_
                refine xr_stp rfl rfl rfl rfl ?_
                refine xs_mul rfl ?_
                refine xs_add rfl ?_
                refine xs_ald hA gA7 (by omega) (by omega) rfl ?_
                refine xr_stp rfl rfl rfl rfl ?_
                refine xs_i2l (by omega) rfl ?_
                refine xs_lc (by omega) (by omega) rfl ?_
                refine xr_j1 rfl rfl rfl rfl rfl (fun h922 => ?_) (fun h922 => ?_)
                · have z922 := lt_ne h922
                  exact (by omega)
                · refine xr_stp rfl rfl rfl rfl ?_
                  refine xr_stp rfl rfl rfl rfl ?_
                  refine xr_cps rfl rfl rfl (fun r1 K2 => lw_bit _ _ _ (G (330 + 2 * a)) i W0 (b63 _) (by omega) r1 (K2 _ _ _ _ ?_))
                  rw [tb_q, if_neg e3]
                  refine xr_j1 rfl rfl rfl rfl rfl (fun h932 => ?_) (fun h932 => ?_)
                  · refine xr_stp (st' := .int (Int32.ofNat 0) :: _) rfl rfl rfl rfl ?_
                    refine xs_add rfl ?_
                    refine xr_stp rfl rfl rfl rfl ?_
                    refine xs_inc (e := 1) rfl rfl rfl rfl ?_
                    refine xr_stp rfl rfl rfl rfl ?_
                    refine xr_loc [(0, .ref 17), (1, .ref 16), (2, .int (Int32.ofNat q)), (3, .ref A), (4, .int (Int32.ofNat tm)), (5, .ref B), (9, .long (Int64.ofNat (aH G 4))), (11, .long (Int64.ofNat (aK G 4))), (17, .int (Int32.ofNat a)), (18, .long (Int64.ofNat (G (330 + 2 * a)))), (20, .long (Int64.ofNat (G (331 + 2 * a)))), (23, .int (Int32.ofNat b)), (24, .long (Int64.ofNat (G (330 + 2 * b)))), (26, .long (Int64.ofNat (G (331 + 2 * b)))), (28, .long (Int64.ofNat (lw_j (G (330 + 2 * a)) (G (331 + 2 * a)) (G (330 + 2 * b)) (G (331 + 2 * b))))), (30, .int (Int32.ofNat (ct G b i (G (331 + 2 * a)) + 0))), (31, .int (Int32.ofNat (ct G b i (G (330 + 2 * a)) + 0))), (32, .int (Int32.ofNat (i + 1)))] ⟨rfl, rfl, rfl, rfl, rfl, rfl, rfl, rfl, rfl, rfl, rfl, rfl, rfl, rfl, rfl, rfl, rfl, rfl, trivial⟩ rfl ?_
                    have f1 : ct G b (i + 1) (G (331 + 2 * a)) = ct G b i (G (331 + 2 * a)) + 0 := by show _ + (if G (10 + 5 * i) = b ∧ (G (331 + 2 * a)).testBit i = true then 1 else 0) = _; rw [if_neg (fun z => e2 z.2)]
                    have f2 : ct G b (i + 1) (G (330 + 2 * a)) = ct G b i (G (330 + 2 * a)) + 0 := by show _ + (if G (10 + 5 * i) = b ∧ (G (330 + 2 * a)).testBit i = true then 1 else 0) = _; rw [if_neg (fun z => e3 z.2)]
                    rw [← f1, ← f2]
                    exact acL d c s tm B nn q dl tx sy T N fi m mm A f G GS r a b ha hb W0 hs m1 (i + 1) (by omega) K
                  · have z932 := nf1_eq h932
                    exact (by omega)
              · have z896 := nf1_eq h896
                exact (by omega)
    · refine xr_stp rfl rfl rfl rfl ?_
      refine xs_i2l (by omega) rfl ?_
      refine xr_stp rfl rfl rfl rfl ?_
      refine xr_stp (st' := .int (Int32.ofNat 4) :: _) rfl rfl rfl rfl ?_
      refine xs_ald hA gA7 (by omega) (by omega) rfl ?_
      refine xs_lc (by omega) (by omega) rfl ?_
      refine xr_j1 rfl rfl rfl rfl rfl (fun h868 => ?_) (fun h868 => ?_)
      · have z868 := lt_ge h868
        exact (by omega)
      · refine xr_stp rfl rfl rfl rfl ?_
        refine xr_stp rfl rfl rfl rfl ?_
        refine xr_stp (st' := .int (Int32.ofNat 10) :: _) rfl rfl rfl rfl ?_
        refine xr_stp (st' := .int (Int32.ofNat 5) :: _) rfl rfl rfl rfl ?_
        refine xr_stp rfl rfl rfl rfl ?_
        refine xs_mul rfl ?_
        refine xs_add rfl ?_
        refine xs_ald hA gA7 (by omega) (by omega) rfl ?_
        refine xr_stp rfl rfl rfl rfl ?_
        refine xs_i2l (by omega) rfl ?_
        refine xs_lc (by omega) (by omega) rfl ?_
        refine xr_j1 rfl rfl rfl rfl rfl (fun h886 => ?_) (fun h886 => ?_)
        · refine xr_stp (st' := .int (Int32.ofNat 0) :: _) rfl rfl rfl rfl ?_
          refine xs_add rfl ?_
          refine xr_stp rfl rfl rfl rfl ?_
          refine xr_stp rfl rfl rfl rfl ?_
          refine xr_stp rfl rfl rfl rfl ?_
          refine xr_stp (st' := .int (Int32.ofNat 10) :: _) rfl rfl rfl rfl ?_
          refine xr_stp (st' := .int (Int32.ofNat 5) :: _) rfl rfl rfl rfl ?_
          refine xr_stp rfl rfl rfl rfl ?_
          refine xs_mul rfl ?_
          refine xs_add rfl ?_
          refine xs_ald hA gA7 (by omega) (by omega) rfl ?_
          refine xr_stp rfl rfl rfl rfl ?_
          refine xs_i2l (by omega) rfl ?_
          refine xs_lc (by omega) (by omega) rfl ?_
          refine xr_j1 rfl rfl rfl rfl rfl (fun h922 => ?_) (fun h922 => ?_)
          · refine xr_stp (st' := .int (Int32.ofNat 0) :: _) rfl rfl rfl rfl ?_
            refine xs_add rfl ?_
            refine xr_stp rfl rfl rfl rfl ?_
            refine xs_inc (e := 1) rfl rfl rfl rfl ?_
            refine xr_stp rfl rfl rfl rfl ?_
            refine xr_loc [(0, .ref 17), (1, .ref 16), (2, .int (Int32.ofNat q)), (3, .ref A), (4, .int (Int32.ofNat tm)), (5, .ref B), (9, .long (Int64.ofNat (aH G 4))), (11, .long (Int64.ofNat (aK G 4))), (17, .int (Int32.ofNat a)), (18, .long (Int64.ofNat (G (330 + 2 * a)))), (20, .long (Int64.ofNat (G (331 + 2 * a)))), (23, .int (Int32.ofNat b)), (24, .long (Int64.ofNat (G (330 + 2 * b)))), (26, .long (Int64.ofNat (G (331 + 2 * b)))), (28, .long (Int64.ofNat (lw_j (G (330 + 2 * a)) (G (331 + 2 * a)) (G (330 + 2 * b)) (G (331 + 2 * b))))), (30, .int (Int32.ofNat (ct G b i (G (331 + 2 * a)) + 0))), (31, .int (Int32.ofNat (ct G b i (G (330 + 2 * a)) + 0))), (32, .int (Int32.ofNat (i + 1)))] ⟨rfl, rfl, rfl, rfl, rfl, rfl, rfl, rfl, rfl, rfl, rfl, rfl, rfl, rfl, rfl, rfl, rfl, rfl, trivial⟩ rfl ?_
            have f1 : ct G b (i + 1) (G (331 + 2 * a)) = ct G b i (G (331 + 2 * a)) + 0 := by show _ + (if G (10 + 5 * i) = b ∧ (G (331 + 2 * a)).testBit i = true then 1 else 0) = _; rw [if_neg (fun z => e1 z.1)]
            have f2 : ct G b (i + 1) (G (330 + 2 * a)) = ct G b i (G (330 + 2 * a)) + 0 := by show _ + (if G (10 + 5 * i) = b ∧ (G (330 + 2 * a)).testBit i = true then 1 else 0) = _; rw [if_neg (fun z => e1 z.1)]
            rw [← f1, ← f2]
            exact acL d c s tm B nn q dl tx sy T N fi m mm A f G GS r a b ha hb W0 hs m1 (i + 1) (by omega) K
          · have z922 := lf_ne h922
            exact (by omega)
        · have z886 := lf_ne h886
          exact (by omega)
