/-! asks: fields, keys -/
theorem vS_lt {G : Nat → Nat} {R : Nat → Nat} : True := trivial
def af_S (G : Nat → Nat) (h y : Nat) : Nat → Nat → Nat → Nat
  | 0, _, sm => sm
  | m + 1, g, sm => af_S G h y m (g + 1) (vS G (lw_row G (lw_of G h y g (G 4) 0 0)) (bc 63 (lw_of G h y g (G 4) 0 0)) 0 sm)
theorem af_S3 (G : Nat → Nat) (h y : Nat) : af_S G h y 3 0 0 = vK G h y 0 + vK G h y 1 + vK G h y 2 := by
  show vS G _ _ 0 (vS G _ _ 0 (vS G _ _ 0 0)) = _
  rw [vS_add G _ _ 0 (vS G _ _ 0 (vS G _ _ 0 0)), vS_add G _ _ 0 (vS G _ _ 0 0)]
  rfl
theorem tL_add (G : Nat → Nat) (h : Nat) : ∀ (p k x t : Nat), tL G h (p + k) x t = tL G h k (x + p) (tL G h p x t)
  | 0, k, x, t => by rw [Nat.zero_add]; rfl
  | p + 1, k, x, t => by
    rw [show p + 1 + k = (p + k) + 1 by omega]
    show tL G h (p + k) (x + 1) _ = tL G h k (x + (p + 1)) (tL G h p (x + 1) _)
    rw [tL_add G h p k (x + 1), show x + 1 + p = x + (p + 1) by omega]
theorem af_L (d : Nat) (tm B : Nat) (nn q dl tx sy T N fi m mm A : Nat) (f : Nat → Int32) (G : Nat → Nat) (GS : Nat → Nat → Nat) (r : xi_R → Prop) (a y : Nat) (ha : a < 4) (hy : y < 4) : ∀ (m1 g tn fs_ sm : Nat) (W0 : xi_W) (c s : Nat), g + m1 = 3 → scn nn f q dl tx sy T N fi m mm G GS A W0 → (∀ W' c' s', c' ≤ c + m1 → s' ≤ s + 63 * m1 → scn nn f q dl tx sy T N fi m mm G GS A W' → fr (fun _ => False) W0 W' → xr (d + 9) 204 681 [(0, .ref 17), (1, .ref 16), (2, .int (Int32.ofNat q)), (3, .ref A), (4, .int (Int32.ofNat tm)), (5, .ref B), (9, .long (Int64.ofNat (aH G 4))), (11, .long (Int64.ofNat (aK G 4))), (17, .int (Int32.ofNat a)), (18, .long (Int64.ofNat (G (330 + 2 * a)))), (20, .long (Int64.ofNat (G (331 + 2 * a)))), (22, .int (Int32.ofNat (tL G (G (330 + 2 * a)) m1 (3 * y + g) tn))), (23, .int (Int32.ofNat y)), (24, .long (Int64.ofNat (lw_of G (G (330 + 2 * a)) y 4294967295 (G 4) 0 0))), (26, .int (Int32.ofNat (fL G (G (330 + 2 * a)) y m1 g fs_))), (27, .int (Int32.ofNat (af_S G (G (330 + 2 * a)) y m1 g sm))), (28, .int (Int32.ofNat 3))] [] W' c' s' r) → xr (d + 9) 204 442 [(0, .ref 17), (1, .ref 16), (2, .int (Int32.ofNat q)), (3, .ref A), (4, .int (Int32.ofNat tm)), (5, .ref B), (9, .long (Int64.ofNat (aH G 4))), (11, .long (Int64.ofNat (aK G 4))), (17, .int (Int32.ofNat a)), (18, .long (Int64.ofNat (G (330 + 2 * a)))), (20, .long (Int64.ofNat (G (331 + 2 * a)))), (22, .int (Int32.ofNat tn)), (23, .int (Int32.ofNat y)), (24, .long (Int64.ofNat (lw_of G (G (330 + 2 * a)) y 4294967295 (G 4) 0 0))), (26, .int (Int32.ofNat fs_)), (27, .int (Int32.ofNat sm)), (28, .int (Int32.ofNat g))] [] W0 c s r
  | 0, g, tn, fs_, sm, W0, c, s, hg3, hs, K => by
    obtain rfl : g = 3 := by omega
    unfold tL fL af_S at K
    refine xr_stp rfl rfl rfl rfl ?_
    refine xr_stp (st' := .int (Int32.ofNat 3) :: _) rfl rfl rfl rfl ?_
    refine xr_j2 rfl rfl rfl rfl rfl (fun h445 => ?_) (fun h445 => ?_)
    · refine xr_loc [(0, .ref 17), (1, .ref 16), (2, .int (Int32.ofNat q)), (3, .ref A), (4, .int (Int32.ofNat tm)), (5, .ref B), (9, .long (Int64.ofNat (aH G 4))), (11, .long (Int64.ofNat (aK G 4))), (17, .int (Int32.ofNat a)), (18, .long (Int64.ofNat (G (330 + 2 * a)))), (20, .long (Int64.ofNat (G (331 + 2 * a)))), (22, .int (Int32.ofNat tn)), (23, .int (Int32.ofNat y)), (24, .long (Int64.ofNat (lw_of G (G (330 + 2 * a)) y 4294967295 (G 4) 0 0))), (26, .int (Int32.ofNat fs_)), (27, .int (Int32.ofNat sm)), (28, .int (Int32.ofNat 3))] ⟨rfl, rfl, rfl, rfl, rfl, rfl, rfl, rfl, rfl, rfl, rfl, rfl, rfl, rfl, rfl, rfl, rfl, trivial⟩ rfl ?_
      exact K W0 c s (by omega) (by omega) hs fr.rf
    · have z445 := nf_ge (by omega) (by omega) h445
      exact (by omega)
  | m1 + 1, g, tn, fs_, sm, W0, c, s, hg3, hs, K => by
    unfold tL fL af_S at K
    have hg : g < 3 := by omega
    rw [show (3 * y + g) / 3 = y by omega, show (3 * y + g) % 3 = g by omega] at K
    obtain ⟨hc, hA, hS, gA, hz, hN, hnn⟩ := id hs
    obtain ⟨F, hw, hr⟩ := hc.w
    have J := hr.j
    have he := hr.e
    have J4 := J.e
    have b63 := J.b63
    have gA7 : 17 ≤ A := by omega
    obtain ⟨lf, lp, hO⟩ := hc.o
    have hn63 := bcle 63 (lw_of G (G (330 + 2 * a)) y g (G 4) 0 0)
    have hbl : lw_of G (G (330 + 2 * a)) y g (G 4) 0 0 < 9223372036854775808 := by have := lt62 J4 (lw_of_lt G (G (330 + 2 * a)) y g); omega
    by_cases hn2 : 1 < bc 63 (lw_of G (G (330 + 2 * a)) y g (G 4) 0 0)
    · rw [if_pos hn2, if_pos (show 0 < bc 63 (lw_of G (G (330 + 2 * a)) y g (G 4) 0 0) by omega)] at K
      refine xr_stp rfl rfl rfl rfl ?_
      refine xr_stp (st' := .int (Int32.ofNat 3) :: _) rfl rfl rfl rfl ?_
      refine xr_j2 rfl rfl rfl rfl rfl (fun h445 => ?_) (fun h445 => ?_)
      · have z445 := nt_ge (by omega) (by omega) h445
        exact (by omega)
      · refine xr_stp rfl rfl rfl rfl ?_
        refine xr_stp rfl rfl rfl rfl ?_
        refine xr_stp rfl rfl rfl rfl ?_
        refine xr_stp rfl rfl rfl rfl ?_
        refine xr_stp rfl rfl rfl rfl ?_
        refine xr_cps rfl rfl rfl (fun r1 K2 => lw_ofm _ _ _ A W0 G hA gA7 b63 (by omega) (G (330 + 2 * a)) y g (b63 _) hy (Or.inl hg) r1 (K2 _ _ _ _ ?_))
        refine xr_cps rfl rfl rfl (fun r1 K2 => lw_sorted _ _ _ A W0 G hA gA7 b63 J4 (lw_of G (G (330 + 2 * a)) y g (G 4) 0 0) hbl r1 (fun R W1 zR hR hA1 hf1 => K2 _ _ _ _ ?_))
        have hs1 := hs.new hf1
        have gR : 17 ≤ R := by have := hc.l; omega
        clear hA hS hO
        obtain ⟨hc1, hA, hS, -⟩ := id hs1
        obtain ⟨lf, lp, hO⟩ := hc1.o
        refine xr_stp rfl rfl rfl rfl ?_
        refine xr_stp rfl rfl rfl rfl ?_
        refine xr_stp rfl rfl rfl rfl ?_
        refine xs_iln hR rfl ?_
        refine xr_stp (st' := .int (Int32.ofNat 1) :: _) rfl rfl rfl rfl ?_
        refine xr_j2 rfl rfl rfl rfl rfl (fun h470 => ?_) (fun h470 => ?_)
        · have z470 := nt_le (by omega) (by omega) h470
          exact (by omega)
        · refine xr_stp (st' := .int (Int32.ofNat 1) :: _) rfl rfl rfl rfl ?_
          refine xr_stp rfl rfl rfl rfl ?_
          refine xs_add rfl ?_
          refine xr_stp rfl rfl rfl rfl ?_
          refine xr_stp rfl rfl rfl rfl ?_
          refine xr_stp rfl rfl rfl rfl ?_
          refine xs_iln hR rfl ?_
          refine xr_j1 rfl rfl rfl rfl rfl (fun h486 => ?_) (fun h486 => ?_)
          · have z486 := nt1_le (by omega) h486
            exact (by omega)
          · refine xr_stp (st' := .int (Int32.ofNat 1) :: _) rfl rfl rfl rfl ?_
            refine xr_stp rfl rfl rfl rfl ?_
            refine xs_shl (by omega) rfl ?_
            refine xr_stp rfl rfl rfl rfl ?_
            refine xs_or rfl ?_
            refine xr_stp rfl rfl rfl rfl ?_
            refine xr_stp (st' := .long (Int64.ofNat 18446744073709551615) :: _) rfl rfl rfl rfl ?_
            refine xr_stp rfl rfl rfl rfl ?_
            refine xr_stp (st' := .int (Int32.ofNat 4294967295) :: _) rfl rfl rfl rfl ?_
            refine xr_stp rfl rfl rfl rfl ?_
            refine xr_stp rfl rfl rfl rfl ?_
            refine xr_stp rfl rfl rfl rfl ?_
            refine xr_stp rfl rfl rfl rfl ?_
            refine xr_stp rfl rfl rfl rfl ?_
            refine xr_stp (st' := .int (Int32.ofNat 4294967295) :: _) rfl rfl rfl rfl ?_
            refine xr_vcps hO rfl rfl rfl rfl rfl rfl (fun r1 K2 => cq_valN _ _ _ nn q dl tx sy T N fi m mm f W1 G GS hc1 a y g ha hy hg r1 (K2 _ _ _ _ ?_))
            refine xr_stp rfl rfl rfl rfl ?_
            refine xs_iln hR rfl ?_
            refine xr_j2 rfl rfl rfl rfl rfl (fun h522 => ?_) (fun h522 => ?_)
            · have z522 := nt_ne h522
              exact (by omega)
            · refine xr_stp rfl rfl rfl rfl ?_
              refine xr_stp rfl rfl rfl rfl ?_
              refine xr_stp rfl rfl rfl rfl ?_
              refine xr_stp rfl rfl rfl rfl ?_
              refine xr_stp rfl rfl rfl rfl ?_
              refine xs_iln hR rfl ?_
              refine xr_vcps hO rfl rfl rfl rfl rfl rfl (fun r1 K2 => cq_valE _ _ _ nn q dl tx sy T N fi m mm f W1 G GS hc1 a y g ha hy hg _ (Nat.le_refl _) (by omega) r1 (K2 _ _ _ _ ?_))
              refine xr_stp (st' := .int (Int32.ofNat 4294967294) :: _) rfl rfl rfl rfl ?_
              refine xr_j2 rfl rfl rfl rfl rfl (fun h540 => ?_) (fun h540 => ?_)
              · refine xr_stp (st' := .int (Int32.ofNat 0) :: _) rfl rfl rfl rfl ?_
                refine xr_stp rfl rfl rfl rfl ?_
                refine xr_loc [(0, .ref 17), (1, .ref 16), (2, .int (Int32.ofNat q)), (3, .ref A), (4, .int (Int32.ofNat tm)), (5, .ref B), (9, .long (Int64.ofNat (aH G 4))), (11, .long (Int64.ofNat (aK G 4))), (17, .int (Int32.ofNat a)), (18, .long (Int64.ofNat (G (330 + 2 * a)))), (20, .long (Int64.ofNat (G (331 + 2 * a)))), (22, .int (Int32.ofNat (tn + 1))), (23, .int (Int32.ofNat y)), (24, .long (Int64.ofNat (lw_of G (G (330 + 2 * a)) y 4294967295 (G 4) 0 0))), (26, .int (Int32.ofNat (fs_ ||| 1 * 2 ^ g))), (27, .int (Int32.ofNat sm)), (28, .int (Int32.ofNat g)), (29, .ref R), (30, .long (Int64.ofNat 18446744073709551615)), (32, .int (Int32.ofNat 4294967295)), (33, .int (Int32.ofNat 0))] ⟨rfl, rfl, rfl, rfl, rfl, rfl, rfl, rfl, rfl, rfl, rfl, rfl, rfl, rfl, rfl, rfl, rfl, rfl, rfl, rfl, rfl, trivial⟩ rfl ?_
                refine ae_0 d _ _ tm B nn q dl tx sy T N fi m mm A f G GS r a y ha hy g (fs_ ||| 1 * 2 ^ g) (tn + 1) sm R W1 hg hs1 hR gR ?_
                refine xr_stp rfl rfl rfl rfl ?_
                refine xr_stp rfl rfl rfl rfl ?_
                refine xr_stp rfl rfl rfl rfl ?_
                refine xr_stp rfl rfl rfl rfl ?_
                refine xr_vcps hO rfl rfl rfl rfl rfl rfl (fun r1 K2 => cq_win _ _ _ nn q dl tx sy T N fi m mm f W1 G GS hc1 a y g ha hy hg r1 (K2 _ _ _ _ ?_))
                refine xr_stp rfl rfl rfl rfl ?_
                refine xr_j2 rfl rfl rfl rfl rfl (fun h670 => ?_) (fun h670 => ?_)
                · refine xs_inc (e := 1) rfl rfl rfl rfl ?_
                  refine xr_stp rfl rfl rfl rfl ?_
                  refine xr_loc [(0, .ref 17), (1, .ref 16), (2, .int (Int32.ofNat q)), (3, .ref A), (4, .int (Int32.ofNat tm)), (5, .ref B), (9, .long (Int64.ofNat (aH G 4))), (11, .long (Int64.ofNat (aK G 4))), (17, .int (Int32.ofNat a)), (18, .long (Int64.ofNat (G (330 + 2 * a)))), (20, .long (Int64.ofNat (G (331 + 2 * a)))), (22, .int (Int32.ofNat (tn + 1))), (23, .int (Int32.ofNat y)), (24, .long (Int64.ofNat (lw_of G (G (330 + 2 * a)) y 4294967295 (G 4) 0 0))), (26, .int (Int32.ofNat (fs_ ||| 1 * 2 ^ g))), (27, .int (Int32.ofNat (vS G (lw_row G (lw_of G (G (330 + 2 * a)) y g (G 4) 0 0)) (bc 63 (lw_of G (G (330 + 2 * a)) y g (G 4) 0 0)) 0 sm))), (28, .int (Int32.ofNat (g + 1)))] ⟨rfl, rfl, rfl, rfl, rfl, rfl, rfl, rfl, rfl, rfl, rfl, rfl, rfl, rfl, rfl, rfl, rfl, trivial⟩ rfl ?_
                  exact af_L d tm B nn q dl tx sy T N fi m mm A f G GS r a y ha hy m1 (g + 1) _ _ _ W1 _ _ (by omega) hs1 (fun W5 c5 s5 k1 k2 k3 k4 => K W5 c5 s5 (by omega) (by omega) k3 (hf1.tr k4))
                · have z670 := nf_eq h670
                  exact (by omega)
              · have z540 := nf_eq h540
                exact (by omega)
    · rw [if_neg hn2] at K
      by_cases hn0 : 0 < bc 63 (lw_of G (G (330 + 2 * a)) y g (G 4) 0 0)
      · rw [if_pos hn0] at K
        refine xr_stp rfl rfl rfl rfl ?_
        refine xr_stp (st' := .int (Int32.ofNat 3) :: _) rfl rfl rfl rfl ?_
        refine xr_j2 rfl rfl rfl rfl rfl (fun h445 => ?_) (fun h445 => ?_)
        · have z445 := nt_ge (by omega) (by omega) h445
          exact (by omega)
        · refine xr_stp rfl rfl rfl rfl ?_
          refine xr_stp rfl rfl rfl rfl ?_
          refine xr_stp rfl rfl rfl rfl ?_
          refine xr_stp rfl rfl rfl rfl ?_
          refine xr_stp rfl rfl rfl rfl ?_
          refine xr_cps rfl rfl rfl (fun r1 K2 => lw_ofm _ _ _ A W0 G hA gA7 b63 (by omega) (G (330 + 2 * a)) y g (b63 _) hy (Or.inl hg) r1 (K2 _ _ _ _ ?_))
          refine xr_cps rfl rfl rfl (fun r1 K2 => lw_sorted _ _ _ A W0 G hA gA7 b63 J4 (lw_of G (G (330 + 2 * a)) y g (G 4) 0 0) hbl r1 (fun R W1 zR hR hA1 hf1 => K2 _ _ _ _ ?_))
          have hs1 := hs.new hf1
          have gR : 17 ≤ R := by have := hc.l; omega
          clear hA hS hO
          obtain ⟨hc1, hA, hS, -⟩ := id hs1
          obtain ⟨lf, lp, hO⟩ := hc1.o
          refine xr_stp rfl rfl rfl rfl ?_
          refine xr_stp rfl rfl rfl rfl ?_
          refine xr_stp rfl rfl rfl rfl ?_
          refine xs_iln hR rfl ?_
          refine xr_stp (st' := .int (Int32.ofNat 1) :: _) rfl rfl rfl rfl ?_
          refine xr_j2 rfl rfl rfl rfl rfl (fun h470 => ?_) (fun h470 => ?_)
          · refine xr_stp (st' := .int (Int32.ofNat 0) :: _) rfl rfl rfl rfl ?_
            refine xs_add rfl ?_
            refine xr_stp rfl rfl rfl rfl ?_
            refine xr_stp rfl rfl rfl rfl ?_
            refine xr_stp rfl rfl rfl rfl ?_
            refine xs_iln hR rfl ?_
            refine xr_j1 rfl rfl rfl rfl rfl (fun h486 => ?_) (fun h486 => ?_)
            · have z486 := nt1_le (by omega) h486
              exact (by omega)
            · refine xr_stp (st' := .int (Int32.ofNat 1) :: _) rfl rfl rfl rfl ?_
              refine xr_stp rfl rfl rfl rfl ?_
              refine xs_shl (by omega) rfl ?_
              refine xr_stp rfl rfl rfl rfl ?_
              refine xs_or rfl ?_
              refine xr_stp rfl rfl rfl rfl ?_
              refine xr_stp (st' := .long (Int64.ofNat 18446744073709551615) :: _) rfl rfl rfl rfl ?_
              refine xr_stp rfl rfl rfl rfl ?_
              refine xr_stp (st' := .int (Int32.ofNat 4294967295) :: _) rfl rfl rfl rfl ?_
              refine xr_stp rfl rfl rfl rfl ?_
              refine xr_stp rfl rfl rfl rfl ?_
              refine xr_stp rfl rfl rfl rfl ?_
              refine xr_stp rfl rfl rfl rfl ?_
              refine xr_stp rfl rfl rfl rfl ?_
              refine xr_stp (st' := .int (Int32.ofNat 4294967295) :: _) rfl rfl rfl rfl ?_
              refine xr_vcps hO rfl rfl rfl rfl rfl rfl (fun r1 K2 => cq_valN _ _ _ nn q dl tx sy T N fi m mm f W1 G GS hc1 a y g ha hy hg r1 (K2 _ _ _ _ ?_))
              refine xr_stp rfl rfl rfl rfl ?_
              refine xs_iln hR rfl ?_
              refine xr_j2 rfl rfl rfl rfl rfl (fun h522 => ?_) (fun h522 => ?_)
              · have z522 := nt_ne h522
                exact (by omega)
              · refine xr_stp rfl rfl rfl rfl ?_
                refine xr_stp rfl rfl rfl rfl ?_
                refine xr_stp rfl rfl rfl rfl ?_
                refine xr_stp rfl rfl rfl rfl ?_
                refine xr_stp rfl rfl rfl rfl ?_
                refine xs_iln hR rfl ?_
                refine xr_vcps hO rfl rfl rfl rfl rfl rfl (fun r1 K2 => cq_valE _ _ _ nn q dl tx sy T N fi m mm f W1 G GS hc1 a y g ha hy hg _ (Nat.le_refl _) (by omega) r1 (K2 _ _ _ _ ?_))
                refine xr_stp (st' := .int (Int32.ofNat 4294967294) :: _) rfl rfl rfl rfl ?_
                refine xr_j2 rfl rfl rfl rfl rfl (fun h540 => ?_) (fun h540 => ?_)
                · refine xr_stp (st' := .int (Int32.ofNat 0) :: _) rfl rfl rfl rfl ?_
                  refine xr_stp rfl rfl rfl rfl ?_
                  refine xr_loc [(0, .ref 17), (1, .ref 16), (2, .int (Int32.ofNat q)), (3, .ref A), (4, .int (Int32.ofNat tm)), (5, .ref B), (9, .long (Int64.ofNat (aH G 4))), (11, .long (Int64.ofNat (aK G 4))), (17, .int (Int32.ofNat a)), (18, .long (Int64.ofNat (G (330 + 2 * a)))), (20, .long (Int64.ofNat (G (331 + 2 * a)))), (22, .int (Int32.ofNat (tn + 0))), (23, .int (Int32.ofNat y)), (24, .long (Int64.ofNat (lw_of G (G (330 + 2 * a)) y 4294967295 (G 4) 0 0))), (26, .int (Int32.ofNat (fs_ ||| 1 * 2 ^ g))), (27, .int (Int32.ofNat sm)), (28, .int (Int32.ofNat g)), (29, .ref R), (30, .long (Int64.ofNat 18446744073709551615)), (32, .int (Int32.ofNat 4294967295)), (33, .int (Int32.ofNat 0))] ⟨rfl, rfl, rfl, rfl, rfl, rfl, rfl, rfl, rfl, rfl, rfl, rfl, rfl, rfl, rfl, rfl, rfl, rfl, rfl, rfl, rfl, trivial⟩ rfl ?_
                  refine ae_0 d _ _ tm B nn q dl tx sy T N fi m mm A f G GS r a y ha hy g (fs_ ||| 1 * 2 ^ g) (tn + 0) sm R W1 hg hs1 hR gR ?_
                  refine xr_stp rfl rfl rfl rfl ?_
                  refine xr_stp rfl rfl rfl rfl ?_
                  refine xr_stp rfl rfl rfl rfl ?_
                  refine xr_stp rfl rfl rfl rfl ?_
                  refine xr_vcps hO rfl rfl rfl rfl rfl rfl (fun r1 K2 => cq_win _ _ _ nn q dl tx sy T N fi m mm f W1 G GS hc1 a y g ha hy hg r1 (K2 _ _ _ _ ?_))
                  refine xr_stp rfl rfl rfl rfl ?_
                  refine xr_j2 rfl rfl rfl rfl rfl (fun h670 => ?_) (fun h670 => ?_)
                  · refine xs_inc (e := 1) rfl rfl rfl rfl ?_
                    refine xr_stp rfl rfl rfl rfl ?_
                    refine xr_loc [(0, .ref 17), (1, .ref 16), (2, .int (Int32.ofNat q)), (3, .ref A), (4, .int (Int32.ofNat tm)), (5, .ref B), (9, .long (Int64.ofNat (aH G 4))), (11, .long (Int64.ofNat (aK G 4))), (17, .int (Int32.ofNat a)), (18, .long (Int64.ofNat (G (330 + 2 * a)))), (20, .long (Int64.ofNat (G (331 + 2 * a)))), (22, .int (Int32.ofNat (tn + 0))), (23, .int (Int32.ofNat y)), (24, .long (Int64.ofNat (lw_of G (G (330 + 2 * a)) y 4294967295 (G 4) 0 0))), (26, .int (Int32.ofNat (fs_ ||| 1 * 2 ^ g))), (27, .int (Int32.ofNat (vS G (lw_row G (lw_of G (G (330 + 2 * a)) y g (G 4) 0 0)) (bc 63 (lw_of G (G (330 + 2 * a)) y g (G 4) 0 0)) 0 sm))), (28, .int (Int32.ofNat (g + 1)))] ⟨rfl, rfl, rfl, rfl, rfl, rfl, rfl, rfl, rfl, rfl, rfl, rfl, rfl, rfl, rfl, rfl, rfl, trivial⟩ rfl ?_
                    exact af_L d tm B nn q dl tx sy T N fi m mm A f G GS r a y ha hy m1 (g + 1) _ _ _ W1 _ _ (by omega) hs1 (fun W5 c5 s5 k1 k2 k3 k4 => K W5 c5 s5 (by omega) (by omega) k3 (hf1.tr k4))
                  · have z670 := nf_eq h670
                    exact (by omega)
                · have z540 := nf_eq h540
                  exact (by omega)
          · have z470 := nf_le (by omega) (by omega) h470
            exact (by omega)

      · rw [if_neg hn0] at K
        refine xr_stp rfl rfl rfl rfl ?_
        refine xr_stp (st' := .int (Int32.ofNat 3) :: _) rfl rfl rfl rfl ?_
        refine xr_j2 rfl rfl rfl rfl rfl (fun h445 => ?_) (fun h445 => ?_)
        · have z445 := nt_ge (by omega) (by omega) h445
          exact (by omega)
        · refine xr_stp rfl rfl rfl rfl ?_
          refine xr_stp rfl rfl rfl rfl ?_
          refine xr_stp rfl rfl rfl rfl ?_
          refine xr_stp rfl rfl rfl rfl ?_
          refine xr_stp rfl rfl rfl rfl ?_
          refine xr_cps rfl rfl rfl (fun r1 K2 => lw_ofm _ _ _ A W0 G hA gA7 b63 (by omega) (G (330 + 2 * a)) y g (b63 _) hy (Or.inl hg) r1 (K2 _ _ _ _ ?_))
          refine xr_cps rfl rfl rfl (fun r1 K2 => lw_sorted _ _ _ A W0 G hA gA7 b63 J4 (lw_of G (G (330 + 2 * a)) y g (G 4) 0 0) hbl r1 (fun R W1 zR hR hA1 hf1 => K2 _ _ _ _ ?_))
          have hs1 := hs.new hf1
          have gR : 17 ≤ R := by have := hc.l; omega
          clear hA hS hO
          obtain ⟨hc1, hA, hS, -⟩ := id hs1
          obtain ⟨lf, lp, hO⟩ := hc1.o
          refine xr_stp rfl rfl rfl rfl ?_
          refine xr_stp rfl rfl rfl rfl ?_
          refine xr_stp rfl rfl rfl rfl ?_
          refine xs_iln hR rfl ?_
          refine xr_stp (st' := .int (Int32.ofNat 1) :: _) rfl rfl rfl rfl ?_
          refine xr_j2 rfl rfl rfl rfl rfl (fun h470 => ?_) (fun h470 => ?_)
          · refine xr_stp (st' := .int (Int32.ofNat 0) :: _) rfl rfl rfl rfl ?_
            refine xs_add rfl ?_
            refine xr_stp rfl rfl rfl rfl ?_
            refine xr_stp rfl rfl rfl rfl ?_
            refine xr_stp rfl rfl rfl rfl ?_
            refine xs_iln hR rfl ?_
            refine xr_j1 rfl rfl rfl rfl rfl (fun h486 => ?_) (fun h486 => ?_)
            · refine xr_stp (st' := .int (Int32.ofNat 0) :: _) rfl rfl rfl rfl ?_
              refine xs_or rfl ?_
              refine xr_stp rfl rfl rfl rfl ?_
              refine xr_stp (st' := .long (Int64.ofNat 18446744073709551615) :: _) rfl rfl rfl rfl ?_
              refine xr_stp rfl rfl rfl rfl ?_
              refine xr_stp (st' := .int (Int32.ofNat 4294967295) :: _) rfl rfl rfl rfl ?_
              refine xr_stp rfl rfl rfl rfl ?_
              refine xr_stp rfl rfl rfl rfl ?_
              refine xr_stp rfl rfl rfl rfl ?_
              refine xr_stp rfl rfl rfl rfl ?_
              refine xr_stp rfl rfl rfl rfl ?_
              refine xr_stp (st' := .int (Int32.ofNat 4294967295) :: _) rfl rfl rfl rfl ?_
              refine xr_vcps hO rfl rfl rfl rfl rfl rfl (fun r1 K2 => cq_valN _ _ _ nn q dl tx sy T N fi m mm f W1 G GS hc1 a y g ha hy hg r1 (K2 _ _ _ _ ?_))
              refine xr_stp rfl rfl rfl rfl ?_
              refine xs_iln hR rfl ?_
              refine xr_j2 rfl rfl rfl rfl rfl (fun h522 => ?_) (fun h522 => ?_)
              · have z522 := nt_ne h522
                exact (by omega)
              · refine xr_stp rfl rfl rfl rfl ?_
                refine xr_stp rfl rfl rfl rfl ?_
                refine xr_stp rfl rfl rfl rfl ?_
                refine xr_stp rfl rfl rfl rfl ?_
                refine xr_stp rfl rfl rfl rfl ?_
                refine xs_iln hR rfl ?_
                refine xr_vcps hO rfl rfl rfl rfl rfl rfl (fun r1 K2 => cq_valE _ _ _ nn q dl tx sy T N fi m mm f W1 G GS hc1 a y g ha hy hg _ (Nat.le_refl _) (by omega) r1 (K2 _ _ _ _ ?_))
                refine xr_stp (st' := .int (Int32.ofNat 4294967294) :: _) rfl rfl rfl rfl ?_
                refine xr_j2 rfl rfl rfl rfl rfl (fun h540 => ?_) (fun h540 => ?_)
                · refine xr_stp (st' := .int (Int32.ofNat 0) :: _) rfl rfl rfl rfl ?_
                  refine xr_stp rfl rfl rfl rfl ?_
                  refine xr_loc [(0, .ref 17), (1, .ref 16), (2, .int (Int32.ofNat q)), (3, .ref A), (4, .int (Int32.ofNat tm)), (5, .ref B), (9, .long (Int64.ofNat (aH G 4))), (11, .long (Int64.ofNat (aK G 4))), (17, .int (Int32.ofNat a)), (18, .long (Int64.ofNat (G (330 + 2 * a)))), (20, .long (Int64.ofNat (G (331 + 2 * a)))), (22, .int (Int32.ofNat (tn + 0))), (23, .int (Int32.ofNat y)), (24, .long (Int64.ofNat (lw_of G (G (330 + 2 * a)) y 4294967295 (G 4) 0 0))), (26, .int (Int32.ofNat (fs_ ||| 0))), (27, .int (Int32.ofNat sm)), (28, .int (Int32.ofNat g)), (29, .ref R), (30, .long (Int64.ofNat 18446744073709551615)), (32, .int (Int32.ofNat 4294967295)), (33, .int (Int32.ofNat 0))] ⟨rfl, rfl, rfl, rfl, rfl, rfl, rfl, rfl, rfl, rfl, rfl, rfl, rfl, rfl, rfl, rfl, rfl, rfl, rfl, rfl, rfl, trivial⟩ rfl ?_
                  refine ae_0 d _ _ tm B nn q dl tx sy T N fi m mm A f G GS r a y ha hy g (fs_ ||| 0) (tn + 0) sm R W1 hg hs1 hR gR ?_
                  refine xr_stp rfl rfl rfl rfl ?_
                  refine xr_stp rfl rfl rfl rfl ?_
                  refine xr_stp rfl rfl rfl rfl ?_
                  refine xr_stp rfl rfl rfl rfl ?_
                  refine xr_vcps hO rfl rfl rfl rfl rfl rfl (fun r1 K2 => cq_win _ _ _ nn q dl tx sy T N fi m mm f W1 G GS hc1 a y g ha hy hg r1 (K2 _ _ _ _ ?_))
                  refine xr_stp rfl rfl rfl rfl ?_
                  refine xr_j2 rfl rfl rfl rfl rfl (fun h670 => ?_) (fun h670 => ?_)
                  · refine xs_inc (e := 1) rfl rfl rfl rfl ?_
                    refine xr_stp rfl rfl rfl rfl ?_
                    refine xr_loc [(0, .ref 17), (1, .ref 16), (2, .int (Int32.ofNat q)), (3, .ref A), (4, .int (Int32.ofNat tm)), (5, .ref B), (9, .long (Int64.ofNat (aH G 4))), (11, .long (Int64.ofNat (aK G 4))), (17, .int (Int32.ofNat a)), (18, .long (Int64.ofNat (G (330 + 2 * a)))), (20, .long (Int64.ofNat (G (331 + 2 * a)))), (22, .int (Int32.ofNat (tn + 0))), (23, .int (Int32.ofNat y)), (24, .long (Int64.ofNat (lw_of G (G (330 + 2 * a)) y 4294967295 (G 4) 0 0))), (26, .int (Int32.ofNat (fs_ ||| 0))), (27, .int (Int32.ofNat (vS G (lw_row G (lw_of G (G (330 + 2 * a)) y g (G 4) 0 0)) (bc 63 (lw_of G (G (330 + 2 * a)) y g (G 4) 0 0)) 0 sm))), (28, .int (Int32.ofNat (g + 1)))] ⟨rfl, rfl, rfl, rfl, rfl, rfl, rfl, rfl, rfl, rfl, rfl, rfl, rfl, rfl, rfl, rfl, rfl, trivial⟩ rfl ?_
                    exact af_L d tm B nn q dl tx sy T N fi m mm A f G GS r a y ha hy m1 (g + 1) _ _ _ W1 _ _ (by omega) hs1 (fun W5 c5 s5 k1 k2 k3 k4 => K W5 c5 s5 (by omega) (by omega) k3 (hf1.tr k4))
                  · have z670 := nf_eq h670
                    exact (by omega)
                · have z540 := nf_eq h540
                  exact (by omega)
            · have z486 := nf1_le (by omega) h486
              exact (by omega)
          · have z470 := nf_le (by omega) (by omega) h470
            exact (by omega)

theorem ak_L (d : Nat) (tm B : Nat) (nn q dl tx sy T N fi m mm A : Nat) (f : Nat → Int32) (G : Nat → Nat) (GS : Nat → Nat → Nat) (r : xi_R → Prop) (a : Nat) (ha : a < 4) (haH : aH G 4 < 9223372036854775808) : ∀ (m1 y tn : Nat) (W0 : xi_W) (c s : Nat), y + m1 = 4 → scn nn f q dl tx sy T N fi m mm G GS A W0 → (∀ W' c' s', c' ≤ c + 3 * m1 → s' ≤ s + 189 * m1 → scn nn f q dl tx sy T N fi m mm G GS A W' → fr pq W0 W' → xr (d + 9) 204 745 [(0, .ref 17), (1, .ref 16), (2, .int (Int32.ofNat q)), (3, .ref A), (4, .int (Int32.ofNat tm)), (5, .ref B), (9, .long (Int64.ofNat (aH G 4))), (11, .long (Int64.ofNat (aK G 4))), (17, .int (Int32.ofNat a)), (18, .long (Int64.ofNat (G (330 + 2 * a)))), (20, .long (Int64.ofNat (G (331 + 2 * a)))), (22, .int (Int32.ofNat (tL G (G (330 + 2 * a)) (3 * m1) (3 * y) tn)))] [] W' c' s' r) → xr (d + 9) 204 416 [(0, .ref 17), (1, .ref 16), (2, .int (Int32.ofNat q)), (3, .ref A), (4, .int (Int32.ofNat tm)), (5, .ref B), (9, .long (Int64.ofNat (aH G 4))), (11, .long (Int64.ofNat (aK G 4))), (17, .int (Int32.ofNat a)), (18, .long (Int64.ofNat (G (330 + 2 * a)))), (20, .long (Int64.ofNat (G (331 + 2 * a)))), (22, .int (Int32.ofNat tn)), (23, .int (Int32.ofNat y))] [] W0 c s r
  | 0, y, tn, W0, c, s, hy4, hs, K => by
    obtain rfl : y = 4 := by omega
    unfold tL at K
    refine xr_stp rfl rfl rfl rfl ?_
    refine xr_stp (st' := .int (Int32.ofNat 4) :: _) rfl rfl rfl rfl ?_
    refine xr_j2 rfl rfl rfl rfl rfl (fun h419 => ?_) (fun h419 => ?_)
    · refine xr_loc [(0, .ref 17), (1, .ref 16), (2, .int (Int32.ofNat q)), (3, .ref A), (4, .int (Int32.ofNat tm)), (5, .ref B), (9, .long (Int64.ofNat (aH G 4))), (11, .long (Int64.ofNat (aK G 4))), (17, .int (Int32.ofNat a)), (18, .long (Int64.ofNat (G (330 + 2 * a)))), (20, .long (Int64.ofNat (G (331 + 2 * a)))), (22, .int (Int32.ofNat tn))] ⟨rfl, rfl, rfl, rfl, rfl, rfl, rfl, rfl, rfl, rfl, rfl, rfl, trivial⟩ rfl ?_
      exact K W0 c s (by omega) (by omega) hs fr.rf
    · have z419 := nf_ge (by omega) (by omega) h419
      exact (by omega)
  | m1 + 1, y, tn, W0, c, s, hy4, hs, K => by
    have hy : y < 4 := by omega
    obtain ⟨hc, hA, hS, gA, hz, hN, hnn⟩ := id hs
    obtain ⟨F, hw, hr⟩ := hc.w
    have J := hr.j
    have he := hr.e
    have J4 := J.e
    have b63 := J.b63
    have gA7 : 17 ≤ A := by omega
    obtain ⟨lf, lp, hO⟩ := hc.o
    have hoa : lw_of G (aH G 4) y 4294967295 (G 4) 0 0 < 9223372036854775808 := by have := lt62 J4 (lw_of_lt G (aH G 4) y 4294967295); omega
    refine xr_stp rfl rfl rfl rfl ?_
    refine xr_stp (st' := .int (Int32.ofNat 4) :: _) rfl rfl rfl rfl ?_
    refine xr_j2 rfl rfl rfl rfl rfl (fun h419 => ?_) (fun h419 => ?_)
    · have z419 := nt_ge (by omega) (by omega) h419
      exact (by omega)
    · refine xr_stp rfl rfl rfl rfl ?_
      refine xr_stp rfl rfl rfl rfl ?_
      refine xr_stp rfl rfl rfl rfl ?_
      refine xr_stp (st' := .int (Int32.ofNat 4294967295) :: _) rfl rfl rfl rfl ?_
      refine xr_cps rfl rfl rfl (fun r1 K2 => lw_ofm _ _ _ A W0 G hA gA7 b63 (by omega) (G (330 + 2 * a)) y 4294967295 (b63 _) hy (Or.inr rfl) r1 (K2 _ _ _ _ ?_))
      refine xr_stp rfl rfl rfl rfl ?_
      refine xr_stp (st' := .int (Int32.ofNat 0) :: _) rfl rfl rfl rfl ?_
      refine xr_stp rfl rfl rfl rfl ?_
      refine xr_stp (st' := .int (Int32.ofNat 0) :: _) rfl rfl rfl rfl ?_
      refine xr_stp rfl rfl rfl rfl ?_
      refine xr_stp (st' := .int (Int32.ofNat 0) :: _) rfl rfl rfl rfl ?_
      refine xr_stp rfl rfl rfl rfl ?_
      refine xr_loc [(0, .ref 17), (1, .ref 16), (2, .int (Int32.ofNat q)), (3, .ref A), (4, .int (Int32.ofNat tm)), (5, .ref B), (9, .long (Int64.ofNat (aH G 4))), (11, .long (Int64.ofNat (aK G 4))), (17, .int (Int32.ofNat a)), (18, .long (Int64.ofNat (G (330 + 2 * a)))), (20, .long (Int64.ofNat (G (331 + 2 * a)))), (22, .int (Int32.ofNat tn)), (23, .int (Int32.ofNat y)), (24, .long (Int64.ofNat (lw_of G (G (330 + 2 * a)) y 4294967295 (G 4) 0 0))), (26, .int (Int32.ofNat 0)), (27, .int (Int32.ofNat 0)), (28, .int (Int32.ofNat 0))] ⟨rfl, rfl, rfl, rfl, rfl, rfl, rfl, rfl, rfl, rfl, rfl, rfl, rfl, rfl, rfl, rfl, rfl, trivial⟩ rfl ?_
      refine af_L d tm B nn q dl tx sy T N fi m mm A f G GS r a y ha hy 3 0 tn 0 0 W0 _ _ rfl hs (fun W1 c1 s1 kc1 ks1 hs1 hf1 => ?_)
      clear hA hS hO
      obtain ⟨hc1, hA, hS, -⟩ := id hs1
      obtain ⟨lf, lp, hO⟩ := hc1.o
      refine xr_stp rfl rfl rfl rfl ?_
      refine xr_stp rfl rfl rfl rfl ?_
      refine xr_stp rfl rfl rfl rfl ?_
      refine xr_vcps hO rfl rfl rfl rfl rfl rfl (fun r1 K2 => cq_fld _ _ _ nn q dl tx sy T N fi m mm f W1 G GS hc1 a y ha hy r1 (K2 _ _ _ _ ?_))
      refine xr_stp rfl rfl rfl rfl ?_
      refine xr_j2 rfl rfl rfl rfl rfl (fun h691 => ?_) (fun h691 => ?_)
      · have z691 := nt_ne h691
        exact (by omega)
      · refine xr_stp rfl rfl rfl rfl ?_
        refine xr_stp rfl rfl rfl rfl ?_
        refine xr_stp rfl rfl rfl rfl ?_
        refine xr_vcps hO rfl rfl rfl rfl rfl rfl (fun r1 K2 => cq_sum _ _ _ nn q dl tx sy T N fi m mm f W1 G GS hc1 a y ha hy r1 (K2 _ _ _ _ ?_))
        rw [← af_S3]
        refine xr_stp rfl rfl rfl rfl ?_
        refine xr_j2 rfl rfl rfl rfl rfl (fun h704 => ?_) (fun h704 => ?_)
        · have z704 := nt_ne h704
          exact (by omega)
        · refine xr_stp rfl rfl rfl rfl ?_
          refine xr_stp rfl rfl rfl rfl ?_
          refine xr_stp rfl rfl rfl rfl ?_
          refine xr_vcps hO rfl rfl rfl rfl rfl rfl (fun r1 K2 => cq_spa _ _ _ nn q dl tx sy T N fi m mm f W1 G GS hc1 a y ha hy r1 (fun W2 hc2 hf2 => K2 _ _ _ _ ?_))
          have hs2 := hs1.cls hc2 hf2
          clear hA hS hO
          obtain ⟨-, hA, hS, -⟩ := id hs2
          obtain ⟨lf, lp, hO⟩ := hc2.o
          refine xr_stp rfl rfl rfl rfl ?_
          refine xr_stp rfl rfl rfl rfl ?_
          refine xr_stp rfl rfl rfl rfl ?_
          refine xr_stp (st' := .int (Int32.ofNat 4294967295) :: _) rfl rfl rfl rfl ?_
          refine xr_cps rfl rfl rfl (fun r1 K2 => lw_ofm _ _ _ A W2 G hA gA7 b63 (by omega) (aH G 4) y 4294967295 haH hy (Or.inr rfl) r1 (K2 _ _ _ _ ?_))
          refine xr_stp rfl rfl rfl rfl ?_
          refine xr_stp (st' := .long (Int64.ofNat 18446744073709551615) :: _) rfl rfl rfl rfl ?_
          refine xs_lxor rfl ?_
          refine xs_land rfl ?_
          refine xr_cps rfl rfl rfl (fun r1 K2 => lw_many _ _ _ _ W2 (Nat.lt_of_le_of_lt Nat.and_le_left hoa) r1 (K2 _ _ _ _ ?_))
          refine xr_j2 rfl rfl rfl rfl rfl (fun h734 => ?_) (fun h734 => ?_)
          · refine xs_inc (e := 1) rfl rfl rfl rfl ?_
            refine xr_stp rfl rfl rfl rfl ?_
            refine xr_loc [(0, .ref 17), (1, .ref 16), (2, .int (Int32.ofNat q)), (3, .ref A), (4, .int (Int32.ofNat tm)), (5, .ref B), (9, .long (Int64.ofNat (aH G 4))), (11, .long (Int64.ofNat (aK G 4))), (17, .int (Int32.ofNat a)), (18, .long (Int64.ofNat (G (330 + 2 * a)))), (20, .long (Int64.ofNat (G (331 + 2 * a)))), (22, .int (Int32.ofNat (tL G (G (330 + 2 * a)) 3 (3 * y + 0) tn))), (23, .int (Int32.ofNat (y + 1)))] ⟨rfl, rfl, rfl, rfl, rfl, rfl, rfl, rfl, rfl, rfl, rfl, rfl, rfl, trivial⟩ rfl ?_
            refine ak_L d tm B nn q dl tx sy T N fi m mm A f G GS r a ha haH m1 (y + 1) _ W2 _ _ (by omega) hs2 (fun W5 c5 s5 k1 k2 k3 k4 => ?_)
            have e := K W5 c5 s5 (by omega) (by omega) k3 (((fr.rf.nn hf1).tr hf2).tr k4)
            rw [show 3 * (m1 + 1) = 3 + 3 * m1 by omega, tL_add, show 3 * y + 3 = 3 * (y + 1) by omega] at e
            exact e
          · have z734 := nf_eq h734
            exact (by omega)
