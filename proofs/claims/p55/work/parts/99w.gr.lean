/-! asks: nothing would be sent; something -/
theorem cs_nee (d c s nn q dl tx sy T N fi m mm : Nat) (f : Nat → Int32) (W0 : xi_W) (G : Nat → Nat) (GS : Nat → Nat → Nat) (hc : cmx nn f q dl tx sy T N fi m mm G GS W0) (a b : Nat) (ha : a < 4) (hb : b < 4) (hN : N < 90000) (hz0 : a = b ∨ lw_be G a b = 0)  (r : xi_R → Prop) (K : r (some (.int (Int32.ofNat 4294967295)), W0, c, s)) : xr (d + 6) 121 0 [(0, .ref 17), (1, .int (Int32.ofNat a)), (2, .int (Int32.ofNat b))] [] W0 c s r := by
  by_cases e : a = b
  · subst e
    exact cq_neeE d c s nn q dl tx sy T N fi m mm f W0 G GS hc a  ha r K
  · exact cq_nee0 d c s nn q dl tx sy T N fi m mm f W0 G GS hc a b ha hb e hN (hz0.resolve_left e) r K
theorem cs_wou (d c s nn q dl tx sy T N fi m mm : Nat) (f : Nat → Int32) (W0 : xi_W) (G : Nat → Nat) (GS : Nat → Nat → Nat) (hc : cmx nn f q dl tx sy T N fi m mm G GS W0) (a b : Nat) (ha : a < 4) (hb : b < 4) (hN : N < 90000) (hz0 : a = b ∨ lw_be G a b = 0) (z : Nat) (r : xi_R → Prop) (K : r (some (.int (Int32.ofNat 4294967295)), W0, c, s)) : xr (d + 6) 122 0 [(0, .ref 17), (1, .int (Int32.ofNat a)), (2, .int (Int32.ofNat b)), (3, .int (Int32.ofNat z))] [] W0 c s r := by
  by_cases e : a = b
  · subst e
    exact cq_wouE d c s nn q dl tx sy T N fi m mm f W0 G GS hc a z ha r K
  · exact cq_wouN d c s nn q dl tx sy T N fi m mm f W0 G GS hc a b ha hb e hN (hz0.resolve_left e) z r K
theorem cs_clo (d c s nn q dl tx sy T N fi m mm : Nat) (f : Nat → Int32) (W0 : xi_W) (G : Nat → Nat) (GS : Nat → Nat → Nat) (hc : cmx nn f q dl tx sy T N fi m mm G GS W0) (a b : Nat) (ha : a < 4) (hb : b < 4) (hN : N < 90000) (hz0 : a = b ∨ lw_be G a b = 0) (z y : Nat) (r : xi_R → Prop) (K : r (some (.int (Int32.ofNat 4294967294)), W0, c, s)) : xr (d + 6) 112 0 [(0, .ref 17), (1, .int (Int32.ofNat a)), (2, .int (Int32.ofNat b)), (3, .int (Int32.ofNat z)), (4, .int (Int32.ofNat y))] [] W0 c s r := by
  by_cases e : a = b
  · subst e
    exact cq_cloE d c s nn q dl tx sy T N fi m mm f W0 G GS hc a z y ha r K
  · exact cq_cloN d c s nn q dl tx sy T N fi m mm f W0 G GS hc a b ha hb e hN (hz0.resolve_left e) z y r K
theorem abE0 (d c s : Nat) (tm B : Nat) (nn q dl tx sy T N fi m mm A : Nat) (f : Nat → Int32) (G : Nat → Nat) (GS : Nat → Nat → Nat) (r : xi_R → Prop) (a b : Nat) (ha : a < 4) (hb : b < 4) (W0 : xi_W) (hs : scn nn f q dl tx sy T N fi m mm G GS A W0) (hz0 : a = b ∨ lw_be G a b = 0) (K : ∀ W' c' s', c' ≤ c + 2 → s' ≤ s + 65 → scn nn f q dl tx sy T N fi m mm G GS A W' → fr pq W0 W' → xr (d + 9) 204 1533 [(0, .ref 17), (1, .ref 16), (2, .int (Int32.ofNat q)), (3, .ref A), (4, .int (Int32.ofNat tm)), (5, .ref B), (9, .long (Int64.ofNat (aH G 4))), (11, .long (Int64.ofNat (aK G 4))), (17, .int (Int32.ofNat a)), (18, .long (Int64.ofNat (G (330 + 2 * a)))), (20, .long (Int64.ofNat (G (331 + 2 * a)))), (23, .int (Int32.ofNat b))] [] W' c' s' r) : xr (d + 9) 204 1177 [(0, .ref 17), (1, .ref 16), (2, .int (Int32.ofNat q)), (3, .ref A), (4, .int (Int32.ofNat tm)), (5, .ref B), (9, .long (Int64.ofNat (aH G 4))), (11, .long (Int64.ofNat (aK G 4))), (17, .int (Int32.ofNat a)), (18, .long (Int64.ofNat (G (330 + 2 * a)))), (20, .long (Int64.ofNat (G (331 + 2 * a)))), (23, .int (Int32.ofNat b))] [] W0 c s r := by
  obtain ⟨hc, hA, hS, gA, hz, hN, hnn⟩ := id hs
  obtain ⟨F, hw, hr⟩ := hc.w
  have J := hr.j
  have he := hr.e
  have J4 := J.e
  have b63 := J.b63
  have gA7 : 17 ≤ A := by omega
  obtain ⟨lf, lp, hO⟩ := hc.o
  have hja := J.a a b ha hb
  have hjc := J.c a ha
  have hd0 := J.d0
  by_cases e0 : a = b
  · refine xr_stp (st' := .int (Int32.ofNat 2) :: _) rfl rfl rfl rfl ?_
    refine xs_newl (by omega) rfl (fun IS W1 eIS hIS hf1 => ?_)
    have hs1 := hs.new hf1
    have lA := (List.getElem?_eq_some_iff.mp hA).1
    have nAI : A ≠ IS := by omega
    have gIS : 17 ≤ IS := by omega
    clear hA hS hO
    obtain ⟨hc1, hA, hS, -⟩ := id hs1
    obtain ⟨lf, lp, hO⟩ := hc1.o
    refine xr_stp rfl rfl rfl rfl ?_
    refine xr_stp rfl rfl rfl rfl ?_
    refine xr_stp rfl rfl rfl rfl ?_
    refine xr_j2 rfl rfl rfl rfl rfl (fun h1186 => ?_) (fun h1186 => ?_)
    · refine xr_stp (st' := .int (Int32.ofNat 0) :: _) rfl rfl rfl rfl ?_
      refine xr_stp rfl rfl rfl rfl ?_
      refine xr_stp rfl rfl rfl rfl ?_
      refine xr_j1 rfl rfl rfl rfl rfl (fun h1211 => ?_) (fun h1211 => ?_)
      · refine xr_stp (st' := .int (Int32.ofNat 0) :: _) rfl rfl rfl rfl ?_
        refine xr_stp rfl rfl rfl rfl ?_
        refine xr_stp rfl rfl rfl rfl ?_
        refine xr_stp rfl rfl rfl rfl ?_
        refine xr_stp rfl rfl rfl rfl ?_
        refine xr_vcps hO rfl rfl rfl rfl rfl rfl (fun r1 K2 => cs_nee _ _ _ nn q dl tx sy T N fi m mm f W1 G GS hc1 a b ha hb (by omega) hz0 r1 (K2 _ _ _ _ ?_))
        refine xr_stp rfl rfl rfl rfl ?_
        refine xr_j1 rfl rfl rfl rfl rfl (fun h1256 => ?_) (fun h1256 => ?_)
        · have z1256 := nt1_ne h1256
          exact (by omega)
        · refine xr_stp (st' := .int (Int32.ofNat 4294967295) :: _) rfl rfl rfl rfl ?_
          refine xr_stp rfl rfl rfl rfl ?_
          refine xr_j2 rfl rfl rfl rfl rfl (fun h1280 => ?_) (fun h1280 => ?_)
          · have z1280 := nt_ne h1280
            exact (by omega)
          · refine xr_stp rfl rfl rfl rfl ?_
            refine xr_stp rfl rfl rfl rfl ?_
            refine xr_stp rfl rfl rfl rfl ?_
            refine xr_stp (st' := .int (Int32.ofNat 0) :: _) rfl rfl rfl rfl ?_
            refine xr_vcps hO rfl rfl rfl rfl rfl rfl (fun r1 K2 => cs_wou _ _ _ nn q dl tx sy T N fi m mm f W1 G GS hc1 a b ha hb (by omega) hz0 0 r1 (K2 _ _ _ _ ?_))
            refine xr_stp rfl rfl rfl rfl ?_
            refine xr_j1 rfl rfl rfl rfl rfl (fun h1294 => ?_) (fun h1294 => ?_)
            · refine xr_stp (st' := .int (Int32.ofNat 4294967295) :: _) rfl rfl rfl rfl ?_
              refine xr_j2 rfl rfl rfl rfl rfl (fun h1308 => ?_) (fun h1308 => ?_)
              · have z1308 := nt_ne h1308
                exact (by omega)
              · refine xr_stp rfl rfl rfl rfl ?_
                refine xr_stp rfl rfl rfl rfl ?_
                refine xr_stp rfl rfl rfl rfl ?_
                refine xr_stp (st' := .int (Int32.ofNat 1) :: _) rfl rfl rfl rfl ?_
                refine xr_vcps hO rfl rfl rfl rfl rfl rfl (fun r1 K2 => cs_wou _ _ _ nn q dl tx sy T N fi m mm f W1 G GS hc1 a b ha hb (by omega) hz0 1 r1 (K2 _ _ _ _ ?_))
                refine xr_stp rfl rfl rfl rfl ?_
                refine xr_j1 rfl rfl rfl rfl rfl (fun h1322 => ?_) (fun h1322 => ?_)
                · refine xr_stp (st' := .int (Int32.ofNat 4294967295) :: _) rfl rfl rfl rfl ?_
                  refine xr_j2 rfl rfl rfl rfl rfl (fun h1336 => ?_) (fun h1336 => ?_)
                  · refine xr_stp rfl rfl rfl rfl ?_
                    refine xr_stp rfl rfl rfl rfl ?_
                    refine xr_stp (st' := .int (Int32.ofNat 1) :: _) rfl rfl rfl rfl ?_
                    refine xs_ald hIS gIS (by omega) (by omega) rfl ?_
                    refine xr_cps rfl rfl rfl (fun r1 K2 => lw_sorted _ _ _ A W1 G hA gA7 b63 J4 0 (by omega) r1 (fun R W2 zR hR hA2 hf2 => K2 _ _ _ _ ?_))
                    have hs2 := hs1.new hf2
                    rw [bc_0] at hR
                    clear hA hS hO hc1
                    obtain ⟨hc1, hA, hS, -⟩ := id hs2
                    obtain ⟨lf, lp, hO⟩ := hc1.o
                    refine xr_stp rfl rfl rfl rfl ?_
                    refine xr_stp (st' := .int (Int32.ofNat 0) :: _) rfl rfl rfl rfl ?_
                    refine xr_stp rfl rfl rfl rfl ?_
                    refine xr_stp (st' := .int (Int32.ofNat 4294967295) :: _) rfl rfl rfl rfl ?_
                    refine xr_stp rfl rfl rfl rfl ?_
                    refine xr_stp (st' := .long (Int64.ofNat 0) :: _) rfl rfl rfl rfl ?_
                    refine xr_stp rfl rfl rfl rfl ?_
                    refine xr_stp (st' := .int (Int32.ofNat 0) :: _) rfl rfl rfl rfl ?_
                    refine xr_stp rfl rfl rfl rfl ?_
                    refine xr_stp rfl rfl rfl rfl ?_
                    refine xr_stp rfl rfl rfl rfl ?_
                    refine xs_iln hR rfl ?_
                    refine xr_j2 rfl rfl rfl rfl rfl (fun h1368 => ?_) (fun h1368 => ?_)
                    · refine xr_stp rfl rfl rfl rfl ?_
                      refine xr_stp rfl rfl rfl rfl ?_
                      refine xr_stp rfl rfl rfl rfl ?_
                      refine xr_stp (st' := .int (Int32.ofNat 4294967295) :: _) rfl rfl rfl rfl ?_
                      refine xr_stp (st' := .int (Int32.ofNat 0) :: _) rfl rfl rfl rfl ?_
                      refine xr_vcps hO rfl rfl rfl rfl rfl rfl (fun r1 K2 => cs_clo _ _ _ nn q dl tx sy T N fi m mm f W2 G GS hc1 a b ha hb (by omega) hz0 4294967295 0 r1 (K2 _ _ _ _ ?_))
                      refine xr_stp rfl rfl rfl rfl ?_
                      refine xr_j1 rfl rfl rfl rfl rfl (fun h1502 => ?_) (fun h1502 => ?_)
                      · refine xr_stp (st' := .int (Int32.ofNat 4294967294) :: _) rfl rfl rfl rfl ?_
                        refine xr_j2 rfl rfl rfl rfl rfl (fun h1512 => ?_) (fun h1512 => ?_)
                        · have z1512 := nt_ne h1512
                          exact (by omega)
                        · refine xr_stp rfl rfl rfl rfl ?_
                          refine xr_stp rfl rfl rfl rfl ?_
                          refine xr_stp rfl rfl rfl rfl ?_
                          refine xr_stp rfl rfl rfl rfl ?_
                          refine xr_stp (st' := .int (Int32.ofNat 0) :: _) rfl rfl rfl rfl ?_
                          refine xr_vcps hO rfl rfl rfl rfl rfl rfl (fun r1 K2 => cs_clo _ _ _ nn q dl tx sy T N fi m mm f W2 G GS hc1 a b ha hb (by omega) hz0 0 0 r1 (K2 _ _ _ _ ?_))
                          refine xr_stp (st' := .int (Int32.ofNat 4294967294) :: _) rfl rfl rfl rfl ?_
                          refine xr_j2 rfl rfl rfl rfl rfl (fun h1528 => ?_) (fun h1528 => ?_)
                          · refine xr_loc [(0, .ref 17), (1, .ref 16), (2, .int (Int32.ofNat q)), (3, .ref A), (4, .int (Int32.ofNat tm)), (5, .ref B), (9, .long (Int64.ofNat (aH G 4))), (11, .long (Int64.ofNat (aK G 4))), (17, .int (Int32.ofNat a)), (18, .long (Int64.ofNat (G (330 + 2 * a)))), (20, .long (Int64.ofNat (G (331 + 2 * a)))), (23, .int (Int32.ofNat b))] ⟨rfl, rfl, rfl, rfl, rfl, rfl, rfl, rfl, rfl, rfl, rfl, rfl, trivial⟩ rfl ?_
                            rw [bc_0]
                            exact K W2 _ _ (Nat.le_refl _) (by omega) hs2 ((fr.rf.nn hf1).nn hf2)
                          · have z1528 := nf_eq h1528
                            exact (by omega)
                      · have z1502 := nf1_eq h1502
                        exact (by omega)
                    · have z1368 := nf_ge (by omega) (by omega) h1368
                      exact (by omega)
                  · have z1336 := nf_eq h1336
                    exact (by omega)
                · have z1322 := nf1_eq h1322
                  exact (by omega)
            · have z1294 := nf1_eq h1294
              exact (by omega)
      · have z1211 := nf1_eq h1211
        exact (by omega)
    · have z1186 := nf_eq h1186
      exact (by omega)
  · refine xr_stp (st' := .int (Int32.ofNat 2) :: _) rfl rfl rfl rfl ?_
    refine xs_newl (by omega) rfl (fun IS W1 eIS hIS hf1 => ?_)
    have hs1 := hs.new hf1
    have lA := (List.getElem?_eq_some_iff.mp hA).1
    have nAI : A ≠ IS := by omega
    have gIS : 17 ≤ IS := by omega
    clear hA hS hO
    obtain ⟨hc1, hA, hS, -⟩ := id hs1
    obtain ⟨lf, lp, hO⟩ := hc1.o
    refine xr_stp rfl rfl rfl rfl ?_
    refine xr_stp rfl rfl rfl rfl ?_
    refine xr_stp rfl rfl rfl rfl ?_
    refine xr_j2 rfl rfl rfl rfl rfl (fun h1186 => ?_) (fun h1186 => ?_)
    · have z1186 := nt_eq (by omega) (by omega) h1186
      exact (by omega)
    · refine xr_stp rfl rfl rfl rfl ?_
      refine xr_stp rfl rfl rfl rfl ?_
      refine xr_stp rfl rfl rfl rfl ?_
      refine xr_stp rfl rfl rfl rfl ?_
      refine xr_cps rfl rfl rfl (fun r1 K2 => lw_group0 _ _ _ A IS W1 G _ hA hIS gA7 gIS nAI a b ha hb hja (hz0.resolve_left e0) r1 (K2 _ _ _ _ ?_))
      refine xr_j1 rfl rfl rfl rfl rfl (fun h1199 => ?_) (fun h1199 => ?_)
      · refine xr_stp (st' := .int (Int32.ofNat 0) :: _) rfl rfl rfl rfl ?_
        refine xr_stp rfl rfl rfl rfl ?_
        refine xr_stp rfl rfl rfl rfl ?_
        refine xr_j1 rfl rfl rfl rfl rfl (fun h1211 => ?_) (fun h1211 => ?_)
        · refine xr_stp (st' := .int (Int32.ofNat 0) :: _) rfl rfl rfl rfl ?_
          refine xr_stp rfl rfl rfl rfl ?_
          refine xr_stp rfl rfl rfl rfl ?_
          refine xr_stp rfl rfl rfl rfl ?_
          refine xr_stp rfl rfl rfl rfl ?_
          refine xr_vcps hO rfl rfl rfl rfl rfl rfl (fun r1 K2 => cs_nee _ _ _ nn q dl tx sy T N fi m mm f W1 G GS hc1 a b ha hb (by omega) hz0 r1 (K2 _ _ _ _ ?_))
          refine xr_stp rfl rfl rfl rfl ?_
          refine xr_j1 rfl rfl rfl rfl rfl (fun h1256 => ?_) (fun h1256 => ?_)
          · have z1256 := nt1_ne h1256
            exact (by omega)
          · refine xr_stp (st' := .int (Int32.ofNat 4294967295) :: _) rfl rfl rfl rfl ?_
            refine xr_stp rfl rfl rfl rfl ?_
            refine xr_j2 rfl rfl rfl rfl rfl (fun h1280 => ?_) (fun h1280 => ?_)
            · have z1280 := nt_ne h1280
              exact (by omega)
            · refine xr_stp rfl rfl rfl rfl ?_
              refine xr_stp rfl rfl rfl rfl ?_
              refine xr_stp rfl rfl rfl rfl ?_
              refine xr_stp (st' := .int (Int32.ofNat 0) :: _) rfl rfl rfl rfl ?_
              refine xr_vcps hO rfl rfl rfl rfl rfl rfl (fun r1 K2 => cs_wou _ _ _ nn q dl tx sy T N fi m mm f W1 G GS hc1 a b ha hb (by omega) hz0 0 r1 (K2 _ _ _ _ ?_))
              refine xr_stp rfl rfl rfl rfl ?_
              refine xr_j1 rfl rfl rfl rfl rfl (fun h1294 => ?_) (fun h1294 => ?_)
              · refine xr_stp (st' := .int (Int32.ofNat 4294967295) :: _) rfl rfl rfl rfl ?_
                refine xr_j2 rfl rfl rfl rfl rfl (fun h1308 => ?_) (fun h1308 => ?_)
                · have z1308 := nt_ne h1308
                  exact (by omega)
                · refine xr_stp rfl rfl rfl rfl ?_
                  refine xr_stp rfl rfl rfl rfl ?_
                  refine xr_stp rfl rfl rfl rfl ?_
                  refine xr_stp (st' := .int (Int32.ofNat 1) :: _) rfl rfl rfl rfl ?_
                  refine xr_vcps hO rfl rfl rfl rfl rfl rfl (fun r1 K2 => cs_wou _ _ _ nn q dl tx sy T N fi m mm f W1 G GS hc1 a b ha hb (by omega) hz0 1 r1 (K2 _ _ _ _ ?_))
                  refine xr_stp rfl rfl rfl rfl ?_
                  refine xr_j1 rfl rfl rfl rfl rfl (fun h1322 => ?_) (fun h1322 => ?_)
                  · refine xr_stp (st' := .int (Int32.ofNat 4294967295) :: _) rfl rfl rfl rfl ?_
                    refine xr_j2 rfl rfl rfl rfl rfl (fun h1336 => ?_) (fun h1336 => ?_)
                    · refine xr_stp rfl rfl rfl rfl ?_
                      refine xr_stp rfl rfl rfl rfl ?_
                      refine xr_stp (st' := .int (Int32.ofNat 1) :: _) rfl rfl rfl rfl ?_
                      refine xs_ald hIS gIS (by omega) (by omega) rfl ?_
                      refine xr_cps rfl rfl rfl (fun r1 K2 => lw_sorted _ _ _ A W1 G hA gA7 b63 J4 0 (by omega) r1 (fun R W2 zR hR hA2 hf2 => K2 _ _ _ _ ?_))
                      have hs2 := hs1.new hf2
                      rw [bc_0] at hR
                      clear hA hS hO hc1
                      obtain ⟨hc1, hA, hS, -⟩ := id hs2
                      obtain ⟨lf, lp, hO⟩ := hc1.o
                      refine xr_stp rfl rfl rfl rfl ?_
                      refine xr_stp (st' := .int (Int32.ofNat 0) :: _) rfl rfl rfl rfl ?_
                      refine xr_stp rfl rfl rfl rfl ?_
                      refine xr_stp (st' := .int (Int32.ofNat 4294967295) :: _) rfl rfl rfl rfl ?_
                      refine xr_stp rfl rfl rfl rfl ?_
                      refine xr_stp (st' := .long (Int64.ofNat 0) :: _) rfl rfl rfl rfl ?_
                      refine xr_stp rfl rfl rfl rfl ?_
                      refine xr_stp (st' := .int (Int32.ofNat 0) :: _) rfl rfl rfl rfl ?_
                      refine xr_stp rfl rfl rfl rfl ?_
                      refine xr_stp rfl rfl rfl rfl ?_
                      refine xr_stp rfl rfl rfl rfl ?_
                      refine xs_iln hR rfl ?_
                      refine xr_j2 rfl rfl rfl rfl rfl (fun h1368 => ?_) (fun h1368 => ?_)
                      · refine xr_stp rfl rfl rfl rfl ?_
                        refine xr_stp rfl rfl rfl rfl ?_
                        refine xr_stp rfl rfl rfl rfl ?_
                        refine xr_stp (st' := .int (Int32.ofNat 4294967295) :: _) rfl rfl rfl rfl ?_
                        refine xr_stp (st' := .int (Int32.ofNat 0) :: _) rfl rfl rfl rfl ?_
                        refine xr_vcps hO rfl rfl rfl rfl rfl rfl (fun r1 K2 => cs_clo _ _ _ nn q dl tx sy T N fi m mm f W2 G GS hc1 a b ha hb (by omega) hz0 4294967295 0 r1 (K2 _ _ _ _ ?_))
                        refine xr_stp rfl rfl rfl rfl ?_
                        refine xr_j1 rfl rfl rfl rfl rfl (fun h1502 => ?_) (fun h1502 => ?_)
                        · refine xr_stp (st' := .int (Int32.ofNat 4294967294) :: _) rfl rfl rfl rfl ?_
                          refine xr_j2 rfl rfl rfl rfl rfl (fun h1512 => ?_) (fun h1512 => ?_)
                          · have z1512 := nt_ne h1512
                            exact (by omega)
                          · refine xr_stp rfl rfl rfl rfl ?_
                            refine xr_stp rfl rfl rfl rfl ?_
                            refine xr_stp rfl rfl rfl rfl ?_
                            refine xr_stp rfl rfl rfl rfl ?_
                            refine xr_stp (st' := .int (Int32.ofNat 0) :: _) rfl rfl rfl rfl ?_
                            refine xr_vcps hO rfl rfl rfl rfl rfl rfl (fun r1 K2 => cs_clo _ _ _ nn q dl tx sy T N fi m mm f W2 G GS hc1 a b ha hb (by omega) hz0 0 0 r1 (K2 _ _ _ _ ?_))
                            refine xr_stp (st' := .int (Int32.ofNat 4294967294) :: _) rfl rfl rfl rfl ?_
                            refine xr_j2 rfl rfl rfl rfl rfl (fun h1528 => ?_) (fun h1528 => ?_)
                            · refine xr_loc [(0, .ref 17), (1, .ref 16), (2, .int (Int32.ofNat q)), (3, .ref A), (4, .int (Int32.ofNat tm)), (5, .ref B), (9, .long (Int64.ofNat (aH G 4))), (11, .long (Int64.ofNat (aK G 4))), (17, .int (Int32.ofNat a)), (18, .long (Int64.ofNat (G (330 + 2 * a)))), (20, .long (Int64.ofNat (G (331 + 2 * a)))), (23, .int (Int32.ofNat b))] ⟨rfl, rfl, rfl, rfl, rfl, rfl, rfl, rfl, rfl, rfl, rfl, rfl, trivial⟩ rfl ?_
                              rw [bc_0]
                              exact K W2 _ _ (Nat.le_refl _) (by omega) hs2 ((fr.rf.nn hf1).nn hf2)
                            · have z1528 := nf_eq h1528
                              exact (by omega)
                        · have z1502 := nf1_eq h1502
                          exact (by omega)
                      · have z1368 := nf_ge (by omega) (by omega) h1368
                        exact (by omega)
                    · have z1336 := nf_eq h1336
                      exact (by omega)
                  · have z1322 := nf1_eq h1322
                    exact (by omega)
              · have z1294 := nf1_eq h1294
                exact (by omega)
        · have z1211 := nf1_eq h1211
          exact (by omega)
      · have z1199 := nf1_eq h1199
        exact (by omega)
theorem abE1 (d c s : Nat) (tm B : Nat) (nn q dl tx sy T N fi m mm A : Nat) (f : Nat → Int32) (G : Nat → Nat) (GS : Nat → Nat → Nat) (r : xi_R → Prop) (a b : Nat) (ha : a < 4) (hb : b < 4) (W0 : xi_W) (hs : scn nn f q dl tx sy T N fi m mm G GS A W0) (hne : a ≠ b) (h0 : lw_be G a b ≠ 0) (K : ∀ W' c' s', c' ≤ c + 2 → s' ≤ s + 65 → scn nn f q dl tx sy T N fi m mm G GS A W' → fr pq W0 W' → xr (d + 9) 204 1533 [(0, .ref 17), (1, .ref 16), (2, .int (Int32.ofNat q)), (3, .ref A), (4, .int (Int32.ofNat tm)), (5, .ref B), (9, .long (Int64.ofNat (aH G 4))), (11, .long (Int64.ofNat (aK G 4))), (17, .int (Int32.ofNat a)), (18, .long (Int64.ofNat (G (330 + 2 * a)))), (20, .long (Int64.ofNat (G (331 + 2 * a)))), (23, .int (Int32.ofNat b))] [] W' c' s' r) : xr (d + 9) 204 1177 [(0, .ref 17), (1, .ref 16), (2, .int (Int32.ofNat q)), (3, .ref A), (4, .int (Int32.ofNat tm)), (5, .ref B), (9, .long (Int64.ofNat (aH G 4))), (11, .long (Int64.ofNat (aK G 4))), (17, .int (Int32.ofNat a)), (18, .long (Int64.ofNat (G (330 + 2 * a)))), (20, .long (Int64.ofNat (G (331 + 2 * a)))), (23, .int (Int32.ofNat b))] [] W0 c s r := by
  obtain ⟨hc, hA, hS, gA, hz, hN, hnn⟩ := id hs
  obtain ⟨F, hw, hr⟩ := hc.w
  have J := hr.j
  have he := hr.e
  have J4 := J.e
  have b63 := J.b63
  have gA7 : 17 ≤ A := by omega
  obtain ⟨lf, lp, hO⟩ := hc.o
  have hja := J.a a b ha hb
  have hjc := J.c a ha
  have hd0 := J.d0
  have hcp := (hr.compose ha hb).2.2
  have hkk : (lw_gr G (fun _ => 0) a b 1) < 2 ^ G 4 := hcp.1.2
  have hkl := lt62 J4 hkk
  have hhl := lw_grb3 G J.b a b 0
  have hn63 := bcle 63 (lw_gr G (fun _ => 0) a b 1)
  have hn64 := bcle 63 (lw_gr G (fun _ => 0) a b 0)
  have hq9 : cQ G (lw_gr G (fun _ => 0) a b 1) (bc 63 (lw_gr G (fun _ => 0) a b 1)) ≤ bc 63 (lw_gr G (fun _ => 0) a b 1) := cN_le (cP G (lw_gr G (fun _ => 0) a b 1)) (lw_row G (lw_gr G (fun _ => 0) a b 1)) _ 0
  have hbe : lw_be G a b ≤ G (338 + a) := Nat.sub_le _ _
  by_cases hw : G (346 + 4 * a + b) < G (342 + a)
  · refine xr_stp (st' := .int (Int32.ofNat 2) :: _) rfl rfl rfl rfl ?_
    refine xs_newl (by omega) rfl (fun IS W1 eIS hIS hf1 => ?_)
    have hs1 := hs.new hf1
    have lA := (List.getElem?_eq_some_iff.mp hA).1
    have nAI : A ≠ IS := by omega
    have gIS : 17 ≤ IS := by omega
    clear hA hS hO
    obtain ⟨hc1, hA, hS, -⟩ := id hs1
    obtain ⟨lf, lp, hO⟩ := hc1.o
    refine xr_stp rfl rfl rfl rfl ?_
    refine xr_stp rfl rfl rfl rfl ?_
    refine xr_stp rfl rfl rfl rfl ?_
    refine xr_j2 rfl rfl rfl rfl rfl (fun h1186 => ?_) (fun h1186 => ?_)
    · have z1186 := nt_eq (by omega) (by omega) h1186
      exact (by omega)
    · refine xr_stp rfl rfl rfl rfl ?_
      refine xr_stp rfl rfl rfl rfl ?_
      refine xr_stp rfl rfl rfl rfl ?_
      refine xr_stp rfl rfl rfl rfl ?_
      refine xr_cps rfl rfl rfl (fun r1 K2 => lw_group _ _ _ A IS W1 G _ hA hIS gA7 gIS nAI b63 a b ha hb hja (by omega) (by omega) h0 r1 (fun W2 hIS2 hf2 => K2 _ _ _ _ ?_))
      have hIS := hIS2
      have hs2 := hs1.oth hf2 (fun i z => by have z : i = IS := z; omega)
      clear hA hS hO
      obtain ⟨hc2, hA, hS, -⟩ := id hs2
      obtain ⟨lf, lp, hO⟩ := hc2.o
      refine xr_j1 rfl rfl rfl rfl rfl (fun h1199 => ?_) (fun h1199 => ?_)
      · have z1199 := nt1_eq (by omega) h1199
        exact (by omega)
      · refine xr_stp (st' := .int (Int32.ofNat 1) :: _) rfl rfl rfl rfl ?_
        refine xr_stp rfl rfl rfl rfl ?_
        refine xr_stp rfl rfl rfl rfl ?_
        refine xr_stp rfl rfl rfl rfl ?_
        refine xr_j1 rfl rfl rfl rfl rfl (fun h1211 => ?_) (fun h1211 => ?_)
        · have z1211 := nt1_eq (by omega) h1211
          exact (by omega)
        · refine xr_stp rfl rfl rfl rfl ?_
          refine xr_stp (st' := .int (Int32.ofNat 346) :: _) rfl rfl rfl rfl ?_
          refine xr_stp (st' := .int (Int32.ofNat 4) :: _) rfl rfl rfl rfl ?_
          refine xr_stp rfl rfl rfl rfl ?_
          refine xs_mul rfl ?_
          refine xs_add rfl ?_
          refine xr_stp rfl rfl rfl rfl ?_
          refine xs_add rfl ?_
          refine xs_ald hA gA7 (by omega) (by omega) rfl ?_
          refine xr_stp rfl rfl rfl rfl ?_
          refine xr_stp (st' := .int (Int32.ofNat 342) :: _) rfl rfl rfl rfl ?_
          refine xr_stp rfl rfl rfl rfl ?_
          refine xs_add rfl ?_
          refine xs_ald hA gA7 (by omega) (by omega) rfl ?_
          refine xs_lc (by exact b63 _) (by exact b63 _) rfl ?_
          refine xr_j1 rfl rfl rfl rfl rfl (fun h1236 => ?_) (fun h1236 => ?_)
          · have z1236 := lt_ge h1236
            exact (by omega)
          · refine xr_stp (st' := .int (Int32.ofNat 1) :: _) rfl rfl rfl rfl ?_
            refine xr_stp rfl rfl rfl rfl ?_
            refine xr_stp rfl rfl rfl rfl ?_
            refine xr_stp rfl rfl rfl rfl ?_
            refine xr_stp rfl rfl rfl rfl ?_
            refine xr_stp rfl rfl rfl rfl ?_
            refine xr_vcps hO rfl rfl rfl rfl rfl rfl (fun r1 K2 => cq_nee1 _ _ _ nn q dl tx sy T N fi m mm f W2 G GS hc2 a b ha hb hne (by omega) h0 r1 (K2 _ _ _ _ ?_))
            rw [if_pos hw]
            refine xr_stp rfl rfl rfl rfl ?_
            refine xr_j1 rfl rfl rfl rfl rfl (fun h1256 => ?_) (fun h1256 => ?_)
            · refine xr_stp rfl rfl rfl rfl ?_
              refine xr_j1 rfl rfl rfl rfl rfl (fun h1265 => ?_) (fun h1265 => ?_)
              · have z1265 := nt1_eq (by omega) h1265
                exact (by omega)
              · refine xr_stp (st' := .int (Int32.ofNat 0) :: _) rfl rfl rfl rfl ?_
                refine xr_stp rfl rfl rfl rfl ?_
                refine xr_j2 rfl rfl rfl rfl rfl (fun h1280 => ?_) (fun h1280 => ?_)
                · have z1280 := nt_ne h1280
                  exact (by omega)
                · refine xr_stp rfl rfl rfl rfl ?_
                  refine xr_stp rfl rfl rfl rfl ?_
                  refine xr_stp rfl rfl rfl rfl ?_
                  refine xr_stp (st' := .int (Int32.ofNat 0) :: _) rfl rfl rfl rfl ?_
                  refine xr_vcps hO rfl rfl rfl rfl rfl rfl (fun r1 K2 => cq_wou0 _ _ _ nn q dl tx sy T N fi m mm f W2 G GS hc2 a b ha hb hne (by omega) h0 r1 (fun W3 hc3 hf3 => K2 _ _ _ _ ?_))
                  have hs3 := hs2.cls hc3 hf3
                  have hIS := hf3.at hIS (by unfold pq; omega)
                  clear hA hS hO
                  obtain ⟨-, hA, hS, -⟩ := id hs3
                  obtain ⟨lf, lp, hO⟩ := hc3.o
                  refine xr_stp rfl rfl rfl rfl ?_
                  refine xr_j1 rfl rfl rfl rfl rfl (fun h1294 => ?_) (fun h1294 => ?_)
                  · have z1294 := nt1_eq (by omega) h1294
                    exact (by omega)
                  · refine xr_stp rfl rfl rfl rfl ?_
                    refine xr_stp (st' := .int (Int32.ofNat 0) :: _) rfl rfl rfl rfl ?_
                    refine xs_ald hIS gIS (by omega) (by omega) rfl ?_
                    refine xr_cps rfl rfl rfl (fun r1 K2 => lw_many _ _ _ _ W3 (by omega) r1 (K2 _ _ _ _ ?_))
                    refine xr_stp rfl rfl rfl rfl ?_
                    refine xr_j2 rfl rfl rfl rfl rfl (fun h1308 => ?_) (fun h1308 => ?_)
                    · have z1308 := nt_ne h1308
                      exact (by omega)
                    · refine xr_stp rfl rfl rfl rfl ?_
                      refine xr_stp rfl rfl rfl rfl ?_
                      refine xr_stp rfl rfl rfl rfl ?_
                      refine xr_stp (st' := .int (Int32.ofNat 1) :: _) rfl rfl rfl rfl ?_
                      refine xr_vcps hO rfl rfl rfl rfl rfl rfl (fun r1 K2 => cq_wou1 _ _ _ nn q dl tx sy T N fi m mm f W3 G GS hc3 a b ha hb hne (by omega) h0 r1 (fun W4 hc4 hf4 => K2 _ _ _ _ ?_))
                      have hs4 := hs3.cls hc4 hf4
                      have hIS := hf4.at hIS (by unfold pq; omega)
                      clear hA hS hO
                      obtain ⟨-, hA, hS, -⟩ := id hs4
                      obtain ⟨lf, lp, hO⟩ := hc4.o
                      refine xr_stp rfl rfl rfl rfl ?_
                      refine xr_j1 rfl rfl rfl rfl rfl (fun h1322 => ?_) (fun h1322 => ?_)
                      · have z1322 := nt1_eq (by omega) h1322
                        exact (by omega)
                      · refine xr_stp rfl rfl rfl rfl ?_
                        refine xr_stp (st' := .int (Int32.ofNat 1) :: _) rfl rfl rfl rfl ?_
                        refine xs_ald hIS gIS (by omega) (by omega) rfl ?_
                        refine xr_cps rfl rfl rfl (fun r1 K2 => lw_many _ _ _ _ W4 (by omega) r1 (K2 _ _ _ _ ?_))
                        refine xr_stp rfl rfl rfl rfl ?_
                        refine xr_j2 rfl rfl rfl rfl rfl (fun h1336 => ?_) (fun h1336 => ?_)
                        · refine xr_stp rfl rfl rfl rfl ?_
                          refine xr_stp rfl rfl rfl rfl ?_
                          refine xr_stp (st' := .int (Int32.ofNat 1) :: _) rfl rfl rfl rfl ?_
                          refine xs_ald hIS gIS (by omega) (by omega) rfl ?_
                          refine xr_cps rfl rfl rfl (fun r1 K2 => lw_sorted _ _ _ A W4 G hA gA7 b63 J4 (lw_gr G (fun _ => 0) a b 1) (by omega) r1 (fun R W5 zR hR hA5 hf5 => K2 _ _ _ _ ?_))
                          have hs5 := hs4.new hf5
                          have gR : 696 ≤ R := by have := (List.getElem?_eq_some_iff.mp hA).1; omega
                          refine xr_stp rfl rfl rfl rfl ?_
                          refine xr_stp (st' := .int (Int32.ofNat 0) :: _) rfl rfl rfl rfl ?_
                          refine xr_stp rfl rfl rfl rfl ?_
                          refine xr_stp (st' := .int (Int32.ofNat 4294967295) :: _) rfl rfl rfl rfl ?_
                          refine xr_stp rfl rfl rfl rfl ?_
                          refine xr_stp (st' := .long (Int64.ofNat 0) :: _) rfl rfl rfl rfl ?_
                          refine xr_stp rfl rfl rfl rfl ?_
                          refine xr_stp (st' := .int (Int32.ofNat 0) :: _) rfl rfl rfl rfl ?_
                          refine xr_stp rfl rfl rfl rfl ?_
                          refine xr_loc [(0, .ref 17), (1, .ref 16), (2, .int (Int32.ofNat q)), (3, .ref A), (4, .int (Int32.ofNat tm)), (5, .ref B), (9, .long (Int64.ofNat (aH G 4))), (11, .long (Int64.ofNat (aK G 4))), (17, .int (Int32.ofNat a)), (18, .long (Int64.ofNat (G (330 + 2 * a)))), (20, .long (Int64.ofNat (G (331 + 2 * a)))), (23, .int (Int32.ofNat b)), (35, .int (Int32.ofNat 1)), (37, .ref R), (38, .int (Int32.ofNat (cQ G (lw_gr G (fun _ => 0) a b 1) 0))), (39, .int (Int32.ofNat 4294967295)), (40, .long (Int64.ofNat 0)), (42, .int (Int32.ofNat 0))] ⟨rfl, rfl, rfl, rfl, rfl, rfl, rfl, rfl, rfl, rfl, rfl, rfl, rfl, rfl, rfl, rfl, rfl, rfl, trivial⟩ rfl ?_
                          refine acl_0 d _ _ tm B nn q dl tx sy T N fi m mm A f G GS r a b ha hb hne h0 R gR W5 hs5 hR (fun W6 hs6 hf6 => ?_)
                          clear hA hS hO
                          obtain ⟨hc6, hA, hS, -⟩ := id hs6
                          obtain ⟨lf, lp, hO⟩ := hc6.o
                          refine xr_stp rfl rfl rfl rfl ?_
                          refine xr_stp rfl rfl rfl rfl ?_
                          refine xr_stp rfl rfl rfl rfl ?_
                          refine xr_stp (st' := .int (Int32.ofNat 4294967295) :: _) rfl rfl rfl rfl ?_
                          refine xr_stp (st' := .int (Int32.ofNat 0) :: _) rfl rfl rfl rfl ?_
                          refine xr_vcps hO rfl rfl rfl rfl rfl rfl (fun r1 K2 => cq_cloC _ _ _ nn q dl tx sy T N fi m mm f W6 G GS hc6 a b ha hb hne (by omega) h0 0 r1 (fun W7 hc7 hf7 => K2 _ _ _ _ ?_))
                          have hs7 := hs6.cls hc7 hf7
                          clear hA hS hO
                          obtain ⟨-, hA, hS, -⟩ := id hs7
                          obtain ⟨lf, lp, hO⟩ := hc7.o
                          refine xr_stp rfl rfl rfl rfl ?_
                          refine xr_j1 rfl rfl rfl rfl rfl (fun h1502 => ?_) (fun h1502 => ?_)
                          · have z1502 := nt1_eq (by omega) h1502
                            exact (by omega)
                          · refine xr_stp rfl rfl rfl rfl ?_
                            refine xr_stp rfl rfl rfl rfl ?_
                            refine xr_j2 rfl rfl rfl rfl rfl (fun h1512 => ?_) (fun h1512 => ?_)
                            · have z1512 := nt_ne h1512
                              exact (by omega)
                            · refine xr_stp rfl rfl rfl rfl ?_
                              refine xr_stp rfl rfl rfl rfl ?_
                              refine xr_stp rfl rfl rfl rfl ?_
                              refine xr_stp rfl rfl rfl rfl ?_
                              refine xr_stp (st' := .int (Int32.ofNat 0) :: _) rfl rfl rfl rfl ?_
                              refine xr_vcps hO rfl rfl rfl rfl rfl rfl (fun r1 K2 => cq_cloX _ _ _ nn q dl tx sy T N fi m mm f W7 G GS hc7 a b ha hb hne (by omega) h0 (cQ G (lw_gr G (fun _ => 0) a b 1) (bc 63 (lw_gr G (fun _ => 0) a b 1))) 0 (Nat.le_refl _) (by omega) r1 (fun W8 hc8 hf8 => K2 _ _ _ _ ?_))
                              have hs8 := hs7.cls hc8 hf8
                              refine xr_stp (st' := .int (Int32.ofNat 4294967294) :: _) rfl rfl rfl rfl ?_
                              refine xr_j2 rfl rfl rfl rfl rfl (fun h1528 => ?_) (fun h1528 => ?_)
                              · refine xr_loc [(0, .ref 17), (1, .ref 16), (2, .int (Int32.ofNat q)), (3, .ref A), (4, .int (Int32.ofNat tm)), (5, .ref B), (9, .long (Int64.ofNat (aH G 4))), (11, .long (Int64.ofNat (aK G 4))), (17, .int (Int32.ofNat a)), (18, .long (Int64.ofNat (G (330 + 2 * a)))), (20, .long (Int64.ofNat (G (331 + 2 * a)))), (23, .int (Int32.ofNat b))] ⟨rfl, rfl, rfl, rfl, rfl, rfl, rfl, rfl, rfl, rfl, rfl, rfl, trivial⟩ rfl ?_
                                refine K W8 _ _ (Nat.le_refl _) (by omega) hs8 ⟨by have := hf1.1; have := hf2.1; have := hf3.1; have := hf4.1; have := hf5.1; have := hf6.1; have := hf7.1; have := hf8.1; omega, fun i hi hp => ?_⟩
                                have l1 := hf1.1; have l2 := hf2.1; have l3 := hf3.1; have l4 := hf4.1; have l5 := hf5.1; have l6 := hf6.1; have l7 := hf7.1
                                exact (hf8.2 i (by omega) hp).trans ((hf7.2 i (by omega) hp).trans ((hf6.2 i (by omega) hp).trans ((hf5.2 i (by omega) (fun z => z)).trans ((hf4.2 i (by omega) hp).trans ((hf3.2 i (by omega) hp).trans ((hf2.2 i (by omega) (fun (z : i = IS) => by omega)).trans (hf1.2 i hi (fun z => z))))))))
                              · have z1528 := nf_eq h1528
                                exact (by omega)
                        · have z1336 := nf_eq h1336
                          exact (by omega)
            · have z1256 := nf1_ne (by omega) h1256
              exact (by omega)
  · refine xr_stp (st' := .int (Int32.ofNat 2) :: _) rfl rfl rfl rfl ?_
    refine xs_newl (by omega) rfl (fun IS W1 eIS hIS hf1 => ?_)
    have hs1 := hs.new hf1
    have lA := (List.getElem?_eq_some_iff.mp hA).1
    have nAI : A ≠ IS := by omega
    have gIS : 17 ≤ IS := by omega
    clear hA hS hO
    obtain ⟨hc1, hA, hS, -⟩ := id hs1
    obtain ⟨lf, lp, hO⟩ := hc1.o
    refine xr_stp rfl rfl rfl rfl ?_
    refine xr_stp rfl rfl rfl rfl ?_
    refine xr_stp rfl rfl rfl rfl ?_
    refine xr_j2 rfl rfl rfl rfl rfl (fun h1186 => ?_) (fun h1186 => ?_)
    · have z1186 := nt_eq (by omega) (by omega) h1186
      exact (by omega)
    · refine xr_stp rfl rfl rfl rfl ?_
      refine xr_stp rfl rfl rfl rfl ?_
      refine xr_stp rfl rfl rfl rfl ?_
      refine xr_stp rfl rfl rfl rfl ?_
      refine xr_cps rfl rfl rfl (fun r1 K2 => lw_group _ _ _ A IS W1 G _ hA hIS gA7 gIS nAI b63 a b ha hb hja (by omega) (by omega) h0 r1 (fun W2 hIS2 hf2 => K2 _ _ _ _ ?_))
      have hIS := hIS2
      have hs2 := hs1.oth hf2 (fun i z => by have z : i = IS := z; omega)
      clear hA hS hO
      obtain ⟨hc2, hA, hS, -⟩ := id hs2
      obtain ⟨lf, lp, hO⟩ := hc2.o
      refine xr_j1 rfl rfl rfl rfl rfl (fun h1199 => ?_) (fun h1199 => ?_)
      · have z1199 := nt1_eq (by omega) h1199
        exact (by omega)
      · refine xr_stp (st' := .int (Int32.ofNat 1) :: _) rfl rfl rfl rfl ?_
        refine xr_stp rfl rfl rfl rfl ?_
        refine xr_stp rfl rfl rfl rfl ?_
        refine xr_stp rfl rfl rfl rfl ?_
        refine xr_j1 rfl rfl rfl rfl rfl (fun h1211 => ?_) (fun h1211 => ?_)
        · have z1211 := nt1_eq (by omega) h1211
          exact (by omega)
        · refine xr_stp rfl rfl rfl rfl ?_
          refine xr_stp (st' := .int (Int32.ofNat 346) :: _) rfl rfl rfl rfl ?_
          refine xr_stp (st' := .int (Int32.ofNat 4) :: _) rfl rfl rfl rfl ?_
          refine xr_stp rfl rfl rfl rfl ?_
          refine xs_mul rfl ?_
          refine xs_add rfl ?_
          refine xr_stp rfl rfl rfl rfl ?_
          refine xs_add rfl ?_
          refine xs_ald hA gA7 (by omega) (by omega) rfl ?_
          refine xr_stp rfl rfl rfl rfl ?_
          refine xr_stp (st' := .int (Int32.ofNat 342) :: _) rfl rfl rfl rfl ?_
          refine xr_stp rfl rfl rfl rfl ?_
          refine xs_add rfl ?_
          refine xs_ald hA gA7 (by omega) (by omega) rfl ?_
          refine xs_lc (by exact b63 _) (by exact b63 _) rfl ?_
          refine xr_j1 rfl rfl rfl rfl rfl (fun h1236 => ?_) (fun h1236 => ?_)
          · refine xr_stp (st' := .int (Int32.ofNat 0) :: _) rfl rfl rfl rfl ?_
            refine xr_stp rfl rfl rfl rfl ?_
            refine xr_stp rfl rfl rfl rfl ?_
            refine xr_stp rfl rfl rfl rfl ?_
            refine xr_stp rfl rfl rfl rfl ?_
            refine xr_vcps hO rfl rfl rfl rfl rfl rfl (fun r1 K2 => cq_nee1 _ _ _ nn q dl tx sy T N fi m mm f W2 G GS hc2 a b ha hb hne (by omega) h0 r1 (K2 _ _ _ _ ?_))
            rw [if_neg hw]
            refine xr_stp rfl rfl rfl rfl ?_
            refine xr_j1 rfl rfl rfl rfl rfl (fun h1256 => ?_) (fun h1256 => ?_)
            · refine xr_stp rfl rfl rfl rfl ?_
              refine xr_j1 rfl rfl rfl rfl rfl (fun h1265 => ?_) (fun h1265 => ?_)
              · refine xr_stp rfl rfl rfl rfl ?_
                refine xr_stp rfl rfl rfl rfl ?_
                refine xr_stp rfl rfl rfl rfl ?_
                refine xr_cps rfl rfl rfl (fun r1 K2 => lw_behind _ _ _ A W2 G hA gA7 a b ha hb hja r1 (K2 _ _ _ _ ?_))
                refine xr_j2 rfl rfl rfl rfl rfl (fun h1280 => ?_) (fun h1280 => ?_)
                · have z1280 := nt_ne h1280
                  exact (by omega)
                · refine xr_stp rfl rfl rfl rfl ?_
                  refine xr_stp rfl rfl rfl rfl ?_
                  refine xr_stp rfl rfl rfl rfl ?_
                  refine xr_stp (st' := .int (Int32.ofNat 0) :: _) rfl rfl rfl rfl ?_
                  refine xr_vcps hO rfl rfl rfl rfl rfl rfl (fun r1 K2 => cq_wou0 _ _ _ nn q dl tx sy T N fi m mm f W2 G GS hc2 a b ha hb hne (by omega) h0 r1 (fun W3 hc3 hf3 => K2 _ _ _ _ ?_))
                  have hs3 := hs2.cls hc3 hf3
                  have hIS := hf3.at hIS (by unfold pq; omega)
                  clear hA hS hO
                  obtain ⟨-, hA, hS, -⟩ := id hs3
                  obtain ⟨lf, lp, hO⟩ := hc3.o
                  refine xr_stp rfl rfl rfl rfl ?_
                  refine xr_j1 rfl rfl rfl rfl rfl (fun h1294 => ?_) (fun h1294 => ?_)
                  · have z1294 := nt1_eq (by omega) h1294
                    exact (by omega)
                  · refine xr_stp rfl rfl rfl rfl ?_
                    refine xr_stp (st' := .int (Int32.ofNat 0) :: _) rfl rfl rfl rfl ?_
                    refine xs_ald hIS gIS (by omega) (by omega) rfl ?_
                    refine xr_cps rfl rfl rfl (fun r1 K2 => lw_many _ _ _ _ W3 (by omega) r1 (K2 _ _ _ _ ?_))
                    refine xr_stp rfl rfl rfl rfl ?_
                    refine xr_j2 rfl rfl rfl rfl rfl (fun h1308 => ?_) (fun h1308 => ?_)
                    · have z1308 := nt_ne h1308
                      exact (by omega)
                    · refine xr_stp rfl rfl rfl rfl ?_
                      refine xr_stp rfl rfl rfl rfl ?_
                      refine xr_stp rfl rfl rfl rfl ?_
                      refine xr_stp (st' := .int (Int32.ofNat 1) :: _) rfl rfl rfl rfl ?_
                      refine xr_vcps hO rfl rfl rfl rfl rfl rfl (fun r1 K2 => cq_wou1 _ _ _ nn q dl tx sy T N fi m mm f W3 G GS hc3 a b ha hb hne (by omega) h0 r1 (fun W4 hc4 hf4 => K2 _ _ _ _ ?_))
                      have hs4 := hs3.cls hc4 hf4
                      have hIS := hf4.at hIS (by unfold pq; omega)
                      clear hA hS hO
                      obtain ⟨-, hA, hS, -⟩ := id hs4
                      obtain ⟨lf, lp, hO⟩ := hc4.o
                      refine xr_stp rfl rfl rfl rfl ?_
                      refine xr_j1 rfl rfl rfl rfl rfl (fun h1322 => ?_) (fun h1322 => ?_)
                      · have z1322 := nt1_eq (by omega) h1322
                        exact (by omega)
                      · refine xr_stp rfl rfl rfl rfl ?_
                        refine xr_stp (st' := .int (Int32.ofNat 1) :: _) rfl rfl rfl rfl ?_
                        refine xs_ald hIS gIS (by omega) (by omega) rfl ?_
                        refine xr_cps rfl rfl rfl (fun r1 K2 => lw_many _ _ _ _ W4 (by omega) r1 (K2 _ _ _ _ ?_))
                        refine xr_stp rfl rfl rfl rfl ?_
                        refine xr_j2 rfl rfl rfl rfl rfl (fun h1336 => ?_) (fun h1336 => ?_)
                        · refine xr_stp rfl rfl rfl rfl ?_
                          refine xr_stp rfl rfl rfl rfl ?_
                          refine xr_stp (st' := .int (Int32.ofNat 1) :: _) rfl rfl rfl rfl ?_
                          refine xs_ald hIS gIS (by omega) (by omega) rfl ?_
                          refine xr_cps rfl rfl rfl (fun r1 K2 => lw_sorted _ _ _ A W4 G hA gA7 b63 J4 (lw_gr G (fun _ => 0) a b 1) (by omega) r1 (fun R W5 zR hR hA5 hf5 => K2 _ _ _ _ ?_))
                          have hs5 := hs4.new hf5
                          have gR : 696 ≤ R := by have := (List.getElem?_eq_some_iff.mp hA).1; omega
                          refine xr_stp rfl rfl rfl rfl ?_
                          refine xr_stp (st' := .int (Int32.ofNat 0) :: _) rfl rfl rfl rfl ?_
                          refine xr_stp rfl rfl rfl rfl ?_
                          refine xr_stp (st' := .int (Int32.ofNat 4294967295) :: _) rfl rfl rfl rfl ?_
                          refine xr_stp rfl rfl rfl rfl ?_
                          refine xr_stp (st' := .long (Int64.ofNat 0) :: _) rfl rfl rfl rfl ?_
                          refine xr_stp rfl rfl rfl rfl ?_
                          refine xr_stp (st' := .int (Int32.ofNat 0) :: _) rfl rfl rfl rfl ?_
                          refine xr_stp rfl rfl rfl rfl ?_
                          refine xr_loc [(0, .ref 17), (1, .ref 16), (2, .int (Int32.ofNat q)), (3, .ref A), (4, .int (Int32.ofNat tm)), (5, .ref B), (9, .long (Int64.ofNat (aH G 4))), (11, .long (Int64.ofNat (aK G 4))), (17, .int (Int32.ofNat a)), (18, .long (Int64.ofNat (G (330 + 2 * a)))), (20, .long (Int64.ofNat (G (331 + 2 * a)))), (23, .int (Int32.ofNat b)), (35, .int (Int32.ofNat 1)), (37, .ref R), (38, .int (Int32.ofNat (cQ G (lw_gr G (fun _ => 0) a b 1) 0))), (39, .int (Int32.ofNat 4294967295)), (40, .long (Int64.ofNat 0)), (42, .int (Int32.ofNat 0))] ⟨rfl, rfl, rfl, rfl, rfl, rfl, rfl, rfl, rfl, rfl, rfl, rfl, rfl, rfl, rfl, rfl, rfl, rfl, trivial⟩ rfl ?_
                          refine acl_0 d _ _ tm B nn q dl tx sy T N fi m mm A f G GS r a b ha hb hne h0 R gR W5 hs5 hR (fun W6 hs6 hf6 => ?_)
                          clear hA hS hO
                          obtain ⟨hc6, hA, hS, -⟩ := id hs6
                          obtain ⟨lf, lp, hO⟩ := hc6.o
                          refine xr_stp rfl rfl rfl rfl ?_
                          refine xr_stp rfl rfl rfl rfl ?_
                          refine xr_stp rfl rfl rfl rfl ?_
                          refine xr_stp (st' := .int (Int32.ofNat 4294967295) :: _) rfl rfl rfl rfl ?_
                          refine xr_stp (st' := .int (Int32.ofNat 0) :: _) rfl rfl rfl rfl ?_
                          refine xr_vcps hO rfl rfl rfl rfl rfl rfl (fun r1 K2 => cq_cloC _ _ _ nn q dl tx sy T N fi m mm f W6 G GS hc6 a b ha hb hne (by omega) h0 0 r1 (fun W7 hc7 hf7 => K2 _ _ _ _ ?_))
                          have hs7 := hs6.cls hc7 hf7
                          clear hA hS hO
                          obtain ⟨-, hA, hS, -⟩ := id hs7
                          obtain ⟨lf, lp, hO⟩ := hc7.o
                          refine xr_stp rfl rfl rfl rfl ?_
                          refine xr_j1 rfl rfl rfl rfl rfl (fun h1502 => ?_) (fun h1502 => ?_)
                          · have z1502 := nt1_eq (by omega) h1502
                            exact (by omega)
                          · refine xr_stp rfl rfl rfl rfl ?_
                            refine xr_stp rfl rfl rfl rfl ?_
                            refine xr_j2 rfl rfl rfl rfl rfl (fun h1512 => ?_) (fun h1512 => ?_)
                            · have z1512 := nt_ne h1512
                              exact (by omega)
                            · refine xr_stp rfl rfl rfl rfl ?_
                              refine xr_stp rfl rfl rfl rfl ?_
                              refine xr_stp rfl rfl rfl rfl ?_
                              refine xr_stp rfl rfl rfl rfl ?_
                              refine xr_stp (st' := .int (Int32.ofNat 0) :: _) rfl rfl rfl rfl ?_
                              refine xr_vcps hO rfl rfl rfl rfl rfl rfl (fun r1 K2 => cq_cloX _ _ _ nn q dl tx sy T N fi m mm f W7 G GS hc7 a b ha hb hne (by omega) h0 (cQ G (lw_gr G (fun _ => 0) a b 1) (bc 63 (lw_gr G (fun _ => 0) a b 1))) 0 (Nat.le_refl _) (by omega) r1 (fun W8 hc8 hf8 => K2 _ _ _ _ ?_))
                              have hs8 := hs7.cls hc8 hf8
                              refine xr_stp (st' := .int (Int32.ofNat 4294967294) :: _) rfl rfl rfl rfl ?_
                              refine xr_j2 rfl rfl rfl rfl rfl (fun h1528 => ?_) (fun h1528 => ?_)
                              · refine xr_loc [(0, .ref 17), (1, .ref 16), (2, .int (Int32.ofNat q)), (3, .ref A), (4, .int (Int32.ofNat tm)), (5, .ref B), (9, .long (Int64.ofNat (aH G 4))), (11, .long (Int64.ofNat (aK G 4))), (17, .int (Int32.ofNat a)), (18, .long (Int64.ofNat (G (330 + 2 * a)))), (20, .long (Int64.ofNat (G (331 + 2 * a)))), (23, .int (Int32.ofNat b))] ⟨rfl, rfl, rfl, rfl, rfl, rfl, rfl, rfl, rfl, rfl, rfl, rfl, trivial⟩ rfl ?_
                                refine K W8 _ _ (Nat.le_refl _) (by omega) hs8 ⟨by have := hf1.1; have := hf2.1; have := hf3.1; have := hf4.1; have := hf5.1; have := hf6.1; have := hf7.1; have := hf8.1; omega, fun i hi hp => ?_⟩
                                have l1 := hf1.1; have l2 := hf2.1; have l3 := hf3.1; have l4 := hf4.1; have l5 := hf5.1; have l6 := hf6.1; have l7 := hf7.1
                                exact (hf8.2 i (by omega) hp).trans ((hf7.2 i (by omega) hp).trans ((hf6.2 i (by omega) hp).trans ((hf5.2 i (by omega) (fun z => z)).trans ((hf4.2 i (by omega) hp).trans ((hf3.2 i (by omega) hp).trans ((hf2.2 i (by omega) (fun (z : i = IS) => by omega)).trans (hf1.2 i hi (fun z => z))))))))
                              · have z1528 := nf_eq h1528
                                exact (by omega)
                        · have z1336 := nf_eq h1336
                          exact (by omega)
              · have z1265 := nf1_eq h1265
                exact (by omega)
            · have z1256 := nf1_ne (by omega) h1256
              exact (by omega)
          · have z1236 := lf_ge h1236
            exact (by omega)
