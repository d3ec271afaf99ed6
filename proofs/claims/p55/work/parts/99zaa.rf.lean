/-! asks: refusals; all of it -/
theorem rfL (d c s : Nat) (nn q dl tx sy T N fi m mm A : Nat) (f : Nat → Int32) (G : Nat → Nat) (GS : Nat → Nat → Nat) (r : xi_R → Prop) (lw : Nat) (W0 : xi_W) (hs : scn nn f q dl tx sy T N fi m mm G GS A W0) (K : ∀ W', scn nn f q dl tx sy T N fi m mm G GS A W' → fr pq W0 W' → r (some (.int (Int32.ofNat 1)), W', c, s)) : xr (d + 9) 204 1699 [(0, .ref 17), (1, .ref 16), (2, .int (Int32.ofNat q)), (3, .ref A), (17, .int (Int32.ofNat lw))] [] W0 c s r := by
  obtain ⟨hc, hA, hS, gA, hz, hN, hnn⟩ := id hs
  obtain ⟨F, hw, hr⟩ := hc.w
  have J := hr.j
  have he := hr.e
  have J4 := J.e
  have b63 := J.b63
  have gA7 : 17 ≤ A := by omega
  obtain ⟨lf, lp, hO⟩ := hc.o
  refine xr_stp rfl rfl rfl rfl ?_
  refine xr_stp (st' := .int (Int32.ofNat 0) :: _) rfl rfl rfl rfl ?_
  refine xr_stp (st' := .int (Int32.ofNat 0) :: _) rfl rfl rfl rfl ?_
  refine xr_stp (st' := .int (Int32.ofNat 0) :: _) rfl rfl rfl rfl ?_
  refine xr_stp (st' := .int (Int32.ofNat 0) :: _) rfl rfl rfl rfl ?_
  refine xr_vcps hO rfl rfl rfl rfl rfl rfl (fun r1 K2 => cb_said1 _ _ _ _ r1 (K2 _ _ _ _ ?_))
  refine xr_stp (st' := .int (Int32.ofNat 4294967294) :: _) rfl rfl rfl rfl ?_
  refine xr_j2 rfl rfl rfl rfl rfl (fun h1709 => ?_) (fun h1709 => ?_)
  · have z1709 := nt_ne h1709
    exact (by omega)
  · refine xr_stp rfl rfl rfl rfl ?_
    refine xr_stp (st' := .int (Int32.ofNat 0) :: _) rfl rfl rfl rfl ?_
    refine xr_stp (st' := .int (Int32.ofNat 1) :: _) rfl rfl rfl rfl ?_
    refine xr_stp (st' := .int (Int32.ofNat 100) :: _) rfl rfl rfl rfl ?_
    refine xr_stp (st' := .int (Int32.ofNat 0) :: _) rfl rfl rfl rfl ?_
    refine xr_vcps hO rfl rfl rfl rfl rfl rfl (fun r1 K2 => cb_said2 _ _ _ _ r1 (K2 _ _ _ _ ?_))
    refine xr_stp (st' := .int (Int32.ofNat 4294967294) :: _) rfl rfl rfl rfl ?_
    refine xr_j2 rfl rfl rfl rfl rfl (fun h1723 => ?_) (fun h1723 => ?_)
    · have z1723 := nt_ne h1723
      exact (by omega)
    · refine xr_stp rfl rfl rfl rfl ?_
      refine xr_stp (st' := .int (Int32.ofNat 0) :: _) rfl rfl rfl rfl ?_
      refine xr_stp (st' := .int (Int32.ofNat 1) :: _) rfl rfl rfl rfl ?_
      refine xr_stp (st' := .int (Int32.ofNat 0) :: _) rfl rfl rfl rfl ?_
      refine xr_stp (st' := .int (Int32.ofNat 2) :: _) rfl rfl rfl rfl ?_
      refine xr_vcps hO rfl rfl rfl rfl rfl rfl (fun r1 K2 => cb_said3 _ _ _ _ r1 (K2 _ _ _ _ ?_))
      refine xr_stp (st' := .int (Int32.ofNat 4294967294) :: _) rfl rfl rfl rfl ?_
      refine xr_j2 rfl rfl rfl rfl rfl (fun h1736 => ?_) (fun h1736 => ?_)
      · have z1736 := nt_ne h1736
        exact (by omega)
      · refine xr_stp rfl rfl rfl rfl ?_
        refine xr_stp (st' := .int (Int32.ofNat 5) :: _) rfl rfl rfl rfl ?_
        refine xr_vcps hO rfl rfl rfl rfl rfl rfl (fun r1 K2 => cb_led5 _ _ _ _ r1 (K2 _ _ _ _ ?_))
        refine xr_stp (st' := .int (Int32.ofNat 4294967294) :: _) rfl rfl rfl rfl ?_
        refine xr_j2 rfl rfl rfl rfl rfl (fun h1746 => ?_) (fun h1746 => ?_)
        · have z1746 := nt_ne h1746
          exact (by omega)
        · refine xr_stp rfl rfl rfl rfl ?_
          refine xr_stp (st' := .int (Int32.ofNat 0) :: _) rfl rfl rfl rfl ?_
          refine xr_stp (st' := .int (Int32.ofNat 0) :: _) rfl rfl rfl rfl ?_
          refine xr_vcps hO rfl rfl rfl rfl rfl rfl (fun r1 K2 => cb_for1 _ _ _ _ r1 (K2 _ _ _ _ ?_))
          refine xr_stp (st' := .int (Int32.ofNat 4294967295) :: _) rfl rfl rfl rfl ?_
          refine xr_j2 rfl rfl rfl rfl rfl (fun h1756 => ?_) (fun h1756 => ?_)
          · have z1756 := nt_ne h1756
            exact (by omega)
          · refine xr_stp rfl rfl rfl rfl ?_
            refine xr_stp (st' := .int (Int32.ofNat 13) :: _) rfl rfl rfl rfl ?_
            refine xr_stp (st' := .int (Int32.ofNat 0) :: _) rfl rfl rfl rfl ?_
            refine xr_vcps hO rfl rfl rfl rfl rfl rfl (fun r1 K2 => cb_for2 _ _ _ _ r1 (K2 _ _ _ _ ?_))
            refine xr_stp (st' := .int (Int32.ofNat 4294967295) :: _) rfl rfl rfl rfl ?_
            refine xr_j2 rfl rfl rfl rfl rfl (fun h1767 => ?_) (fun h1767 => ?_)
            · have z1767 := nt_ne h1767
              exact (by omega)
            · refine xr_stp rfl rfl rfl rfl ?_
              refine xr_stp (st' := .int (Int32.ofNat 1) :: _) rfl rfl rfl rfl ?_
              refine xr_stp (st' := .int (Int32.ofNat 4) :: _) rfl rfl rfl rfl ?_
              refine xr_vcps hO rfl rfl rfl rfl rfl rfl (fun r1 K2 => cb_for3 _ _ _ _ r1 (K2 _ _ _ _ ?_))
              refine xr_stp (st' := .int (Int32.ofNat 4294967295) :: _) rfl rfl rfl rfl ?_
              refine xr_j2 rfl rfl rfl rfl rfl (fun h1777 => ?_) (fun h1777 => ?_)
              · have z1777 := nt_ne h1777
                exact (by omega)
              · refine xr_stp rfl rfl rfl rfl ?_
                refine xr_stp (st' := .int (Int32.ofNat 4) :: _) rfl rfl rfl rfl ?_
                refine xr_stp (st' := .int (Int32.ofNat 0) :: _) rfl rfl rfl rfl ?_
                refine xr_vcps hO rfl rfl rfl rfl rfl rfl (fun r1 K2 => cb_ctx _ _ _ _ r1 (K2 _ _ _ _ ?_))
                refine xr_stp (st' := .int (Int32.ofNat 4294967295) :: _) rfl rfl rfl rfl ?_
                refine xr_j2 rfl rfl rfl rfl rfl (fun h1787 => ?_) (fun h1787 => ?_)
                · have z1787 := nt_ne h1787
                  exact (by omega)
                · refine xr_stp rfl rfl rfl rfl ?_
                  refine xr_stp (st' := .int (Int32.ofNat 0) :: _) rfl rfl rfl rfl ?_
                  refine xr_stp (st' := .int (Int32.ofNat 0) :: _) rfl rfl rfl rfl ?_
                  refine xr_stp (st' := .int (Int32.ofNat 0) :: _) rfl rfl rfl rfl ?_
                  refine xr_vcps hO rfl rfl rfl rfl rfl rfl (fun r1 K2 => cb_kno1 _ _ _ _ r1 (K2 _ _ _ _ ?_))
                  refine xr_j1 rfl rfl rfl rfl rfl (fun h1797 => ?_) (fun h1797 => ?_)
                  · have z1797 := nt1_ne h1797
                    exact (by omega)
                  · refine xr_stp rfl rfl rfl rfl ?_
                    refine xr_stp (st' := .int (Int32.ofNat 0) :: _) rfl rfl rfl rfl ?_
                    refine xr_stp (st' := .int (Int32.ofNat 0) :: _) rfl rfl rfl rfl ?_
                    refine xr_stp (st' := .int (Int32.ofNat 64) :: _) rfl rfl rfl rfl ?_
                    refine xr_vcps hO rfl rfl rfl rfl rfl rfl (fun r1 K2 => cb_kno2 _ _ _ _ r1 (K2 _ _ _ _ ?_))
                    refine xr_j1 rfl rfl rfl rfl rfl (fun h1808 => ?_) (fun h1808 => ?_)
                    · have z1808 := nt1_ne h1808
                      exact (by omega)
                    · refine xr_stp rfl rfl rfl rfl ?_
                      refine xr_stp (st' := .int (Int32.ofNat 0) :: _) rfl rfl rfl rfl ?_
                      refine xr_stp (st' := .int (Int32.ofNat 0) :: _) rfl rfl rfl rfl ?_
                      refine xr_vcps hO rfl rfl rfl rfl rfl rfl (fun r1 K2 => cb_ack _ _ _ _ r1 (K2 _ _ _ _ ?_))
                      refine xr_stp (st' := .int (Int32.ofNat 4294967295) :: _) rfl rfl rfl rfl ?_
                      refine xr_j2 rfl rfl rfl rfl rfl (fun h1818 => ?_) (fun h1818 => ?_)
                      · have z1818 := nt_ne h1818
                        exact (by omega)
                      · refine xr_stp rfl rfl rfl rfl ?_
                        refine xr_stp (st' := .int (Int32.ofNat 0) :: _) rfl rfl rfl rfl ?_
                        refine xr_stp (st' := .int (Int32.ofNat 0) :: _) rfl rfl rfl rfl ?_
                        refine xr_vcps hO rfl rfl rfl rfl rfl rfl (fun r1 K2 => cq_neeE _ _ _ nn q dl tx sy T N fi m mm f W0 G GS hc 0 (by omega) r1 (K2 _ _ _ _ ?_))
                        refine xr_stp (st' := .int (Int32.ofNat 4294967295) :: _) rfl rfl rfl rfl ?_
                        refine xr_j2 rfl rfl rfl rfl rfl (fun h1828 => ?_) (fun h1828 => ?_)
                        · have z1828 := nt_ne h1828
                          exact (by omega)
                        · refine xr_stp rfl rfl rfl rfl ?_
                          refine xr_stp (st' := .int (Int32.ofNat 0) :: _) rfl rfl rfl rfl ?_
                          refine xr_stp (st' := .int (Int32.ofNat 1) :: _) rfl rfl rfl rfl ?_
                          refine xr_stp (st' := .int (Int32.ofNat 2) :: _) rfl rfl rfl rfl ?_
                          refine xr_vcps hO rfl rfl rfl rfl rfl rfl (fun r1 K2 => cb_wou _ _ _ nn q dl tx sy T N fi m mm f W0 G GS hc (by omega) r1 (K2 _ _ _ _ ?_))
                          refine xr_stp (st' := .int (Int32.ofNat 4294967295) :: _) rfl rfl rfl rfl ?_
                          refine xr_j2 rfl rfl rfl rfl rfl (fun h1839 => ?_) (fun h1839 => ?_)
                          · have z1839 := nt_ne h1839
                            exact (by omega)
                          · refine xr_stp rfl rfl rfl rfl ?_
                            refine xr_stp (st' := .int (Int32.ofNat 4) :: _) rfl rfl rfl rfl ?_
                            refine xr_vcps hO rfl rfl rfl rfl rfl rfl (fun r1 K2 => cb_dig _ _ _ _ r1 (K2 _ _ _ _ ?_))
                            refine xr_stp (st' := .int (Int32.ofNat 4294967295) :: _) rfl rfl rfl rfl ?_
                            refine xr_j2 rfl rfl rfl rfl rfl (fun h1848 => ?_) (fun h1848 => ?_)
                            · have z1848 := nt_ne h1848
                              exact (by omega)
                            · refine xr_stp rfl rfl rfl rfl ?_
                              refine xr_stp (st' := .int (Int32.ofNat 0) :: _) rfl rfl rfl rfl ?_
                              refine xr_stp (st' := .int (Int32.ofNat 4) :: _) rfl rfl rfl rfl ?_
                              refine xr_vcps hO rfl rfl rfl rfl rfl rfl (fun r1 K2 => cb_sam _ _ _ _ r1 (K2 _ _ _ _ ?_))
                              refine xr_j1 rfl rfl rfl rfl rfl (fun h1857 => ?_) (fun h1857 => ?_)
                              · have z1857 := nt1_ne h1857
                                exact (by omega)
                              · refine xr_stp rfl rfl rfl rfl ?_
                                refine xr_stp (st' := .int (Int32.ofNat 4) :: _) rfl rfl rfl rfl ?_
                                refine xr_stp (st' := .int (Int32.ofNat 0) :: _) rfl rfl rfl rfl ?_
                                refine xr_vcps hO rfl rfl rfl rfl rfl rfl (fun r1 K2 => cb_bel _ _ _ _ r1 (K2 _ _ _ _ ?_))
                                refine xr_j1 rfl rfl rfl rfl rfl (fun h1866 => ?_) (fun h1866 => ?_)
                                · have z1866 := nt1_ne h1866
                                  exact (by omega)
                                · refine xr_stp rfl rfl rfl rfl ?_
                                  refine xr_stp (st' := .int (Int32.ofNat 0) :: _) rfl rfl rfl rfl ?_
                                  refine xr_stp (st' := .int (Int32.ofNat 4) :: _) rfl rfl rfl rfl ?_
                                  refine xr_stp (st' := .int (Int32.ofNat 0) :: _) rfl rfl rfl rfl ?_
                                  refine xr_vcps hO rfl rfl rfl rfl rfl rfl (fun r1 K2 => cb_joi _ _ _ _ r1 (K2 _ _ _ _ ?_))
                                  refine xr_stp (st' := .int (Int32.ofNat 4294967295) :: _) rfl rfl rfl rfl ?_
                                  refine xr_j2 rfl rfl rfl rfl rfl (fun h1877 => ?_) (fun h1877 => ?_)
                                  · have z1877 := nt_ne h1877
                                    exact (by omega)
                                  · refine xr_stp rfl rfl rfl rfl ?_
                                    refine xr_stp (st' := .int (Int32.ofNat 0) :: _) rfl rfl rfl rfl ?_
                                    refine xr_stp (st' := .int (Int32.ofNat 0) :: _) rfl rfl rfl rfl ?_
                                    refine xr_stp (st' := .int (Int32.ofNat 3) :: _) rfl rfl rfl rfl ?_
                                    refine xr_vcps hO rfl rfl rfl rfl rfl rfl (fun r1 K2 => cb_joi3 _ _ _ nn q dl tx sy T N fi m mm f W0 G GS hc r1 (fun W1 hc1 hf1 => K2 _ _ _ _ ?_))
                                    have hs1 := hs.cls hc1 hf1
                                    clear hO
                                    obtain ⟨lf, lp, hO⟩ := hc1.o
                                    refine xr_stp (st' := .int (Int32.ofNat 4294967295) :: _) rfl rfl rfl rfl ?_
                                    refine xr_j2 rfl rfl rfl rfl rfl (fun h1888 => ?_) (fun h1888 => ?_)
                                    · have z1888 := nt_ne h1888
                                      exact (by omega)
                                    · refine xr_stp rfl rfl rfl rfl ?_
                                      refine xr_stp (st' := .int (Int32.ofNat 4) :: _) rfl rfl rfl rfl ?_
                                      refine xr_vcps hO rfl rfl rfl rfl rfl rfl (fun r1 K2 => cb_par _ _ _ _ r1 (K2 _ _ _ _ ?_))
                                      refine xr_stp (st' := .int (Int32.ofNat 4294967295) :: _) rfl rfl rfl rfl ?_
                                      refine xr_j2 rfl rfl rfl rfl rfl (fun h1897 => ?_) (fun h1897 => ?_)
                                      · have z1897 := nt_ne h1897
                                        exact (by omega)
                                      · refine xr_stp rfl rfl rfl rfl ?_
                                        refine xr_stp (st' := .int (Int32.ofNat 4) :: _) rfl rfl rfl rfl ?_
                                        refine xr_stp (st' := .int (Int32.ofNat 0) :: _) rfl rfl rfl rfl ?_
                                        refine xr_vcps hO rfl rfl rfl rfl rfl rfl (fun r1 K2 => cb_unl _ _ _ _ r1 (K2 _ _ _ _ ?_))
                                        refine xr_stp (st' := .int (Int32.ofNat 4294967295) :: _) rfl rfl rfl rfl ?_
                                        refine xr_j2 rfl rfl rfl rfl rfl (fun h1907 => ?_) (fun h1907 => ?_)
                                        · have z1907 := nt_ne h1907
                                          exact (by omega)
                                        · refine xr_stp rfl rfl rfl rfl ?_
                                          refine xr_stp (st' := .int (Int32.ofNat 0) :: _) rfl rfl rfl rfl ?_
                                          refine xr_stp (st' := .int (Int32.ofNat 4) :: _) rfl rfl rfl rfl ?_
                                          refine xr_vcps hO rfl rfl rfl rfl rfl rfl (fun r1 K2 => cb_spa _ _ _ _ r1 (K2 _ _ _ _ ?_))
                                          refine xr_stp (st' := .int (Int32.ofNat 4294967295) :: _) rfl rfl rfl rfl ?_
                                          refine xr_j2 rfl rfl rfl rfl rfl (fun h1917 => ?_) (fun h1917 => ?_)
                                          · have z1917 := nt_ne h1917
                                            exact (by omega)
                                          · refine xr_stp rfl rfl rfl rfl ?_
                                            refine xr_stp (st' := .int (Int32.ofNat 0) :: _) rfl rfl rfl rfl ?_
                                            refine xr_stp (st' := .int (Int32.ofNat 0) :: _) rfl rfl rfl rfl ?_
                                            refine xr_stp (st' := .int (Int32.ofNat 3) :: _) rfl rfl rfl rfl ?_
                                            refine xr_vcps hO rfl rfl rfl rfl rfl rfl (fun r1 K2 => cb_win _ _ _ _ r1 (K2 _ _ _ _ ?_))
                                            refine xr_stp (st' := .int (Int32.ofNat 4294967295) :: _) rfl rfl rfl rfl ?_
                                            refine xr_j2 rfl rfl rfl rfl rfl (fun h1928 => ?_) (fun h1928 => ?_)
                                            · have z1928 := nt_ne h1928
                                              exact (by omega)
                                            · refine xr_stp rfl rfl rfl rfl ?_
                                              refine xr_stp (st' := .int (Int32.ofNat 4) :: _) rfl rfl rfl rfl ?_
                                              refine xr_vcps hO rfl rfl rfl rfl rfl rfl (fun r1 K2 => cb_tor _ _ _ _ r1 (K2 _ _ _ _ ?_))
                                              refine xr_stp (st' := .int (Int32.ofNat 4294967295) :: _) rfl rfl rfl rfl ?_
                                              refine xr_j2 rfl rfl rfl rfl rfl (fun h1937 => ?_) (fun h1937 => ?_)
                                              · have z1937 := nt_ne h1937
                                                exact (by omega)
                                              · refine xr_stp rfl rfl rfl rfl ?_
                                                refine xr_stp (st' := .int (Int32.ofNat 0) :: _) rfl rfl rfl rfl ?_
                                                refine xr_stp (st' := .int (Int32.ofNat 4) :: _) rfl rfl rfl rfl ?_
                                                refine xr_vcps hO rfl rfl rfl rfl rfl rfl (fun r1 K2 => cb_fld _ _ _ _ r1 (K2 _ _ _ _ ?_))
                                                refine xr_stp (st' := .int (Int32.ofNat 4294967295) :: _) rfl rfl rfl rfl ?_
                                                refine xr_j2 rfl rfl rfl rfl rfl (fun h1947 => ?_) (fun h1947 => ?_)
                                                · have z1947 := nt_ne h1947
                                                  exact (by omega)
                                                · refine xr_stp rfl rfl rfl rfl ?_
                                                  refine xr_stp (st' := .int (Int32.ofNat 4) :: _) rfl rfl rfl rfl ?_
                                                  refine xr_stp (st' := .int (Int32.ofNat 0) :: _) rfl rfl rfl rfl ?_
                                                  refine xr_vcps hO rfl rfl rfl rfl rfl rfl (fun r1 K2 => cb_sum _ _ _ _ r1 (K2 _ _ _ _ ?_))
                                                  refine xr_stp (st' := .int (Int32.ofNat 4294967295) :: _) rfl rfl rfl rfl ?_
                                                  refine xr_j2 rfl rfl rfl rfl rfl (fun h1957 => ?_) (fun h1957 => ?_)
                                                  · have z1957 := nt_ne h1957
                                                    exact (by omega)
                                                  · refine xr_stp rfl rfl rfl rfl ?_
                                                    refine xr_stp (st' := .int (Int32.ofNat 0) :: _) rfl rfl rfl rfl ?_
                                                    refine xr_stp (st' := .int (Int32.ofNat 4) :: _) rfl rfl rfl rfl ?_
                                                    refine xr_vcps hO rfl rfl rfl rfl rfl rfl (fun r1 K2 => cb_sha _ _ _ _ r1 (K2 _ _ _ _ ?_))
                                                    refine xr_stp (st' := .int (Int32.ofNat 4294967295) :: _) rfl rfl rfl rfl ?_
                                                    refine xr_j2 rfl rfl rfl rfl rfl (fun h1967 => ?_) (fun h1967 => ?_)
                                                    · have z1967 := nt_ne h1967
                                                      exact (by omega)
                                                    · refine xr_stp rfl rfl rfl rfl ?_
                                                      refine xr_stp (st' := .int (Int32.ofNat 4) :: _) rfl rfl rfl rfl ?_
                                                      refine xr_vcps hO rfl rfl rfl rfl rfl rfl (fun r1 K2 => cb_beh _ _ _ _ r1 (K2 _ _ _ _ ?_))
                                                      refine xr_stp (st' := .int (Int32.ofNat 4294967295) :: _) rfl rfl rfl rfl ?_
                                                      refine xr_j2 rfl rfl rfl rfl rfl (fun h1976 => ?_) (fun h1976 => ?_)
                                                      · have z1976 := nt_ne h1976
                                                        exact (by omega)
                                                      · refine xr_stp rfl rfl rfl rfl ?_
                                                        refine xr_stp (st' := .int (Int32.ofNat 0) :: _) rfl rfl rfl rfl ?_
                                                        refine xr_stp (st' := .int (Int32.ofNat 0) :: _) rfl rfl rfl rfl ?_
                                                        refine xr_vcps hO rfl rfl rfl rfl rfl rfl (fun r1 K2 => cb_spe _ _ _ _ r1 (K2 _ _ _ _ ?_))
                                                        refine xr_j1 rfl rfl rfl rfl rfl (fun h1985 => ?_) (fun h1985 => ?_)
                                                        · have z1985 := nt1_ne h1985
                                                          exact (by omega)
                                                        · refine xr_stp (st' := .int (Int32.ofNat 1) :: _) rfl rfl rfl rfl ?_
                                                          refine xr_stp rfl rfl rfl rfl ?_
                                                          exact xr_retb (by omega) rfl rfl (K W1 hs1 hf1)
