/-! the law itself: its end -/
def uP (i : Nat) : Prop := i < 696
theorem fr.u {P : Nat → Prop} {W W' : xi_W} (h : fr P W W') (hp : ∀ i, P i → i < 696) : fr uP W W' := h.weak (fun i _ z => hp i z)
theorem mRef (d c s : Nat) (nn q dl tx sy T N fi : Nat) (f : Nat → Int32) (W0 : xi_W) (G : Nat → Nat) (GS : Nat → Nat → Nat) (hc : cmx nn f q dl tx sy T N fi 0 0 G GS W0) (r : xi_R → Prop) (K : r (some (.int (Int32.ofNat 1)), W0, c, s)) : xr (d + 14) 199 893 [(1, .ref 17)] [] W0 c s r := by
  obtain ⟨lf, lp, hO⟩ := hc.o
  refine xr_stp rfl rfl rfl rfl ?_
  refine xr_vcps hO rfl rfl rfl rfl rfl rfl (fun r1 K2 => cl_undo0 _ _ _ nn q dl tx sy T N fi 0 f W0 G GS hc r1 (K2 _ _ _ _ ?_))
  refine xr_stp (st' := .int (Int32.ofNat 4294967295) :: _) rfl rfl rfl rfl ?_
  refine xr_j2 rfl rfl rfl rfl rfl (fun h898 => ?_) (fun h898 => ?_)
  · have z898 := nt_ne h898
    exact (by omega)
  · refine xr_stp rfl rfl rfl rfl ?_
    refine xr_stp (st' := .int (Int32.ofNat 0) :: _) rfl rfl rfl rfl ?_
    refine xr_vcps hO rfl rfl rfl rfl rfl rfl (fun r1 K2 => cb_day0 _ _ _ _ r1 (K2 _ _ _ _ ?_))
    refine xr_stp (st' := .int (Int32.ofNat 4294967295) :: _) rfl rfl rfl rfl ?_
    refine xr_j2 rfl rfl rfl rfl rfl (fun h907 => ?_) (fun h907 => ?_)
    · have z907 := nt_ne h907
      exact (by omega)
    · refine xr_stp rfl rfl rfl rfl ?_
      refine xr_stp (st' := .int (Int32.ofNat 13) :: _) rfl rfl rfl rfl ?_
      refine xr_vcps hO rfl rfl rfl rfl rfl rfl (fun r1 K2 => cb_day1 _ _ _ _ r1 (K2 _ _ _ _ ?_))
      refine xr_stp (st' := .int (Int32.ofNat 4294967295) :: _) rfl rfl rfl rfl ?_
      refine xr_j2 rfl rfl rfl rfl rfl (fun h917 => ?_) (fun h917 => ?_)
      · have z917 := nt_ne h917
        exact (by omega)
      · refine xr_stp rfl rfl rfl rfl ?_
        refine xr_stp (st' := .int (Int32.ofNat 4) :: _) rfl rfl rfl rfl ?_
        refine xr_stp (st' := .int (Int32.ofNat 0) :: _) rfl rfl rfl rfl ?_
        refine xr_stp (st' := .int (Int32.ofNat 0) :: _) rfl rfl rfl rfl ?_
        refine xr_stp (st' := .int (Int32.ofNat 0) :: _) rfl rfl rfl rfl ?_
        refine xr_vcps hO rfl rfl rfl rfl rfl rfl (fun r1 K2 => cb_set1 _ _ _ _ r1 (K2 _ _ _ _ ?_))
        refine xr_stp (st' := .int (Int32.ofNat 4294967295) :: _) rfl rfl rfl rfl ?_
        refine xr_j2 rfl rfl rfl rfl rfl (fun h929 => ?_) (fun h929 => ?_)
        · have z929 := nt_ne h929
          exact (by omega)
        · refine xr_stp rfl rfl rfl rfl ?_
          refine xr_stp (st' := .int (Int32.ofNat 0) :: _) rfl rfl rfl rfl ?_
          refine xr_stp (st' := .int (Int32.ofNat 4) :: _) rfl rfl rfl rfl ?_
          refine xr_stp (st' := .int (Int32.ofNat 0) :: _) rfl rfl rfl rfl ?_
          refine xr_stp (st' := .int (Int32.ofNat 0) :: _) rfl rfl rfl rfl ?_
          refine xr_vcps hO rfl rfl rfl rfl rfl rfl (fun r1 K2 => cb_set2 _ _ _ _ r1 (K2 _ _ _ _ ?_))
          refine xr_stp (st' := .int (Int32.ofNat 4294967295) :: _) rfl rfl rfl rfl ?_
          refine xr_j2 rfl rfl rfl rfl rfl (fun h941 => ?_) (fun h941 => ?_)
          · have z941 := nt_ne h941
            exact (by omega)
          · refine xr_stp rfl rfl rfl rfl ?_
            refine xr_stp (st' := .int (Int32.ofNat 0) :: _) rfl rfl rfl rfl ?_
            refine xr_stp (st' := .int (Int32.ofNat 0) :: _) rfl rfl rfl rfl ?_
            refine xr_stp (st' := .int (Int32.ofNat 3) :: _) rfl rfl rfl rfl ?_
            refine xr_stp (st' := .int (Int32.ofNat 0) :: _) rfl rfl rfl rfl ?_
            refine xr_vcps hO rfl rfl rfl rfl rfl rfl (fun r1 K2 => cb_set3 _ _ _ _ r1 (K2 _ _ _ _ ?_))
            refine xr_stp (st' := .int (Int32.ofNat 4294967295) :: _) rfl rfl rfl rfl ?_
            refine xr_j2 rfl rfl rfl rfl rfl (fun h953 => ?_) (fun h953 => ?_)
            · have z953 := nt_ne h953
              exact (by omega)
            · refine xr_stp rfl rfl rfl rfl ?_
              refine xr_stp (st' := .int (Int32.ofNat 0) :: _) rfl rfl rfl rfl ?_
              refine xr_stp (st' := .int (Int32.ofNat 0) :: _) rfl rfl rfl rfl ?_
              refine xr_stp (st' := .int (Int32.ofNat 0) :: _) rfl rfl rfl rfl ?_
              refine xr_stp (st' := .int (Int32.ofNat 100) :: _) rfl rfl rfl rfl ?_
              refine xr_vcps hO rfl rfl rfl rfl rfl rfl (fun r1 K2 => cb_set4 _ _ _ _ r1 (K2 _ _ _ _ ?_))
              refine xr_stp (st' := .int (Int32.ofNat 4294967295) :: _) rfl rfl rfl rfl ?_
              refine xr_j2 rfl rfl rfl rfl rfl (fun h966 => ?_) (fun h966 => ?_)
              · have z966 := nt_ne h966
                exact (by omega)
              · refine xr_stp rfl rfl rfl rfl ?_
                refine xr_stp (st' := .int (Int32.ofNat 4) :: _) rfl rfl rfl rfl ?_
                refine xr_stp (st' := .int (Int32.ofNat 0) :: _) rfl rfl rfl rfl ?_
                refine xr_stp (st' := .int (Int32.ofNat 0) :: _) rfl rfl rfl rfl ?_
                refine xr_vcps hO rfl rfl rfl rfl rfl rfl (fun r1 K2 => cb_cle1 _ _ _ _ r1 (K2 _ _ _ _ ?_))
                refine xr_stp (st' := .int (Int32.ofNat 4294967295) :: _) rfl rfl rfl rfl ?_
                refine xr_j2 rfl rfl rfl rfl rfl (fun h977 => ?_) (fun h977 => ?_)
                · have z977 := nt_ne h977
                  exact (by omega)
                · refine xr_stp rfl rfl rfl rfl ?_
                  refine xr_stp (st' := .int (Int32.ofNat 0) :: _) rfl rfl rfl rfl ?_
                  refine xr_stp (st' := .int (Int32.ofNat 0) :: _) rfl rfl rfl rfl ?_
                  refine xr_stp (st' := .int (Int32.ofNat 3) :: _) rfl rfl rfl rfl ?_
                  refine xr_vcps hO rfl rfl rfl rfl rfl rfl (fun r1 K2 => cb_cle2 _ _ _ _ r1 (K2 _ _ _ _ ?_))
                  refine xr_stp (st' := .int (Int32.ofNat 4294967295) :: _) rfl rfl rfl rfl ?_
                  refine xr_j2 rfl rfl rfl rfl rfl (fun h988 => ?_) (fun h988 => ?_)
                  · have z988 := nt_ne h988
                    exact (by omega)
                  · refine xr_stp rfl rfl rfl rfl ?_
                    refine xr_stp (st' := .int (Int32.ofNat 0) :: _) rfl rfl rfl rfl ?_
                    refine xr_stp (st' := .int (Int32.ofNat 4) :: _) rfl rfl rfl rfl ?_
                    refine xr_vcps hO rfl rfl rfl rfl rfl rfl (fun r1 K2 => cb_res _ _ _ _ r1 (K2 _ _ _ _ ?_))
                    refine xr_stp (st' := .int (Int32.ofNat 4294967295) :: _) rfl rfl rfl rfl ?_
                    refine xr_j2 rfl rfl rfl rfl rfl (fun h998 => ?_) (fun h998 => ?_)
                    · have z998 := nt_ne h998
                      exact (by omega)
                    · refine xr_stp rfl rfl rfl rfl ?_
                      refine xr_stp (st' := .int (Int32.ofNat 0) :: _) rfl rfl rfl rfl ?_
                      refine xr_stp (st' := .int (Int32.ofNat 0) :: _) rfl rfl rfl rfl ?_
                      refine xr_vcps hO rfl rfl rfl rfl rfl rfl (fun r1 K2 => cb_sen1 _ _ _ _ r1 (K2 _ _ _ _ ?_))
                      refine xr_stp (st' := .int (Int32.ofNat 4294967295) :: _) rfl rfl rfl rfl ?_
                      refine xr_j2 rfl rfl rfl rfl rfl (fun h1008 => ?_) (fun h1008 => ?_)
                      · have z1008 := nt_ne h1008
                        exact (by omega)
                      · refine xr_stp rfl rfl rfl rfl ?_
                        refine xr_stp (st' := .int (Int32.ofNat 0) :: _) rfl rfl rfl rfl ?_
                        refine xr_stp (st' := .int (Int32.ofNat 4) :: _) rfl rfl rfl rfl ?_
                        refine xr_vcps hO rfl rfl rfl rfl rfl rfl (fun r1 K2 => cb_sen2 _ _ _ _ r1 (K2 _ _ _ _ ?_))
                        refine xr_stp (st' := .int (Int32.ofNat 4294967295) :: _) rfl rfl rfl rfl ?_
                        refine xr_j2 rfl rfl rfl rfl rfl (fun h1018 => ?_) (fun h1018 => ?_)
                        · have z1018 := nt_ne h1018
                          exact (by omega)
                        · refine xr_stp rfl rfl rfl rfl ?_
                          refine xr_stp (st' := .int (Int32.ofNat 10000) :: _) rfl rfl rfl rfl ?_
                          refine xr_stp (st' := .int (Int32.ofNat 1) :: _) rfl rfl rfl rfl ?_
                          refine xr_vcps hO rfl rfl rfl rfl rfl rfl (fun r1 K2 => cb_yea1 _ _ _ _ r1 (K2 _ _ _ _ ?_))
                          refine xr_stp (st' := .int (Int32.ofNat 4294967295) :: _) rfl rfl rfl rfl ?_
                          refine xr_j2 rfl rfl rfl rfl rfl (fun h1030 => ?_) (fun h1030 => ?_)
                          · have z1030 := nt_ne h1030
                            exact (by omega)
                          · refine xr_stp rfl rfl rfl rfl ?_
                            refine xr_stp (st' := .int (Int32.ofNat 0) :: _) rfl rfl rfl rfl ?_
                            refine xr_stp (st' := .int (Int32.ofNat 25) :: _) rfl rfl rfl rfl ?_
                            refine xr_vcps hO rfl rfl rfl rfl rfl rfl (fun r1 K2 => cb_yea2 _ _ _ _ r1 (K2 _ _ _ _ ?_))
                            refine xr_stp (st' := .int (Int32.ofNat 4294967295) :: _) rfl rfl rfl rfl ?_
                            refine xr_j2 rfl rfl rfl rfl rfl (fun h1041 => ?_) (fun h1041 => ?_)
                            · have z1041 := nt_ne h1041
                              exact (by omega)
                            · refine xr_stp rfl rfl rfl rfl ?_
                              refine xr_stp (st' := .int (Int32.ofNat 0) :: _) rfl rfl rfl rfl ?_
                              refine xr_vcps hO rfl rfl rfl rfl rfl rfl (fun r1 K2 => cb_del _ _ _ _ r1 (K2 _ _ _ _ ?_))
                              refine xr_j1 rfl rfl rfl rfl rfl (fun h1049 => ?_) (fun h1049 => ?_)
                              · have z1049 := nt1_ne h1049
                                exact (by omega)
                              · refine xr_stp rfl rfl rfl rfl ?_
                                refine xr_stp (st' := .int (Int32.ofNat 4) :: _) rfl rfl rfl rfl ?_
                                refine xr_stp (st' := .int (Int32.ofNat 4294967295) :: _) rfl rfl rfl rfl ?_
                                refine xr_stp (st' := .int (Int32.ofNat 0) :: _) rfl rfl rfl rfl ?_
                                refine xr_vcps hO rfl rfl rfl rfl rfl rfl (fun r1 K2 => cb_ent _ _ _ _ r1 (K2 _ _ _ _ ?_))
                                refine xr_stp (st' := .int (Int32.ofNat 4294967294) :: _) rfl rfl rfl rfl ?_
                                refine xr_j2 rfl rfl rfl rfl rfl (fun h1061 => ?_) (fun h1061 => ?_)
                                · have z1061 := nt_ne h1061
                                  exact (by omega)
                                · refine xr_stp rfl rfl rfl rfl ?_
                                  refine xr_stp (st' := .int (Int32.ofNat 0) :: _) rfl rfl rfl rfl ?_
                                  refine xr_stp (st' := .int (Int32.ofNat 4) :: _) rfl rfl rfl rfl ?_
                                  refine xr_stp (st' := .int (Int32.ofNat 0) :: _) rfl rfl rfl rfl ?_
                                  refine xr_stp (st' := .int (Int32.ofNat 4294967295) :: _) rfl rfl rfl rfl ?_
                                  refine xr_vcps hO rfl rfl rfl rfl rfl rfl (fun r1 K2 => cb_val _ _ _ _ r1 (K2 _ _ _ _ ?_))
                                  refine xr_stp (st' := .int (Int32.ofNat 4294967294) :: _) rfl rfl rfl rfl ?_
                                  refine xr_j2 rfl rfl rfl rfl rfl (fun h1074 => ?_) (fun h1074 => ?_)
                                  · have z1074 := nt_ne h1074
                                    exact (by omega)
                                  · refine xr_stp rfl rfl rfl rfl ?_
                                    refine xr_stp (st' := .int (Int32.ofNat 0) :: _) rfl rfl rfl rfl ?_
                                    refine xr_stp (st' := .int (Int32.ofNat 4) :: _) rfl rfl rfl rfl ?_
                                    refine xr_vcps hO rfl rfl rfl rfl rfl rfl (fun r1 K2 => cb_of _ _ _ _ r1 (K2 _ _ _ _ ?_))
                                    refine xr_stp (st' := .int (Int32.ofNat 4294967294) :: _) rfl rfl rfl rfl ?_
                                    refine xr_j2 rfl rfl rfl rfl rfl (fun h1085 => ?_) (fun h1085 => ?_)
                                    · have z1085 := nt_ne h1085
                                      exact (by omega)
                                    · refine xr_stp rfl rfl rfl rfl ?_
                                      refine xr_stp (st' := .int (Int32.ofNat 4) :: _) rfl rfl rfl rfl ?_
                                      refine xr_vcps hO rfl rfl rfl rfl rfl rfl (fun r1 K2 => cb_is _ _ _ _ r1 (K2 _ _ _ _ ?_))
                                      refine xr_stp (st' := .int (Int32.ofNat 4294967294) :: _) rfl rfl rfl rfl ?_
                                      refine xr_j2 rfl rfl rfl rfl rfl (fun h1095 => ?_) (fun h1095 => ?_)
                                      · have z1095 := nt_ne h1095
                                        exact (by omega)
                                      · refine xr_stp rfl rfl rfl rfl ?_
                                        refine xr_stp (st' := .int (Int32.ofNat 6) :: _) rfl rfl rfl rfl ?_
                                        refine xr_vcps hO rfl rfl rfl rfl rfl rfl (fun r1 K2 => cb_abo _ _ _ _ r1 (K2 _ _ _ _ ?_))
                                        refine xr_stp (st' := .int (Int32.ofNat 4294967294) :: _) rfl rfl rfl rfl ?_
                                        refine xr_j2 rfl rfl rfl rfl rfl (fun h1106 => ?_) (fun h1106 => ?_)
                                        · have z1106 := nt_ne h1106
                                          exact (by omega)
                                        · refine xr_stp (st' := .int (Int32.ofNat 1) :: _) rfl rfl rfl rfl ?_
                                          refine xr_stp rfl rfl rfl rfl ?_
                                          exact xr_retb (by omega) rfl rfl K
theorem mU (d nn q dl T N lo A : Nat) (f : Nat → Int32) (AA : Nat → Nat → Nat) (WS : Nat → Option Nat) (r : xi_R → Prop) (hN : N < 80000) (hnn : nn < 2147483648) : ∀ (m : Nat) (G : Nat → Nat) (W0 : xi_W) (c s : Nat), lo + m < 150 → CY nn f q dl 1 2 T N (lo + m) lo G AA W0 → mw 697 (lo + m) lo AA 44 WS W0 → W0[16]? = some (lw_s nn f) → (∀ W' c' s', c' ≤ c + 34 * m → s' ≤ s + 2505 * m → r (some (.int (Int32.ofNat 1)), W', c', s')) → xr (d + 14) 199 855 [(0, .ref 16), (1, .ref 17), (2, .ref 687), (3, .int (Int32.ofNat q)), (4, .ref A), (5, .ref 697), (6, .int (Int32.ofNat ((lo + m)))), (7, .int (Int32.ofNat lo))] [] W0 c s r
  | 0, G, W0, c, s, hm, hY, hmw, hS, K => by
    refine xr_stp rfl rfl rfl rfl ?_
    refine xr_stp rfl rfl rfl rfl ?_
    refine xr_j2 rfl rfl rfl rfl rfl (fun h859 => ?_) (fun h859 => ?_)
    · obtain ⟨y1, y2, fi, hc⟩ := hY
      rw [show lo + 0 - lo = 0 by omega] at hc
      refine xr_loc [(1, .ref 17)] ⟨rfl, trivial⟩ rfl ?_
      exact mRef d c s nn q dl 1 2 T N fi f W0 G _ hc r (K W0 c s (by omega) (by omega))
    · have z859 := nf_le (by omega) (by omega) h859
      exact (by omega)
  | m + 1, G, W0, c, s, hm, hY, hmw, hS, K => by
    obtain ⟨y1, y2, fi, hc⟩ := id hY
    rw [show lo + (m + 1) - lo = m + 1 by omega] at hc
    obtain ⟨lf, lp, hO⟩ := hc.o
    refine xr_stp rfl rfl rfl rfl ?_
    refine xr_stp rfl rfl rfl rfl ?_
    refine xr_j2 rfl rfl rfl rfl rfl (fun h859 => ?_) (fun h859 => ?_)
    · have z859 := nt_le (by omega) (by omega) h859
      exact (by omega)
    · refine xs_dec rfl rfl rfl ?_
      refine xr_loc [(0, .ref 16), (1, .ref 17), (2, .ref 687), (3, .int (Int32.ofNat q)), (4, .ref A), (5, .ref 697), (6, .int (Int32.ofNat ((lo + m)))), (7, .int (Int32.ofNat lo))] ⟨rfl, rfl, rfl, rfl, rfl, rfl, rfl, rfl, trivial⟩ rfl ?_
      refine xr_stp rfl rfl rfl rfl ?_
      refine xr_vcps hO rfl rfl rfl rfl rfl rfl (fun r1 K2 => cl_undo _ _ _ nn q dl 1 2 T N fi m f W0 G _ hc r1 (fun W1 hc1 hf1 => K2 _ _ _ _ ?_))
      have hmw1 := hmw.keep (by omega) hf1 (fun i h1 h2 z => by unfold pq at z; omega)
      obtain ⟨R, w1, w2, w3, w4, w5⟩ := hmw1.2 (lo + m) (by omega) (by omega)
      have hs1 : scn nn f q dl 1 2 T N fi m m (AA (lo + m)) (fun k => AA (lo + k)) R W1 := ⟨hc1, w4, hf1.at hS (by unfold pq; omega), w2, w5.1, hN, hnn⟩
      refine xr_stp rfl rfl rfl rfl ?_
      refine xr_stp rfl rfl rfl rfl ?_
      refine xs_sub (by omega) rfl ?_
      refine xr_j2 rfl rfl rfl rfl rfl (fun h874 => ?_) (fun h874 => ?_)
      · have z874 := nt_ne h874
        exact (by omega)
      · refine xr_stp rfl rfl rfl rfl ?_
        refine xr_stp rfl rfl rfl rfl ?_
        refine xr_stp rfl rfl rfl rfl ?_
        refine xr_stp rfl rfl rfl rfl ?_
        refine xr_stp rfl rfl rfl rfl ?_
        refine xs_ala hmw1.1 (by omega) (by omega) (by omega) rfl ?_
        rw [w1]
        refine xr_cps rfl rfl rfl (fun r1 K2 => sa_same _ _ _ nn q dl 1 2 T N fi m m R f (AA (lo + m)) _ r1 W1 hs1 (fun W2 c2 s2 kc2 ks2 hs2 hf2 => K2 _ _ _ _ ?_))
        refine xr_j1 rfl rfl rfl rfl rfl (fun h888 => ?_) (fun h888 => ?_)
        · refine xr_loc [(0, .ref 16), (1, .ref 17), (2, .ref 687), (3, .int (Int32.ofNat q)), (4, .ref A), (5, .ref 697), (6, .int (Int32.ofNat ((lo + m)))), (7, .int (Int32.ofNat lo))] ⟨rfl, rfl, rfl, rfl, rfl, rfl, rfl, rfl, trivial⟩ rfl ?_
          have hmw2 := hmw1.keep (by omega) hf2 (fun i h1 h2 z => by unfold pq at z; omega)
          refine mU d nn q dl T N lo A f AA WS r hN hnn m (AA (lo + m)) W2 _ _ (by omega) ⟨by omega, by omega, fi, by rw [show lo + m - lo = m by omega]; exact hs2.1⟩ ⟨hmw2.1, fun i h1 h2 => hmw2.2 i h1 (by omega)⟩ hs2.2.2.1 (fun W9 c9 s9 p1_ p2_ => K W9 c9 s9 (by omega) (by omega))
        · have z888 := nf1_ne (by omega) h888
          exact (by omega)
