/-! same: all replicas -/
theorem sa_r (d : Nat) (nn q dl tx sy T N fi m mm A : Nat) (f : Nat → Int32) (G : Nat → Nat) (GS : Nat → Nat → Nat) (r : xi_R → Prop) : ∀ (m1 t qv fv : Nat) (W0 : xi_W) (c s : Nat), t + m1 = 4 → scn nn f q dl tx sy T N fi m mm G GS A W0 → fv < 4 → (∀ W' c' s', c' ≤ c + 2 * m1 → s' ≤ s + 126 * m1 → scn nn f q dl tx sy T N fi m mm G GS A W' → fr pq W0 W' → xr (d + 8) 202 614 [(0, .ref 17), (1, .ref 16), (2, .int (Int32.ofNat q)), (3, .ref A), (4, .int (Int32.ofNat (sqO G m1 t qv))), (5, .int (Int32.ofNat (frL G m1 t fv)))] [] W' c' s' r) → xr (d + 8) 202 23 [(0, .ref 17), (1, .ref 16), (2, .int (Int32.ofNat q)), (3, .ref A), (4, .int (Int32.ofNat qv)), (5, .int (Int32.ofNat fv)), (6, .int (Int32.ofNat t))] [] W0 c s r
  | 0, t, qv, fv, W0, c, s, hz5, hs, hfv, K => by
    unfold sqO frL at K
    refine xr_stp rfl rfl rfl rfl ?_
    refine xr_stp (st' := .int (Int32.ofNat 4) :: _) rfl rfl rfl rfl ?_
    refine xr_j2 rfl rfl rfl rfl rfl (fun h26 => ?_) (fun h26 => ?_)
    · refine xr_loc [(0, .ref 17), (1, .ref 16), (2, .int (Int32.ofNat q)), (3, .ref A), (4, .int (Int32.ofNat qv)), (5, .int (Int32.ofNat fv))] ⟨rfl, rfl, rfl, rfl, rfl, rfl, trivial⟩ rfl ?_
      exact K W0 c s (by omega) (by omega) hs fr.rf
    · have z26 := nf_ge (by omega) (by omega) h26
      exact (by omega)
  | m1 + 1, t, qv, fv, W0, c, s, hz5, hs, hfv, K => by
    obtain ⟨hc, hA, hS, gA, hz, hN, hnn⟩ := id hs
    obtain ⟨F, hw, hr⟩ := hc.w
    have J := hr.j
    have he := hr.e
    have J4 := J.e
    have b63 := J.b63
    have gA7 : 17 ≤ A := by omega
    obtain ⟨lf, lp, hO⟩ := hc.o
    unfold sqO frL at K
    have ht : t < 4 := by omega
    have hjc := J.c t ht
    have hx := (hr.xs ht).hk
    have hb6 := bcle 63 (G (330 + 2 * t))
    have hb7 := bcle 63 (G (331 + 2 * t))
    have hb8 := bcle 63 (G (331 + 2 * fv))
    have hdl : lw_dig G (G (330 + 2 * t)) = lw_dig G (G (330 + 2 * t)) := rfl
    refine xr_stp rfl rfl rfl rfl ?_
    refine xr_stp (st' := .int (Int32.ofNat 4) :: _) rfl rfl rfl rfl ?_
    refine xr_j2 rfl rfl rfl rfl rfl (fun h26 => ?_) (fun h26 => ?_)
    · have z26 := nt_ge (by omega) (by omega) h26
      exact (by omega)
    · refine xr_stp rfl rfl rfl rfl ?_
      refine xr_stp (st' := .int (Int32.ofNat 330) :: _) rfl rfl rfl rfl ?_
      refine xr_stp (st' := .int (Int32.ofNat 2) :: _) rfl rfl rfl rfl ?_
      refine xr_stp rfl rfl rfl rfl ?_
      refine xs_mul rfl ?_
      refine xs_add rfl ?_
      refine xs_ald hA gA7 (by omega) (by omega) rfl ?_
      refine xr_stp rfl rfl rfl rfl ?_
      refine xr_stp rfl rfl rfl rfl ?_
      refine xr_stp (st' := .int (Int32.ofNat 331) :: _) rfl rfl rfl rfl ?_
      refine xr_stp (st' := .int (Int32.ofNat 2) :: _) rfl rfl rfl rfl ?_
      refine xr_stp rfl rfl rfl rfl ?_
      refine xs_mul rfl ?_
      refine xs_add rfl ?_
      refine xs_ald hA gA7 (by omega) (by omega) rfl ?_
      refine xr_stp rfl rfl rfl rfl ?_
      refine xr_stp rfl rfl rfl rfl ?_
      refine xr_stp rfl rfl rfl rfl ?_
      refine xr_cps rfl rfl rfl (fun r1 K2 => lw_sorted _ _ _ A W0 G hA gA7 b63 J4 (G (330 + 2 * t)) (b63 _) r1 (fun R W1 zR hR1 hA1 hf1 => K2 _ _ _ _ ?_))
      have hs1 := hs.new hf1
      have gR : 17 ≤ R := by have := hc.l; omega
      clear hc hA hS hO
      obtain ⟨hc1, hA, hS, -⟩ := id hs1
      obtain ⟨lf, lp, hO⟩ := hc1.o
      refine xr_stp rfl rfl rfl rfl ?_
      refine xr_stp rfl rfl rfl rfl ?_
      refine xr_stp rfl rfl rfl rfl ?_
      refine xr_stp (st' := .int (Int32.ofNat 4294967295) :: _) rfl rfl rfl rfl ?_
      refine xr_stp (st' := .int (Int32.ofNat 0) :: _) rfl rfl rfl rfl ?_
      refine xr_vcps hO rfl rfl rfl rfl rfl rfl (fun r1 K2 => cq_entN _ _ _ nn q dl tx sy T N fi m mm f W1 G GS hc1 t 0 ht r1 (K2 _ _ _ _ ?_))
      refine xr_stp rfl rfl rfl rfl ?_
      refine xs_iln hR1 rfl ?_
      refine xr_j2 rfl rfl rfl rfl rfl (fun h72 => ?_) (fun h72 => ?_)
      · have z72 := nt_ne h72
        exact (by omega)
      · refine xr_stp rfl rfl rfl rfl ?_
        refine xr_stp rfl rfl rfl rfl ?_
        refine xr_stp rfl rfl rfl rfl ?_
        refine xs_iln hR1 rfl ?_
        refine xr_stp (st' := .int (Int32.ofNat 0) :: _) rfl rfl rfl rfl ?_
        refine xr_vcps hO rfl rfl rfl rfl rfl rfl (fun r1 K2 => cq_entE _ _ _ nn q dl tx sy T N fi m mm f W1 G GS hc1 t _ 0 ht (Nat.le_refl _) (by omega) r1 (K2 _ _ _ _ ?_))
        refine xr_stp (st' := .int (Int32.ofNat 4294967294) :: _) rfl rfl rfl rfl ?_
        refine xr_j2 rfl rfl rfl rfl rfl (fun h87 => ?_) (fun h87 => ?_)
        · have z87 := nt_ne h87
          exact (by omega)
        · refine xr_stp rfl rfl rfl rfl ?_
          refine xr_stp rfl rfl rfl rfl ?_
          refine xr_vcps hO rfl rfl rfl rfl rfl rfl (fun r1 K2 => cq_dig _ _ _ nn q dl tx sy T N fi m mm f W1 G GS hc1 t ht r1 (K2 _ _ _ _ ?_))
          refine xr_stp rfl rfl rfl rfl ?_
          refine xr_stp rfl rfl rfl rfl ?_
          refine xr_cps rfl rfl rfl (fun r1 K2 => lw_digest2 _ _ _ A (G (330 + 2 * t)) W1 G hA gA7 b63 J4 (en.dgE he J4 hx.1) (b63 _) r1 (fun W2 c2 s2 kc2 ks2 hA2 hf2 => K2 _ _ _ _ ?_))
          have hs2 := hs1.new hf2
          have hR2 := hf2.at hR1 (fun z => z)
          clear hA hS hO
          obtain ⟨hc2, hA, hS, -⟩ := id hs2
          obtain ⟨lf, lp, hO⟩ := hc2.o
          have hfT : fr pq W0 W2 := (fr.rf.nn hf1).nn hf2
          refine xr_j2 rfl rfl rfl rfl rfl (fun h102 => ?_) (fun h102 => ?_)
          · have z102 := nt_ne h102
            exact (by omega)
          · refine xr_stp rfl rfl rfl rfl ?_
            refine xr_stp rfl rfl rfl rfl ?_
            refine xr_vcps hO rfl rfl rfl rfl rfl rfl (fun r1 K2 => cq_par _ _ _ nn q dl tx sy T N fi m mm f W2 G GS hc2 t ht r1 (K2 _ _ _ _ ?_))
            refine xr_stp rfl rfl rfl rfl ?_
            refine xr_cps rfl rfl rfl (fun r1 K2 => lw_many _ _ _ _ W2 (b63 _) r1 (K2 _ _ _ _ ?_))
            refine xr_j2 rfl rfl rfl rfl rfl (fun h116 => ?_) (fun h116 => ?_)
            · refine xr_stp (st' := .int (Int32.ofNat 0) :: _) rfl rfl rfl rfl ?_
              refine xr_stp rfl rfl rfl rfl ?_
              refine xr_loc [(0, .ref 17), (1, .ref 16), (2, .int (Int32.ofNat q)), (3, .ref A), (4, .int (Int32.ofNat qv)), (5, .int (Int32.ofNat fv)), (6, .int (Int32.ofNat t)), (7, .long (Int64.ofNat (G (330 + 2 * t)))), (9, .long (Int64.ofNat (G (331 + 2 * t)))), (11, .ref R), (12, .int (Int32.ofNat 0))] ⟨rfl, rfl, rfl, rfl, rfl, rfl, rfl, rfl, rfl, rfl, rfl, trivial⟩ rfl ?_
              refine sa_k d _ _ W2 nn q dl tx sy T N fi m mm A f G GS hs2 t qv fv R ht _ rfl hR2 gR r (bc 63 (G (330 + 2 * t))) 0 (Nat.zero_add _) ?_
              refine xr_stp (st' := .int (Int32.ofNat 0) :: _) rfl rfl rfl rfl ?_
              refine xr_stp rfl rfl rfl rfl ?_
              refine xr_stp (st' := .int (Int32.ofNat 0) :: _) rfl rfl rfl rfl ?_
              refine xr_stp rfl rfl rfl rfl ?_
              refine xr_loc [(0, .ref 17), (1, .ref 16), (2, .int (Int32.ofNat q)), (3, .ref A), (4, .int (Int32.ofNat qv)), (5, .int (Int32.ofNat fv)), (6, .int (Int32.ofNat t)), (7, .long (Int64.ofNat (G (330 + 2 * t)))), (9, .long (Int64.ofNat (G (331 + 2 * t)))), (11, .ref R), (12, .int (Int32.ofNat 0)), (13, .int (Int32.ofNat 0))] ⟨rfl, rfl, rfl, rfl, rfl, rfl, rfl, rfl, rfl, rfl, rfl, rfl, trivial⟩ rfl ?_
              refine sa_y d _ _ W2 nn q dl tx sy T N fi m mm A f G GS hs2 t qv fv R ht r 4 0 0 rfl ?_
              refine xr_stp rfl rfl rfl rfl ?_
              refine xr_stp rfl rfl rfl rfl ?_
              refine xr_stp (st' := .int (Int32.ofNat 0) :: _) rfl rfl rfl rfl ?_
              refine xr_vcps hO rfl rfl rfl rfl rfl rfl (fun r1 K2 => cq_of0 _ _ _ nn q dl tx sy T N fi m mm f W2 G GS hc2 t ht r1 (K2 _ _ _ _ ?_))
              refine xs_i2l (by omega) rfl ?_
              refine xr_stp rfl rfl rfl rfl ?_
              refine xr_stp (st' := .int (Int32.ofNat 338) :: _) rfl rfl rfl rfl ?_
              refine xr_stp rfl rfl rfl rfl ?_
              refine xs_add rfl ?_
              refine xs_ald hA gA7 (by omega) (by omega) rfl ?_
              refine xs_lc (by omega) (by omega) rfl ?_
              refine xr_j1 rfl rfl rfl rfl rfl (fun h247 => ?_) (fun h247 => ?_)
              · have z247 := lt_ne h247
                exact (by omega)
              · refine xr_stp rfl rfl rfl rfl ?_
                refine xr_stp rfl rfl rfl rfl ?_
                refine xr_stp (st' := .int (Int32.ofNat 1) :: _) rfl rfl rfl rfl ?_
                refine xr_vcps hO rfl rfl rfl rfl rfl rfl (fun r1 K2 => cq_of1 _ _ _ nn q dl tx sy T N fi m mm f W2 G GS hc2 t ht r1 (K2 _ _ _ _ ?_))
                refine xs_i2l (by omega) rfl ?_
                refine xr_stp rfl rfl rfl rfl ?_
                refine xr_stp (st' := .int (Int32.ofNat 342) :: _) rfl rfl rfl rfl ?_
                refine xr_stp rfl rfl rfl rfl ?_
                refine xs_add rfl ?_
                refine xs_ald hA gA7 (by omega) (by omega) rfl ?_
                refine xs_lc (by omega) (by omega) rfl ?_
                refine xr_j1 rfl rfl rfl rfl rfl (fun h267 => ?_) (fun h267 => ?_)
                · have z267 := lt_ne h267
                  exact (by omega)
                · refine xr_stp rfl rfl rfl rfl ?_
                  refine xr_stp rfl rfl rfl rfl ?_
                  refine xr_stp (st' := .int (Int32.ofNat 2) :: _) rfl rfl rfl rfl ?_
                  refine xr_vcps hO rfl rfl rfl rfl rfl rfl (fun r1 K2 => cq_of2 _ _ _ nn q dl tx sy T N fi m mm f W2 G GS hc2 t ht r1 (K2 _ _ _ _ ?_))
                  refine xr_stp rfl rfl rfl rfl ?_
                  refine xr_j2 rfl rfl rfl rfl rfl (fun h279 => ?_) (fun h279 => ?_)
                  · have z279 := nt_ne h279
                    exact (by omega)
                  · refine xr_stp rfl rfl rfl rfl ?_
                    refine xr_stp rfl rfl rfl rfl ?_
                    refine xr_stp (st' := .int (Int32.ofNat 3) :: _) rfl rfl rfl rfl ?_
                    refine xr_vcps hO rfl rfl rfl rfl rfl rfl (fun r1 K2 => cq_of3 _ _ _ nn q dl tx sy T N fi m mm f W2 G GS hc2 t ht r1 (K2 _ _ _ _ ?_))
                    refine xr_stp rfl rfl rfl rfl ?_
                    refine xr_cps rfl rfl rfl (fun r1 K2 => lw_many _ _ _ _ W2 (b63 _) r1 (K2 _ _ _ _ ?_))
                    refine xr_j2 rfl rfl rfl rfl rfl (fun h294 => ?_) (fun h294 => ?_)
                    · refine xr_stp rfl rfl rfl rfl ?_
                      refine xr_stp (st' := .int (Int32.ofNat 338) :: _) rfl rfl rfl rfl ?_
                      refine xr_stp rfl rfl rfl rfl ?_
                      refine xs_add rfl ?_
                      refine xs_ald hA gA7 (by omega) (by omega) rfl ?_
                      refine xr_stp rfl rfl rfl rfl ?_
                      refine xr_stp (st' := .int (Int32.ofNat 342) :: _) rfl rfl rfl rfl ?_
                      refine xr_stp rfl rfl rfl rfl ?_
                      refine xs_add rfl ?_
                      refine xs_ald hA gA7 (by omega) (by omega) rfl ?_
                      refine xs_lsub (by omega) rfl ?_
                      refine xs_l2i rfl ?_
                      refine xr_stp rfl rfl rfl rfl ?_
                      refine xr_stp rfl rfl rfl rfl ?_
                      refine xr_stp rfl rfl rfl rfl ?_
                      refine xr_stp (st' := .int (Int32.ofNat 4294967295) :: _) rfl rfl rfl rfl ?_
                      refine xr_stp (st' := .int (Int32.ofNat 0) :: _) rfl rfl rfl rfl ?_
                      refine xr_vcps hO rfl rfl rfl rfl rfl rfl (fun r1 K2 => cq_delN _ _ _ nn q dl tx sy T N fi m mm f W2 G GS hc2 t 0 ht r1 (K2 _ _ _ _ ?_))
                      refine xr_stp rfl rfl rfl rfl ?_
                      refine xr_j2 rfl rfl rfl rfl rfl (fun h329 => ?_) (fun h329 => ?_)
                      · have z329 := nt_ne h329
                        exact (by omega)
                      · refine xr_stp rfl rfl rfl rfl ?_
                        refine xr_stp rfl rfl rfl rfl ?_
                        refine xr_stp rfl rfl rfl rfl ?_
                        refine xr_stp (st' := .int (Int32.ofNat 0) :: _) rfl rfl rfl rfl ?_
                        refine xr_vcps hO rfl rfl rfl rfl rfl rfl (fun r1 K2 => cq_delE _ _ _ nn q dl tx sy T N fi m mm f W2 G GS hc2 t (G (338 + t) - G (342 + t)) 0 ht (Nat.le_refl _) (by omega) r1 (K2 _ _ _ _ ?_))
                        refine xr_stp (st' := .int (Int32.ofNat 4294967294) :: _) rfl rfl rfl rfl ?_
                        refine xr_j2 rfl rfl rfl rfl rfl (fun h343 => ?_) (fun h343 => ?_)
                        · refine xr_stp (st' := .int (Int32.ofNat 0) :: _) rfl rfl rfl rfl ?_
                          refine xr_stp rfl rfl rfl rfl ?_
                          refine xr_loc [(0, .ref 17), (1, .ref 16), (2, .int (Int32.ofNat q)), (3, .ref A), (4, .int (Int32.ofNat qv)), (5, .int (Int32.ofNat fv)), (6, .int (Int32.ofNat t)), (7, .long (Int64.ofNat (G (330 + 2 * t)))), (9, .long (Int64.ofNat (G (331 + 2 * t)))), (11, .ref R), (13, .int (Int32.ofNat (G (338 + t) - G (342 + t)))), (14, .int (Int32.ofNat 0))] ⟨rfl, rfl, rfl, rfl, rfl, rfl, rfl, rfl, rfl, rfl, rfl, rfl, trivial⟩ rfl ?_
                          refine sa_d d _ _ W2 nn q dl tx sy T N fi m mm A f G GS hs2 t qv fv R ht r (G (338 + t) - G (342 + t)) 0 (Nat.zero_add _) ?_
                          refine xr_stp rfl rfl rfl rfl ?_
                          refine xr_cps rfl rfl rfl (fun r1 K2 => lw_many _ _ _ _ W2 (b63 _) r1 (K2 _ _ _ _ ?_))
                          refine xr_stp rfl rfl rfl rfl ?_
                          refine xr_stp (st' := .int (Int32.ofNat 331) :: _) rfl rfl rfl rfl ?_
                          refine xr_stp (st' := .int (Int32.ofNat 2) :: _) rfl rfl rfl rfl ?_
                          refine xr_stp rfl rfl rfl rfl ?_
                          refine xs_mul rfl ?_
                          refine xs_add rfl ?_
                          refine xs_ald hA gA7 (by omega) (by omega) rfl ?_
                          refine xr_cps rfl rfl rfl (fun r1 K2 => lw_many _ _ _ _ W2 (b63 _) r1 (K2 _ _ _ _ ?_))
                          refine xr_j2 rfl rfl rfl rfl rfl (fun h474 => ?_) (fun h474 => ?_)
                          · have z474 := nt_le (by omega) (by omega) h474
                            rw [if_neg (show ¬ bc 63 (G (331 + 2 * fv)) < bc 63 (G (331 + 2 * t)) by omega)] at K
                            refine xr_stp rfl rfl rfl rfl ?_
                            refine xr_stp rfl rfl rfl rfl ?_
                            refine xr_stp (st' := .int (Int32.ofNat 0) :: _) rfl rfl rfl rfl ?_
                            refine xr_stp rfl rfl rfl rfl ?_
                            refine xr_loc [(0, .ref 17), (1, .ref 16), (2, .int (Int32.ofNat q)), (3, .ref A), (4, .int (Int32.ofNat qv)), (5, .int (Int32.ofNat fv)), (6, .int (Int32.ofNat t)), (14, .int (Int32.ofNat 0))] ⟨rfl, rfl, rfl, rfl, rfl, rfl, rfl, rfl, trivial⟩ rfl ?_
                            refine sa_q d _ _ nn q dl tx sy T N fi m mm A f G GS t fv ht r 4 0 qv W2 rfl hs2 (fun W3 hs3 hf3 => ?_)
                            refine xs_inc (e := 1) rfl rfl rfl rfl ?_
                            refine xr_stp rfl rfl rfl rfl ?_
                            refine xr_loc [(0, .ref 17), (1, .ref 16), (2, .int (Int32.ofNat q)), (3, .ref A), (4, .int (Int32.ofNat (sqI G t 4 0 qv))), (5, .int (Int32.ofNat fv)), (6, .int (Int32.ofNat (t + 1)))] ⟨rfl, rfl, rfl, rfl, rfl, rfl, rfl, trivial⟩ rfl ?_
                            exact sa_r d nn q dl tx sy T N fi m mm A f G GS r m1 (t + 1) (sqI G t 4 0 qv) fv W3 _ _ (by omega) hs3 (by omega) (fun W5 c5 s5 k1 k2 k3 k4 => K W5 c5 s5 (by omega) (by omega) k3 ((hfT.tr hf3).tr k4))
                          · have z474 := nf_le (by omega) (by omega) h474
                            rw [if_pos (show bc 63 (G (331 + 2 * fv)) < bc 63 (G (331 + 2 * t)) by omega)] at K
                            refine xr_stp rfl rfl rfl rfl ?_
                            refine xr_stp rfl rfl rfl rfl ?_
                            refine xr_stp rfl rfl rfl rfl ?_
                            refine xr_stp (st' := .int (Int32.ofNat 0) :: _) rfl rfl rfl rfl ?_
                            refine xr_stp rfl rfl rfl rfl ?_
                            refine xr_loc [(0, .ref 17), (1, .ref 16), (2, .int (Int32.ofNat q)), (3, .ref A), (4, .int (Int32.ofNat qv)), (5, .int (Int32.ofNat t)), (6, .int (Int32.ofNat t)), (14, .int (Int32.ofNat 0))] ⟨rfl, rfl, rfl, rfl, rfl, rfl, rfl, rfl, trivial⟩ rfl ?_
                            refine sa_q d _ _ nn q dl tx sy T N fi m mm A f G GS t t ht r 4 0 qv W2 rfl hs2 (fun W3 hs3 hf3 => ?_)
                            refine xs_inc (e := 1) rfl rfl rfl rfl ?_
                            refine xr_stp rfl rfl rfl rfl ?_
                            refine xr_loc [(0, .ref 17), (1, .ref 16), (2, .int (Int32.ofNat q)), (3, .ref A), (4, .int (Int32.ofNat (sqI G t 4 0 qv))), (5, .int (Int32.ofNat t)), (6, .int (Int32.ofNat (t + 1)))] ⟨rfl, rfl, rfl, rfl, rfl, rfl, rfl, trivial⟩ rfl ?_
                            exact sa_r d nn q dl tx sy T N fi m mm A f G GS r m1 (t + 1) (sqI G t 4 0 qv) t W3 _ _ (by omega) hs3 (by omega) (fun W5 c5 s5 k1 k2 k3 k4 => K W5 c5 s5 (by omega) (by omega) k3 ((hfT.tr hf3).tr k4))
                        · have z343 := nf_eq h343
                          exact (by omega)
                    · have z294 := nf_eq h294
                      exact (by omega)
            · have z116 := nf_eq h116
              exact (by omega)
