/-! same: the replicas -/
def sqI (G : Nat → Nat) (t : Nat) : Nat → Nat → Nat → Nat
  | 0, _, a => a
  | m + 1, u, a => sqI G t m (u + 1) (if u = t then a else a &&& (if lw_be G t u = 0 then 1 else 0))
def sqO (G : Nat → Nat) : Nat → Nat → Nat → Nat
  | 0, _, a => a
  | m + 1, t, a => sqO G m (t + 1) (sqI G t 4 0 a)
theorem sa_q (d c s : Nat) (nn q dl tx sy T N fi m mm A : Nat) (f : Nat → Int32) (G : Nat → Nat) (GS : Nat → Nat → Nat) (t fv : Nat) (ht : t < 4) (r : xi_R → Prop) : ∀ (m1 u qv : Nat) (W0 : xi_W), u + m1 = 4 → scn nn f q dl tx sy T N fi m mm G GS A W0 → (∀ W', scn nn f q dl tx sy T N fi m mm G GS A W' → fr pq W0 W' → xr (d + 8) 202 608 [(0, .ref 17), (1, .ref 16), (2, .int (Int32.ofNat q)), (3, .ref A), (4, .int (Int32.ofNat (sqI G t m1 u qv))), (5, .int (Int32.ofNat fv)), (6, .int (Int32.ofNat t)), (14, .int (Int32.ofNat 4))] [] W' c s r) → xr (d + 8) 202 489 [(0, .ref 17), (1, .ref 16), (2, .int (Int32.ofNat q)), (3, .ref A), (4, .int (Int32.ofNat qv)), (5, .int (Int32.ofNat fv)), (6, .int (Int32.ofNat t)), (14, .int (Int32.ofNat u))] [] W0 c s r
  | 0, u, qv, W0, hz5, hs, K => by
    obtain rfl : u = 4 := by omega
    unfold sqI at K
    refine xr_stp rfl rfl rfl rfl ?_
    refine xr_stp (st' := .int (Int32.ofNat 4) :: _) rfl rfl rfl rfl ?_
    refine xr_j2 rfl rfl rfl rfl rfl (fun h492 => ?_) (fun h492 => ?_)
    · refine xr_loc [(0, .ref 17), (1, .ref 16), (2, .int (Int32.ofNat q)), (3, .ref A), (4, .int (Int32.ofNat qv)), (5, .int (Int32.ofNat fv)), (6, .int (Int32.ofNat t)), (14, .int (Int32.ofNat 4))] ⟨rfl, rfl, rfl, rfl, rfl, rfl, rfl, rfl, trivial⟩ rfl ?_
      exact K W0 hs fr.rf
    · have z492 := nf_ge (by omega) (by omega) h492
      exact (by omega)
  | m1 + 1, u, qv, W0, hz5, hs, K => by
    obtain ⟨hc, hA, hS, gA, hz, hN, hnn⟩ := id hs
    obtain ⟨F, hw, hr⟩ := hc.w
    have J := hr.j
    have he := hr.e
    have J4 := J.e
    have b63 := J.b63
    have gA7 : 17 ≤ A := by omega
    obtain ⟨lf, lp, hO⟩ := hc.o
    unfold sqI at K
    have hja := J.a t u ht (by omega)
    have hjc := J.c t ht
    have hble : lw_be G t u ≤ G (338 + t) := Nat.sub_le _ _
    have hsp := lw_sple nn f G q t u (lw_be G t u)
    by_cases hne : u = t
    · subst hne
      rw [if_pos rfl] at K
      refine xr_stp rfl rfl rfl rfl ?_
      refine xr_stp (st' := .int (Int32.ofNat 4) :: _) rfl rfl rfl rfl ?_
      refine xr_j2 rfl rfl rfl rfl rfl (fun h492 => ?_) (fun h492 => ?_)
      · have z492 := nt_ge (by omega) (by omega) h492
        exact (by omega)
      · refine xr_stp rfl rfl rfl rfl ?_
        refine xr_stp rfl rfl rfl rfl ?_
        refine xr_j2 rfl rfl rfl rfl rfl (fun h499 => ?_) (fun h499 => ?_)
        · have z499 := nt_ne h499
          exact (by omega)
        · refine xr_stp rfl rfl rfl rfl ?_
          refine xs_inc (e := 1) rfl rfl rfl rfl ?_
          refine xr_stp rfl rfl rfl rfl ?_
          refine xr_loc [(0, .ref 17), (1, .ref 16), (2, .int (Int32.ofNat q)), (3, .ref A), (4, .int (Int32.ofNat qv)), (5, .int (Int32.ofNat fv)), (6, .int (Int32.ofNat u)), (14, .int (Int32.ofNat (u + 1)))] ⟨rfl, rfl, rfl, rfl, rfl, rfl, rfl, rfl, trivial⟩ rfl ?_
          exact sa_q d c s nn q dl tx sy T N fi m mm A f G GS u fv ht r m1 (u + 1) _ W0 (by omega) hs K
    · rw [if_neg hne] at K
      by_cases h0 : lw_be G t u = 0
      · rw [if_pos h0] at K
        refine xr_stp rfl rfl rfl rfl ?_
        refine xr_stp (st' := .int (Int32.ofNat 4) :: _) rfl rfl rfl rfl ?_
        refine xr_j2 rfl rfl rfl rfl rfl (fun h492 => ?_) (fun h492 => ?_)
        · have z492 := nt_ge (by omega) (by omega) h492
          exact (by omega)
        · refine xr_stp rfl rfl rfl rfl ?_
          refine xr_stp rfl rfl rfl rfl ?_
          refine xr_j2 rfl rfl rfl rfl rfl (fun h499 => ?_) (fun h499 => ?_)
          · have z499 := nt_ne h499
            refine xr_stp rfl rfl rfl rfl ?_
            refine xr_stp rfl rfl rfl rfl ?_
            refine xr_stp rfl rfl rfl rfl ?_
            refine xr_stp rfl rfl rfl rfl ?_
            refine xr_cps rfl rfl rfl (fun r1 K2 => lw_behind _ _ _ A W0 G hA gA7 t u ht (by omega) (J.a t u ht (by omega)) r1 (K2 _ _ _ _ ?_))
            refine xr_j1 rfl rfl rfl rfl rfl (fun h515 => ?_) (fun h515 => ?_)
            · have z515 := nt1_ne h515
              exact (by omega)
            · refine xr_stp (st' := .int (Int32.ofNat 1) :: _) rfl rfl rfl rfl ?_
              refine xr_stp rfl rfl rfl rfl ?_
              refine xs_and rfl ?_
              refine xr_stp rfl rfl rfl rfl ?_
              refine xr_stp rfl rfl rfl rfl ?_
              refine xr_stp rfl rfl rfl rfl ?_
              refine xr_stp rfl rfl rfl rfl ?_
              refine xr_vcps hO rfl rfl rfl rfl rfl rfl (fun r1 K2 => cq_ack _ _ _ nn q dl tx sy T N fi m mm f W0 G GS hc t u ht (by omega) (fun e => z499 e.symm) r1 (K2 _ _ _ _ ?_))
              refine xs_i2l (by omega) rfl ?_
              refine xr_stp rfl rfl rfl rfl ?_
              refine xr_stp (st' := .int (Int32.ofNat 346) :: _) rfl rfl rfl rfl ?_
              refine xr_stp (st' := .int (Int32.ofNat 4) :: _) rfl rfl rfl rfl ?_
              refine xr_stp rfl rfl rfl rfl ?_
              refine xs_mul rfl ?_
              refine xs_add rfl ?_
              refine xr_stp rfl rfl rfl rfl ?_
              refine xs_add rfl ?_
              refine xs_ald hA gA7 (by omega) (by omega) rfl ?_
              refine xs_lc (by omega) (by exact b63 _) rfl ?_
              refine xr_j1 rfl rfl rfl rfl rfl (fun h549 => ?_) (fun h549 => ?_)
              · have z549 := lt_ne h549
                exact (by omega)
              · refine xr_stp rfl rfl rfl rfl ?_
                refine xr_stp rfl rfl rfl rfl ?_
                refine xr_stp rfl rfl rfl rfl ?_
                refine xr_vcps hO rfl rfl rfl rfl rfl rfl (fun r1 K2 => cq_spe0 _ _ _ nn q dl tx sy T N fi m mm f W0 G GS hc t u ht (by omega) (fun e => z499 e.symm) (by omega) h0 r1 (K2 _ _ _ _ ?_))
                refine xr_stp rfl rfl rfl rfl ?_
                refine xr_stp rfl rfl rfl rfl ?_
                refine xr_stp rfl rfl rfl rfl ?_
                refine xr_cps rfl rfl rfl (fun r1 K2 => lw_behind _ _ _ A W0 G hA gA7 t u ht (by omega) (J.a t u ht (by omega)) r1 (K2 _ _ _ _ ?_))
                refine xr_j1 rfl rfl rfl rfl rfl (fun h568 => ?_) (fun h568 => ?_)
                · refine xr_stp (st' := .int (Int32.ofNat 0) :: _) rfl rfl rfl rfl ?_
                  refine xr_j2 rfl rfl rfl rfl rfl (fun h597 => ?_) (fun h597 => ?_)
                  · refine xs_inc (e := 1) rfl rfl rfl rfl ?_
                    refine xr_stp rfl rfl rfl rfl ?_
                    refine xr_loc [(0, .ref 17), (1, .ref 16), (2, .int (Int32.ofNat q)), (3, .ref A), (4, .int (Int32.ofNat (qv &&& 1))), (5, .int (Int32.ofNat fv)), (6, .int (Int32.ofNat t)), (14, .int (Int32.ofNat (u + 1)))] ⟨rfl, rfl, rfl, rfl, rfl, rfl, rfl, rfl, trivial⟩ rfl ?_
                    exact sa_q d c s nn q dl tx sy T N fi m mm A f G GS t fv ht r m1 (u + 1) _ W0 (by omega) hs K
                  · have z597 := nf_eq h597
                    exact (by omega)
                · have z568 := nf1_le (by omega) h568
                  exact (by omega)
          · exact absurd (nf_ne (by omega) (by omega) h499) hne
      · rw [if_neg h0] at K
        refine xr_stp rfl rfl rfl rfl ?_
        refine xr_stp (st' := .int (Int32.ofNat 4) :: _) rfl rfl rfl rfl ?_
        refine xr_j2 rfl rfl rfl rfl rfl (fun h492 => ?_) (fun h492 => ?_)
        · have z492 := nt_ge (by omega) (by omega) h492
          exact (by omega)
        · refine xr_stp rfl rfl rfl rfl ?_
          refine xr_stp rfl rfl rfl rfl ?_
          refine xr_j2 rfl rfl rfl rfl rfl (fun h499 => ?_) (fun h499 => ?_)
          · have z499 := nt_ne h499
            refine xr_stp rfl rfl rfl rfl ?_
            refine xr_stp rfl rfl rfl rfl ?_
            refine xr_stp rfl rfl rfl rfl ?_
            refine xr_stp rfl rfl rfl rfl ?_
            refine xr_cps rfl rfl rfl (fun r1 K2 => lw_behind _ _ _ A W0 G hA gA7 t u ht (by omega) (J.a t u ht (by omega)) r1 (K2 _ _ _ _ ?_))
            refine xr_j1 rfl rfl rfl rfl rfl (fun h515 => ?_) (fun h515 => ?_)
            · refine xr_stp (st' := .int (Int32.ofNat 0) :: _) rfl rfl rfl rfl ?_
              refine xs_and rfl ?_
              refine xr_stp rfl rfl rfl rfl ?_
              refine xr_stp rfl rfl rfl rfl ?_
              refine xr_stp rfl rfl rfl rfl ?_
              refine xr_stp rfl rfl rfl rfl ?_
              refine xr_vcps hO rfl rfl rfl rfl rfl rfl (fun r1 K2 => cq_ack _ _ _ nn q dl tx sy T N fi m mm f W0 G GS hc t u ht (by omega) (fun e => z499 e.symm) r1 (K2 _ _ _ _ ?_))
              refine xs_i2l (by omega) rfl ?_
              refine xr_stp rfl rfl rfl rfl ?_
              refine xr_stp (st' := .int (Int32.ofNat 346) :: _) rfl rfl rfl rfl ?_
              refine xr_stp (st' := .int (Int32.ofNat 4) :: _) rfl rfl rfl rfl ?_
              refine xr_stp rfl rfl rfl rfl ?_
              refine xs_mul rfl ?_
              refine xs_add rfl ?_
              refine xr_stp rfl rfl rfl rfl ?_
              refine xs_add rfl ?_
              refine xs_ald hA gA7 (by omega) (by omega) rfl ?_
              refine xs_lc (by omega) (by exact b63 _) rfl ?_
              refine xr_j1 rfl rfl rfl rfl rfl (fun h549 => ?_) (fun h549 => ?_)
              · have z549 := lt_ne h549
                exact (by omega)
              · refine xr_stp rfl rfl rfl rfl ?_
                refine xr_stp rfl rfl rfl rfl ?_
                refine xr_stp rfl rfl rfl rfl ?_
                refine xr_vcps hO rfl rfl rfl rfl rfl rfl (fun r1 K2 => cq_spe1 _ _ _ nn q dl tx sy T N fi m mm f W0 G GS hc t u ht (by omega) (fun e => z499 e.symm) (by omega) h0 r1 (fun W1 hc1 hf1 => K2 _ _ _ _ ?_))
                have hs1 := hs.cls hc1 hf1
                clear hc hA hS hw hr hO
                obtain ⟨hc, hA, hS, -⟩ := id hs1
                obtain ⟨lf, lp, hO⟩ := hc.o
                refine xr_stp rfl rfl rfl rfl ?_
                refine xr_stp rfl rfl rfl rfl ?_
                refine xr_stp rfl rfl rfl rfl ?_
                refine xr_cps rfl rfl rfl (fun r1 K2 => lw_behind _ _ _ A W1 G hA gA7 t u ht (by omega) (J.a t u ht (by omega)) r1 (K2 _ _ _ _ ?_))
                refine xr_j1 rfl rfl rfl rfl rfl (fun h568 => ?_) (fun h568 => ?_)
                · have z568 := nt1_le (by omega) h568
                  exact (by omega)
                · refine xr_stp rfl rfl rfl rfl ?_
                  refine xr_stp rfl rfl rfl rfl ?_
                  refine xr_stp rfl rfl rfl rfl ?_
                  refine xr_stp rfl rfl rfl rfl ?_
                  refine xr_stp rfl rfl rfl rfl ?_
                  refine xr_stp rfl rfl rfl rfl ?_
                  refine xr_stp rfl rfl rfl rfl ?_
                  refine xr_stp rfl rfl rfl rfl ?_
                  refine xr_cps rfl rfl rfl (fun r1 K2 => lw_behind _ _ _ A W1 G hA gA7 t u ht (by omega) (J.a t u ht (by omega)) r1 (K2 _ _ _ _ ?_))
                  refine xr_cps rfl rfl rfl (fun r1 K2 => lw_speaks _ _ _ 16 nn A W1 f hS hnn G hA gA7 (b63 _) q t u _ hc.q ht (by omega) (by omega) r1 (K2 _ _ _ _ ?_))
                  refine xr_j1 rfl rfl rfl rfl rfl (fun h589 => ?_) (fun h589 => ?_)
                  · have z589 := nt1_eq (by omega) h589
                    refine xr_stp (st' := .int (Int32.ofNat 0) :: _) rfl rfl rfl rfl ?_
                    refine xr_j2 rfl rfl rfl rfl rfl (fun h597 => ?_) (fun h597 => ?_)
                    · refine xs_inc (e := 1) rfl rfl rfl rfl ?_
                      refine xr_stp rfl rfl rfl rfl ?_
                      refine xr_loc [(0, .ref 17), (1, .ref 16), (2, .int (Int32.ofNat q)), (3, .ref A), (4, .int (Int32.ofNat (qv &&& 0))), (5, .int (Int32.ofNat fv)), (6, .int (Int32.ofNat t)), (14, .int (Int32.ofNat (u + 1)))] ⟨rfl, rfl, rfl, rfl, rfl, rfl, rfl, rfl, trivial⟩ rfl ?_
                      exact sa_q d c s nn q dl tx sy T N fi m mm A f G GS t fv ht r m1 (u + 1) _ W1 (by omega) hs1 (fun W5 h5 h6 => K W5 h5 (hf1.tr h6))
                    · have z597 := nf_eq h597
                      exact (by omega)
                  · have z589 := nf1_eq h589
                    refine xr_stp (st' := .int (Int32.ofNat 1) :: _) rfl rfl rfl rfl ?_
                    refine xr_stp rfl rfl rfl rfl ?_
                    refine xr_j2 rfl rfl rfl rfl rfl (fun h597 => ?_) (fun h597 => ?_)
                    · refine xs_inc (e := 1) rfl rfl rfl rfl ?_
                      refine xr_stp rfl rfl rfl rfl ?_
                      refine xr_loc [(0, .ref 17), (1, .ref 16), (2, .int (Int32.ofNat q)), (3, .ref A), (4, .int (Int32.ofNat (qv &&& 0))), (5, .int (Int32.ofNat fv)), (6, .int (Int32.ofNat t)), (14, .int (Int32.ofNat (u + 1)))] ⟨rfl, rfl, rfl, rfl, rfl, rfl, rfl, rfl, trivial⟩ rfl ?_
                      exact sa_q d c s nn q dl tx sy T N fi m mm A f G GS t fv ht r m1 (u + 1) _ W1 (by omega) hs1 (fun W5 h5 h6 => K W5 h5 (hf1.tr h6))
                    · have z597 := nf_eq h597
                      exact (by omega)
            · have z515 := nf1_ne (by omega) h515
              exact (by omega)
          · exact absurd (nf_ne (by omega) (by omega) h499) hne

