/-! the law itself: asks, image, script, back -/
theorem mBack (d c s : Nat) (nn q dl T N n lo A : Nat) (f : Nat → Int32) (G : Nat → Nat) (AA : Nat → Nat → Nat) (r : xi_R → Prop) (WS : Nat → Option Nat) (hN : N < 80000) (hnn : nn < 2147483648) (hn : n < 150) (hlo : lo ≤ n) (hnl : n - lo ≤ 30) (W0 : xi_W) (hw : cmw nn f T W0) (hi : imx nn f q dl 1 2 T N (n - lo) G (fun k => AA (lo + k)) W0) (hA : W0[A]? = some (lw_a 1804 G)) (gA : 696 ≤ A) (hmw : mw 697 n lo AA 44 WS W0) (hG : mG 44 G) (hS : W0[16]? = some (lw_s nn f)) (hdl : G 5 = dl) (hb63 : ∀ j, G j < 9223372036854775808) (h0 : G 0 < 100000) (h5 : dl < 10) (hq : q < 2) (K : ∀ W' c' s', c' ≤ c + 1100 → s' ≤ s + 80000 → r (some (.int (Int32.ofNat 1)), W', c', s')) : xr (d + 14) 199 767 [(0, .ref 16), (1, .ref 17), (2, .ref 687), (3, .int (Int32.ofNat q)), (4, .ref A), (5, .ref 697), (6, .int (Int32.ofNat n)), (7, .int (Int32.ofNat lo))] [] W0 c s r := by
  obtain ⟨lf, lp, hO⟩ := hw.2.2.2.1
  have gA7 : 17 ≤ A := by omega
  by_cases hq0 : q = 0
  · refine xr_stp rfl rfl rfl rfl ?_
    refine xr_vcps hO rfl rfl rfl rfl rfl rfl (fun r1 K2 => cl_bck _ _ _ nn q dl 1 2 T N (n - lo) f W0 G _ hw hi r1 (fun W1 hc1 hi1 hx1 hf1 => K2 _ _ _ _ ?_))
    have hA := hf1.at hA (by omega)
    have hs1 : scn nn f q dl 1 2 T N 0 (n - lo) (n - lo) G (fun k => AA (lo + k)) A W1 := ⟨hc1, hA, hf1.at hS (by omega), gA, hG.1, hN, hnn⟩
    have hmw1 := hmw.keep (by omega) hf1 (fun i h1 h2 => by omega)
    refine xs_i2l (by omega) rfl ?_
    refine xr_stp rfl rfl rfl rfl ?_
    refine xr_stp (st' := .int (Int32.ofNat 0) :: _) rfl rfl rfl rfl ?_
    refine xs_ald hA gA7 (by omega) (by omega) rfl ?_
    refine xs_lc (by exact hb63 _) (by exact hb63 _) rfl ?_
    refine xr_j1 rfl rfl rfl rfl rfl (fun h777 => ?_) (fun h777 => ?_)
    · have z777 := lt_ne h777
      exact (by omega)
    · refine xr_stp rfl rfl rfl rfl ?_
      refine xr_stp rfl rfl rfl rfl ?_
      refine xr_stp rfl rfl rfl rfl ?_
      refine xr_stp rfl rfl rfl rfl ?_
      refine xr_cps rfl rfl rfl (fun r1 K2 => sa_same _ _ _ nn q dl 1 2 T N 0 _ _ A f G _ r1 W1 hs1 (fun W2 c2 s2 kc2 ks2 hs2 hf2 => K2 _ _ _ _ ?_))
      have hA := hs2.2.1
      have hc2 := hs2.1
      have hmw2 := hmw1.keep (by omega) hf2 (fun i h1 h2 z => by unfold pq at z; omega)
      clear hO
      obtain ⟨lf2, lp2, hO⟩ := hc2.o
      refine xr_j1 rfl rfl rfl rfl rfl (fun h788 => ?_) (fun h788 => ?_)
      · have z788 := nt1_eq (by omega) h788
        exact (by omega)
      · refine xr_stp rfl rfl rfl rfl ?_
        refine xr_stp (st' := .int (Int32.ofNat 0) :: _) rfl rfl rfl rfl ?_
        refine xr_vcps hO rfl rfl rfl rfl rfl rfl (fun r1 K2 => cq_abo0 _ _ _ nn q dl 1 2 T N 0 _ _ f W2 G _ hc2 r1 (K2 _ _ _ _ ?_))
        refine xr_stp (st' := .int (Int32.ofNat 1) :: _) rfl rfl rfl rfl ?_
        refine xr_j2 rfl rfl rfl rfl rfl (fun h797 => ?_) (fun h797 => ?_)
        · have z797 := nt_ne h797
          exact (by omega)
        · refine xr_stp rfl rfl rfl rfl ?_
          refine xr_stp (st' := .int (Int32.ofNat 1) :: _) rfl rfl rfl rfl ?_
          refine xr_vcps hO rfl rfl rfl rfl rfl rfl (fun r1 K2 => cq_abo1 _ _ _ nn q dl 1 2 T N 0 _ _ f W2 G _ hc2 r1 (K2 _ _ _ _ ?_))
          rw [if_pos hq0]
          refine xr_stp rfl rfl rfl rfl ?_
          refine xr_j1 rfl rfl rfl rfl rfl (fun h806 => ?_) (fun h806 => ?_)
          · refine xr_stp (st' := .int (Int32.ofNat 4294967295) :: _) rfl rfl rfl rfl ?_
            refine xr_j2 rfl rfl rfl rfl rfl (fun h814 => ?_) (fun h814 => ?_)
            · have z814 := nt_ne h814
              exact (by omega)
            · refine xr_stp rfl rfl rfl rfl ?_
              refine xr_stp (st' := .int (Int32.ofNat 2) :: _) rfl rfl rfl rfl ?_
              refine xr_vcps hO rfl rfl rfl rfl rfl rfl (fun r1 K2 => cq_abo2 _ _ _ nn q dl 1 2 T N 0 _ _ f W2 G _ hc2 r1 (K2 _ _ _ _ ?_))
              refine xr_stp rfl rfl rfl rfl ?_
              refine xr_stp rfl rfl rfl rfl ?_
              refine xs_sub (by omega) rfl ?_
              refine xr_j2 rfl rfl rfl rfl rfl (fun h827 => ?_) (fun h827 => ?_)
              · have z827 := nt_ne h827
                exact (by omega)
              · refine xr_stp rfl rfl rfl rfl ?_
                refine xr_stp (st' := .int (Int32.ofNat 3) :: _) rfl rfl rfl rfl ?_
                refine xr_vcps hO rfl rfl rfl rfl rfl rfl (fun r1 K2 => cq_abo3 _ _ _ nn q dl 1 2 T N 0 _ _ f W2 G _ hc2 r1 (K2 _ _ _ _ ?_))
                refine xr_stp (st' := .int (Int32.ofNat 2) :: _) rfl rfl rfl rfl ?_
                refine xr_j2 rfl rfl rfl rfl rfl (fun h836 => ?_) (fun h836 => ?_)
                · have z836 := nt_ne h836
                  exact (by omega)
                · refine xr_stp rfl rfl rfl rfl ?_
                  refine xr_stp (st' := .int (Int32.ofNat 5) :: _) rfl rfl rfl rfl ?_
                  refine xr_vcps hO rfl rfl rfl rfl rfl rfl (fun r1 K2 => cq_abo5 _ _ _ nn q dl 1 2 T N 0 _ _ f W2 G _ hc2 r1 (K2 _ _ _ _ ?_))
                  refine xs_i2l (by omega) rfl ?_
                  refine xr_stp rfl rfl rfl rfl ?_
                  refine xr_stp (st' := .int (Int32.ofNat 5) :: _) rfl rfl rfl rfl ?_
                  refine xs_ald hA gA7 (by omega) (by omega) rfl ?_
                  refine xs_lc (by first | omega | exact hb63 _) (by first | omega | exact hb63 _) rfl ?_
                  refine xr_j1 rfl rfl rfl rfl rfl (fun h850 => ?_) (fun h850 => ?_)
                  · refine xr_loc [(0, .ref 16), (1, .ref 17), (2, .ref 687), (3, .int (Int32.ofNat q)), (4, .ref A), (5, .ref 697), (6, .int (Int32.ofNat n)), (7, .int (Int32.ofNat lo))] ⟨rfl, rfl, rfl, rfl, rfl, rfl, rfl, rfl, trivial⟩ rfl ?_
                    obtain ⟨m, em⟩ : ∃ m, n = lo + m := ⟨n - lo, by omega⟩
                    have hY2 : CY nn f q dl 1 2 T N n lo G AA W2 := ⟨hlo, hnl, 0, hc2⟩
                    subst em
                    exact mU d nn q dl T N lo A f AA WS r hN hnn m G W2 _ _ hn hY2 hmw2 hs2.2.2.1 (fun W9 c9 s9 p1_ p2_ => K W9 c9 s9 (by omega) (by omega))
                  · have z850 := lf_eq h850
                    exact (by omega)
          · have z806 := nf1_eq h806
            exact (by omega)
  · refine xr_stp rfl rfl rfl rfl ?_
    refine xr_vcps hO rfl rfl rfl rfl rfl rfl (fun r1 K2 => cl_bck _ _ _ nn q dl 1 2 T N (n - lo) f W0 G _ hw hi r1 (fun W1 hc1 hi1 hx1 hf1 => K2 _ _ _ _ ?_))
    have hA := hf1.at hA (by omega)
    have hs1 : scn nn f q dl 1 2 T N 0 (n - lo) (n - lo) G (fun k => AA (lo + k)) A W1 := ⟨hc1, hA, hf1.at hS (by omega), gA, hG.1, hN, hnn⟩
    have hmw1 := hmw.keep (by omega) hf1 (fun i h1 h2 => by omega)
    refine xs_i2l (by omega) rfl ?_
    refine xr_stp rfl rfl rfl rfl ?_
    refine xr_stp (st' := .int (Int32.ofNat 0) :: _) rfl rfl rfl rfl ?_
    refine xs_ald hA gA7 (by omega) (by omega) rfl ?_
    refine xs_lc (by exact hb63 _) (by exact hb63 _) rfl ?_
    refine xr_j1 rfl rfl rfl rfl rfl (fun h777 => ?_) (fun h777 => ?_)
    · have z777 := lt_ne h777
      exact (by omega)
    · refine xr_stp rfl rfl rfl rfl ?_
      refine xr_stp rfl rfl rfl rfl ?_
      refine xr_stp rfl rfl rfl rfl ?_
      refine xr_stp rfl rfl rfl rfl ?_
      refine xr_cps rfl rfl rfl (fun r1 K2 => sa_same _ _ _ nn q dl 1 2 T N 0 _ _ A f G _ r1 W1 hs1 (fun W2 c2 s2 kc2 ks2 hs2 hf2 => K2 _ _ _ _ ?_))
      have hA := hs2.2.1
      have hc2 := hs2.1
      have hmw2 := hmw1.keep (by omega) hf2 (fun i h1 h2 z => by unfold pq at z; omega)
      clear hO
      obtain ⟨lf2, lp2, hO⟩ := hc2.o
      refine xr_j1 rfl rfl rfl rfl rfl (fun h788 => ?_) (fun h788 => ?_)
      · have z788 := nt1_eq (by omega) h788
        exact (by omega)
      · refine xr_stp rfl rfl rfl rfl ?_
        refine xr_stp (st' := .int (Int32.ofNat 0) :: _) rfl rfl rfl rfl ?_
        refine xr_vcps hO rfl rfl rfl rfl rfl rfl (fun r1 K2 => cq_abo0 _ _ _ nn q dl 1 2 T N 0 _ _ f W2 G _ hc2 r1 (K2 _ _ _ _ ?_))
        refine xr_stp (st' := .int (Int32.ofNat 1) :: _) rfl rfl rfl rfl ?_
        refine xr_j2 rfl rfl rfl rfl rfl (fun h797 => ?_) (fun h797 => ?_)
        · have z797 := nt_ne h797
          exact (by omega)
        · refine xr_stp rfl rfl rfl rfl ?_
          refine xr_stp (st' := .int (Int32.ofNat 1) :: _) rfl rfl rfl rfl ?_
          refine xr_vcps hO rfl rfl rfl rfl rfl rfl (fun r1 K2 => cq_abo1 _ _ _ nn q dl 1 2 T N 0 _ _ f W2 G _ hc2 r1 (K2 _ _ _ _ ?_))
          rw [if_neg hq0]
          refine xr_stp rfl rfl rfl rfl ?_
          refine xr_j1 rfl rfl rfl rfl rfl (fun h806 => ?_) (fun h806 => ?_)
          · have z806 := nt1_eq (by omega) h806
            exact (by omega)
          · refine xr_stp (st' := .int (Int32.ofNat 0) :: _) rfl rfl rfl rfl ?_
            refine xr_stp rfl rfl rfl rfl ?_
            refine xr_j2 rfl rfl rfl rfl rfl (fun h814 => ?_) (fun h814 => ?_)
            · have z814 := nt_ne h814
              exact (by omega)
            · refine xr_stp rfl rfl rfl rfl ?_
              refine xr_stp (st' := .int (Int32.ofNat 2) :: _) rfl rfl rfl rfl ?_
              refine xr_vcps hO rfl rfl rfl rfl rfl rfl (fun r1 K2 => cq_abo2 _ _ _ nn q dl 1 2 T N 0 _ _ f W2 G _ hc2 r1 (K2 _ _ _ _ ?_))
              refine xr_stp rfl rfl rfl rfl ?_
              refine xr_stp rfl rfl rfl rfl ?_
              refine xs_sub (by omega) rfl ?_
              refine xr_j2 rfl rfl rfl rfl rfl (fun h827 => ?_) (fun h827 => ?_)
              · have z827 := nt_ne h827
                exact (by omega)
              · refine xr_stp rfl rfl rfl rfl ?_
                refine xr_stp (st' := .int (Int32.ofNat 3) :: _) rfl rfl rfl rfl ?_
                refine xr_vcps hO rfl rfl rfl rfl rfl rfl (fun r1 K2 => cq_abo3 _ _ _ nn q dl 1 2 T N 0 _ _ f W2 G _ hc2 r1 (K2 _ _ _ _ ?_))
                refine xr_stp (st' := .int (Int32.ofNat 2) :: _) rfl rfl rfl rfl ?_
                refine xr_j2 rfl rfl rfl rfl rfl (fun h836 => ?_) (fun h836 => ?_)
                · have z836 := nt_ne h836
                  exact (by omega)
                · refine xr_stp rfl rfl rfl rfl ?_
                  refine xr_stp (st' := .int (Int32.ofNat 5) :: _) rfl rfl rfl rfl ?_
                  refine xr_vcps hO rfl rfl rfl rfl rfl rfl (fun r1 K2 => cq_abo5 _ _ _ nn q dl 1 2 T N 0 _ _ f W2 G _ hc2 r1 (K2 _ _ _ _ ?_))
                  refine xs_i2l (by omega) rfl ?_
                  refine xr_stp rfl rfl rfl rfl ?_
                  refine xr_stp (st' := .int (Int32.ofNat 5) :: _) rfl rfl rfl rfl ?_
                  refine xs_ald hA gA7 (by omega) (by omega) rfl ?_
                  refine xs_lc (by first | omega | exact hb63 _) (by first | omega | exact hb63 _) rfl ?_
                  refine xr_j1 rfl rfl rfl rfl rfl (fun h850 => ?_) (fun h850 => ?_)
                  · refine xr_loc [(0, .ref 16), (1, .ref 17), (2, .ref 687), (3, .int (Int32.ofNat q)), (4, .ref A), (5, .ref 697), (6, .int (Int32.ofNat n)), (7, .int (Int32.ofNat lo))] ⟨rfl, rfl, rfl, rfl, rfl, rfl, rfl, rfl, trivial⟩ rfl ?_
                    obtain ⟨m, em⟩ : ∃ m, n = lo + m := ⟨n - lo, by omega⟩
                    have hY2 : CY nn f q dl 1 2 T N n lo G AA W2 := ⟨hlo, hnl, 0, hc2⟩
                    subst em
                    exact mU d nn q dl T N lo A f AA WS r hN hnn m G W2 _ _ hn hY2 hmw2 hs2.2.2.1 (fun W9 c9 s9 p1_ p2_ => K W9 c9 s9 (by omega) (by omega))
                  · have z850 := lf_eq h850
                    exact (by omega)
