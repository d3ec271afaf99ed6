/-! asks: two replicas -/
theorem abA (d c s : Nat) (tm B : Nat) (nn q dl tx sy T N fi m mm A : Nat) (f : Nat → Int32) (G : Nat → Nat) (GS : Nat → Nat → Nat) (r : xi_R → Prop) (a b : Nat) (ha : a < 4) (hb : b < 4) (W0 : xi_W) (hs : scn nn f q dl tx sy T N fi m mm G GS A W0) (K : xr (d + 9) 204 1034 [(0, .ref 17), (1, .ref 16), (2, .int (Int32.ofNat q)), (3, .ref A), (4, .int (Int32.ofNat tm)), (5, .ref B), (9, .long (Int64.ofNat (aH G 4))), (11, .long (Int64.ofNat (aK G 4))), (17, .int (Int32.ofNat a)), (18, .long (Int64.ofNat (G (330 + 2 * a)))), (20, .long (Int64.ofNat (G (331 + 2 * a)))), (23, .int (Int32.ofNat b)), (24, .long (Int64.ofNat (G (330 + 2 * b)))), (26, .long (Int64.ofNat (G (331 + 2 * b)))), (28, .long (Int64.ofNat (lw_j (G (330 + 2 * a)) (G (331 + 2 * a)) (G (330 + 2 * b)) (G (331 + 2 * b))))), (32, .long (Int64.ofNat (lw_un (G (330 + 2 * a)) (G (331 + 2 * a)) (G (330 + 2 * b)) (G (331 + 2 * b)))))] [] W0 c s r) : xr (d + 9) 204 949 [(0, .ref 17), (1, .ref 16), (2, .int (Int32.ofNat q)), (3, .ref A), (4, .int (Int32.ofNat tm)), (5, .ref B), (9, .long (Int64.ofNat (aH G 4))), (11, .long (Int64.ofNat (aK G 4))), (17, .int (Int32.ofNat a)), (18, .long (Int64.ofNat (G (330 + 2 * a)))), (20, .long (Int64.ofNat (G (331 + 2 * a)))), (23, .int (Int32.ofNat b)), (24, .long (Int64.ofNat (G (330 + 2 * b)))), (26, .long (Int64.ofNat (G (331 + 2 * b)))), (28, .long (Int64.ofNat (lw_j (G (330 + 2 * a)) (G (331 + 2 * a)) (G (330 + 2 * b)) (G (331 + 2 * b))))), (30, .int (Int32.ofNat (ct G b (G 4) (G (331 + 2 * a))))), (31, .int (Int32.ofNat (ct G b (G 4) (G (330 + 2 * a)))))] [] W0 c s r := by
  obtain ⟨hc, hA, hS, gA, hz, hN, hnn⟩ := id hs
  obtain ⟨F, hw, hr⟩ := hc.w
  have J := hr.j
  have he := hr.e
  have J4 := J.e
  have b63 := J.b63
  have gA7 : 17 ≤ A := by omega
  obtain ⟨lf, lp, hO⟩ := hc.o
  have hx := (hr.xs ha).hk
  have hy := (hr.xs hb).hk
  have c62 := ct_62 J4 b (G (331 + 2 * a))
  have hbn : G (331 + 2 * b) < 4611686018427387904 := J.b _
  have han : G (331 + 2 * a) < 4611686018427387904 := J.b _
  have hah : G (330 + 2 * a) < 4611686018427387904 := J.b _
  have hbh : G (330 + 2 * b) < 4611686018427387904 := J.b _
  have hun : lw_un (G (330 + 2 * a)) (G (331 + 2 * a)) (G (330 + 2 * b)) (G (331 + 2 * b)) < 4611686018427387904 := by have := lt62 J4 (lw_unL (hA := G (330 + 2 * a)) (hB := G (330 + 2 * b)) (kB := G (331 + 2 * b)) hx.2); omega
  have hjj : lw_j (G (330 + 2 * a)) (G (331 + 2 * a)) (G (330 + 2 * b)) (G (331 + 2 * b)) < 2 ^ G 4 := lw_j63 hx.1 hy.1
  have hjl : lw_j (G (330 + 2 * a)) (G (331 + 2 * a)) (G (330 + 2 * b)) (G (331 + 2 * b)) < 4611686018427387904 := lt62 J4 hjj
  have hor : G (331 + 2 * a) ||| G (331 + 2 * b) < 4611686018427387904 := by have := lt62 J4 (Nat.or_lt_two_pow hx.2 hy.2); omega
  by_cases z : ct G b (G 4) (G (331 + 2 * a)) = 0
  · refine xr_stp rfl rfl rfl rfl ?_
    refine xr_stp rfl rfl rfl rfl ?_
    refine xr_stp rfl rfl rfl rfl ?_
    refine xr_vcps hO rfl rfl rfl rfl rfl rfl (fun r1 K2 => cq_ctx _ _ _ nn q dl tx sy T N fi m mm f W0 G GS hc a b ha hb r1 (K2 _ _ _ _ ?_))
    refine xr_stp rfl rfl rfl rfl ?_
    refine xr_j2 rfl rfl rfl rfl rfl (fun h959 => ?_) (fun h959 => ?_)
    · have z959 := nt_ne h959
      exact (by omega)
    · refine xr_stp rfl rfl rfl rfl ?_
      refine xr_stp rfl rfl rfl rfl ?_
      refine xr_stp rfl rfl rfl rfl ?_
      refine xr_stp rfl rfl rfl rfl ?_
      refine xr_stp (st' := .int (Int32.ofNat 1) :: _) rfl rfl rfl rfl ?_
      refine xs_add rfl ?_
      refine xr_vcps hO rfl rfl rfl rfl rfl rfl (fun r1 K2 => cq_kno _ _ _ nn q dl tx sy T N fi m mm f W0 G GS hc a b _ ha hb (by omega) (by omega) r1 (K2 _ _ _ _ ?_))
      rw [if_neg (show ¬ ct G b (G 4) (G (331 + 2 * a)) + 1 ≤ ct G b (G 4) (G (331 + 2 * a)) by omega)]
      refine xr_j1 rfl rfl rfl rfl rfl (fun h974 => ?_) (fun h974 => ?_)
      · have z974 := nt1_ne h974
        exact (by omega)
      · refine xr_stp rfl rfl rfl rfl ?_
        refine xr_j1 rfl rfl rfl rfl rfl (fun h979 => ?_) (fun h979 => ?_)
        · refine xr_stp rfl rfl rfl rfl ?_
          refine xr_stp rfl rfl rfl rfl ?_
          refine xr_stp rfl rfl rfl rfl ?_
          refine xr_vcps hO rfl rfl rfl rfl rfl rfl (fun r1 K2 => cq_sha _ _ _ nn q dl tx sy T N fi m mm f W0 G GS hc a b ha hb r1 (K2 _ _ _ _ ?_))
          refine xr_stp rfl rfl rfl rfl ?_
          refine xr_j2 rfl rfl rfl rfl rfl (fun h1005 => ?_) (fun h1005 => ?_)
          · refine xr_stp rfl rfl rfl rfl ?_
            refine xr_stp rfl rfl rfl rfl ?_
            refine xr_stp (st' := .long (Int64.ofNat 18446744073709551615) :: _) rfl rfl rfl rfl ?_
            refine xs_lxor rfl ?_
            refine xs_land rfl ?_
            refine xr_stp rfl rfl rfl rfl ?_
            refine xr_stp rfl rfl rfl rfl ?_
            refine xs_land rfl ?_
            refine xr_stp rfl rfl rfl rfl ?_
            refine xr_stp (st' := .long (Int64.ofNat 18446744073709551615) :: _) rfl rfl rfl rfl ?_
            refine xs_lxor rfl ?_
            refine xs_land rfl ?_
            refine xs_lor rfl ?_
            refine xr_stp rfl rfl rfl rfl ?_
            refine xr_loc [(0, .ref 17), (1, .ref 16), (2, .int (Int32.ofNat q)), (3, .ref A), (4, .int (Int32.ofNat tm)), (5, .ref B), (9, .long (Int64.ofNat (aH G 4))), (11, .long (Int64.ofNat (aK G 4))), (17, .int (Int32.ofNat a)), (18, .long (Int64.ofNat (G (330 + 2 * a)))), (20, .long (Int64.ofNat (G (331 + 2 * a)))), (23, .int (Int32.ofNat b)), (24, .long (Int64.ofNat (G (330 + 2 * b)))), (26, .long (Int64.ofNat (G (331 + 2 * b)))), (28, .long (Int64.ofNat (lw_j (G (330 + 2 * a)) (G (331 + 2 * a)) (G (330 + 2 * b)) (G (331 + 2 * b))))), (32, .long (Int64.ofNat (lw_un (G (330 + 2 * a)) (G (331 + 2 * a)) (G (330 + 2 * b)) (G (331 + 2 * b)))))] ⟨rfl, rfl, rfl, rfl, rfl, rfl, rfl, rfl, rfl, rfl, rfl, rfl, rfl, rfl, rfl, rfl, trivial⟩ rfl ?_
            exact K
          · have z1005 := nf_eq h1005
            exact (by omega)
        · have z979 := nf1_le (by omega) h979
          exact (by omega)
  · refine xr_stp rfl rfl rfl rfl ?_
    refine xr_stp rfl rfl rfl rfl ?_
    refine xr_stp rfl rfl rfl rfl ?_
    refine xr_vcps hO rfl rfl rfl rfl rfl rfl (fun r1 K2 => cq_ctx _ _ _ nn q dl tx sy T N fi m mm f W0 G GS hc a b ha hb r1 (K2 _ _ _ _ ?_))
    refine xr_stp rfl rfl rfl rfl ?_
    refine xr_j2 rfl rfl rfl rfl rfl (fun h959 => ?_) (fun h959 => ?_)
    · have z959 := nt_ne h959
      exact (by omega)
    · refine xr_stp rfl rfl rfl rfl ?_
      refine xr_stp rfl rfl rfl rfl ?_
      refine xr_stp rfl rfl rfl rfl ?_
      refine xr_stp rfl rfl rfl rfl ?_
      refine xr_stp (st' := .int (Int32.ofNat 1) :: _) rfl rfl rfl rfl ?_
      refine xs_add rfl ?_
      refine xr_vcps hO rfl rfl rfl rfl rfl rfl (fun r1 K2 => cq_kno _ _ _ nn q dl tx sy T N fi m mm f W0 G GS hc a b _ ha hb (by omega) (by omega) r1 (K2 _ _ _ _ ?_))
      rw [if_neg (show ¬ ct G b (G 4) (G (331 + 2 * a)) + 1 ≤ ct G b (G 4) (G (331 + 2 * a)) by omega)]
      refine xr_j1 rfl rfl rfl rfl rfl (fun h974 => ?_) (fun h974 => ?_)
      · have z974 := nt1_ne h974
        exact (by omega)
      · refine xr_stp rfl rfl rfl rfl ?_
        refine xr_j1 rfl rfl rfl rfl rfl (fun h979 => ?_) (fun h979 => ?_)
        · have z979 := nt1_le (by omega) h979
          exact (by omega)
        · refine xr_stp rfl rfl rfl rfl ?_
          refine xr_stp rfl rfl rfl rfl ?_
          refine xr_stp rfl rfl rfl rfl ?_
          refine xr_stp rfl rfl rfl rfl ?_
          refine xr_vcps hO rfl rfl rfl rfl rfl rfl (fun r1 K2 => cq_kno _ _ _ nn q dl tx sy T N fi m mm f W0 G GS hc a b _ ha hb (by omega) (by omega) r1 (K2 _ _ _ _ ?_))
          rw [if_pos (Nat.le_refl _)]
          refine xr_j1 rfl rfl rfl rfl rfl (fun h992 => ?_) (fun h992 => ?_)
          · have z992 := nt1_eq (by omega) h992
            exact (by omega)
          · refine xr_stp rfl rfl rfl rfl ?_
            refine xr_stp rfl rfl rfl rfl ?_
            refine xr_stp rfl rfl rfl rfl ?_
            refine xr_vcps hO rfl rfl rfl rfl rfl rfl (fun r1 K2 => cq_sha _ _ _ nn q dl tx sy T N fi m mm f W0 G GS hc a b ha hb r1 (K2 _ _ _ _ ?_))
            refine xr_stp rfl rfl rfl rfl ?_
            refine xr_j2 rfl rfl rfl rfl rfl (fun h1005 => ?_) (fun h1005 => ?_)
            · refine xr_stp rfl rfl rfl rfl ?_
              refine xr_stp rfl rfl rfl rfl ?_
              refine xr_stp (st' := .long (Int64.ofNat 18446744073709551615) :: _) rfl rfl rfl rfl ?_
              refine xs_lxor rfl ?_
              refine xs_land rfl ?_
              refine xr_stp rfl rfl rfl rfl ?_
              refine xr_stp rfl rfl rfl rfl ?_
              refine xs_land rfl ?_
              refine xr_stp rfl rfl rfl rfl ?_
              refine xr_stp (st' := .long (Int64.ofNat 18446744073709551615) :: _) rfl rfl rfl rfl ?_
              refine xs_lxor rfl ?_
              refine xs_land rfl ?_
              refine xs_lor rfl ?_
              refine xr_stp rfl rfl rfl rfl ?_
              refine xr_loc [(0, .ref 17), (1, .ref 16), (2, .int (Int32.ofNat q)), (3, .ref A), (4, .int (Int32.ofNat tm)), (5, .ref B), (9, .long (Int64.ofNat (aH G 4))), (11, .long (Int64.ofNat (aK G 4))), (17, .int (Int32.ofNat a)), (18, .long (Int64.ofNat (G (330 + 2 * a)))), (20, .long (Int64.ofNat (G (331 + 2 * a)))), (23, .int (Int32.ofNat b)), (24, .long (Int64.ofNat (G (330 + 2 * b)))), (26, .long (Int64.ofNat (G (331 + 2 * b)))), (28, .long (Int64.ofNat (lw_j (G (330 + 2 * a)) (G (331 + 2 * a)) (G (330 + 2 * b)) (G (331 + 2 * b))))), (32, .long (Int64.ofNat (lw_un (G (330 + 2 * a)) (G (331 + 2 * a)) (G (330 + 2 * b)) (G (331 + 2 * b)))))] ⟨rfl, rfl, rfl, rfl, rfl, rfl, rfl, rfl, rfl, rfl, rfl, rfl, rfl, rfl, rfl, rfl, trivial⟩ rfl ?_
              exact K
            · have z1005 := nf_eq h1005
              exact (by omega)
theorem abB (d c s : Nat) (tm B : Nat) (nn q dl tx sy T N fi m mm A : Nat) (f : Nat → Int32) (G : Nat → Nat) (GS : Nat → Nat → Nat) (r : xi_R → Prop) (a b : Nat) (ha : a < 4) (hb : b < 4) (W0 : xi_W) (hs : scn nn f q dl tx sy T N fi m mm G GS A W0) (K : xr (d + 9) 204 1066 [(0, .ref 17), (1, .ref 16), (2, .int (Int32.ofNat q)), (3, .ref A), (4, .int (Int32.ofNat tm)), (5, .ref B), (9, .long (Int64.ofNat (aH G 4))), (11, .long (Int64.ofNat (aK G 4))), (17, .int (Int32.ofNat a)), (18, .long (Int64.ofNat (G (330 + 2 * a)))), (20, .long (Int64.ofNat (G (331 + 2 * a)))), (23, .int (Int32.ofNat b)), (24, .long (Int64.ofNat (G (330 + 2 * b)))), (26, .long (Int64.ofNat (G (331 + 2 * b)))), (28, .long (Int64.ofNat (lw_j (G (330 + 2 * a)) (G (331 + 2 * a)) (G (330 + 2 * b)) (G (331 + 2 * b))))), (32, .long (Int64.ofNat (lw_un (G (330 + 2 * a)) (G (331 + 2 * a)) (G (330 + 2 * b)) (G (331 + 2 * b)))))] [] W0 c s r) : xr (d + 9) 204 1034 [(0, .ref 17), (1, .ref 16), (2, .int (Int32.ofNat q)), (3, .ref A), (4, .int (Int32.ofNat tm)), (5, .ref B), (9, .long (Int64.ofNat (aH G 4))), (11, .long (Int64.ofNat (aK G 4))), (17, .int (Int32.ofNat a)), (18, .long (Int64.ofNat (G (330 + 2 * a)))), (20, .long (Int64.ofNat (G (331 + 2 * a)))), (23, .int (Int32.ofNat b)), (24, .long (Int64.ofNat (G (330 + 2 * b)))), (26, .long (Int64.ofNat (G (331 + 2 * b)))), (28, .long (Int64.ofNat (lw_j (G (330 + 2 * a)) (G (331 + 2 * a)) (G (330 + 2 * b)) (G (331 + 2 * b))))), (32, .long (Int64.ofNat (lw_un (G (330 + 2 * a)) (G (331 + 2 * a)) (G (330 + 2 * b)) (G (331 + 2 * b)))))] [] W0 c s r := by
  obtain ⟨hc, hA, hS, gA, hz, hN, hnn⟩ := id hs
  obtain ⟨F, hw, hr⟩ := hc.w
  have J := hr.j
  have he := hr.e
  have J4 := J.e
  have b63 := J.b63
  have gA7 : 17 ≤ A := by omega
  obtain ⟨lf, lp, hO⟩ := hc.o
  have hx := (hr.xs ha).hk
  have hy := (hr.xs hb).hk
  have c62 := ct_62 J4 b (G (331 + 2 * a))
  have hbn : G (331 + 2 * b) < 4611686018427387904 := J.b _
  have han : G (331 + 2 * a) < 4611686018427387904 := J.b _
  have hah : G (330 + 2 * a) < 4611686018427387904 := J.b _
  have hbh : G (330 + 2 * b) < 4611686018427387904 := J.b _
  have hun : lw_un (G (330 + 2 * a)) (G (331 + 2 * a)) (G (330 + 2 * b)) (G (331 + 2 * b)) < 4611686018427387904 := by have := lt62 J4 (lw_unL (hA := G (330 + 2 * a)) (hB := G (330 + 2 * b)) (kB := G (331 + 2 * b)) hx.2); omega
  have hjj : lw_j (G (330 + 2 * a)) (G (331 + 2 * a)) (G (330 + 2 * b)) (G (331 + 2 * b)) < 2 ^ G 4 := lw_j63 hx.1 hy.1
  have hjl : lw_j (G (330 + 2 * a)) (G (331 + 2 * a)) (G (330 + 2 * b)) (G (331 + 2 * b)) < 4611686018427387904 := lt62 J4 hjj
  have hor : G (331 + 2 * a) ||| G (331 + 2 * b) < 4611686018427387904 := by have := lt62 J4 (Nat.or_lt_two_pow hx.2 hy.2); omega
  by_cases e1 : G (330 + 2 * a) = G (330 + 2 * b)
  · by_cases e2 : G (331 + 2 * a) = G (331 + 2 * b)
    · refine xr_stp rfl rfl rfl rfl ?_
      refine xr_stp rfl rfl rfl rfl ?_
      refine xr_stp rfl rfl rfl rfl ?_
      refine xr_vcps hO rfl rfl rfl rfl rfl rfl (fun r1 K2 => cq_sam _ _ _ nn q dl tx sy T N fi m mm f W0 G GS hc a b ha hb r1 (fun v hv1 hv2 => K2 _ _ _ _ ?_))
      have hv : v = 1 := hv2.mpr ⟨e1, e2⟩
      refine xr_stp rfl rfl rfl rfl ?_
      refine xr_stp rfl rfl rfl rfl ?_
      refine xs_lc (by omega) (by omega) rfl ?_
      refine xr_j1 rfl rfl rfl rfl rfl (fun h1047 => ?_) (fun h1047 => ?_)
      · have z1047 := lt_ne h1047
        exact (by omega)
      · refine xr_stp rfl rfl rfl rfl ?_
        refine xr_stp rfl rfl rfl rfl ?_
        refine xs_lc (by omega) (by omega) rfl ?_
        refine xr_j1 rfl rfl rfl rfl rfl (fun h1055 => ?_) (fun h1055 => ?_)
        · have z1055 := lt_ne h1055
          exact (by omega)
        · refine xr_stp (st' := .int (Int32.ofNat 1) :: _) rfl rfl rfl rfl ?_
          refine xr_stp rfl rfl rfl rfl ?_
          refine xr_j2 rfl rfl rfl rfl rfl (fun h1063 => ?_) (fun h1063 => ?_)
          · have z1063 := nt_ne h1063
            exact (by omega)
          · exact K
    · refine xr_stp rfl rfl rfl rfl ?_
      refine xr_stp rfl rfl rfl rfl ?_
      refine xr_stp rfl rfl rfl rfl ?_
      refine xr_vcps hO rfl rfl rfl rfl rfl rfl (fun r1 K2 => cq_sam _ _ _ nn q dl tx sy T N fi m mm f W0 G GS hc a b ha hb r1 (fun v hv1 hv2 => K2 _ _ _ _ ?_))
      have hv : v ≠ 1 := fun z => e2 (hv2.mp z).2
      refine xr_stp rfl rfl rfl rfl ?_
      refine xr_stp rfl rfl rfl rfl ?_
      refine xs_lc (by omega) (by omega) rfl ?_
      refine xr_j1 rfl rfl rfl rfl rfl (fun h1047 => ?_) (fun h1047 => ?_)
      · have z1047 := lt_ne h1047
        exact (by omega)
      · refine xr_stp rfl rfl rfl rfl ?_
        refine xr_stp rfl rfl rfl rfl ?_
        refine xs_lc (by omega) (by omega) rfl ?_
        refine xr_j1 rfl rfl rfl rfl rfl (fun h1055 => ?_) (fun h1055 => ?_)
        · refine xr_stp (st' := .int (Int32.ofNat 0) :: _) rfl rfl rfl rfl ?_
          refine xr_j2 rfl rfl rfl rfl rfl (fun h1063 => ?_) (fun h1063 => ?_)
          · have z1063 := nt_ne h1063
            exact (by omega)
          · exact K
        · have z1055 := lf_ne h1055
          exact (by omega)
  · refine xr_stp rfl rfl rfl rfl ?_
    refine xr_stp rfl rfl rfl rfl ?_
    refine xr_stp rfl rfl rfl rfl ?_
    refine xr_vcps hO rfl rfl rfl rfl rfl rfl (fun r1 K2 => cq_sam _ _ _ nn q dl tx sy T N fi m mm f W0 G GS hc a b ha hb r1 (fun v hv1 hv2 => K2 _ _ _ _ ?_))
    have hv : v ≠ 1 := fun z => e1 (hv2.mp z).1
    refine xr_stp rfl rfl rfl rfl ?_
    refine xr_stp rfl rfl rfl rfl ?_
    refine xs_lc (by omega) (by omega) rfl ?_
    refine xr_j1 rfl rfl rfl rfl rfl (fun h1047 => ?_) (fun h1047 => ?_)
    · refine xr_stp (st' := .int (Int32.ofNat 0) :: _) rfl rfl rfl rfl ?_
      refine xr_j2 rfl rfl rfl rfl rfl (fun h1063 => ?_) (fun h1063 => ?_)
      · have z1063 := nt_ne h1063
        exact (by omega)
      · exact K
    · have z1047 := lf_ne h1047
      exact (by omega)
theorem abC (d c s : Nat) (tm B : Nat) (nn q dl tx sy T N fi m mm A : Nat) (f : Nat → Int32) (G : Nat → Nat) (GS : Nat → Nat → Nat) (r : xi_R → Prop) (a b : Nat) (ha : a < 4) (hb : b < 4) (W0 : xi_W) (hs : scn nn f q dl tx sy T N fi m mm G GS A W0) (K : ∀ W', scn nn f q dl tx sy T N fi m mm G GS A W' → fr pq W0 W' → xr (d + 9) 204 1104 [(0, .ref 17), (1, .ref 16), (2, .int (Int32.ofNat q)), (3, .ref A), (4, .int (Int32.ofNat tm)), (5, .ref B), (9, .long (Int64.ofNat (aH G 4))), (11, .long (Int64.ofNat (aK G 4))), (17, .int (Int32.ofNat a)), (18, .long (Int64.ofNat (G (330 + 2 * a)))), (20, .long (Int64.ofNat (G (331 + 2 * a)))), (23, .int (Int32.ofNat b)), (24, .long (Int64.ofNat (G (330 + 2 * b)))), (26, .long (Int64.ofNat (G (331 + 2 * b)))), (28, .long (Int64.ofNat (lw_j (G (330 + 2 * a)) (G (331 + 2 * a)) (G (330 + 2 * b)) (G (331 + 2 * b))))), (32, .long (Int64.ofNat (lw_un (G (330 + 2 * a)) (G (331 + 2 * a)) (G (330 + 2 * b)) (G (331 + 2 * b)))))] [] W' c s r) : xr (d + 9) 204 1066 [(0, .ref 17), (1, .ref 16), (2, .int (Int32.ofNat q)), (3, .ref A), (4, .int (Int32.ofNat tm)), (5, .ref B), (9, .long (Int64.ofNat (aH G 4))), (11, .long (Int64.ofNat (aK G 4))), (17, .int (Int32.ofNat a)), (18, .long (Int64.ofNat (G (330 + 2 * a)))), (20, .long (Int64.ofNat (G (331 + 2 * a)))), (23, .int (Int32.ofNat b)), (24, .long (Int64.ofNat (G (330 + 2 * b)))), (26, .long (Int64.ofNat (G (331 + 2 * b)))), (28, .long (Int64.ofNat (lw_j (G (330 + 2 * a)) (G (331 + 2 * a)) (G (330 + 2 * b)) (G (331 + 2 * b))))), (32, .long (Int64.ofNat (lw_un (G (330 + 2 * a)) (G (331 + 2 * a)) (G (330 + 2 * b)) (G (331 + 2 * b)))))] [] W0 c s r := by
  obtain ⟨hc, hA, hS, gA, hz, hN, hnn⟩ := id hs
  obtain ⟨F, hw, hr⟩ := hc.w
  have J := hr.j
  have he := hr.e
  have J4 := J.e
  have b63 := J.b63
  have gA7 : 17 ≤ A := by omega
  obtain ⟨lf, lp, hO⟩ := hc.o
  have hx := (hr.xs ha).hk
  have hy := (hr.xs hb).hk
  have c62 := ct_62 J4 b (G (331 + 2 * a))
  have hbn : G (331 + 2 * b) < 4611686018427387904 := J.b _
  have han : G (331 + 2 * a) < 4611686018427387904 := J.b _
  have hah : G (330 + 2 * a) < 4611686018427387904 := J.b _
  have hbh : G (330 + 2 * b) < 4611686018427387904 := J.b _
  have hun : lw_un (G (330 + 2 * a)) (G (331 + 2 * a)) (G (330 + 2 * b)) (G (331 + 2 * b)) < 4611686018427387904 := by have := lt62 J4 (lw_unL (hA := G (330 + 2 * a)) (hB := G (330 + 2 * b)) (kB := G (331 + 2 * b)) hx.2); omega
  have hjj : lw_j (G (330 + 2 * a)) (G (331 + 2 * a)) (G (330 + 2 * b)) (G (331 + 2 * b)) < 2 ^ G 4 := lw_j63 hx.1 hy.1
  have hjl : lw_j (G (330 + 2 * a)) (G (331 + 2 * a)) (G (330 + 2 * b)) (G (331 + 2 * b)) < 4611686018427387904 := lt62 J4 hjj
  have hor : G (331 + 2 * a) ||| G (331 + 2 * b) < 4611686018427387904 := by have := lt62 J4 (Nat.or_lt_two_pow hx.2 hy.2); omega
  by_cases e1 : lw_j (G (330 + 2 * a)) (G (331 + 2 * a)) (G (330 + 2 * b)) (G (331 + 2 * b)) = G (330 + 2 * b)
  · by_cases e2 : G (331 + 2 * a) &&& (G (331 + 2 * b) ^^^ 18446744073709551615) = 0
    · refine xr_stp rfl rfl rfl rfl ?_
      refine xr_stp rfl rfl rfl rfl ?_
      refine xr_stp rfl rfl rfl rfl ?_
      refine xr_vcps hO rfl rfl rfl rfl rfl rfl (fun r1 K2 => cq_bel _ _ _ nn q dl tx sy T N fi m mm f W0 G GS hc a b ha hb r1 (fun W1 v hc1 hf1 hv1 hv2 => K2 _ _ _ _ ?_))
      have hv : v = 1 := hv2.mpr ⟨e1, e2⟩
      refine xr_stp rfl rfl rfl rfl ?_
      refine xr_stp rfl rfl rfl rfl ?_
      refine xs_lc (by omega) (by omega) rfl ?_
      refine xr_j1 rfl rfl rfl rfl rfl (fun h1079 => ?_) (fun h1079 => ?_)
      · have z1079 := lt_ne h1079
        exact (by omega)
      · refine xr_stp rfl rfl rfl rfl ?_
        refine xr_stp rfl rfl rfl rfl ?_
        refine xr_stp (st' := .long (Int64.ofNat 18446744073709551615) :: _) rfl rfl rfl rfl ?_
        refine xs_lxor rfl ?_
        refine xs_land rfl ?_
        refine xr_stp (st' := .long (Int64.ofNat 0) :: _) rfl rfl rfl rfl ?_
        refine xs_lc (by exact Nat.lt_of_le_of_lt Nat.and_le_left (by omega)) (by omega) rfl ?_
        refine xr_j1 rfl rfl rfl rfl rfl (fun h1093 => ?_) (fun h1093 => ?_)
        · have z1093 := lt_ne h1093
          exact (by omega)
        · refine xr_stp (st' := .int (Int32.ofNat 1) :: _) rfl rfl rfl rfl ?_
          refine xr_stp rfl rfl rfl rfl ?_
          refine xr_j2 rfl rfl rfl rfl rfl (fun h1101 => ?_) (fun h1101 => ?_)
          · have z1101 := nt_ne h1101
            exact (by omega)
          · exact K W1 (hs.cls hc1 hf1) hf1
    · refine xr_stp rfl rfl rfl rfl ?_
      refine xr_stp rfl rfl rfl rfl ?_
      refine xr_stp rfl rfl rfl rfl ?_
      refine xr_vcps hO rfl rfl rfl rfl rfl rfl (fun r1 K2 => cq_bel _ _ _ nn q dl tx sy T N fi m mm f W0 G GS hc a b ha hb r1 (fun W1 v hc1 hf1 hv1 hv2 => K2 _ _ _ _ ?_))
      have hv : v ≠ 1 := fun z => e2 (hv2.mp z).2
      refine xr_stp rfl rfl rfl rfl ?_
      refine xr_stp rfl rfl rfl rfl ?_
      refine xs_lc (by omega) (by omega) rfl ?_
      refine xr_j1 rfl rfl rfl rfl rfl (fun h1079 => ?_) (fun h1079 => ?_)
      · have z1079 := lt_ne h1079
        exact (by omega)
      · refine xr_stp rfl rfl rfl rfl ?_
        refine xr_stp rfl rfl rfl rfl ?_
        refine xr_stp (st' := .long (Int64.ofNat 18446744073709551615) :: _) rfl rfl rfl rfl ?_
        refine xs_lxor rfl ?_
        refine xs_land rfl ?_
        refine xr_stp (st' := .long (Int64.ofNat 0) :: _) rfl rfl rfl rfl ?_
        refine xs_lc (by exact Nat.lt_of_le_of_lt Nat.and_le_left (by omega)) (by omega) rfl ?_
        refine xr_j1 rfl rfl rfl rfl rfl (fun h1093 => ?_) (fun h1093 => ?_)
        · refine xr_stp (st' := .int (Int32.ofNat 0) :: _) rfl rfl rfl rfl ?_
          refine xr_j2 rfl rfl rfl rfl rfl (fun h1101 => ?_) (fun h1101 => ?_)
          · have z1101 := nt_ne h1101
            exact (by omega)
          · exact K W1 (hs.cls hc1 hf1) hf1
        · have z1093 := lf_ne h1093
          exact (by omega)
  · refine xr_stp rfl rfl rfl rfl ?_
    refine xr_stp rfl rfl rfl rfl ?_
    refine xr_stp rfl rfl rfl rfl ?_
    refine xr_vcps hO rfl rfl rfl rfl rfl rfl (fun r1 K2 => cq_bel _ _ _ nn q dl tx sy T N fi m mm f W0 G GS hc a b ha hb r1 (fun W1 v hc1 hf1 hv1 hv2 => K2 _ _ _ _ ?_))
    have hv : v ≠ 1 := fun z => e1 (hv2.mp z).1
    refine xr_stp rfl rfl rfl rfl ?_
    refine xr_stp rfl rfl rfl rfl ?_
    refine xs_lc (by omega) (by omega) rfl ?_
    refine xr_j1 rfl rfl rfl rfl rfl (fun h1079 => ?_) (fun h1079 => ?_)
    · refine xr_stp (st' := .int (Int32.ofNat 0) :: _) rfl rfl rfl rfl ?_
      refine xr_j2 rfl rfl rfl rfl rfl (fun h1101 => ?_) (fun h1101 => ?_)
      · have z1101 := nt_ne h1101
        exact (by omega)
      · exact K W1 (hs.cls hc1 hf1) hf1
    · have z1079 := lf_ne h1079
      exact (by omega)
theorem abD (d c s : Nat) (tm B : Nat) (nn q dl tx sy T N fi m mm A : Nat) (f : Nat → Int32) (G : Nat → Nat) (GS : Nat → Nat → Nat) (r : xi_R → Prop) (a b : Nat) (ha : a < 4) (hb : b < 4) (W0 : xi_W) (hs : scn nn f q dl tx sy T N fi m mm G GS A W0) (K : ∀ W' c' s', c' ≤ c + 1 → s' ≤ s + 63 → scn nn f q dl tx sy T N fi m mm G GS A W' → fr pq W0 W' → xr (d + 9) 204 1177 [(0, .ref 17), (1, .ref 16), (2, .int (Int32.ofNat q)), (3, .ref A), (4, .int (Int32.ofNat tm)), (5, .ref B), (9, .long (Int64.ofNat (aH G 4))), (11, .long (Int64.ofNat (aK G 4))), (17, .int (Int32.ofNat a)), (18, .long (Int64.ofNat (G (330 + 2 * a)))), (20, .long (Int64.ofNat (G (331 + 2 * a)))), (23, .int (Int32.ofNat b))] [] W' c' s' r) : xr (d + 9) 204 1104 [(0, .ref 17), (1, .ref 16), (2, .int (Int32.ofNat q)), (3, .ref A), (4, .int (Int32.ofNat tm)), (5, .ref B), (9, .long (Int64.ofNat (aH G 4))), (11, .long (Int64.ofNat (aK G 4))), (17, .int (Int32.ofNat a)), (18, .long (Int64.ofNat (G (330 + 2 * a)))), (20, .long (Int64.ofNat (G (331 + 2 * a)))), (23, .int (Int32.ofNat b)), (24, .long (Int64.ofNat (G (330 + 2 * b)))), (26, .long (Int64.ofNat (G (331 + 2 * b)))), (28, .long (Int64.ofNat (lw_j (G (330 + 2 * a)) (G (331 + 2 * a)) (G (330 + 2 * b)) (G (331 + 2 * b))))), (32, .long (Int64.ofNat (lw_un (G (330 + 2 * a)) (G (331 + 2 * a)) (G (330 + 2 * b)) (G (331 + 2 * b)))))] [] W0 c s r := by
  obtain ⟨hc, hA, hS, gA, hz, hN, hnn⟩ := id hs
  obtain ⟨F, hw, hr⟩ := hc.w
  have J := hr.j
  have he := hr.e
  have J4 := J.e
  have b63 := J.b63
  have gA7 : 17 ≤ A := by omega
  obtain ⟨lf, lp, hO⟩ := hc.o
  have hx := (hr.xs ha).hk
  have hy := (hr.xs hb).hk
  have c62 := ct_62 J4 b (G (331 + 2 * a))
  have hbn : G (331 + 2 * b) < 4611686018427387904 := J.b _
  have han : G (331 + 2 * a) < 4611686018427387904 := J.b _
  have hah : G (330 + 2 * a) < 4611686018427387904 := J.b _
  have hbh : G (330 + 2 * b) < 4611686018427387904 := J.b _
  have hun : lw_un (G (330 + 2 * a)) (G (331 + 2 * a)) (G (330 + 2 * b)) (G (331 + 2 * b)) < 4611686018427387904 := by have := lt62 J4 (lw_unL (hA := G (330 + 2 * a)) (hB := G (330 + 2 * b)) (kB := G (331 + 2 * b)) hx.2); omega
  have hjj : lw_j (G (330 + 2 * a)) (G (331 + 2 * a)) (G (330 + 2 * b)) (G (331 + 2 * b)) < 2 ^ G 4 := lw_j63 hx.1 hy.1
  have hjl : lw_j (G (330 + 2 * a)) (G (331 + 2 * a)) (G (330 + 2 * b)) (G (331 + 2 * b)) < 4611686018427387904 := lt62 J4 hjj
  have hor : G (331 + 2 * a) ||| G (331 + 2 * b) < 4611686018427387904 := by have := lt62 J4 (Nat.or_lt_two_pow hx.2 hy.2); omega
  refine xr_stp rfl rfl rfl rfl ?_
  refine xr_stp rfl rfl rfl rfl ?_
  refine xr_stp rfl rfl rfl rfl ?_
  refine xr_stp (st' := .int (Int32.ofNat 0) :: _) rfl rfl rfl rfl ?_
  refine xr_vcps hO rfl rfl rfl rfl rfl rfl (fun r1 K2 => cq_joi0 _ _ _ nn q dl tx sy T N fi m mm f W0 G GS hc a b ha hb r1 (fun W1 hc1 hf1 => K2 _ _ _ _ ?_))
  have hs1 := hs.cls hc1 hf1
  clear hA hS hO
  obtain ⟨-, hA, hS, -⟩ := id hs1
  obtain ⟨lf, lp, hO⟩ := hc1.o
  refine xr_stp rfl rfl rfl rfl ?_
  refine xr_cps rfl rfl rfl (fun r1 K2 => lw_many _ _ _ _ _ (by omega) r1 (K2 _ _ _ _ ?_))
  refine xr_j2 rfl rfl rfl rfl rfl (fun h1118 => ?_) (fun h1118 => ?_)
  · have z1118 := nt_ne h1118
    exact (by omega)
  · refine xr_stp rfl rfl rfl rfl ?_
    refine xr_stp rfl rfl rfl rfl ?_
    refine xr_stp rfl rfl rfl rfl ?_
    refine xr_stp (st' := .int (Int32.ofNat 1) :: _) rfl rfl rfl rfl ?_
    refine xr_vcps hO rfl rfl rfl rfl rfl rfl (fun r1 K2 => cq_joi1 _ _ _ nn q dl tx sy T N fi m mm f W1 G GS hc1 a b ha hb r1 (fun W2 hc2 hf2 => K2 _ _ _ _ ?_))
    have hs2 := hs1.cls hc2 hf2
    clear hA hS hO
    obtain ⟨-, hA, hS, -⟩ := id hs2
    obtain ⟨lf, lp, hO⟩ := hc2.o
    refine xr_stp rfl rfl rfl rfl ?_
    refine xr_stp rfl rfl rfl rfl ?_
    refine xs_lor rfl ?_
    refine xr_cps rfl rfl rfl (fun r1 K2 => lw_many _ _ _ _ _ (by omega) r1 (K2 _ _ _ _ ?_))
    refine xr_j2 rfl rfl rfl rfl rfl (fun h1138 => ?_) (fun h1138 => ?_)
    · have z1138 := nt_ne h1138
      exact (by omega)
    · refine xr_stp rfl rfl rfl rfl ?_
      refine xr_stp rfl rfl rfl rfl ?_
      refine xr_stp rfl rfl rfl rfl ?_
      refine xr_stp (st' := .int (Int32.ofNat 2) :: _) rfl rfl rfl rfl ?_
      refine xr_vcps hO rfl rfl rfl rfl rfl rfl (fun r1 K2 => cq_joi2 _ _ _ nn q dl tx sy T N fi m mm f W2 G GS hc2 a b ha hb r1 (fun W3 hc3 hf3 => K2 _ _ _ _ ?_))
      have hs3 := hs2.cls hc3 hf3
      clear hA hS hO
      obtain ⟨-, hA, hS, -⟩ := id hs3
      obtain ⟨lf, lp, hO⟩ := hc3.o
      refine xr_stp rfl rfl rfl rfl ?_
      refine xr_stp rfl rfl rfl rfl ?_
      refine xr_cps rfl rfl rfl (fun r1 K2 => lw_digest2 _ _ _ A _ W3 G hA gA7 b63 J4 (en.dgE he J4 hjj) (by omega) r1 (fun W4 c4 s4 kc4 ks4 hA4 hf4 => K2 _ _ _ _ ?_))
      have hs4 := hs3.new hf4
      clear hA hS hO
      obtain ⟨hc4, hA, hS, -⟩ := id hs4
      obtain ⟨lf, lp, hO⟩ := hc4.o
      refine xr_j2 rfl rfl rfl rfl rfl (fun h1156 => ?_) (fun h1156 => ?_)
      · have z1156 := nt_ne h1156
        exact (by omega)
      · refine xr_stp rfl rfl rfl rfl ?_
        refine xr_stp rfl rfl rfl rfl ?_
        refine xr_stp rfl rfl rfl rfl ?_
        refine xr_vcps hO rfl rfl rfl rfl rfl rfl (fun r1 K2 => cq_unl _ _ _ nn q dl tx sy T N fi m mm f W4 G GS hc4 a b ha hb r1 (K2 _ _ _ _ ?_))
        refine xr_stp rfl rfl rfl rfl ?_
        refine xr_cps rfl rfl rfl (fun r1 K2 => lw_many _ _ _ _ _ (by omega) r1 (K2 _ _ _ _ ?_))
        refine xr_j2 rfl rfl rfl rfl rfl (fun h1172 => ?_) (fun h1172 => ?_)
        · refine xr_loc [(0, .ref 17), (1, .ref 16), (2, .int (Int32.ofNat q)), (3, .ref A), (4, .int (Int32.ofNat tm)), (5, .ref B), (9, .long (Int64.ofNat (aH G 4))), (11, .long (Int64.ofNat (aK G 4))), (17, .int (Int32.ofNat a)), (18, .long (Int64.ofNat (G (330 + 2 * a)))), (20, .long (Int64.ofNat (G (331 + 2 * a)))), (23, .int (Int32.ofNat b))] ⟨rfl, rfl, rfl, rfl, rfl, rfl, rfl, rfl, rfl, rfl, rfl, rfl, trivial⟩ rfl ?_
          exact K W4 _ _ (by omega) (by omega) hs4 ((((hf1.tr hf2).tr hf3)).nn hf4)
        · have z1172 := nf_eq h1172
          exact (by omega)
