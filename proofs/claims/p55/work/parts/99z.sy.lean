/-! asks: sayings, refusals, all of it -/
def pS (i : Nat) : Prop := 355 ≤ i ∧ i < 360 ∧ i ≠ 356
theorem syL (d c s : Nat) (nn q dl tx T N fi m mm A : Nat) (f : Nat → Int32) (G : Nat → Nat) (GS : Nat → Nat → Nat) (r : xi_R → Prop) (htx : tx = 1) : ∀ (m1 k lw : Nat) (TD : Nat → Nat) (W0 : xi_W), k + m1 = 2 → scn nn f q dl tx k T N fi m mm G GS A W0 → W0[357]? = some (lw_i 32 TD) → sa_ok TD k → lw < 2 → (lw = 1 ↔ fi_ok nn f G TD k) → (∀ W' TD' lw', scn nn f q dl tx 2 T N fi m mm G GS A W' → W'[357]? = some (lw_i 32 TD') → lw' < 2 → fr pS W0 W' → xr (d + 9) 204 1699 [(0, .ref 17), (1, .ref 16), (2, .int (Int32.ofNat q)), (3, .ref A), (17, .int (Int32.ofNat lw'))] [] W' c s r) → xr (d + 9) 204 1551 [(0, .ref 17), (1, .ref 16), (2, .int (Int32.ofNat q)), (3, .ref A), (17, .int (Int32.ofNat lw)), (18, .int (Int32.ofNat k))] [] W0 c s r
  | 0, k, lw, TD, W0, hk, hs, hTD, hsa, hl2, hlw, K => by
    obtain rfl : k = 2 := by omega
    refine xr_stp rfl rfl rfl rfl ?_
    refine xr_stp (st' := .int (Int32.ofNat 2) :: _) rfl rfl rfl rfl ?_
    refine xr_j2 rfl rfl rfl rfl rfl (fun h1554 => ?_) (fun h1554 => ?_)
    · refine xr_loc [(0, .ref 17), (1, .ref 16), (2, .int (Int32.ofNat q)), (3, .ref A), (17, .int (Int32.ofNat lw))] ⟨rfl, rfl, rfl, rfl, rfl, trivial⟩ rfl ?_
      exact K W0 TD lw hs hTD hl2 fr.rf
    · have z1554 := nf_ge (by omega) (by omega) h1554
      exact (by omega)
  | m1 + 1, k, lw, TD, W0, hk, hs, hTD, hsa, hl2, hlw, K => by
    obtain ⟨hc, hA, hS, gA, hz, hN, hnn⟩ := id hs
    obtain ⟨F, hw, hr⟩ := hc.w
    have J := hr.j
    have b63 := J.b63
    have gA7 : 17 ≤ A := by omega
    obtain ⟨lf, lp, hO⟩ := hc.o
    have hxb := lw_pkb nn f (65 + k)
    have hsp := lw_sple nn f G 1 ((lw_pk nn f (65 + k)) % 4) (((lw_pk nn f (65 + k)) % 4 + 1 + (lw_pk nn f (65 + k)) / 2 ^ 2 % 3) % 4) ((lw_pk nn f (65 + k)) % 10)
    have key : ∀ tl, tl < 2 → xr (d + 9) 204 1635 [(0, .ref 17), (1, .ref 16), (2, .int (Int32.ofNat q)), (3, .ref A), (17, .int (Int32.ofNat lw)), (18, .int (Int32.ofNat k)), (19, .int (Int32.ofNat (lw_pk nn f (65 + k)))), (20, .int (Int32.ofNat ((lw_pk nn f (65 + k)) % 4))), (21, .int (Int32.ofNat (((lw_pk nn f (65 + k)) % 4 + 1 + (lw_pk nn f (65 + k)) / 2 ^ 2 % 3) % 4))), (22, .int (Int32.ofNat (lw_sp nn f G 1 ((lw_pk nn f (65 + k)) % 4) (((lw_pk nn f (65 + k)) % 4 + 1 + (lw_pk nn f (65 + k)) / 2 ^ 2 % 3) % 4) ((lw_pk nn f (65 + k)) % 10)))), (23, .int (Int32.ofNat tl))] [] W0 c s r := fun tl htl => by
      by_cases heq : (lw_sp nn f G 1 ((lw_pk nn f (65 + k)) % 4) (((lw_pk nn f (65 + k)) % 4 + 1 + (lw_pk nn f (65 + k)) / 2 ^ 2 % 3) % 4) ((lw_pk nn f (65 + k)) % 10)) = tl
      · refine xr_stp rfl rfl rfl rfl ?_
        refine xr_stp rfl rfl rfl rfl ?_
        refine xr_stp rfl rfl rfl rfl ?_
        refine xr_j2 rfl rfl rfl rfl rfl (fun h1641 => ?_) (fun h1641 => ?_)
        · have z1641 := nt_ne h1641
          exact (by omega)
        · refine xr_stp (st' := .int (Int32.ofNat 1) :: _) rfl rfl rfl rfl ?_
          refine xr_stp rfl rfl rfl rfl ?_
          refine xs_and rfl ?_
          refine xr_stp rfl rfl rfl rfl ?_
          refine xr_stp rfl rfl rfl rfl ?_
          refine xr_stp rfl rfl rfl rfl ?_
          refine xr_stp rfl rfl rfl rfl ?_
          refine xr_stp rfl rfl rfl rfl ?_
          refine xr_stp (st' := .int (Int32.ofNat 10) :: _) rfl rfl rfl rfl ?_
          refine xs_mod (by omega) (by omega) (by omega) rfl ?_
          refine xr_stp rfl rfl rfl rfl ?_
          refine xr_vcps hO rfl rfl rfl rfl rfl rfl (fun r1 K2 => cq_sai _ _ _ nn q dl tx k T N fi m mm f W0 G GS hc ((lw_pk nn f (65 + k)) % 4) (((lw_pk nn f (65 + k)) % 4 + 1 + (lw_pk nn f (65 + k)) / 2 ^ 2 % 3) % 4) ((lw_pk nn f (65 + k)) % 10) tl (by omega) (by omega) (by omega) (by omega) htl TD hTD (by omega) r1 (fun W1 hc1 hTD1 hf1 => K2 _ _ _ _ ?_))
          have hs1 : scn nn f q dl tx (k + 1) T N fi m mm G GS A W1 := ⟨hc1, hf1.at hA (fun z => by have z : A = 355 ∨ A = 357 := z; omega), hf1.at hS (fun z => by have z : 16 = 355 ∨ 16 = 357 := z; omega), gA, hz, hN, hnn⟩
          have hsa1 : sa_ok (xn_u (xn_u (xn_u (xn_u TD (k * 4) ((lw_pk nn f (65 + k)) % 4)) (k * 4 + 1) (((lw_pk nn f (65 + k)) % 4 + 1 + (lw_pk nn f (65 + k)) / 2 ^ 2 % 3) % 4)) (k * 4 + 2) ((lw_pk nn f (65 + k)) % 10)) (k * 4 + 3) (tl)) (k + 1) := fun i hi => by
            by_cases e : i = k
            · subst e
              unfold xn_u
              rw [if_neg (by omega), if_neg (by omega), if_neg (by omega), if_pos rfl, if_neg (by omega), if_neg (by omega), if_pos rfl, if_neg (by omega), if_pos rfl, if_pos rfl]
              omega
            · have := hsa i (by omega)
              unfold xn_u
              rw [if_neg (by omega), if_neg (by omega), if_neg (by omega), if_neg (by omega), if_neg (by omega), if_neg (by omega), if_neg (by omega), if_neg (by omega), if_neg (by omega), if_neg (by omega), if_neg (by omega), if_neg (by omega), if_neg (by omega), if_neg (by omega), if_neg (by omega), if_neg (by omega)]
              exact this
          have hok1 : fi_ok nn f G (xn_u (xn_u (xn_u (xn_u TD (k * 4) ((lw_pk nn f (65 + k)) % 4)) (k * 4 + 1) (((lw_pk nn f (65 + k)) % 4 + 1 + (lw_pk nn f (65 + k)) / 2 ^ 2 % 3) % 4)) (k * 4 + 2) ((lw_pk nn f (65 + k)) % 10)) (k * 4 + 3) (tl)) (k + 1) ↔ fi_ok nn f G TD k ∧ (lw_sp nn f G 1 ((lw_pk nn f (65 + k)) % 4) (((lw_pk nn f (65 + k)) % 4 + 1 + (lw_pk nn f (65 + k)) / 2 ^ 2 % 3) % 4) ((lw_pk nn f (65 + k)) % 10)) = tl := by
            constructor
            · intro h
              refine ⟨fun i hi => ?_, ?_⟩
              · have := h i (by omega)
                unfold xn_u at this
                rw [if_neg (by omega), if_neg (by omega), if_neg (by omega), if_neg (by omega), if_neg (by omega), if_neg (by omega), if_neg (by omega), if_neg (by omega), if_neg (by omega), if_neg (by omega), if_neg (by omega), if_neg (by omega), if_neg (by omega), if_neg (by omega), if_neg (by omega), if_neg (by omega)] at this
                exact this
              · have := h k (by omega)
                unfold xn_u at this
                rw [if_neg (by omega), if_neg (by omega), if_neg (by omega), if_pos rfl, if_neg (by omega), if_neg (by omega), if_pos rfl, if_neg (by omega), if_pos rfl, if_pos rfl] at this
                exact this
            · intro h i hi
              by_cases e : i = k
              · subst e
                unfold xn_u
                rw [if_neg (by omega), if_neg (by omega), if_neg (by omega), if_pos rfl, if_neg (by omega), if_neg (by omega), if_pos rfl, if_neg (by omega), if_pos rfl, if_pos rfl]
                exact h.2
              · have := h.1 i (by omega)
                unfold xn_u
                rw [if_neg (by omega), if_neg (by omega), if_neg (by omega), if_neg (by omega), if_neg (by omega), if_neg (by omega), if_neg (by omega), if_neg (by omega), if_neg (by omega), if_neg (by omega), if_neg (by omega), if_neg (by omega), if_neg (by omega), if_neg (by omega), if_neg (by omega), if_neg (by omega)]
                exact this
          clear hA hS hO
          obtain ⟨-, hA, hS, -⟩ := id hs1
          obtain ⟨lf, lp, hO⟩ := hc1.o
          refine xr_stp rfl rfl rfl rfl ?_
          refine xr_stp (st' := .int (Int32.ofNat 1) :: _) rfl rfl rfl rfl ?_
          refine xs_add rfl ?_
          refine xr_j2 rfl rfl rfl rfl rfl (fun h1671 => ?_) (fun h1671 => ?_)
          · have z1671 := nt_ne h1671
            exact (by omega)
          · refine xr_stp rfl rfl rfl rfl ?_
            refine xr_vcps hO rfl rfl rfl rfl rfl rfl (fun r1 K2 => cq_who _ _ _ nn q dl tx (k + 1) T N fi m mm f W1 G GS hc1 htx _ hTD1 hsa1 (by omega) r1 (fun W2 v hc2 hf2 hv1 hv2 => K2 _ _ _ _ ?_))
            have hv3 : v = 1 ↔ fi_ok nn f G (xn_u (xn_u (xn_u (xn_u TD (k * 4) ((lw_pk nn f (65 + k)) % 4)) (k * 4 + 1) (((lw_pk nn f (65 + k)) % 4 + 1 + (lw_pk nn f (65 + k)) / 2 ^ 2 % 3) % 4)) (k * 4 + 2) ((lw_pk nn f (65 + k)) % 10)) (k * 4 + 3) (tl)) (k + 1) := hv2
            rw [hok1, ← hlw] at hv3
            have hTD2 := hf2.at hTD1 (by unfold rin; omega)
            have hs2 : scn nn f q dl tx (k + 1) T N fi m mm G GS A W2 := ⟨hc2, hf2.at hA (by unfold rin; omega), hf2.at hS (by unfold rin; omega), gA, hz, hN, hnn⟩
            have hF : fr pS W0 W2 := (hf1.weak (fun i _ z => by have z : i = 355 ∨ i = 357 := z; unfold pS; omega)).tr (hf2.weak (fun i _ z => by unfold rin at z; unfold pS; omega))
            by_cases hl9 : lw = 1
            · have hv : v = 1 := hv3.mpr ⟨hl9, heq⟩
              have hw9 : lw &&& 1 = 1 := by rw [hl9]; rfl
              refine xr_stp rfl rfl rfl rfl ?_
              refine xr_j1 rfl rfl rfl rfl rfl (fun h1680 => ?_) (fun h1680 => ?_)
              · have z1680 := nt1_eq (by omega) h1680
                exact (by omega)
              · refine xr_stp (st' := .int (Int32.ofNat 1) :: _) rfl rfl rfl rfl ?_
                refine xr_stp rfl rfl rfl rfl ?_
                refine xr_j2 rfl rfl rfl rfl rfl (fun h1688 => ?_) (fun h1688 => ?_)
                · refine xs_inc (e := 1) rfl rfl rfl rfl ?_
                  refine xr_stp rfl rfl rfl rfl ?_
                  rw [hw9]
                  refine xr_loc [(0, .ref 17), (1, .ref 16), (2, .int (Int32.ofNat q)), (3, .ref A), (17, .int (Int32.ofNat 1)), (18, .int (Int32.ofNat ((k + 1))))] ⟨rfl, rfl, rfl, rfl, rfl, rfl, trivial⟩ rfl ?_
                  refine syL d c s nn q dl tx T N fi m mm A f G GS r htx m1 (k + 1) 1 _ W2 (by omega) hs2 hTD2 hsa1 (by omega) ?_ (fun W9 TD9 l9 k1 k2 k3 k4 => K W9 TD9 l9 k1 k2 k3 (hF.tr k4))
                  rw [hok1, ← hlw]
                  exact ⟨fun _ => ⟨hl9, heq⟩, fun _ => rfl⟩
                · have z1688 := nf_eq h1688
                  exact (by omega)
            · have hv : v ≠ 1 := fun z => hl9 (hv3.mp z).1
              have hl0 : lw = 0 := by omega
              have hw9 : lw &&& 1 = 0 := by rw [hl0]; rfl
              refine xr_stp rfl rfl rfl rfl ?_
              refine xr_j1 rfl rfl rfl rfl rfl (fun h1680 => ?_) (fun h1680 => ?_)
              · refine xr_stp (st' := .int (Int32.ofNat 0) :: _) rfl rfl rfl rfl ?_
                refine xr_j2 rfl rfl rfl rfl rfl (fun h1688 => ?_) (fun h1688 => ?_)
                · refine xs_inc (e := 1) rfl rfl rfl rfl ?_
                  refine xr_stp rfl rfl rfl rfl ?_
                  rw [hw9]
                  refine xr_loc [(0, .ref 17), (1, .ref 16), (2, .int (Int32.ofNat q)), (3, .ref A), (17, .int (Int32.ofNat 0)), (18, .int (Int32.ofNat ((k + 1))))] ⟨rfl, rfl, rfl, rfl, rfl, rfl, trivial⟩ rfl ?_
                  refine syL d c s nn q dl tx T N fi m mm A f G GS r htx m1 (k + 1) 0 _ W2 (by omega) hs2 hTD2 hsa1 (by omega) ?_ (fun W9 TD9 l9 k1 k2 k3 k4 => K W9 TD9 l9 k1 k2 k3 (hF.tr k4))
                  rw [hok1, ← hlw]
                  exact ⟨fun z => by omega, fun z => absurd z.1 hl9⟩
                · have z1688 := nf_eq h1688
                  exact (by omega)
              · have z1680 := nf1_eq h1680
                exact (by omega)
      · refine xr_stp rfl rfl rfl rfl ?_
        refine xr_stp rfl rfl rfl rfl ?_
        refine xr_stp rfl rfl rfl rfl ?_
        refine xr_j2 rfl rfl rfl rfl rfl (fun h1641 => ?_) (fun h1641 => ?_)
        · refine xr_stp (st' := .int (Int32.ofNat 0) :: _) rfl rfl rfl rfl ?_
          refine xs_and rfl ?_
          refine xr_stp rfl rfl rfl rfl ?_
          refine xr_stp rfl rfl rfl rfl ?_
          refine xr_stp rfl rfl rfl rfl ?_
          refine xr_stp rfl rfl rfl rfl ?_
          refine xr_stp rfl rfl rfl rfl ?_
          refine xr_stp (st' := .int (Int32.ofNat 10) :: _) rfl rfl rfl rfl ?_
          refine xs_mod (by omega) (by omega) (by omega) rfl ?_
          refine xr_stp rfl rfl rfl rfl ?_
          refine xr_vcps hO rfl rfl rfl rfl rfl rfl (fun r1 K2 => cq_sai _ _ _ nn q dl tx k T N fi m mm f W0 G GS hc ((lw_pk nn f (65 + k)) % 4) (((lw_pk nn f (65 + k)) % 4 + 1 + (lw_pk nn f (65 + k)) / 2 ^ 2 % 3) % 4) ((lw_pk nn f (65 + k)) % 10) tl (by omega) (by omega) (by omega) (by omega) htl TD hTD (by omega) r1 (fun W1 hc1 hTD1 hf1 => K2 _ _ _ _ ?_))
          have hs1 : scn nn f q dl tx (k + 1) T N fi m mm G GS A W1 := ⟨hc1, hf1.at hA (fun z => by have z : A = 355 ∨ A = 357 := z; omega), hf1.at hS (fun z => by have z : 16 = 355 ∨ 16 = 357 := z; omega), gA, hz, hN, hnn⟩
          have hsa1 : sa_ok (xn_u (xn_u (xn_u (xn_u TD (k * 4) ((lw_pk nn f (65 + k)) % 4)) (k * 4 + 1) (((lw_pk nn f (65 + k)) % 4 + 1 + (lw_pk nn f (65 + k)) / 2 ^ 2 % 3) % 4)) (k * 4 + 2) ((lw_pk nn f (65 + k)) % 10)) (k * 4 + 3) (tl)) (k + 1) := fun i hi => by
            by_cases e : i = k
            · subst e
              unfold xn_u
              rw [if_neg (by omega), if_neg (by omega), if_neg (by omega), if_pos rfl, if_neg (by omega), if_neg (by omega), if_pos rfl, if_neg (by omega), if_pos rfl, if_pos rfl]
              omega
            · have := hsa i (by omega)
              unfold xn_u
              rw [if_neg (by omega), if_neg (by omega), if_neg (by omega), if_neg (by omega), if_neg (by omega), if_neg (by omega), if_neg (by omega), if_neg (by omega), if_neg (by omega), if_neg (by omega), if_neg (by omega), if_neg (by omega), if_neg (by omega), if_neg (by omega), if_neg (by omega), if_neg (by omega)]
              exact this
          have hok1 : fi_ok nn f G (xn_u (xn_u (xn_u (xn_u TD (k * 4) ((lw_pk nn f (65 + k)) % 4)) (k * 4 + 1) (((lw_pk nn f (65 + k)) % 4 + 1 + (lw_pk nn f (65 + k)) / 2 ^ 2 % 3) % 4)) (k * 4 + 2) ((lw_pk nn f (65 + k)) % 10)) (k * 4 + 3) (tl)) (k + 1) ↔ fi_ok nn f G TD k ∧ (lw_sp nn f G 1 ((lw_pk nn f (65 + k)) % 4) (((lw_pk nn f (65 + k)) % 4 + 1 + (lw_pk nn f (65 + k)) / 2 ^ 2 % 3) % 4) ((lw_pk nn f (65 + k)) % 10)) = tl := by
            constructor
            · intro h
              refine ⟨fun i hi => ?_, ?_⟩
              · have := h i (by omega)
                unfold xn_u at this
                rw [if_neg (by omega), if_neg (by omega), if_neg (by omega), if_neg (by omega), if_neg (by omega), if_neg (by omega), if_neg (by omega), if_neg (by omega), if_neg (by omega), if_neg (by omega), if_neg (by omega), if_neg (by omega), if_neg (by omega), if_neg (by omega), if_neg (by omega), if_neg (by omega)] at this
                exact this
              · have := h k (by omega)
                unfold xn_u at this
                rw [if_neg (by omega), if_neg (by omega), if_neg (by omega), if_pos rfl, if_neg (by omega), if_neg (by omega), if_pos rfl, if_neg (by omega), if_pos rfl, if_pos rfl] at this
                exact this
            · intro h i hi
              by_cases e : i = k
              · subst e
                unfold xn_u
                rw [if_neg (by omega), if_neg (by omega), if_neg (by omega), if_pos rfl, if_neg (by omega), if_neg (by omega), if_pos rfl, if_neg (by omega), if_pos rfl, if_pos rfl]
                exact h.2
              · have := h.1 i (by omega)
                unfold xn_u
                rw [if_neg (by omega), if_neg (by omega), if_neg (by omega), if_neg (by omega), if_neg (by omega), if_neg (by omega), if_neg (by omega), if_neg (by omega), if_neg (by omega), if_neg (by omega), if_neg (by omega), if_neg (by omega), if_neg (by omega), if_neg (by omega), if_neg (by omega), if_neg (by omega)]
                exact this
          clear hA hS hO
          obtain ⟨-, hA, hS, -⟩ := id hs1
          obtain ⟨lf, lp, hO⟩ := hc1.o
          refine xr_stp rfl rfl rfl rfl ?_
          refine xr_stp (st' := .int (Int32.ofNat 1) :: _) rfl rfl rfl rfl ?_
          refine xs_add rfl ?_
          refine xr_j2 rfl rfl rfl rfl rfl (fun h1671 => ?_) (fun h1671 => ?_)
          · have z1671 := nt_ne h1671
            exact (by omega)
          · refine xr_stp rfl rfl rfl rfl ?_
            refine xr_vcps hO rfl rfl rfl rfl rfl rfl (fun r1 K2 => cq_who _ _ _ nn q dl tx (k + 1) T N fi m mm f W1 G GS hc1 htx _ hTD1 hsa1 (by omega) r1 (fun W2 v hc2 hf2 hv1 hv2 => K2 _ _ _ _ ?_))
            have hv3 : v = 1 ↔ fi_ok nn f G (xn_u (xn_u (xn_u (xn_u TD (k * 4) ((lw_pk nn f (65 + k)) % 4)) (k * 4 + 1) (((lw_pk nn f (65 + k)) % 4 + 1 + (lw_pk nn f (65 + k)) / 2 ^ 2 % 3) % 4)) (k * 4 + 2) ((lw_pk nn f (65 + k)) % 10)) (k * 4 + 3) (tl)) (k + 1) := hv2
            rw [hok1, ← hlw] at hv3
            have hTD2 := hf2.at hTD1 (by unfold rin; omega)
            have hs2 : scn nn f q dl tx (k + 1) T N fi m mm G GS A W2 := ⟨hc2, hf2.at hA (by unfold rin; omega), hf2.at hS (by unfold rin; omega), gA, hz, hN, hnn⟩
            have hF : fr pS W0 W2 := (hf1.weak (fun i _ z => by have z : i = 355 ∨ i = 357 := z; unfold pS; omega)).tr (hf2.weak (fun i _ z => by unfold rin at z; unfold pS; omega))
            have hv : v ≠ 1 := fun z => heq (hv3.mp z).2
            have hw9 : lw &&& 0 = 0 := Nat.and_zero _
            refine xr_stp rfl rfl rfl rfl ?_
            refine xr_j1 rfl rfl rfl rfl rfl (fun h1680 => ?_) (fun h1680 => ?_)
            · refine xr_stp (st' := .int (Int32.ofNat 0) :: _) rfl rfl rfl rfl ?_
              refine xr_j2 rfl rfl rfl rfl rfl (fun h1688 => ?_) (fun h1688 => ?_)
              · refine xs_inc (e := 1) rfl rfl rfl rfl ?_
                refine xr_stp rfl rfl rfl rfl ?_
                rw [hw9]
                refine xr_loc [(0, .ref 17), (1, .ref 16), (2, .int (Int32.ofNat q)), (3, .ref A), (17, .int (Int32.ofNat 0)), (18, .int (Int32.ofNat ((k + 1))))] ⟨rfl, rfl, rfl, rfl, rfl, rfl, trivial⟩ rfl ?_
                refine syL d c s nn q dl tx T N fi m mm A f G GS r htx m1 (k + 1) 0 _ W2 (by omega) hs2 hTD2 hsa1 (by omega) ?_ (fun W9 TD9 l9 k1 k2 k3 k4 => K W9 TD9 l9 k1 k2 k3 (hF.tr k4))
                rw [hok1, ← hlw]
                exact ⟨fun z => by omega, fun z => absurd z.2 heq⟩
              · have z1688 := nf_eq h1688
                exact (by omega)
            · have z1680 := nf1_eq h1680
              exact (by omega)
        · have z1641 := nf_ne (by omega) (by omega) h1641
          exact (by omega)
    by_cases h5 : (lw_pk nn f (65 + k)) % 5 = 4
    · have key := key ((lw_pk nn f (65 + k)) / 5 % 2) (by omega)
      by_cases hone : (lw_sp nn f G 1 ((lw_pk nn f (65 + k)) % 4) (((lw_pk nn f (65 + k)) % 4 + 1 + (lw_pk nn f (65 + k)) / 2 ^ 2 % 3) % 4) ((lw_pk nn f (65 + k)) % 10)) = 1
      · have htold : ((lw_pk nn f (65 + k)) / 5 % 2) = ((lw_pk nn f (65 + k)) / 5 % 2) := rfl
        refine xr_stp rfl rfl rfl rfl ?_
        refine xr_stp (st' := .int (Int32.ofNat 2) :: _) rfl rfl rfl rfl ?_
        refine xr_j2 rfl rfl rfl rfl rfl (fun h1554 => ?_) (fun h1554 => ?_)
        · have z1554 := nt_ge (by omega) (by omega) h1554
          exact (by omega)
        · refine xr_stp rfl rfl rfl rfl ?_
          refine xr_stp (st' := .int (Int32.ofNat 65) :: _) rfl rfl rfl rfl ?_
          refine xr_stp rfl rfl rfl rfl ?_
          refine xs_add rfl ?_
          refine xr_cps rfl rfl rfl (fun r1 K2 => lw_pick _ _ _ 16 nn W0 f hS hnn (65 + k) (by omega) r1 (K2 _ _ _ _ ?_))
          refine xr_stp rfl rfl rfl rfl ?_
          refine xr_stp rfl rfl rfl rfl ?_
          refine xr_stp (st' := .int (Int32.ofNat 4) :: _) rfl rfl rfl rfl ?_
          refine xs_mod (by omega) (by omega) (by omega) rfl ?_
          refine xr_stp rfl rfl rfl rfl ?_
          refine xr_stp rfl rfl rfl rfl ?_
          refine xr_stp (st' := .int (Int32.ofNat 1) :: _) rfl rfl rfl rfl ?_
          refine xs_add rfl ?_
          refine xr_stp rfl rfl rfl rfl ?_
          refine xr_stp (st' := .int (Int32.ofNat 2) :: _) rfl rfl rfl rfl ?_
          refine xs_shr (by omega) (by omega) rfl ?_
          refine xr_stp (st' := .int (Int32.ofNat 3) :: _) rfl rfl rfl rfl ?_
          refine xs_mod (by omega) (by omega) (by omega) rfl ?_
          refine xs_add rfl ?_
          refine xr_stp (st' := .int (Int32.ofNat 4) :: _) rfl rfl rfl rfl ?_
          refine xs_mod (by omega) (by omega) (by omega) rfl ?_
          refine xr_stp rfl rfl rfl rfl ?_
          refine xr_stp rfl rfl rfl rfl ?_
          refine xr_stp rfl rfl rfl rfl ?_
          refine xr_stp (st' := .int (Int32.ofNat 1) :: _) rfl rfl rfl rfl ?_
          refine xr_stp rfl rfl rfl rfl ?_
          refine xr_stp rfl rfl rfl rfl ?_
          refine xr_stp rfl rfl rfl rfl ?_
          refine xr_stp (st' := .int (Int32.ofNat 10) :: _) rfl rfl rfl rfl ?_
          refine xs_mod (by omega) (by omega) (by omega) rfl ?_
          refine xr_cps rfl rfl rfl (fun r1 K2 => lw_speaks _ _ _ 16 nn A W0 f hS hnn G hA gA7 (b63 _) 1 ((lw_pk nn f (65 + k)) % 4) (((lw_pk nn f (65 + k)) % 4 + 1 + (lw_pk nn f (65 + k)) / 2 ^ 2 % 3) % 4) ((lw_pk nn f (65 + k)) % 10) (by omega) (by omega) (by omega) (by omega) r1 (K2 _ _ _ _ ?_))
          refine xr_j1 rfl rfl rfl rfl rfl (fun h1604 => ?_) (fun h1604 => ?_)
          · have z1604 := nt1_eq (by omega) h1604
            exact (by omega)
          · refine xr_stp (st' := .int (Int32.ofNat 1) :: _) rfl rfl rfl rfl ?_
            refine xr_stp rfl rfl rfl rfl ?_
            refine xr_stp rfl rfl rfl rfl ?_
            refine xr_stp rfl rfl rfl rfl ?_
            refine xr_stp (st' := .int (Int32.ofNat 5) :: _) rfl rfl rfl rfl ?_
            refine xs_mod (by omega) (by omega) (by omega) rfl ?_
            refine xr_stp (st' := .int (Int32.ofNat 4) :: _) rfl rfl rfl rfl ?_
            refine xr_j2 rfl rfl rfl rfl rfl (fun h1619 => ?_) (fun h1619 => ?_)
            · have z1619 := nt_ne h1619
              exact (by omega)
            · refine xr_stp rfl rfl rfl rfl ?_
              refine xr_stp (st' := .int (Int32.ofNat 5) :: _) rfl rfl rfl rfl ?_
              refine xs_div (by omega) (by omega) (by omega) rfl ?_
              refine xr_stp (st' := .int (Int32.ofNat 2) :: _) rfl rfl rfl rfl ?_
              refine xs_mod (by omega) (by omega) (by omega) rfl ?_
              refine xr_stp rfl rfl rfl rfl ?_
              refine xr_stp rfl rfl rfl rfl ?_
              refine xr_loc [(0, .ref 17), (1, .ref 16), (2, .int (Int32.ofNat q)), (3, .ref A), (17, .int (Int32.ofNat lw)), (18, .int (Int32.ofNat k)), (19, .int (Int32.ofNat (lw_pk nn f (65 + k)))), (20, .int (Int32.ofNat ((lw_pk nn f (65 + k)) % 4))), (21, .int (Int32.ofNat (((lw_pk nn f (65 + k)) % 4 + 1 + (lw_pk nn f (65 + k)) / 2 ^ 2 % 3) % 4))), (22, .int (Int32.ofNat (lw_sp nn f G 1 ((lw_pk nn f (65 + k)) % 4) (((lw_pk nn f (65 + k)) % 4 + 1 + (lw_pk nn f (65 + k)) / 2 ^ 2 % 3) % 4) ((lw_pk nn f (65 + k)) % 10)))), (23, .int (Int32.ofNat ((lw_pk nn f (65 + k)) / 5 % 2)))] ⟨rfl, rfl, rfl, rfl, rfl, rfl, rfl, rfl, rfl, (by rw [hone]; rfl), rfl, trivial⟩ rfl ?_
              exact key
      · have hone : (lw_sp nn f G 1 ((lw_pk nn f (65 + k)) % 4) (((lw_pk nn f (65 + k)) % 4 + 1 + (lw_pk nn f (65 + k)) / 2 ^ 2 % 3) % 4) ((lw_pk nn f (65 + k)) % 10)) = 0 := by omega
        have htold : ((lw_pk nn f (65 + k)) / 5 % 2) = ((lw_pk nn f (65 + k)) / 5 % 2) := rfl
        refine xr_stp rfl rfl rfl rfl ?_
        refine xr_stp (st' := .int (Int32.ofNat 2) :: _) rfl rfl rfl rfl ?_
        refine xr_j2 rfl rfl rfl rfl rfl (fun h1554 => ?_) (fun h1554 => ?_)
        · have z1554 := nt_ge (by omega) (by omega) h1554
          exact (by omega)
        · refine xr_stp rfl rfl rfl rfl ?_
          refine xr_stp (st' := .int (Int32.ofNat 65) :: _) rfl rfl rfl rfl ?_
          refine xr_stp rfl rfl rfl rfl ?_
          refine xs_add rfl ?_
          refine xr_cps rfl rfl rfl (fun r1 K2 => lw_pick _ _ _ 16 nn W0 f hS hnn (65 + k) (by omega) r1 (K2 _ _ _ _ ?_))
          refine xr_stp rfl rfl rfl rfl ?_
          refine xr_stp rfl rfl rfl rfl ?_
          refine xr_stp (st' := .int (Int32.ofNat 4) :: _) rfl rfl rfl rfl ?_
          refine xs_mod (by omega) (by omega) (by omega) rfl ?_
          refine xr_stp rfl rfl rfl rfl ?_
          refine xr_stp rfl rfl rfl rfl ?_
          refine xr_stp (st' := .int (Int32.ofNat 1) :: _) rfl rfl rfl rfl ?_
          refine xs_add rfl ?_
          refine xr_stp rfl rfl rfl rfl ?_
          refine xr_stp (st' := .int (Int32.ofNat 2) :: _) rfl rfl rfl rfl ?_
          refine xs_shr (by omega) (by omega) rfl ?_
          refine xr_stp (st' := .int (Int32.ofNat 3) :: _) rfl rfl rfl rfl ?_
          refine xs_mod (by omega) (by omega) (by omega) rfl ?_
          refine xs_add rfl ?_
          refine xr_stp (st' := .int (Int32.ofNat 4) :: _) rfl rfl rfl rfl ?_
          refine xs_mod (by omega) (by omega) (by omega) rfl ?_
          refine xr_stp rfl rfl rfl rfl ?_
          refine xr_stp rfl rfl rfl rfl ?_
          refine xr_stp rfl rfl rfl rfl ?_
          refine xr_stp (st' := .int (Int32.ofNat 1) :: _) rfl rfl rfl rfl ?_
          refine xr_stp rfl rfl rfl rfl ?_
          refine xr_stp rfl rfl rfl rfl ?_
          refine xr_stp rfl rfl rfl rfl ?_
          refine xr_stp (st' := .int (Int32.ofNat 10) :: _) rfl rfl rfl rfl ?_
          refine xs_mod (by omega) (by omega) (by omega) rfl ?_
          refine xr_cps rfl rfl rfl (fun r1 K2 => lw_speaks _ _ _ 16 nn A W0 f hS hnn G hA gA7 (b63 _) 1 ((lw_pk nn f (65 + k)) % 4) (((lw_pk nn f (65 + k)) % 4 + 1 + (lw_pk nn f (65 + k)) / 2 ^ 2 % 3) % 4) ((lw_pk nn f (65 + k)) % 10) (by omega) (by omega) (by omega) (by omega) r1 (K2 _ _ _ _ ?_))
          refine xr_j1 rfl rfl rfl rfl rfl (fun h1604 => ?_) (fun h1604 => ?_)
          · refine xr_stp (st' := .int (Int32.ofNat 0) :: _) rfl rfl rfl rfl ?_
            refine xr_stp rfl rfl rfl rfl ?_
            refine xr_stp rfl rfl rfl rfl ?_
            refine xr_stp (st' := .int (Int32.ofNat 5) :: _) rfl rfl rfl rfl ?_
            refine xs_mod (by omega) (by omega) (by omega) rfl ?_
            refine xr_stp (st' := .int (Int32.ofNat 4) :: _) rfl rfl rfl rfl ?_
            refine xr_j2 rfl rfl rfl rfl rfl (fun h1619 => ?_) (fun h1619 => ?_)
            · have z1619 := nt_ne h1619
              exact (by omega)
            · refine xr_stp rfl rfl rfl rfl ?_
              refine xr_stp (st' := .int (Int32.ofNat 5) :: _) rfl rfl rfl rfl ?_
              refine xs_div (by omega) (by omega) (by omega) rfl ?_
              refine xr_stp (st' := .int (Int32.ofNat 2) :: _) rfl rfl rfl rfl ?_
              refine xs_mod (by omega) (by omega) (by omega) rfl ?_
              refine xr_stp rfl rfl rfl rfl ?_
              refine xr_stp rfl rfl rfl rfl ?_
              refine xr_loc [(0, .ref 17), (1, .ref 16), (2, .int (Int32.ofNat q)), (3, .ref A), (17, .int (Int32.ofNat lw)), (18, .int (Int32.ofNat k)), (19, .int (Int32.ofNat (lw_pk nn f (65 + k)))), (20, .int (Int32.ofNat ((lw_pk nn f (65 + k)) % 4))), (21, .int (Int32.ofNat (((lw_pk nn f (65 + k)) % 4 + 1 + (lw_pk nn f (65 + k)) / 2 ^ 2 % 3) % 4))), (22, .int (Int32.ofNat (lw_sp nn f G 1 ((lw_pk nn f (65 + k)) % 4) (((lw_pk nn f (65 + k)) % 4 + 1 + (lw_pk nn f (65 + k)) / 2 ^ 2 % 3) % 4) ((lw_pk nn f (65 + k)) % 10)))), (23, .int (Int32.ofNat ((lw_pk nn f (65 + k)) / 5 % 2)))] ⟨rfl, rfl, rfl, rfl, rfl, rfl, rfl, rfl, rfl, (by rw [hone]; rfl), rfl, trivial⟩ rfl ?_
              exact key
          · have z1604 := nf1_eq h1604
            exact (by omega)
    · have key := key (lw_sp nn f G 1 ((lw_pk nn f (65 + k)) % 4) (((lw_pk nn f (65 + k)) % 4 + 1 + (lw_pk nn f (65 + k)) / 2 ^ 2 % 3) % 4) ((lw_pk nn f (65 + k)) % 10)) (by omega)
      by_cases hone : (lw_sp nn f G 1 ((lw_pk nn f (65 + k)) % 4) (((lw_pk nn f (65 + k)) % 4 + 1 + (lw_pk nn f (65 + k)) / 2 ^ 2 % 3) % 4) ((lw_pk nn f (65 + k)) % 10)) = 1
      · have htold := hone
        refine xr_stp rfl rfl rfl rfl ?_
        refine xr_stp (st' := .int (Int32.ofNat 2) :: _) rfl rfl rfl rfl ?_
        refine xr_j2 rfl rfl rfl rfl rfl (fun h1554 => ?_) (fun h1554 => ?_)
        · have z1554 := nt_ge (by omega) (by omega) h1554
          exact (by omega)
        · refine xr_stp rfl rfl rfl rfl ?_
          refine xr_stp (st' := .int (Int32.ofNat 65) :: _) rfl rfl rfl rfl ?_
          refine xr_stp rfl rfl rfl rfl ?_
          refine xs_add rfl ?_
          refine xr_cps rfl rfl rfl (fun r1 K2 => lw_pick _ _ _ 16 nn W0 f hS hnn (65 + k) (by omega) r1 (K2 _ _ _ _ ?_))
          refine xr_stp rfl rfl rfl rfl ?_
          refine xr_stp rfl rfl rfl rfl ?_
          refine xr_stp (st' := .int (Int32.ofNat 4) :: _) rfl rfl rfl rfl ?_
          refine xs_mod (by omega) (by omega) (by omega) rfl ?_
          refine xr_stp rfl rfl rfl rfl ?_
          refine xr_stp rfl rfl rfl rfl ?_
          refine xr_stp (st' := .int (Int32.ofNat 1) :: _) rfl rfl rfl rfl ?_
          refine xs_add rfl ?_
          refine xr_stp rfl rfl rfl rfl ?_
          refine xr_stp (st' := .int (Int32.ofNat 2) :: _) rfl rfl rfl rfl ?_
          refine xs_shr (by omega) (by omega) rfl ?_
          refine xr_stp (st' := .int (Int32.ofNat 3) :: _) rfl rfl rfl rfl ?_
          refine xs_mod (by omega) (by omega) (by omega) rfl ?_
          refine xs_add rfl ?_
          refine xr_stp (st' := .int (Int32.ofNat 4) :: _) rfl rfl rfl rfl ?_
          refine xs_mod (by omega) (by omega) (by omega) rfl ?_
          refine xr_stp rfl rfl rfl rfl ?_
          refine xr_stp rfl rfl rfl rfl ?_
          refine xr_stp rfl rfl rfl rfl ?_
          refine xr_stp (st' := .int (Int32.ofNat 1) :: _) rfl rfl rfl rfl ?_
          refine xr_stp rfl rfl rfl rfl ?_
          refine xr_stp rfl rfl rfl rfl ?_
          refine xr_stp rfl rfl rfl rfl ?_
          refine xr_stp (st' := .int (Int32.ofNat 10) :: _) rfl rfl rfl rfl ?_
          refine xs_mod (by omega) (by omega) (by omega) rfl ?_
          refine xr_cps rfl rfl rfl (fun r1 K2 => lw_speaks _ _ _ 16 nn A W0 f hS hnn G hA gA7 (b63 _) 1 ((lw_pk nn f (65 + k)) % 4) (((lw_pk nn f (65 + k)) % 4 + 1 + (lw_pk nn f (65 + k)) / 2 ^ 2 % 3) % 4) ((lw_pk nn f (65 + k)) % 10) (by omega) (by omega) (by omega) (by omega) r1 (K2 _ _ _ _ ?_))
          refine xr_j1 rfl rfl rfl rfl rfl (fun h1604 => ?_) (fun h1604 => ?_)
          · have z1604 := nt1_eq (by omega) h1604
            exact (by omega)
          · refine xr_stp (st' := .int (Int32.ofNat 1) :: _) rfl rfl rfl rfl ?_
            refine xr_stp rfl rfl rfl rfl ?_
            refine xr_stp rfl rfl rfl rfl ?_
            refine xr_stp rfl rfl rfl rfl ?_
            refine xr_stp (st' := .int (Int32.ofNat 5) :: _) rfl rfl rfl rfl ?_
            refine xs_mod (by omega) (by omega) (by omega) rfl ?_
            refine xr_stp (st' := .int (Int32.ofNat 4) :: _) rfl rfl rfl rfl ?_
            refine xr_j2 rfl rfl rfl rfl rfl (fun h1619 => ?_) (fun h1619 => ?_)
            · refine xr_stp rfl rfl rfl rfl ?_
              refine xr_stp rfl rfl rfl rfl ?_
              refine xr_loc [(0, .ref 17), (1, .ref 16), (2, .int (Int32.ofNat q)), (3, .ref A), (17, .int (Int32.ofNat lw)), (18, .int (Int32.ofNat k)), (19, .int (Int32.ofNat (lw_pk nn f (65 + k)))), (20, .int (Int32.ofNat ((lw_pk nn f (65 + k)) % 4))), (21, .int (Int32.ofNat (((lw_pk nn f (65 + k)) % 4 + 1 + (lw_pk nn f (65 + k)) / 2 ^ 2 % 3) % 4))), (22, .int (Int32.ofNat (lw_sp nn f G 1 ((lw_pk nn f (65 + k)) % 4) (((lw_pk nn f (65 + k)) % 4 + 1 + (lw_pk nn f (65 + k)) / 2 ^ 2 % 3) % 4) ((lw_pk nn f (65 + k)) % 10)))), (23, .int (Int32.ofNat (lw_sp nn f G 1 ((lw_pk nn f (65 + k)) % 4) (((lw_pk nn f (65 + k)) % 4 + 1 + (lw_pk nn f (65 + k)) / 2 ^ 2 % 3) % 4) ((lw_pk nn f (65 + k)) % 10))))] ⟨rfl, rfl, rfl, rfl, rfl, rfl, rfl, rfl, rfl, (by rw [hone]; rfl), (by rw [htold]; rfl), trivial⟩ rfl ?_
              exact key
            · have z1619 := nf_ne (by omega) (by omega) h1619
              exact (by omega)
      · have hone : (lw_sp nn f G 1 ((lw_pk nn f (65 + k)) % 4) (((lw_pk nn f (65 + k)) % 4 + 1 + (lw_pk nn f (65 + k)) / 2 ^ 2 % 3) % 4) ((lw_pk nn f (65 + k)) % 10)) = 0 := by omega
        have htold := hone
        refine xr_stp rfl rfl rfl rfl ?_
        refine xr_stp (st' := .int (Int32.ofNat 2) :: _) rfl rfl rfl rfl ?_
        refine xr_j2 rfl rfl rfl rfl rfl (fun h1554 => ?_) (fun h1554 => ?_)
        · have z1554 := nt_ge (by omega) (by omega) h1554
          exact (by omega)
        · refine xr_stp rfl rfl rfl rfl ?_
          refine xr_stp (st' := .int (Int32.ofNat 65) :: _) rfl rfl rfl rfl ?_
          refine xr_stp rfl rfl rfl rfl ?_
          refine xs_add rfl ?_
          refine xr_cps rfl rfl rfl (fun r1 K2 => lw_pick _ _ _ 16 nn W0 f hS hnn (65 + k) (by omega) r1 (K2 _ _ _ _ ?_))
          refine xr_stp rfl rfl rfl rfl ?_
          refine xr_stp rfl rfl rfl rfl ?_
          refine xr_stp (st' := .int (Int32.ofNat 4) :: _) rfl rfl rfl rfl ?_
          refine xs_mod (by omega) (by omega) (by omega) rfl ?_
          refine xr_stp rfl rfl rfl rfl ?_
          refine xr_stp rfl rfl rfl rfl ?_
          refine xr_stp (st' := .int (Int32.ofNat 1) :: _) rfl rfl rfl rfl ?_
          refine xs_add rfl ?_
          refine xr_stp rfl rfl rfl rfl ?_
          refine xr_stp (st' := .int (Int32.ofNat 2) :: _) rfl rfl rfl rfl ?_
          refine xs_shr (by omega) (by omega) rfl ?_
          refine xr_stp (st' := .int (Int32.ofNat 3) :: _) rfl rfl rfl rfl ?_
          refine xs_mod (by omega) (by omega) (by omega) rfl ?_
          refine xs_add rfl ?_
          refine xr_stp (st' := .int (Int32.ofNat 4) :: _) rfl rfl rfl rfl ?_
          refine xs_mod (by omega) (by omega) (by omega) rfl ?_
          refine xr_stp rfl rfl rfl rfl ?_
          refine xr_stp rfl rfl rfl rfl ?_
          refine xr_stp rfl rfl rfl rfl ?_
          refine xr_stp (st' := .int (Int32.ofNat 1) :: _) rfl rfl rfl rfl ?_
          refine xr_stp rfl rfl rfl rfl ?_
          refine xr_stp rfl rfl rfl rfl ?_
          refine xr_stp rfl rfl rfl rfl ?_
          refine xr_stp (st' := .int (Int32.ofNat 10) :: _) rfl rfl rfl rfl ?_
          refine xs_mod (by omega) (by omega) (by omega) rfl ?_
          refine xr_cps rfl rfl rfl (fun r1 K2 => lw_speaks _ _ _ 16 nn A W0 f hS hnn G hA gA7 (b63 _) 1 ((lw_pk nn f (65 + k)) % 4) (((lw_pk nn f (65 + k)) % 4 + 1 + (lw_pk nn f (65 + k)) / 2 ^ 2 % 3) % 4) ((lw_pk nn f (65 + k)) % 10) (by omega) (by omega) (by omega) (by omega) r1 (K2 _ _ _ _ ?_))
          refine xr_j1 rfl rfl rfl rfl rfl (fun h1604 => ?_) (fun h1604 => ?_)
          · refine xr_stp (st' := .int (Int32.ofNat 0) :: _) rfl rfl rfl rfl ?_
            refine xr_stp rfl rfl rfl rfl ?_
            refine xr_stp rfl rfl rfl rfl ?_
            refine xr_stp (st' := .int (Int32.ofNat 5) :: _) rfl rfl rfl rfl ?_
            refine xs_mod (by omega) (by omega) (by omega) rfl ?_
            refine xr_stp (st' := .int (Int32.ofNat 4) :: _) rfl rfl rfl rfl ?_
            refine xr_j2 rfl rfl rfl rfl rfl (fun h1619 => ?_) (fun h1619 => ?_)
            · refine xr_stp rfl rfl rfl rfl ?_
              refine xr_stp rfl rfl rfl rfl ?_
              refine xr_loc [(0, .ref 17), (1, .ref 16), (2, .int (Int32.ofNat q)), (3, .ref A), (17, .int (Int32.ofNat lw)), (18, .int (Int32.ofNat k)), (19, .int (Int32.ofNat (lw_pk nn f (65 + k)))), (20, .int (Int32.ofNat ((lw_pk nn f (65 + k)) % 4))), (21, .int (Int32.ofNat (((lw_pk nn f (65 + k)) % 4 + 1 + (lw_pk nn f (65 + k)) / 2 ^ 2 % 3) % 4))), (22, .int (Int32.ofNat (lw_sp nn f G 1 ((lw_pk nn f (65 + k)) % 4) (((lw_pk nn f (65 + k)) % 4 + 1 + (lw_pk nn f (65 + k)) / 2 ^ 2 % 3) % 4) ((lw_pk nn f (65 + k)) % 10)))), (23, .int (Int32.ofNat (lw_sp nn f G 1 ((lw_pk nn f (65 + k)) % 4) (((lw_pk nn f (65 + k)) % 4 + 1 + (lw_pk nn f (65 + k)) / 2 ^ 2 % 3) % 4) ((lw_pk nn f (65 + k)) % 10))))] ⟨rfl, rfl, rfl, rfl, rfl, rfl, rfl, rfl, rfl, (by rw [hone]; rfl), (by rw [htold]; rfl), trivial⟩ rfl ?_
              exact key
            · have z1619 := nf_ne (by omega) (by omega) h1619
              exact (by omega)
          · have z1604 := nf1_eq h1604
            exact (by omega)
