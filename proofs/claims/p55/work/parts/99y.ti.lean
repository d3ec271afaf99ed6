/-! asks: ticks ahead, till -/
theorem lw_mcl (nn : Nat) (f : Nat → Int32) (q : Nat) : ∀ (m : Nat) (G : Nat → Nat), lw_mc nn f q m G ≤ m
  | 0, _ => Nat.le_refl _
  | m + 1, G => by
    unfold lw_mc
    have := lw_mcl nn f q m (lw_mk nn f q G (lw_ft G))
    split <;> omega
theorem utL (d tm : Nat) (nn q dl tx sy T N fi m mm A : Nat) (f : Nat → Int32) (G : Nat → Nat) (GS : Nat → Nat → Nat) (r : xi_R → Prop) (R : Nat) (gR : 696 ≤ R) (nRA : R ≠ A) (hnn : nn < 2147483648) : ∀ (m1 k N2 : Nat) (G2 : Nat → Nat) (W0 : xi_W) (c s : Nat), k + m1 = tm → tm ≤ 12 → scn nn f q dl tx sy T N fi m mm G GS A W0 → W0[R]? = some (lw_a 1804 G2) → lw_J N2 G2 → N2 + 65 * m1 + 100 < 1000000 → (∀ W' c' s', c' ≤ c + 80 * m1 → s' ≤ s + 544 * m1 → scn nn f q dl tx sy T N fi m mm G GS A W' → W'[R]? = some (lw_a 1804 (tk_ nn f q m1 G2)) → fr (fun i => i = R) W0 W' → xr (d + 9) 204 50 [(0, .ref 17), (1, .ref 16), (2, .int (Int32.ofNat q)), (3, .ref A), (4, .int (Int32.ofNat tm)), (5, .ref R)] [] W' c' s' r) → xr (d + 9) 204 25 [(0, .ref 17), (1, .ref 16), (2, .int (Int32.ofNat q)), (3, .ref A), (4, .int (Int32.ofNat tm)), (5, .ref R), (6, .int (Int32.ofNat k))] [] W0 c s r
  | 0, k, N2, G2, W0, c, s, hk, htm, hs, hT, hJ, hN2, K => by
    obtain rfl : tm = k := by omega
    refine xr_stp rfl rfl rfl rfl ?_
    refine xr_stp rfl rfl rfl rfl ?_
    refine xr_j2 rfl rfl rfl rfl rfl (fun h29 => ?_) (fun h29 => ?_)
    · refine xr_loc [(0, .ref 17), (1, .ref 16), (2, .int (Int32.ofNat q)), (3, .ref A), (4, .int (Int32.ofNat tm)), (5, .ref R)] ⟨rfl, rfl, rfl, rfl, rfl, rfl, trivial⟩ rfl ?_
      exact K W0 c s (by omega) (by omega) hs hT fr.rf
    · have z29 := nf_ge (by omega) (by omega) h29
      exact (by omega)
  | m1 + 1, k, N2, G2, W0, c, s, hk, htm, hs, hT, hJ, hN2, K => by
    have hmc := lw_mcl nn f q 24 (lw_t0 G2)
    have hnn0 := hnn
    obtain ⟨hc, hA, hS, gA, hz, hN, hnn⟩ := id hs
    refine xr_stp rfl rfl rfl rfl ?_
    refine xr_stp rfl rfl rfl rfl ?_
    refine xr_j2 rfl rfl rfl rfl rfl (fun h29 => ?_) (fun h29 => ?_)
    · have z29 := nt_ge (by omega) (by omega) h29
      exact (by omega)
    · refine xr_stp rfl rfl rfl rfl ?_
      refine xr_stp rfl rfl rfl rfl ?_
      refine xr_stp rfl rfl rfl rfl ?_
      refine xr_cps rfl rfl rfl (fun r1 K2 => lw_tick _ R 16 nn f (by omega) hnn (by omega) q hc.q r1 24 N2 _ _ G2 W0 hJ (by omega) (lw_me24 hJ nn f q (by omega)) hT hS (fun W1 c1 s1 kc1 ks1 hT1 hf1 => K2 _ _ _ _ ?_))
      have hs1 := hs.oth hf1 (fun i z => by have z : i = R := z; omega)
      refine xr_j1 rfl rfl rfl rfl rfl (fun h39 => ?_) (fun h39 => ?_)
      · refine xs_inc (e := 1) rfl rfl rfl rfl ?_
        refine xr_stp rfl rfl rfl rfl ?_
        refine xr_loc [(0, .ref 17), (1, .ref 16), (2, .int (Int32.ofNat q)), (3, .ref A), (4, .int (Int32.ofNat tm)), (5, .ref R), (6, .int (Int32.ofNat (k + 1)))] ⟨rfl, rfl, rfl, rfl, rfl, rfl, rfl, trivial⟩ rfl ?_
        refine utL d tm nn q dl tx sy T N fi m mm A f G GS r R gR nRA hnn0 m1 (k + 1) (N2 + 2 * 24 + 17) (lw_ti nn f q 24 G2) W1 _ _ (by omega) (by omega) hs1 hT1 (hJ.ti nn f q 24 (by omega)) (by omega) (fun W9 c9 s9 k1 k2 k3 k4 k5 => K W9 c9 s9 (by omega) (by omega) k3 k4 ((hf1.weak (P2 := fun i => i = R) (fun i _ z => z)).tr k5))
      · exact (n_ge0 (by omega) h39).elim
theorem qiL (d c s tm B : Nat) (nn q dl tx sy T N fi m mm A : Nat) (f : Nat → Int32) (G : Nat → Nat) (GS : Nat → Nat → Nat) (r : xi_R → Prop) (R : Nat) (gR : 696 ≤ R) (i : Nat) (W0 : xi_W) (N2 : Nat) (G2 : Nat → Nat) (hT : W0[R]? = some (lw_a 1804 G2)) (hJ : lw_J N2 G2) (hN2 : N2 < 1000000) (u : Nat) (hu : u < 4) : ∀ (m1 t qv : Nat), t + m1 = 4 → (qv = 0 ∨ qv = 1) → xr (d + 9) 204 148 [(0, .ref 17), (1, .ref 16), (2, .int (Int32.ofNat q)), (3, .ref A), (4, .int (Int32.ofNat tm)), (5, .ref B), (6, .ref R), (7, .int (Int32.ofNat i)), (8, .int (Int32.ofNat (sqI G2 u m1 t qv))), (9, .int (Int32.ofNat u))] [] W0 c s r → xr (d + 9) 204 107 [(0, .ref 17), (1, .ref 16), (2, .int (Int32.ofNat q)), (3, .ref A), (4, .int (Int32.ofNat tm)), (5, .ref B), (6, .ref R), (7, .int (Int32.ofNat i)), (8, .int (Int32.ofNat qv)), (9, .int (Int32.ofNat u)), (10, .int (Int32.ofNat t))] [] W0 c s r
  | 0, t, qv, ht, hqv, K => by
    obtain rfl : t = 4 := by omega
    unfold sqI at K
    refine xr_stp rfl rfl rfl rfl ?_
    refine xr_stp (st' := .int (Int32.ofNat 4) :: _) rfl rfl rfl rfl ?_
    refine xr_j2 rfl rfl rfl rfl rfl (fun h110 => ?_) (fun h110 => ?_)
    · refine xr_loc [(0, .ref 17), (1, .ref 16), (2, .int (Int32.ofNat q)), (3, .ref A), (4, .int (Int32.ofNat tm)), (5, .ref B), (6, .ref R), (7, .int (Int32.ofNat i)), (8, .int (Int32.ofNat qv)), (9, .int (Int32.ofNat u))] ⟨rfl, rfl, rfl, rfl, rfl, rfl, rfl, rfl, rfl, rfl, trivial⟩ rfl ?_
      exact K
    · have z110 := nf_ge (by omega) (by omega) h110
      exact (by omega)
  | m1 + 1, t, qv, ht, hqv, K => by
    have hbl : lw_be G2 u t ≤ G2 (338 + u) := Nat.sub_le _ _
    have hcu := (hJ.c u hu).2.2
    by_cases e : t = u
    · refine xr_stp rfl rfl rfl rfl ?_
      refine xr_stp (st' := .int (Int32.ofNat 4) :: _) rfl rfl rfl rfl ?_
      refine xr_j2 rfl rfl rfl rfl rfl (fun h110 => ?_) (fun h110 => ?_)
      · have z110 := nt_ge (by omega) (by omega) h110
        exact (by omega)
      · refine xr_stp rfl rfl rfl rfl ?_
        refine xr_stp rfl rfl rfl rfl ?_
        refine xr_stp rfl rfl rfl rfl ?_
        refine xr_j2 rfl rfl rfl rfl rfl (fun h119 => ?_) (fun h119 => ?_)
        · refine xr_stp (st' := .int (Int32.ofNat 1) :: _) rfl rfl rfl rfl ?_
          refine xr_stp rfl rfl rfl rfl ?_
          refine xs_and rfl ?_
          refine xr_stp rfl rfl rfl rfl ?_
          refine xs_inc (e := 1) rfl rfl rfl rfl ?_
          refine xr_stp rfl rfl rfl rfl ?_
          refine xr_loc [(0, .ref 17), (1, .ref 16), (2, .int (Int32.ofNat q)), (3, .ref A), (4, .int (Int32.ofNat tm)), (5, .ref B), (6, .ref R), (7, .int (Int32.ofNat i)), (8, .int (Int32.ofNat (qv &&& 1))), (9, .int (Int32.ofNat u)), (10, .int (Int32.ofNat (t + 1)))] ⟨rfl, rfl, rfl, rfl, rfl, rfl, rfl, rfl, rfl, rfl, rfl, trivial⟩ rfl ?_
          unfold sqI at K
          rw [if_pos e, show qv = qv &&& 1 by rcases hqv with rfl | rfl <;> rfl] at K
          exact qiL d c s tm B nn q dl tx sy T N fi m mm A f G GS r R gR i W0 N2 G2 hT hJ hN2 u hu m1 (t + 1) (qv &&& 1) (by omega) (by rcases hqv with rfl | rfl <;> decide) K
        · have z119 := nf_eq h119
          exact (by omega)
    · by_cases e2 : lw_be G2 u t = 0
      · refine xr_stp rfl rfl rfl rfl ?_
        refine xr_stp (st' := .int (Int32.ofNat 4) :: _) rfl rfl rfl rfl ?_
        refine xr_j2 rfl rfl rfl rfl rfl (fun h110 => ?_) (fun h110 => ?_)
        · have z110 := nt_ge (by omega) (by omega) h110
          exact (by omega)
        · refine xr_stp rfl rfl rfl rfl ?_
          refine xr_stp rfl rfl rfl rfl ?_
          refine xr_stp rfl rfl rfl rfl ?_
          refine xr_j2 rfl rfl rfl rfl rfl (fun h119 => ?_) (fun h119 => ?_)
          · have z119 := nt_eq (by omega) (by omega) h119
            exact (by omega)
          · refine xr_stp rfl rfl rfl rfl ?_
            refine xr_stp rfl rfl rfl rfl ?_
            refine xr_stp rfl rfl rfl rfl ?_
            refine xr_cps rfl rfl rfl (fun r1 K2 => lw_behind _ _ _ R W0 G2 hT (by omega) u t hu (by omega) (hJ.a u t hu (by omega)) r1 (K2 _ _ _ _ ?_))
            refine xr_j1 rfl rfl rfl rfl rfl (fun h131 => ?_) (fun h131 => ?_)
            · have z131 := nt1_ne h131
              exact (by omega)
            · refine xr_stp (st' := .int (Int32.ofNat 1) :: _) rfl rfl rfl rfl ?_
              refine xr_stp rfl rfl rfl rfl ?_
              refine xs_and rfl ?_
              refine xr_stp rfl rfl rfl rfl ?_
              refine xs_inc (e := 1) rfl rfl rfl rfl ?_
              refine xr_stp rfl rfl rfl rfl ?_
              refine xr_loc [(0, .ref 17), (1, .ref 16), (2, .int (Int32.ofNat q)), (3, .ref A), (4, .int (Int32.ofNat tm)), (5, .ref B), (6, .ref R), (7, .int (Int32.ofNat i)), (8, .int (Int32.ofNat (qv &&& 1))), (9, .int (Int32.ofNat u)), (10, .int (Int32.ofNat (t + 1)))] ⟨rfl, rfl, rfl, rfl, rfl, rfl, rfl, rfl, rfl, rfl, rfl, trivial⟩ rfl ?_
              unfold sqI at K
              rw [if_neg e, if_pos e2] at K
              exact qiL d c s tm B nn q dl tx sy T N fi m mm A f G GS r R gR i W0 N2 G2 hT hJ hN2 u hu m1 (t + 1) (qv &&& 1) (by omega) (by rcases hqv with rfl | rfl <;> decide) K
      · refine xr_stp rfl rfl rfl rfl ?_
        refine xr_stp (st' := .int (Int32.ofNat 4) :: _) rfl rfl rfl rfl ?_
        refine xr_j2 rfl rfl rfl rfl rfl (fun h110 => ?_) (fun h110 => ?_)
        · have z110 := nt_ge (by omega) (by omega) h110
          exact (by omega)
        · refine xr_stp rfl rfl rfl rfl ?_
          refine xr_stp rfl rfl rfl rfl ?_
          refine xr_stp rfl rfl rfl rfl ?_
          refine xr_j2 rfl rfl rfl rfl rfl (fun h119 => ?_) (fun h119 => ?_)
          · have z119 := nt_eq (by omega) (by omega) h119
            exact (by omega)
          · refine xr_stp rfl rfl rfl rfl ?_
            refine xr_stp rfl rfl rfl rfl ?_
            refine xr_stp rfl rfl rfl rfl ?_
            refine xr_cps rfl rfl rfl (fun r1 K2 => lw_behind _ _ _ R W0 G2 hT (by omega) u t hu (by omega) (hJ.a u t hu (by omega)) r1 (K2 _ _ _ _ ?_))
            refine xr_j1 rfl rfl rfl rfl rfl (fun h131 => ?_) (fun h131 => ?_)
            · refine xr_stp (st' := .int (Int32.ofNat 0) :: _) rfl rfl rfl rfl ?_
              refine xs_and rfl ?_
              refine xr_stp rfl rfl rfl rfl ?_
              refine xs_inc (e := 1) rfl rfl rfl rfl ?_
              refine xr_stp rfl rfl rfl rfl ?_
              refine xr_loc [(0, .ref 17), (1, .ref 16), (2, .int (Int32.ofNat q)), (3, .ref A), (4, .int (Int32.ofNat tm)), (5, .ref B), (6, .ref R), (7, .int (Int32.ofNat i)), (8, .int (Int32.ofNat (qv &&& 0))), (9, .int (Int32.ofNat u)), (10, .int (Int32.ofNat (t + 1)))] ⟨rfl, rfl, rfl, rfl, rfl, rfl, rfl, rfl, rfl, rfl, rfl, trivial⟩ rfl ?_
              unfold sqI at K
              rw [if_neg e, if_neg e2] at K
              exact qiL d c s tm B nn q dl tx sy T N fi m mm A f G GS r R gR i W0 N2 G2 hT hJ hN2 u hu m1 (t + 1) (qv &&& 0) (by omega) (by rcases hqv with rfl | rfl <;> decide) K
            · have z131 := nf1_ne (by omega) h131
              exact (by omega)
theorem sqI_01 (G : Nat → Nat) (t : Nat) {m u a : Nat} (h : a = 0 ∨ a = 1) : sqI G t m u a = 0 ∨ sqI G t m u a = 1 := (sqI_v (G := G) t m u a h).1
theorem qoL (d c s tm B : Nat) (nn q dl tx sy T N fi m mm A : Nat) (f : Nat → Int32) (G : Nat → Nat) (GS : Nat → Nat → Nat) (r : xi_R → Prop) (R : Nat) (gR : 696 ≤ R) (i : Nat) (W0 : xi_W) (N2 : Nat) (G2 : Nat → Nat) (hT : W0[R]? = some (lw_a 1804 G2)) (hJ : lw_J N2 G2) (hN2 : N2 < 1000000) : ∀ (m1 u qv : Nat), u + m1 = 4 → (qv = 0 ∨ qv = 1) → xr (d + 9) 204 154 [(0, .ref 17), (1, .ref 16), (2, .int (Int32.ofNat q)), (3, .ref A), (4, .int (Int32.ofNat tm)), (5, .ref B), (6, .ref R), (7, .int (Int32.ofNat i)), (8, .int (Int32.ofNat (sqO G2 m1 u qv)))] [] W0 c s r → xr (d + 9) 204 98 [(0, .ref 17), (1, .ref 16), (2, .int (Int32.ofNat q)), (3, .ref A), (4, .int (Int32.ofNat tm)), (5, .ref B), (6, .ref R), (7, .int (Int32.ofNat i)), (8, .int (Int32.ofNat qv)), (9, .int (Int32.ofNat u))] [] W0 c s r
  | 0, u, qv, hu, hqv, K => by
    obtain rfl : u = 4 := by omega
    unfold sqO at K
    refine xr_stp rfl rfl rfl rfl ?_
    refine xr_stp (st' := .int (Int32.ofNat 4) :: _) rfl rfl rfl rfl ?_
    refine xr_j2 rfl rfl rfl rfl rfl (fun h101 => ?_) (fun h101 => ?_)
    · refine xr_loc [(0, .ref 17), (1, .ref 16), (2, .int (Int32.ofNat q)), (3, .ref A), (4, .int (Int32.ofNat tm)), (5, .ref B), (6, .ref R), (7, .int (Int32.ofNat i)), (8, .int (Int32.ofNat qv))] ⟨rfl, rfl, rfl, rfl, rfl, rfl, rfl, rfl, rfl, trivial⟩ rfl ?_
      exact K
    · have z101 := nf_ge (by omega) (by omega) h101
      exact (by omega)
  | m1 + 1, u, qv, hu, hqv, K => by
    unfold sqO at K
    refine xr_stp rfl rfl rfl rfl ?_
    refine xr_stp (st' := .int (Int32.ofNat 4) :: _) rfl rfl rfl rfl ?_
    refine xr_j2 rfl rfl rfl rfl rfl (fun h101 => ?_) (fun h101 => ?_)
    · have z101 := nt_ge (by omega) (by omega) h101
      exact (by omega)
    · refine xr_stp (st' := .int (Int32.ofNat 0) :: _) rfl rfl rfl rfl ?_
      refine xr_stp rfl rfl rfl rfl ?_
      refine xr_loc [(0, .ref 17), (1, .ref 16), (2, .int (Int32.ofNat q)), (3, .ref A), (4, .int (Int32.ofNat tm)), (5, .ref B), (6, .ref R), (7, .int (Int32.ofNat i)), (8, .int (Int32.ofNat qv)), (9, .int (Int32.ofNat u)), (10, .int (Int32.ofNat 0))] ⟨rfl, rfl, rfl, rfl, rfl, rfl, rfl, rfl, rfl, rfl, rfl, trivial⟩ rfl ?_
      refine qiL d c s tm B nn q dl tx sy T N fi m mm A f G GS r R gR i W0 N2 G2 hT hJ hN2 u (by omega) 4 0 qv rfl hqv ?_
      refine xs_inc (e := 1) rfl rfl rfl rfl ?_
      refine xr_stp rfl rfl rfl rfl ?_
      refine xr_loc [(0, .ref 17), (1, .ref 16), (2, .int (Int32.ofNat q)), (3, .ref A), (4, .int (Int32.ofNat tm)), (5, .ref B), (6, .ref R), (7, .int (Int32.ofNat i)), (8, .int (Int32.ofNat (sqI G2 u 4 0 qv))), (9, .int (Int32.ofNat (u + 1)))] ⟨rfl, rfl, rfl, rfl, rfl, rfl, rfl, rfl, rfl, rfl, trivial⟩ rfl ?_
      exact qoL d c s tm B nn q dl tx sy T N fi m mm A f G GS r R gR i W0 N2 G2 hT hJ hN2 m1 (u + 1) _ (by omega) (sqI_01 G2 u hqv) K
theorem tiL (d tm B : Nat) (nn q dl tx sy T N fi m mm A : Nat) (f : Nat → Int32) (G : Nat → Nat) (GS : Nat → Nat → Nat) (r : xi_R → Prop) (R : Nat) (gR : 696 ≤ R) (nRA : R ≠ A) (hnn : nn < 2147483648) : ∀ (m1 i N2 : Nat) (G2 : Nat → Nat) (W0 : xi_W) (c s : Nat), i + m1 = 61 → scn nn f q dl tx sy T N fi m mm G GS A W0 → W0[R]? = some (lw_a 1804 G2) → lw_J N2 G2 → N2 + 65 * m1 + 100 < 1000000 → (∀ W' c' s' i' z, c' ≤ c + 80 * m1 → s' ≤ s + 544 * m1 → scn nn f q dl tx sy T N fi m mm G GS A W' → fr (fun i => i = R) W0 W' → i' < 100 → (z = 1 ∧ tl_ nn f q m1 i G2 = i' ∨ z = 0 ∧ tl_ nn f q m1 i G2 = 4294967295) → xr (d + 9) 204 183 [(0, .ref 17), (1, .ref 16), (2, .int (Int32.ofNat q)), (3, .ref A), (4, .int (Int32.ofNat tm)), (5, .ref B), (7, .int (Int32.ofNat i')), (8, .int (Int32.ofNat z))] [] W' c' s' r) → xr (d + 9) 204 65 [(0, .ref 17), (1, .ref 16), (2, .int (Int32.ofNat q)), (3, .ref A), (4, .int (Int32.ofNat tm)), (5, .ref B), (6, .ref R), (7, .int (Int32.ofNat i)), (8, .int (Int32.ofNat 0))] [] W0 c s r
  | 0, i, N2, G2, W0, c, s, hi, hs, hT, hJ, hN2, K => by
    obtain rfl : i = 61 := by omega
    refine xr_stp rfl rfl rfl rfl ?_
    refine xr_j1 rfl rfl rfl rfl rfl (fun h67 => ?_) (fun h67 => ?_)
    · have z67 := nt1_ne h67
      exact (by omega)
    · refine xr_stp rfl rfl rfl rfl ?_
      refine xr_stp (st' := .int (Int32.ofNat 61) :: _) rfl rfl rfl rfl ?_
      refine xr_j2 rfl rfl rfl rfl rfl (fun h74 => ?_) (fun h74 => ?_)
      · refine xr_loc [(0, .ref 17), (1, .ref 16), (2, .int (Int32.ofNat q)), (3, .ref A), (4, .int (Int32.ofNat tm)), (5, .ref B), (7, .int (Int32.ofNat 61)), (8, .int (Int32.ofNat 0))] ⟨rfl, rfl, rfl, rfl, rfl, rfl, rfl, rfl, trivial⟩ rfl ?_
        exact K W0 c s 61 0 (by omega) (by omega) hs fr.rf (by omega) (Or.inr ⟨rfl, rfl⟩)
      · have z74 := nf_ge (by omega) (by omega) h74
        exact (by omega)
  | m1 + 1, i, N2, G2, W0, c, s, hi, hs, hT, hJ, hN2, K => by
    have hmc := lw_mcl nn f q 24 (lw_t0 G2)
    have hnn0 := hnn
    obtain ⟨hc, hA, hS, gA, hz, hN, hnn⟩ := id hs
    have hq0 := (qu_iff G2).1
    have K9 : tl_ nn f q (m1 + 1) i G2 = if qu G2 = 1 then i else tl_ nn f q m1 (i + 1) (lw_ti nn f q 24 G2) := rfl
    have key : xr (d + 9) 204 98 [(0, .ref 17), (1, .ref 16), (2, .int (Int32.ofNat q)), (3, .ref A), (4, .int (Int32.ofNat tm)), (5, .ref B), (6, .ref R), (7, .int (Int32.ofNat i)), (8, .int (Int32.ofNat (if G2 410 = 0 then 1 else 0))), (9, .int (Int32.ofNat 0))] [] W0 c s r := by
      refine qoL d c s tm B nn q dl tx sy T N fi m mm A f G GS r R gR i W0 N2 G2 hT hJ (by omega) 4 0 _ rfl (by split <;> omega) ?_
      rw [sq_qu G2]
      rcases hq0 with hq1 | hq1
      · rw [hq1, if_pos rfl] at K9
        rw [hq1]
        refine xr_stp rfl rfl rfl rfl ?_
        refine xr_j1 rfl rfl rfl rfl rfl (fun h156 => ?_) (fun h156 => ?_)
        · refine xr_stp rfl rfl rfl rfl ?_
          refine xr_j1 rfl rfl rfl rfl rfl (fun h67 => ?_) (fun h67 => ?_)
          · refine xr_loc [(0, .ref 17), (1, .ref 16), (2, .int (Int32.ofNat q)), (3, .ref A), (4, .int (Int32.ofNat tm)), (5, .ref B), (7, .int (Int32.ofNat i)), (8, .int (Int32.ofNat 1))] ⟨rfl, rfl, rfl, rfl, rfl, rfl, rfl, rfl, trivial⟩ rfl ?_
            exact K W0 c s i 1 (by omega) (by omega) hs fr.rf (by omega) (Or.inl ⟨rfl, K9⟩)
          · have z67 := nf1_ne (by omega) h67
            exact (by omega)
        · have z156 := nf1_ne (by omega) h156
          exact (by omega)
      · rw [hq1, if_neg (by omega)] at K9
        rw [hq1]
        refine xr_stp rfl rfl rfl rfl ?_
        refine xr_j1 rfl rfl rfl rfl rfl (fun h156 => ?_) (fun h156 => ?_)
        · have z156 := nt1_ne h156
          exact (by omega)
        · refine xr_stp rfl rfl rfl rfl ?_
          refine xr_stp rfl rfl rfl rfl ?_
          refine xr_stp rfl rfl rfl rfl ?_
          refine xr_stp rfl rfl rfl rfl ?_
          refine xr_cps rfl rfl rfl (fun r1 K2 => lw_tick _ R 16 nn f (by omega) hnn (by omega) q hc.q r1 24 N2 _ _ G2 W0 hJ (by omega) (lw_me24 hJ nn f q (by omega)) hT hS (fun W1 c1 s1 kc1 ks1 hT1 hf1 => K2 _ _ _ _ ?_))
          have hs1 := hs.oth hf1 (fun i z => by have z : i = R := z; omega)
          refine xr_j1 rfl rfl rfl rfl rfl (fun h168 => ?_) (fun h168 => ?_)
          · refine xr_stp (st' := .int (Int32.ofNat 1) :: _) rfl rfl rfl rfl ?_
            refine xs_add rfl ?_
            refine xr_stp rfl rfl rfl rfl ?_
            refine xr_stp rfl rfl rfl rfl ?_
            refine xr_loc [(0, .ref 17), (1, .ref 16), (2, .int (Int32.ofNat q)), (3, .ref A), (4, .int (Int32.ofNat tm)), (5, .ref B), (6, .ref R), (7, .int (Int32.ofNat (i + 1))), (8, .int (Int32.ofNat 0))] ⟨rfl, rfl, rfl, rfl, rfl, rfl, rfl, rfl, rfl, trivial⟩ rfl ?_
            refine tiL d tm B nn q dl tx sy T N fi m mm A f G GS r R gR nRA hnn0 m1 (i + 1) (N2 + 2 * 24 + 17) (lw_ti nn f q 24 G2) W1 _ _ (by omega) hs1 hT1 (hJ.ti nn f q 24 (by omega)) (by omega) (fun W9 c9 s9 i9 z9 k1 k2 k3 k4 k5 k6 => K W9 c9 s9 i9 z9 (by omega) (by omega) k3 ((hf1.weak (P2 := fun i => i = R) (fun i _ z => z)).tr k4) k5 (by rw [← K9] at k6; exact k6))
          · exact (n_ge0 (by omega) h168).elim
    by_cases z : G2 410 = 0
    · refine xr_stp rfl rfl rfl rfl ?_
      refine xr_j1 rfl rfl rfl rfl rfl (fun h67 => ?_) (fun h67 => ?_)
      · have z67 := nt1_ne h67
        exact (by omega)
      · refine xr_stp rfl rfl rfl rfl ?_
        refine xr_stp (st' := .int (Int32.ofNat 61) :: _) rfl rfl rfl rfl ?_
        refine xr_j2 rfl rfl rfl rfl rfl (fun h74 => ?_) (fun h74 => ?_)
        · have z74 := nt_ge (by omega) (by omega) h74
          exact (by omega)
        · refine xr_stp rfl rfl rfl rfl ?_
          refine xr_stp (st' := .int (Int32.ofNat 410) :: _) rfl rfl rfl rfl ?_
          refine xs_ald hT (by omega) (by omega) (by omega) rfl ?_
          refine xr_stp (st' := .long (Int64.ofNat 0) :: _) rfl rfl rfl rfl ?_
          refine xs_lc (by exact hJ.b63 _) (by omega) rfl ?_
          refine xr_j1 rfl rfl rfl rfl rfl (fun h85 => ?_) (fun h85 => ?_)
          · have z85 := lt_ne h85
            exact (by omega)
          · refine xr_stp (st' := .int (Int32.ofNat 1) :: _) rfl rfl rfl rfl ?_
            refine xr_stp rfl rfl rfl rfl ?_
            refine xr_stp rfl rfl rfl rfl ?_
            refine xr_stp (st' := .int (Int32.ofNat 0) :: _) rfl rfl rfl rfl ?_
            refine xr_stp rfl rfl rfl rfl ?_
            refine xr_loc [(0, .ref 17), (1, .ref 16), (2, .int (Int32.ofNat q)), (3, .ref A), (4, .int (Int32.ofNat tm)), (5, .ref B), (6, .ref R), (7, .int (Int32.ofNat i)), (8, .int (Int32.ofNat (if G2 410 = 0 then 1 else 0))), (9, .int (Int32.ofNat 0))] ⟨rfl, rfl, rfl, rfl, rfl, rfl, rfl, rfl, (by rw [if_pos z]; rfl), rfl, trivial⟩ rfl ?_
            exact key
    · refine xr_stp rfl rfl rfl rfl ?_
      refine xr_j1 rfl rfl rfl rfl rfl (fun h67 => ?_) (fun h67 => ?_)
      · have z67 := nt1_ne h67
        exact (by omega)
      · refine xr_stp rfl rfl rfl rfl ?_
        refine xr_stp (st' := .int (Int32.ofNat 61) :: _) rfl rfl rfl rfl ?_
        refine xr_j2 rfl rfl rfl rfl rfl (fun h74 => ?_) (fun h74 => ?_)
        · have z74 := nt_ge (by omega) (by omega) h74
          exact (by omega)
        · refine xr_stp rfl rfl rfl rfl ?_
          refine xr_stp (st' := .int (Int32.ofNat 410) :: _) rfl rfl rfl rfl ?_
          refine xs_ald hT (by omega) (by omega) (by omega) rfl ?_
          refine xr_stp (st' := .long (Int64.ofNat 0) :: _) rfl rfl rfl rfl ?_
          refine xs_lc (by exact hJ.b63 _) (by omega) rfl ?_
          refine xr_j1 rfl rfl rfl rfl rfl (fun h85 => ?_) (fun h85 => ?_)
          · refine xr_stp (st' := .int (Int32.ofNat 0) :: _) rfl rfl rfl rfl ?_
            refine xr_stp rfl rfl rfl rfl ?_
            refine xr_stp (st' := .int (Int32.ofNat 0) :: _) rfl rfl rfl rfl ?_
            refine xr_stp rfl rfl rfl rfl ?_
            refine xr_loc [(0, .ref 17), (1, .ref 16), (2, .int (Int32.ofNat q)), (3, .ref A), (4, .int (Int32.ofNat tm)), (5, .ref B), (6, .ref R), (7, .int (Int32.ofNat i)), (8, .int (Int32.ofNat (if G2 410 = 0 then 1 else 0))), (9, .int (Int32.ofNat 0))] ⟨rfl, rfl, rfl, rfl, rfl, rfl, rfl, rfl, (by rw [if_neg z]; rfl), rfl, trivial⟩ rfl ?_
            exact key
          · have z85 := lf_ne h85
            exact (by omega)
