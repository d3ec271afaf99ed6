/-! the law's script: the clauses -/
theorem scA (d c s : Nat) (nn q A X U k bad : Nat) (f : Nat → Int32) (hnn : nn < 2147483648) (gX : 687 ≤ X) (hk8 : k < 8) (t : Nat → Nat) (hT : TOK nn f k t) (W0 : xi_W) (hk : kc W0) (hS : W0[16]? = some (lw_s nn f)) (hX : W0[X]? = some (lw_i 300 t)) (r : xi_R → Prop) (K : ∀ W' t', W'[X]? = some (lw_i 300 t') → TOK nn f (k + 1) t' → fr (fun i => i = X) W0 W' → xr (d + 13) 203 226 [(0, .ref 17), (1, .ref 16), (2, .int (Int32.ofNat q)), (3, .ref A), (4, .ref X), (5, .int (Int32.ofNat ((sof nn f (k + 1))))), (6, .int (Int32.ofNat bad)), (7, .ref U), (8, .int (Int32.ofNat k)), (10, .int (Int32.ofNat ((sw nn f k)))), (11, .int (Int32.ofNat ((sa nn f k)))), (12, .int (Int32.ofNat ((sb nn f k)))), (13, .int (Int32.ofNat ((sf nn f k))))] [] W' c s r) : xr (d + 13) 203 66 [(0, .ref 17), (1, .ref 16), (2, .int (Int32.ofNat q)), (3, .ref A), (4, .ref X), (5, .int (Int32.ofNat ((sof nn f k)))), (6, .int (Int32.ofNat bad)), (7, .ref U), (8, .int (Int32.ofNat k)), (10, .int (Int32.ofNat ((sw nn f k)))), (11, .int (Int32.ofNat ((sa nn f k)))), (12, .int (Int32.ofNat ((sb nn f k)))), (13, .int (Int32.ofNat ((sf nn f k))))] [] W0 c s r := by
  obtain ⟨q1, q2, q3, q4⟩ := swb nn f k
  have hn : sof nn f k + 22 ≤ 300 := by have := sofb nn f k; omega
  have e : sw nn f k = 0 ∨ sw nn f k = 1 ∨ sw nn f k = 2 ∨ sw nn f k = 3 ∨ sw nn f k = 4 := by omega
  rcases e with e | e | e | e | e
  · have e2 : sof nn f (k + 1) = sof nn f k + 22 := by
      show sof nn f k + xt_sl.getD (sw nn f k + 2) 0 = _
      rw [e]
      rfl
    have e3 : sl nn f k = 22 := by
      show xt_sl.getD (sw nn f k + 2) 0 = _
      rw [e]
      rfl
    rw [e2, e] at K
    rw [e]
    refine scA0 d c s nn q A X U k (sof nn f k) bad f hnn gX t _ _ _ q2 q3 q4 hn W0 hk hS hX r (fun W1 t1 hX1 h1 h2 hf1 => K W1 t1 hX1 (hT.s h1 (fun j hj => ?_)) hf1)
    rw [e3] at hj
    rw [h2 j hj]
    unfold sch
    rw [e]
  · have e2 : sof nn f (k + 1) = sof nn f k + 18 := by
      show sof nn f k + xt_sl.getD (sw nn f k + 2) 0 = _
      rw [e]
      rfl
    have e3 : sl nn f k = 18 := by
      show xt_sl.getD (sw nn f k + 2) 0 = _
      rw [e]
      rfl
    rw [e2, e] at K
    rw [e]
    refine scA1 d c s nn q A X U k (sof nn f k) bad f hnn gX t _ _ _ q2 q3 q4 hn W0 hk hS hX r (fun W1 t1 hX1 h1 h2 hf1 => K W1 t1 hX1 (hT.s h1 (fun j hj => ?_)) hf1)
    rw [e3] at hj
    rw [h2 j hj]
    unfold sch
    rw [e]
  · have e2 : sof nn f (k + 1) = sof nn f k + 13 := by
      show sof nn f k + xt_sl.getD (sw nn f k + 2) 0 = _
      rw [e]
      rfl
    have e3 : sl nn f k = 13 := by
      show xt_sl.getD (sw nn f k + 2) 0 = _
      rw [e]
      rfl
    rw [e2, e] at K
    rw [e]
    refine scA2 d c s nn q A X U k (sof nn f k) bad f hnn gX t _ _ _ q2 q3 q4 hn W0 hk hS hX r (fun W1 t1 hX1 h1 h2 hf1 => K W1 t1 hX1 (hT.s h1 (fun j hj => ?_)) hf1)
    rw [e3] at hj
    rw [h2 j hj]
    unfold sch
    rw [e]
  · have e2 : sof nn f (k + 1) = sof nn f k + 12 := by
      show sof nn f k + xt_sl.getD (sw nn f k + 2) 0 = _
      rw [e]
      rfl
    have e3 : sl nn f k = 12 := by
      show xt_sl.getD (sw nn f k + 2) 0 = _
      rw [e]
      rfl
    rw [e2, e] at K
    rw [e]
    refine scA3 d c s nn q A X U k (sof nn f k) bad f hnn gX t _ _ _ q2 q3 q4 hn W0 hk hS hX r (fun W1 t1 hX1 h1 h2 hf1 => K W1 t1 hX1 (hT.s h1 (fun j hj => ?_)) hf1)
    rw [e3] at hj
    rw [h2 j hj]
    unfold sch
    rw [e]
  · have e2 : sof nn f (k + 1) = sof nn f k + 6 := by
      show sof nn f k + xt_sl.getD (sw nn f k + 2) 0 = _
      rw [e]
      rfl
    have e3 : sl nn f k = 6 := by
      show xt_sl.getD (sw nn f k + 2) 0 = _
      rw [e]
      rfl
    rw [e2, e] at K
    rw [e]
    refine scA4 d c s nn q A X U k (sof nn f k) bad f hnn gX t _ _ _ q2 q3 q4 hn W0 hk hS hX r (fun W1 t1 hX1 h1 h2 hf1 => K W1 t1 hX1 (hT.s h1 (fun j hj => ?_)) hf1)
    rw [e3] at hj
    rw [h2 j hj]
    unfold sch
    rw [e]
theorem scP (d c s nn q A X U k n : Nat) (f : Nat → Int32) (hnn : nn < 2147483648) (hq : q < 2) (gU : 17 ≤ U) (hk8 : k < 8) (N2 : Nat) (G : Nat → Nat) (hJ : lw_J N2 G) (hN2 : N2 + 400 < 1000000) (h4 : G 4 ≤ 61) (W0 : xi_W) (hS : W0[16]? = some (lw_s nn f)) (hU : W0[U]? = some (lw_a 1804 G)) (r : xi_R → Prop) (K0 : scB nn f k G = 1 → ∀ W' c' s', c' ≤ c + 160 → s' ≤ s + 1088 → W'[U]? = some (lw_a 1804 G) → fr (fun i => i = U) W0 W' → xr (d + 13) 203 379 [(0, .ref 17), (1, .ref 16), (2, .int (Int32.ofNat q)), (3, .ref A), (4, .ref X), (5, .int (Int32.ofNat n)), (6, .int (Int32.ofNat k)), (7, .ref U), (8, .int (Int32.ofNat k))] [] W' c' s' r) (K1 : scB nn f k G ≠ 1 → ∀ W' c' s', c' ≤ c + 160 → s' ≤ s + 1088 → W'[U]? = some (lw_a 1804 (scG nn f q k G)) → fr (fun i => i = U) W0 W' → xr (d + 13) 203 379 [(0, .ref 17), (1, .ref 16), (2, .int (Int32.ofNat q)), (3, .ref A), (4, .ref X), (5, .int (Int32.ofNat n)), (6, .int (Int32.ofNat 4294967295)), (7, .ref U), (8, .int (Int32.ofNat k))] [] W' c' s' r) : xr (d + 13) 203 234 [(0, .ref 17), (1, .ref 16), (2, .int (Int32.ofNat q)), (3, .ref A), (4, .ref X), (5, .int (Int32.ofNat n)), (6, .int (Int32.ofNat 4294967295)), (7, .ref U), (8, .int (Int32.ofNat k)), (10, .int (Int32.ofNat ((sw nn f k)))), (11, .int (Int32.ofNat ((sa nn f k)))), (12, .int (Int32.ofNat ((sb nn f k)))), (13, .int (Int32.ofNat ((sf nn f k))))] [] W0 c s r := by
  have q1 := (swb nn f k).1
  have e : sw nn f k = 0 ∨ sw nn f k = 1 ∨ sw nn f k = 2 ∨ sw nn f k = 3 ∨ sw nn f k = 4 := by omega
  rcases e with e | e | e | e | e
  · rw [e]
    exact scP0 d c s nn q A X U k n f hnn hq gU hk8 N2 G hJ hN2 h4 W0 hS hU r e K0 K1
  · rw [e]
    exact scP1 d c s nn q A X U k n f hnn hq gU hk8 N2 G hJ hN2 h4 W0 hS hU r e K0 K1
  · rw [e]
    exact scP2 d c s nn q A X U k n f hnn hq gU hk8 N2 G hJ hN2 h4 W0 hS hU r e K0 K1
  · rw [e]
    exact scP3 d c s nn q A X U k n f hnn hq gU hk8 N2 G hJ hN2 h4 W0 hS hU r e K0 K1
  · rw [e]
    exact scP4 d c s nn q A X U k n f hnn hq gU hk8 N2 G hJ hN2 h4 W0 hS hU r e K0 K1
theorem scLp (d : Nat) (nn q A X U : Nat) (f : Nat → Int32) (hnn : nn < 2147483648) (hq : q < 2) (gX : 687 ≤ X) (gU : 687 ≤ U) (gXU : X ≠ U) (r : xi_R → Prop) : ∀ (m k bad : Nat) (t G : Nat → Nat) (N2 : Nat) (W0 : xi_W) (c s : Nat), k + m = 8 → kc W0 → W0[16]? = some (lw_s nn f) → W0[X]? = some (lw_i 300 t) → TOK nn f k t → W0[U]? = some (lw_a 1804 G) → lw_J N2 G → N2 + 130 * m + 400 < 1000000 → G 4 + m ≤ 62 → (bad = 4294967295 ∨ bad < 8) → (∀ W' c' s' t' bad' G', c' ≤ c + 160 * m → s' ≤ s + 1088 * m → W'[X]? = some (lw_i 300 t') → TOK nn f 8 t' → W'[U]? = some (lw_a 1804 G') → (bad = 4294967295 → bad' = scE nn f q m k G ∧ G' = scH nn f q m k G) → (bad < 8 → bad' = bad ∧ G' = G) → fr (fun i => i = X ∨ i = U) W0 W' → xr (d + 13) 203 385 [(0, .ref 17), (1, .ref 16), (2, .int (Int32.ofNat q)), (3, .ref A), (4, .ref X), (5, .int (Int32.ofNat ((sof nn f 8)))), (6, .int (Int32.ofNat bad')), (7, .ref U)] [] W' c' s' r) → xr (d + 13) 203 18 [(0, .ref 17), (1, .ref 16), (2, .int (Int32.ofNat q)), (3, .ref A), (4, .ref X), (5, .int (Int32.ofNat ((sof nn f k)))), (6, .int (Int32.ofNat bad)), (7, .ref U), (8, .int (Int32.ofNat k))] [] W0 c s r
  | 0, k, bad, t, G, N2, W0, c, s, hkm, hk, hS, hX, hT, hU, hJ, hN2, h4, hbad, K => by
    obtain rfl : k = 8 := by omega
    refine xr_stp rfl rfl rfl rfl ?_
    refine xr_stp (st' := .int (Int32.ofNat 8) :: _) rfl rfl rfl rfl ?_
    refine xr_j2 rfl rfl rfl rfl rfl (fun h22 => ?_) (fun h22 => ?_)
    · refine xr_loc [(0, .ref 17), (1, .ref 16), (2, .int (Int32.ofNat q)), (3, .ref A), (4, .ref X), (5, .int (Int32.ofNat ((sof nn f 8)))), (6, .int (Int32.ofNat bad)), (7, .ref U)] ⟨rfl, rfl, rfl, rfl, rfl, rfl, rfl, rfl, trivial⟩ rfl ?_
      exact K W0 c s t bad G (by omega) (by omega) hX hT hU (fun z => ⟨z, rfl⟩) (fun _ => ⟨rfl, rfl⟩) fr.rf
    · have z22 := nf_ge (by omega) (by omega) h22
      exact (by omega)
  | m + 1, k, bad, t, G, N2, W0, c, s, hkm, hk, hS, hX, hT, hU, hJ, hN2, h4, hbad, K => by
    refine xr_stp rfl rfl rfl rfl ?_
    refine xr_stp (st' := .int (Int32.ofNat 8) :: _) rfl rfl rfl rfl ?_
    refine xr_j2 rfl rfl rfl rfl rfl (fun h22 => ?_) (fun h22 => ?_)
    · have z22 := nt_ge (by omega) (by omega) h22
      exact (by omega)
    · refine xr_stp rfl rfl rfl rfl ?_
      refine xr_stp (st' := .int (Int32.ofNat 56) :: _) rfl rfl rfl rfl ?_
      refine xr_stp rfl rfl rfl rfl ?_
      refine xs_add rfl ?_
      refine xr_cps rfl rfl rfl (fun r1 K2 => lw_pick _ _ _ 16 nn W0 f hS hnn (56 + k) (by omega) r1 (K2 _ _ _ _ ?_))
      refine xr_stp rfl rfl rfl rfl ?_
      have hpb : lw_pk nn f (56 + k) < 2147483648 := lw_pkb nn f (56 + k)
      refine xr_stp rfl rfl rfl rfl ?_
      refine xr_stp (st' := .int (Int32.ofNat 5) :: _) rfl rfl rfl rfl ?_
      refine xs_mod (by omega) (by omega) (by omega) rfl ?_
      refine xr_stp rfl rfl rfl rfl ?_
      refine xr_stp rfl rfl rfl rfl ?_
      refine xr_stp (st' := .int (Int32.ofNat 2) :: _) rfl rfl rfl rfl ?_
      refine xs_div (by omega) (by omega) (by omega) rfl ?_
      refine xr_stp (st' := .int (Int32.ofNat 4) :: _) rfl rfl rfl rfl ?_
      refine xs_mod (by omega) (by omega) (by omega) rfl ?_
      refine xr_stp rfl rfl rfl rfl ?_
      refine xr_stp rfl rfl rfl rfl ?_
      refine xr_stp (st' := .int (Int32.ofNat 3) :: _) rfl rfl rfl rfl ?_
      refine xs_shr (by omega) (by omega) rfl ?_
      refine xr_stp (st' := .int (Int32.ofNat 4) :: _) rfl rfl rfl rfl ?_
      refine xs_mod (by omega) (by omega) (by omega) rfl ?_
      refine xr_stp rfl rfl rfl rfl ?_
      refine xr_stp rfl rfl rfl rfl ?_
      refine xr_stp (st' := .int (Int32.ofNat 4) :: _) rfl rfl rfl rfl ?_
      refine xs_shr (by omega) (by omega) rfl ?_
      refine xr_stp (st' := .int (Int32.ofNat 3) :: _) rfl rfl rfl rfl ?_
      refine xs_mod (by omega) (by omega) (by omega) rfl ?_
      refine xr_stp rfl rfl rfl rfl ?_
      refine xr_loc [(0, .ref 17), (1, .ref 16), (2, .int (Int32.ofNat q)), (3, .ref A), (4, .ref X), (5, .int (Int32.ofNat ((sof nn f k)))), (6, .int (Int32.ofNat bad)), (7, .ref U), (8, .int (Int32.ofNat k)), (10, .int (Int32.ofNat ((sw nn f k)))), (11, .int (Int32.ofNat ((sa nn f k)))), (12, .int (Int32.ofNat ((sb nn f k)))), (13, .int (Int32.ofNat ((sf nn f k))))] ⟨rfl, rfl, rfl, rfl, rfl, rfl, rfl, rfl, rfl, rfl, rfl, rfl, rfl, trivial⟩ rfl ?_
      refine scA d _ _ nn q A X U k bad f hnn gX (by omega) t hT W0 hk hS hX r (fun W1 t1 hX1 hT1 hf1 => ?_)
      have hk1 := hk.keep hf1 (fun i hi z => by have z : i = X := z; omega)
      have hS1 := hf1.at hS (fun z => by have z : 16 = X := z; omega)
      have hU1 := hf1.at hU (fun z => gXU (by have z : U = X := z; exact z.symm))
      have F1 := hf1.weak (P2 := fun i => i = X ∨ i = U) (fun i _ z => Or.inl z)
      rcases hbad with rfl | hb8
      · refine xr_stp rfl rfl rfl rfl ?_
        refine xr_j1 rfl rfl rfl rfl rfl (fun h228 => ?_) (fun h228 => ?_)
        · refine xr_loc [(0, .ref 17), (1, .ref 16), (2, .int (Int32.ofNat q)), (3, .ref A), (4, .ref X), (5, .int (Int32.ofNat ((sof nn f (k + 1))))), (6, .int (Int32.ofNat 4294967295)), (7, .ref U), (8, .int (Int32.ofNat k)), (10, .int (Int32.ofNat ((sw nn f k)))), (11, .int (Int32.ofNat ((sa nn f k)))), (12, .int (Int32.ofNat ((sb nn f k)))), (13, .int (Int32.ofNat ((sf nn f k))))] ⟨rfl, rfl, rfl, rfl, rfl, rfl, rfl, rfl, rfl, rfl, rfl, rfl, rfl, trivial⟩ rfl ?_
          refine scP d _ _ nn q A X U k (sof nn f (k + 1)) f hnn hq (by omega) (by omega) N2 G hJ (by omega) (by omega) W1 hS1 hU1 r (fun hB W2 c2 s2 kc2 ks2 hU2 hf2 => ?_) (fun hB W2 c2 s2 kc2 ks2 hU2 hf2 => ?_)
          · have hX2 := hf2.at hX1 gXU
            have hk2 := hk1.keep hf2 (fun i hi z => by have z : i = U := z; omega)
            have hS2 := hf2.at hS1 (fun z => by have z : 16 = U := z; omega)
            have F2 := F1.tr (hf2.weak (P2 := fun i => i = X ∨ i = U) (fun i _ z => Or.inr z))
            have eE : scE nn f q (m + 1) k G = k := if_pos hB
            have eH : scH nn f q (m + 1) k G = G := if_pos hB
            rw [eE, eH] at K
            refine xs_inc (e := 1) rfl rfl rfl rfl ?_
            refine xr_stp rfl rfl rfl rfl ?_
            refine xr_loc [(0, .ref 17), (1, .ref 16), (2, .int (Int32.ofNat q)), (3, .ref A), (4, .ref X), (5, .int (Int32.ofNat ((sof nn f (k + 1))))), (6, .int (Int32.ofNat k)), (7, .ref U), (8, .int (Int32.ofNat ((k + 1))))] ⟨rfl, rfl, rfl, rfl, rfl, rfl, rfl, rfl, rfl, trivial⟩ rfl ?_
            exact scLp d nn q A X U f hnn hq gX gU gXU r m (k + 1) k t1 G N2 W2 c2 s2 (by omega) hk2 hS2 hX2 hT1 hU2 hJ (by omega) (by omega) (Or.inr (by omega)) (fun W9 c9 s9 t9 b9 G9 k1 k2 k3 k4 k5 k6 k7 k8 => K W9 c9 s9 t9 b9 G9 (by omega) (by omega) k3 k4 k5 (fun _ => k7 (by omega)) (fun z => by omega) (F2.tr k8))
          · have hX2 := hf2.at hX1 gXU
            have hk2 := hk1.keep hf2 (fun i hi z => by have z : i = U := z; omega)
            have hS2 := hf2.at hS1 (fun z => by have z : 16 = U := z; omega)
            have F2 := F1.tr (hf2.weak (P2 := fun i => i = X ∨ i = U) (fun i _ z => Or.inr z))
            have eE : scE nn f q (m + 1) k G = scE nn f q m (k + 1) (scG nn f q k G) := if_neg hB
            have eH : scH nn f q (m + 1) k G = scH nn f q m (k + 1) (scG nn f q k G) := if_neg hB
            rw [eE, eH] at K
            obtain ⟨b1, b2, b3⟩ := scG_b hJ nn f q k (by omega) (by omega) hB
            refine xs_inc (e := 1) rfl rfl rfl rfl ?_
            refine xr_stp rfl rfl rfl rfl ?_
            refine xr_loc [(0, .ref 17), (1, .ref 16), (2, .int (Int32.ofNat q)), (3, .ref A), (4, .ref X), (5, .int (Int32.ofNat ((sof nn f (k + 1))))), (6, .int (Int32.ofNat 4294967295)), (7, .ref U), (8, .int (Int32.ofNat ((k + 1))))] ⟨rfl, rfl, rfl, rfl, rfl, rfl, rfl, rfl, rfl, trivial⟩ rfl ?_
            exact scLp d nn q A X U f hnn hq gX gU gXU r m (k + 1) 4294967295 t1 (scG nn f q k G) (N2 + 130) W2 c2 s2 (by omega) hk2 hS2 hX2 hT1 hU2 b1 (by omega) (by omega) (Or.inl rfl) (fun W9 c9 s9 t9 b9 G9 k1 k2 k3 k4 k5 k6 k7 k8 => K W9 c9 s9 t9 b9 G9 (by omega) (by omega) k3 k4 k5 (fun _ => k6 rfl) (fun z => by omega) (F2.tr k8))
        · exact absurd h228 (by decide)
      · refine xr_stp rfl rfl rfl rfl ?_
        refine xr_j1 rfl rfl rfl rfl rfl (fun h228 => ?_) (fun h228 => ?_)
        · have z228 := n_lt0 h228
          exact (by omega)
        · refine xr_stp rfl rfl rfl rfl ?_
          refine xs_inc (e := 1) rfl rfl rfl rfl ?_
          refine xr_stp rfl rfl rfl rfl ?_
          refine xr_loc [(0, .ref 17), (1, .ref 16), (2, .int (Int32.ofNat q)), (3, .ref A), (4, .ref X), (5, .int (Int32.ofNat ((sof nn f (k + 1))))), (6, .int (Int32.ofNat bad)), (7, .ref U), (8, .int (Int32.ofNat ((k + 1))))] ⟨rfl, rfl, rfl, rfl, rfl, rfl, rfl, rfl, rfl, trivial⟩ rfl ?_
          exact scLp d nn q A X U f hnn hq gX gU gXU r m (k + 1) bad t1 G N2 W1 c s (by omega) hk1 hS1 hX1 hT1 hU1 hJ (by omega) (by omega) (Or.inr hb8) (fun W9 c9 s9 t9 b9 G9 k1 k2 k3 k4 k5 k6 k7 k8 => K W9 c9 s9 t9 b9 G9 (by omega) (by omega) k3 k4 k5 (fun z => by omega) k7 (F1.tr k8))
