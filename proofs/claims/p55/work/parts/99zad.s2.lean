/-! the law's script: one clause is done -/
theorem scP0 (d c s nn q A X U k n : Nat) (f : Nat → Int32) (hnn : nn < 2147483648) (hq : q < 2) (gU : 17 ≤ U) (hk8 : k < 8) (N2 : Nat) (G : Nat → Nat) (hJ : lw_J N2 G) (hN2 : N2 + 400 < 1000000) (h4 : G 4 ≤ 61) (W0 : xi_W) (hS : W0[16]? = some (lw_s nn f)) (hU : W0[U]? = some (lw_a 1804 G)) (r : xi_R → Prop) (ew : sw nn f k = 0) (K0 : scB nn f k G = 1 → ∀ W' c' s', c' ≤ c + 160 → s' ≤ s + 1088 → W'[U]? = some (lw_a 1804 G) → fr (fun i => i = U) W0 W' → xr (d + 13) 203 379 [(0, .ref 17), (1, .ref 16), (2, .int (Int32.ofNat q)), (3, .ref A), (4, .ref X), (5, .int (Int32.ofNat n)), (6, .int (Int32.ofNat k)), (7, .ref U), (8, .int (Int32.ofNat k))] [] W' c' s' r) (K1 : scB nn f k G ≠ 1 → ∀ W' c' s', c' ≤ c + 160 → s' ≤ s + 1088 → W'[U]? = some (lw_a 1804 (scG nn f q k G)) → fr (fun i => i = U) W0 W' → xr (d + 13) 203 379 [(0, .ref 17), (1, .ref 16), (2, .int (Int32.ofNat q)), (3, .ref A), (4, .ref X), (5, .int (Int32.ofNat n)), (6, .int (Int32.ofNat 4294967295)), (7, .ref U), (8, .int (Int32.ofNat k))] [] W' c' s' r) : xr (d + 13) 203 234 [(0, .ref 17), (1, .ref 16), (2, .int (Int32.ofNat q)), (3, .ref A), (4, .ref X), (5, .int (Int32.ofNat n)), (6, .int (Int32.ofNat 4294967295)), (7, .ref U), (8, .int (Int32.ofNat k)), (10, .int (Int32.ofNat 0)), (11, .int (Int32.ofNat ((sa nn f k)))), (12, .int (Int32.ofNat ((sb nn f k)))), (13, .int (Int32.ofNat ((sf nn f k))))] [] W0 c s r := by
  obtain ⟨q1, q2, q3, q4⟩ := swb nn f k
  have hok := hJ.ok (show N2 < 1000000 by omega)
  have hB : scB nn f k G ≠ 1 := by unfold scB; rw [if_neg (by omega), if_neg (by omega), if_neg (by omega)]; omega
  have hG : scG nn f q k G = lw_se G (sa nn f k) (sb nn f k) (sf nn f k) 50 := by unfold scG; rw [if_pos ew]
  refine xr_stp (st' := .int (Int32.ofNat 0) :: _) rfl rfl rfl rfl ?_
  refine xr_stp rfl rfl rfl rfl ?_
  refine xr_stp rfl rfl rfl rfl ?_
  refine xr_j1 rfl rfl rfl rfl rfl (fun h239 => ?_) (fun h239 => ?_)
  · have z239 := nt1_ne h239
    exact (by omega)
  · refine xr_stp rfl rfl rfl rfl ?_
    refine xr_stp rfl rfl rfl rfl ?_
    refine xr_stp rfl rfl rfl rfl ?_
    refine xr_stp rfl rfl rfl rfl ?_
    refine xr_stp (st' := .int (Int32.ofNat 50) :: _) rfl rfl rfl rfl ?_
    refine xr_cps rfl rfl rfl (fun r1 K2 => lw_sets _ _ _ U W0 G hU gU hok (sa nn f k) (sb nn f k) (sf nn f k) 50 q2 q3 q4 (by omega) r1 (fun W1 hU1 hf1 => K2 _ _ _ _ ?_))
    have hnx := lw_nxle G (sa nn f k) (G 4) 0 1
    refine xr_stp rfl rfl rfl rfl ?_
    refine xr_stp rfl rfl rfl rfl ?_
    refine xr_stp rfl rfl rfl rfl ?_
    refine xr_j1 rfl rfl rfl rfl rfl (fun h367 => ?_) (fun h367 => ?_)
    · refine xr_stp rfl rfl rfl rfl ?_
      refine xr_stp rfl rfl rfl rfl ?_
      refine xr_loc [(0, .ref 17), (1, .ref 16), (2, .int (Int32.ofNat q)), (3, .ref A), (4, .ref X), (5, .int (Int32.ofNat n)), (6, .int (Int32.ofNat 4294967295)), (7, .ref U), (8, .int (Int32.ofNat k))] ⟨rfl, rfl, rfl, rfl, rfl, rfl, rfl, rfl, rfl, trivial⟩ rfl ?_
      exact K1 hB W1 _ _ (by omega) (by omega) (by rw [hG]; exact hU1) hf1
    · exact (n_ge0 (by omega) h367).elim
theorem scP1 (d c s nn q A X U k n : Nat) (f : Nat → Int32) (hnn : nn < 2147483648) (hq : q < 2) (gU : 17 ≤ U) (hk8 : k < 8) (N2 : Nat) (G : Nat → Nat) (hJ : lw_J N2 G) (hN2 : N2 + 400 < 1000000) (h4 : G 4 ≤ 61) (W0 : xi_W) (hS : W0[16]? = some (lw_s nn f)) (hU : W0[U]? = some (lw_a 1804 G)) (r : xi_R → Prop) (ew : sw nn f k = 1) (K0 : scB nn f k G = 1 → ∀ W' c' s', c' ≤ c + 160 → s' ≤ s + 1088 → W'[U]? = some (lw_a 1804 G) → fr (fun i => i = U) W0 W' → xr (d + 13) 203 379 [(0, .ref 17), (1, .ref 16), (2, .int (Int32.ofNat q)), (3, .ref A), (4, .ref X), (5, .int (Int32.ofNat n)), (6, .int (Int32.ofNat k)), (7, .ref U), (8, .int (Int32.ofNat k))] [] W' c' s' r) (K1 : scB nn f k G ≠ 1 → ∀ W' c' s', c' ≤ c + 160 → s' ≤ s + 1088 → W'[U]? = some (lw_a 1804 (scG nn f q k G)) → fr (fun i => i = U) W0 W' → xr (d + 13) 203 379 [(0, .ref 17), (1, .ref 16), (2, .int (Int32.ofNat q)), (3, .ref A), (4, .ref X), (5, .int (Int32.ofNat n)), (6, .int (Int32.ofNat 4294967295)), (7, .ref U), (8, .int (Int32.ofNat k))] [] W' c' s' r) : xr (d + 13) 203 234 [(0, .ref 17), (1, .ref 16), (2, .int (Int32.ofNat q)), (3, .ref A), (4, .ref X), (5, .int (Int32.ofNat n)), (6, .int (Int32.ofNat 4294967295)), (7, .ref U), (8, .int (Int32.ofNat k)), (10, .int (Int32.ofNat 1)), (11, .int (Int32.ofNat ((sa nn f k)))), (12, .int (Int32.ofNat ((sb nn f k)))), (13, .int (Int32.ofNat ((sf nn f k))))] [] W0 c s r := by
  obtain ⟨q1, q2, q3, q4⟩ := swb nn f k
  have hok := hJ.ok (show N2 < 1000000 by omega)
  have hbc := bcle 63 (lw_cx G (sa nn f k) (sb nn f k) (sf nn f k))
  have hG : scG nn f q k G = lw_cl G (sa nn f k) (sb nn f k) (sf nn f k) := by unfold scG; rw [if_neg (by omega), if_pos ew]
  by_cases h0 : lw_cx G (sa nn f k) (sb nn f k) (sf nn f k) = 0
  · have hB : scB nn f k G = 1 := by unfold scB; rw [if_pos ew, if_pos h0]
    refine xr_stp (st' := .int (Int32.ofNat 0) :: _) rfl rfl rfl rfl ?_
    refine xr_stp rfl rfl rfl rfl ?_
    refine xr_stp rfl rfl rfl rfl ?_
    refine xr_j1 rfl rfl rfl rfl rfl (fun h239 => ?_) (fun h239 => ?_)
    · refine xr_stp rfl rfl rfl rfl ?_
      refine xr_stp (st' := .int (Int32.ofNat 1) :: _) rfl rfl rfl rfl ?_
      refine xr_j2 rfl rfl rfl rfl rfl (fun h263 => ?_) (fun h263 => ?_)
      · have z263 := nt_ne h263
        exact (by omega)
      · refine xr_stp rfl rfl rfl rfl ?_
        refine xr_stp rfl rfl rfl rfl ?_
        refine xr_stp rfl rfl rfl rfl ?_
        refine xr_stp rfl rfl rfl rfl ?_
        refine xr_cps rfl rfl rfl (fun r1 K2 => lw_clears0 _ _ _ U W0 G hU gU hok (sa nn f k) (sb nn f k) (sf nn f k) q2 q3 (Or.inl q4) h0 r1 (K2 _ _ _ _ ?_))
        refine xr_stp rfl rfl rfl rfl ?_
        refine xr_stp rfl rfl rfl rfl ?_
        refine xr_stp rfl rfl rfl rfl ?_
        refine xr_j1 rfl rfl rfl rfl rfl (fun h367 => ?_) (fun h367 => ?_)
        · exact absurd h367 (by decide)
        · refine xr_stp rfl rfl rfl rfl ?_
          refine xr_stp rfl rfl rfl rfl ?_
          refine xr_stp rfl rfl rfl rfl ?_
          refine xr_loc [(0, .ref 17), (1, .ref 16), (2, .int (Int32.ofNat q)), (3, .ref A), (4, .ref X), (5, .int (Int32.ofNat n)), (6, .int (Int32.ofNat k)), (7, .ref U), (8, .int (Int32.ofNat k))] ⟨rfl, rfl, rfl, rfl, rfl, rfl, rfl, rfl, rfl, trivial⟩ rfl ?_
          exact K0 hB W0 _ _ (by omega) (by omega) hU fr.rf
    · have z239 := nf1_ne (by omega) h239
      exact (by omega)
  · have hB : scB nn f k G ≠ 1 := by unfold scB; rw [if_pos ew, if_neg h0]; omega
    refine xr_stp (st' := .int (Int32.ofNat 0) :: _) rfl rfl rfl rfl ?_
    refine xr_stp rfl rfl rfl rfl ?_
    refine xr_stp rfl rfl rfl rfl ?_
    refine xr_j1 rfl rfl rfl rfl rfl (fun h239 => ?_) (fun h239 => ?_)
    · refine xr_stp rfl rfl rfl rfl ?_
      refine xr_stp (st' := .int (Int32.ofNat 1) :: _) rfl rfl rfl rfl ?_
      refine xr_j2 rfl rfl rfl rfl rfl (fun h263 => ?_) (fun h263 => ?_)
      · have z263 := nt_ne h263
        exact (by omega)
      · refine xr_stp rfl rfl rfl rfl ?_
        refine xr_stp rfl rfl rfl rfl ?_
        refine xr_stp rfl rfl rfl rfl ?_
        refine xr_stp rfl rfl rfl rfl ?_
        refine xr_cps rfl rfl rfl (fun r1 K2 => lw_clears _ _ _ U W0 G hU gU hok (sa nn f k) (sb nn f k) (sf nn f k) q2 q3 (Or.inl q4) h0 r1 (fun W1 hU1 hf1 => K2 _ _ _ _ ?_))
        refine xr_stp rfl rfl rfl rfl ?_
        refine xr_stp rfl rfl rfl rfl ?_
        refine xr_stp rfl rfl rfl rfl ?_
        refine xr_j1 rfl rfl rfl rfl rfl (fun h367 => ?_) (fun h367 => ?_)
        · refine xr_stp rfl rfl rfl rfl ?_
          refine xr_stp rfl rfl rfl rfl ?_
          refine xr_loc [(0, .ref 17), (1, .ref 16), (2, .int (Int32.ofNat q)), (3, .ref A), (4, .ref X), (5, .int (Int32.ofNat n)), (6, .int (Int32.ofNat 4294967295)), (7, .ref U), (8, .int (Int32.ofNat k))] ⟨rfl, rfl, rfl, rfl, rfl, rfl, rfl, rfl, rfl, trivial⟩ rfl ?_
          exact K1 hB W1 _ _ (by omega) (by omega) (by rw [hG]; exact hU1) hf1
        · exact (n_ge0 (by omega) h367).elim
    · have z239 := nf1_ne (by omega) h239
      exact (by omega)
theorem scP2 (d c s nn q A X U k n : Nat) (f : Nat → Int32) (hnn : nn < 2147483648) (hq : q < 2) (gU : 17 ≤ U) (hk8 : k < 8) (N2 : Nat) (G : Nat → Nat) (hJ : lw_J N2 G) (hN2 : N2 + 400 < 1000000) (h4 : G 4 ≤ 61) (W0 : xi_W) (hS : W0[16]? = some (lw_s nn f)) (hU : W0[U]? = some (lw_a 1804 G)) (r : xi_R → Prop) (ew : sw nn f k = 2) (K0 : scB nn f k G = 1 → ∀ W' c' s', c' ≤ c + 160 → s' ≤ s + 1088 → W'[U]? = some (lw_a 1804 G) → fr (fun i => i = U) W0 W' → xr (d + 13) 203 379 [(0, .ref 17), (1, .ref 16), (2, .int (Int32.ofNat q)), (3, .ref A), (4, .ref X), (5, .int (Int32.ofNat n)), (6, .int (Int32.ofNat k)), (7, .ref U), (8, .int (Int32.ofNat k))] [] W' c' s' r) (K1 : scB nn f k G ≠ 1 → ∀ W' c' s', c' ≤ c + 160 → s' ≤ s + 1088 → W'[U]? = some (lw_a 1804 (scG nn f q k G)) → fr (fun i => i = U) W0 W' → xr (d + 13) 203 379 [(0, .ref 17), (1, .ref 16), (2, .int (Int32.ofNat q)), (3, .ref A), (4, .ref X), (5, .int (Int32.ofNat n)), (6, .int (Int32.ofNat 4294967295)), (7, .ref U), (8, .int (Int32.ofNat k))] [] W' c' s' r) : xr (d + 13) 203 234 [(0, .ref 17), (1, .ref 16), (2, .int (Int32.ofNat q)), (3, .ref A), (4, .ref X), (5, .int (Int32.ofNat n)), (6, .int (Int32.ofNat 4294967295)), (7, .ref U), (8, .int (Int32.ofNat k)), (10, .int (Int32.ofNat 2)), (11, .int (Int32.ofNat ((sa nn f k)))), (12, .int (Int32.ofNat ((sb nn f k)))), (13, .int (Int32.ofNat ((sf nn f k))))] [] W0 c s r := by
  obtain ⟨q1, q2, q3, q4⟩ := swb nn f k
  have hok := hJ.ok (show N2 < 1000000 by omega)
  have hbc := bcle 63 (lw_cx G (sa nn f k) (sb nn f k) 4294967295)
  have hG : scG nn f q k G = lw_cl G (sa nn f k) (sb nn f k) 4294967295 := by unfold scG; rw [if_neg (by omega), if_neg (by omega), if_pos ew]
  by_cases h0 : lw_cx G (sa nn f k) (sb nn f k) 4294967295 = 0
  · have hB : scB nn f k G = 1 := by unfold scB; rw [if_neg (by omega), if_pos ew, if_pos h0]
    refine xr_stp (st' := .int (Int32.ofNat 0) :: _) rfl rfl rfl rfl ?_
    refine xr_stp rfl rfl rfl rfl ?_
    refine xr_stp rfl rfl rfl rfl ?_
    refine xr_j1 rfl rfl rfl rfl rfl (fun h239 => ?_) (fun h239 => ?_)
    · refine xr_stp rfl rfl rfl rfl ?_
      refine xr_stp (st' := .int (Int32.ofNat 1) :: _) rfl rfl rfl rfl ?_
      refine xr_j2 rfl rfl rfl rfl rfl (fun h263 => ?_) (fun h263 => ?_)
      · refine xr_stp rfl rfl rfl rfl ?_
        refine xr_stp (st' := .int (Int32.ofNat 2) :: _) rfl rfl rfl rfl ?_
        refine xr_j2 rfl rfl rfl rfl rfl (fun h285 => ?_) (fun h285 => ?_)
        · have z285 := nt_ne h285
          exact (by omega)
        · refine xr_stp rfl rfl rfl rfl ?_
          refine xr_stp rfl rfl rfl rfl ?_
          refine xr_stp rfl rfl rfl rfl ?_
          refine xr_stp (st' := .int (Int32.ofNat 4294967295) :: _) rfl rfl rfl rfl ?_
          refine xr_cps rfl rfl rfl (fun r1 K2 => lw_clears0 _ _ _ U W0 G hU gU hok (sa nn f k) (sb nn f k) 4294967295 q2 q3 (Or.inr rfl) h0 r1 (K2 _ _ _ _ ?_))
          refine xr_stp rfl rfl rfl rfl ?_
          refine xr_stp rfl rfl rfl rfl ?_
          refine xr_stp rfl rfl rfl rfl ?_
          refine xr_j1 rfl rfl rfl rfl rfl (fun h367 => ?_) (fun h367 => ?_)
          · exact absurd h367 (by decide)
          · refine xr_stp rfl rfl rfl rfl ?_
            refine xr_stp rfl rfl rfl rfl ?_
            refine xr_stp rfl rfl rfl rfl ?_
            refine xr_loc [(0, .ref 17), (1, .ref 16), (2, .int (Int32.ofNat q)), (3, .ref A), (4, .ref X), (5, .int (Int32.ofNat n)), (6, .int (Int32.ofNat k)), (7, .ref U), (8, .int (Int32.ofNat k))] ⟨rfl, rfl, rfl, rfl, rfl, rfl, rfl, rfl, rfl, trivial⟩ rfl ?_
            exact K0 hB W0 _ _ (by omega) (by omega) hU fr.rf
      · have z263 := nf_ne (by omega) (by omega) h263
        exact (by omega)
    · have z239 := nf1_ne (by omega) h239
      exact (by omega)
  · have hB : scB nn f k G ≠ 1 := by unfold scB; rw [if_neg (by omega), if_pos ew, if_neg h0]; omega
    refine xr_stp (st' := .int (Int32.ofNat 0) :: _) rfl rfl rfl rfl ?_
    refine xr_stp rfl rfl rfl rfl ?_
    refine xr_stp rfl rfl rfl rfl ?_
    refine xr_j1 rfl rfl rfl rfl rfl (fun h239 => ?_) (fun h239 => ?_)
    · refine xr_stp rfl rfl rfl rfl ?_
      refine xr_stp (st' := .int (Int32.ofNat 1) :: _) rfl rfl rfl rfl ?_
      refine xr_j2 rfl rfl rfl rfl rfl (fun h263 => ?_) (fun h263 => ?_)
      · refine xr_stp rfl rfl rfl rfl ?_
        refine xr_stp (st' := .int (Int32.ofNat 2) :: _) rfl rfl rfl rfl ?_
        refine xr_j2 rfl rfl rfl rfl rfl (fun h285 => ?_) (fun h285 => ?_)
        · have z285 := nt_ne h285
          exact (by omega)
        · refine xr_stp rfl rfl rfl rfl ?_
          refine xr_stp rfl rfl rfl rfl ?_
          refine xr_stp rfl rfl rfl rfl ?_
          refine xr_stp (st' := .int (Int32.ofNat 4294967295) :: _) rfl rfl rfl rfl ?_
          refine xr_cps rfl rfl rfl (fun r1 K2 => lw_clears _ _ _ U W0 G hU gU hok (sa nn f k) (sb nn f k) 4294967295 q2 q3 (Or.inr rfl) h0 r1 (fun W1 hU1 hf1 => K2 _ _ _ _ ?_))
          refine xr_stp rfl rfl rfl rfl ?_
          refine xr_stp rfl rfl rfl rfl ?_
          refine xr_stp rfl rfl rfl rfl ?_
          refine xr_j1 rfl rfl rfl rfl rfl (fun h367 => ?_) (fun h367 => ?_)
          · refine xr_stp rfl rfl rfl rfl ?_
            refine xr_stp rfl rfl rfl rfl ?_
            refine xr_loc [(0, .ref 17), (1, .ref 16), (2, .int (Int32.ofNat q)), (3, .ref A), (4, .ref X), (5, .int (Int32.ofNat n)), (6, .int (Int32.ofNat 4294967295)), (7, .ref U), (8, .int (Int32.ofNat k))] ⟨rfl, rfl, rfl, rfl, rfl, rfl, rfl, rfl, rfl, trivial⟩ rfl ?_
            exact K1 hB W1 _ _ (by omega) (by omega) (by rw [hG]; exact hU1) hf1
          · exact (n_ge0 (by omega) h367).elim
      · have z263 := nf_ne (by omega) (by omega) h263
        exact (by omega)
    · have z239 := nf1_ne (by omega) h239
      exact (by omega)
theorem scP3 (d c s nn q A X U k n : Nat) (f : Nat → Int32) (hnn : nn < 2147483648) (hq : q < 2) (gU : 17 ≤ U) (hk8 : k < 8) (N2 : Nat) (G : Nat → Nat) (hJ : lw_J N2 G) (hN2 : N2 + 400 < 1000000) (h4 : G 4 ≤ 61) (W0 : xi_W) (hS : W0[16]? = some (lw_s nn f)) (hU : W0[U]? = some (lw_a 1804 G)) (r : xi_R → Prop) (ew : sw nn f k = 3) (K0 : scB nn f k G = 1 → ∀ W' c' s', c' ≤ c + 160 → s' ≤ s + 1088 → W'[U]? = some (lw_a 1804 G) → fr (fun i => i = U) W0 W' → xr (d + 13) 203 379 [(0, .ref 17), (1, .ref 16), (2, .int (Int32.ofNat q)), (3, .ref A), (4, .ref X), (5, .int (Int32.ofNat n)), (6, .int (Int32.ofNat k)), (7, .ref U), (8, .int (Int32.ofNat k))] [] W' c' s' r) (K1 : scB nn f k G ≠ 1 → ∀ W' c' s', c' ≤ c + 160 → s' ≤ s + 1088 → W'[U]? = some (lw_a 1804 (scG nn f q k G)) → fr (fun i => i = U) W0 W' → xr (d + 13) 203 379 [(0, .ref 17), (1, .ref 16), (2, .int (Int32.ofNat q)), (3, .ref A), (4, .ref X), (5, .int (Int32.ofNat n)), (6, .int (Int32.ofNat 4294967295)), (7, .ref U), (8, .int (Int32.ofNat k))] [] W' c' s' r) : xr (d + 13) 203 234 [(0, .ref 17), (1, .ref 16), (2, .int (Int32.ofNat q)), (3, .ref A), (4, .ref X), (5, .int (Int32.ofNat n)), (6, .int (Int32.ofNat 4294967295)), (7, .ref U), (8, .int (Int32.ofNat k)), (10, .int (Int32.ofNat 3)), (11, .int (Int32.ofNat ((sa nn f k)))), (12, .int (Int32.ofNat ((sb nn f k)))), (13, .int (Int32.ofNat ((sf nn f k))))] [] W0 c s r := by
  obtain ⟨q1, q2, q3, q4⟩ := swb nn f k
  have hok := hJ.ok (show N2 < 1000000 by omega)
  have hG : scG nn f q k G = lw_sn nn f G q (sb nn f k) (sa nn f k) := by unfold scG; rw [if_neg (by omega), if_neg (by omega), if_neg (by omega), if_pos ew]
  have hcn := (hJ.c _ q3).2.2
  have hx := hJ.x
  have hle := hJ.a _ _ q3 q2
  by_cases he : sa nn f k = sb nn f k
  · have hB : scB nn f k G = 1 := by unfold scB; rw [if_neg (by omega), if_neg (by omega), if_pos ew, if_pos (Or.inl he)]
    refine xr_stp (st' := .int (Int32.ofNat 0) :: _) rfl rfl rfl rfl ?_
    refine xr_stp rfl rfl rfl rfl ?_
    refine xr_stp rfl rfl rfl rfl ?_
    refine xr_j1 rfl rfl rfl rfl rfl (fun h239 => ?_) (fun h239 => ?_)
    · refine xr_stp rfl rfl rfl rfl ?_
      refine xr_stp (st' := .int (Int32.ofNat 1) :: _) rfl rfl rfl rfl ?_
      refine xr_j2 rfl rfl rfl rfl rfl (fun h263 => ?_) (fun h263 => ?_)
      · refine xr_stp rfl rfl rfl rfl ?_
        refine xr_stp (st' := .int (Int32.ofNat 2) :: _) rfl rfl rfl rfl ?_
        refine xr_j2 rfl rfl rfl rfl rfl (fun h285 => ?_) (fun h285 => ?_)
        · refine xr_stp rfl rfl rfl rfl ?_
          refine xr_stp (st' := .int (Int32.ofNat 3) :: _) rfl rfl rfl rfl ?_
          refine xr_j2 rfl rfl rfl rfl rfl (fun h306 => ?_) (fun h306 => ?_)
          · have z306 := nt_ne h306
            exact (by omega)
          · refine xr_stp rfl rfl rfl rfl ?_
            refine xr_stp rfl rfl rfl rfl ?_
            refine xr_j2 rfl rfl rfl rfl rfl (fun h313 => ?_) (fun h313 => ?_)
            · have z313 := nt_ne h313
              exact (by omega)
            · refine xr_stp (st' := .int (Int32.ofNat 4294967295) :: _) rfl rfl rfl rfl ?_
              refine xr_stp rfl rfl rfl rfl ?_
              refine xr_stp rfl rfl rfl rfl ?_
              refine xr_stp rfl rfl rfl rfl ?_
              refine xr_stp rfl rfl rfl rfl ?_
              refine xr_j1 rfl rfl rfl rfl rfl (fun h367 => ?_) (fun h367 => ?_)
              · exact absurd h367 (by decide)
              · refine xr_stp rfl rfl rfl rfl ?_
                refine xr_stp rfl rfl rfl rfl ?_
                refine xr_stp rfl rfl rfl rfl ?_
                refine xr_loc [(0, .ref 17), (1, .ref 16), (2, .int (Int32.ofNat q)), (3, .ref A), (4, .ref X), (5, .int (Int32.ofNat n)), (6, .int (Int32.ofNat k)), (7, .ref U), (8, .int (Int32.ofNat k))] ⟨rfl, rfl, rfl, rfl, rfl, rfl, rfl, rfl, rfl, trivial⟩ rfl ?_
                exact K0 hB W0 _ _ (by omega) (by omega) hU fr.rf
        · have z285 := nf_ne (by omega) (by omega) h285
          exact (by omega)
      · have z263 := nf_ne (by omega) (by omega) h263
        exact (by omega)
    · have z239 := nf1_ne (by omega) h239
      exact (by omega)
  · by_cases h0 : lw_be G (sb nn f k) (sa nn f k) = 0
    · have hB : scB nn f k G = 1 := by unfold scB; rw [if_neg (by omega), if_neg (by omega), if_pos ew, if_pos (Or.inr h0)]
      refine xr_stp (st' := .int (Int32.ofNat 0) :: _) rfl rfl rfl rfl ?_
      refine xr_stp rfl rfl rfl rfl ?_
      refine xr_stp rfl rfl rfl rfl ?_
      refine xr_j1 rfl rfl rfl rfl rfl (fun h239 => ?_) (fun h239 => ?_)
      · refine xr_stp rfl rfl rfl rfl ?_
        refine xr_stp (st' := .int (Int32.ofNat 1) :: _) rfl rfl rfl rfl ?_
        refine xr_j2 rfl rfl rfl rfl rfl (fun h263 => ?_) (fun h263 => ?_)
        · refine xr_stp rfl rfl rfl rfl ?_
          refine xr_stp (st' := .int (Int32.ofNat 2) :: _) rfl rfl rfl rfl ?_
          refine xr_j2 rfl rfl rfl rfl rfl (fun h285 => ?_) (fun h285 => ?_)
          · refine xr_stp rfl rfl rfl rfl ?_
            refine xr_stp (st' := .int (Int32.ofNat 3) :: _) rfl rfl rfl rfl ?_
            refine xr_j2 rfl rfl rfl rfl rfl (fun h306 => ?_) (fun h306 => ?_)
            · have z306 := nt_ne h306
              exact (by omega)
            · refine xr_stp rfl rfl rfl rfl ?_
              refine xr_stp rfl rfl rfl rfl ?_
              refine xr_j2 rfl rfl rfl rfl rfl (fun h313 => ?_) (fun h313 => ?_)
              · refine xr_stp rfl rfl rfl rfl ?_
                refine xr_stp rfl rfl rfl rfl ?_
                refine xr_stp rfl rfl rfl rfl ?_
                refine xr_stp rfl rfl rfl rfl ?_
                refine xr_stp rfl rfl rfl rfl ?_
                refine xr_cps rfl rfl rfl (fun r1 K2 => lw_sends0 _ _ _ U 16 nn W0 G f hU gU hS hnn (by omega) q (sb nn f k) (sa nn f k) q3 q2 (hJ.a _ _ q3 q2) h0 r1 (fun W1 hU1 hf1 => K2 _ _ _ _ ?_))
                refine xr_stp rfl rfl rfl rfl ?_
                refine xr_stp rfl rfl rfl rfl ?_
                refine xr_stp rfl rfl rfl rfl ?_
                refine xr_j1 rfl rfl rfl rfl rfl (fun h367 => ?_) (fun h367 => ?_)
                · exact absurd h367 (by decide)
                · refine xr_stp rfl rfl rfl rfl ?_
                  refine xr_stp rfl rfl rfl rfl ?_
                  refine xr_stp rfl rfl rfl rfl ?_
                  refine xr_loc [(0, .ref 17), (1, .ref 16), (2, .int (Int32.ofNat q)), (3, .ref A), (4, .ref X), (5, .int (Int32.ofNat n)), (6, .int (Int32.ofNat k)), (7, .ref U), (8, .int (Int32.ofNat k))] ⟨rfl, rfl, rfl, rfl, rfl, rfl, rfl, rfl, rfl, trivial⟩ rfl ?_
                  exact K0 hB W1 _ _ (by omega) (by omega) hU1 hf1
              · have z313 := nf_ne (by omega) (by omega) h313
                exact (by omega)
          · have z285 := nf_ne (by omega) (by omega) h285
            exact (by omega)
        · have z263 := nf_ne (by omega) (by omega) h263
          exact (by omega)
      · have z239 := nf1_ne (by omega) h239
        exact (by omega)
    · have hB : scB nn f k G ≠ 1 := by unfold scB; rw [if_neg (by omega), if_neg (by omega), if_pos ew, if_neg (fun z => z.elim he h0)]; omega
      refine xr_stp (st' := .int (Int32.ofNat 0) :: _) rfl rfl rfl rfl ?_
      refine xr_stp rfl rfl rfl rfl ?_
      refine xr_stp rfl rfl rfl rfl ?_
      refine xr_j1 rfl rfl rfl rfl rfl (fun h239 => ?_) (fun h239 => ?_)
      · refine xr_stp rfl rfl rfl rfl ?_
        refine xr_stp (st' := .int (Int32.ofNat 1) :: _) rfl rfl rfl rfl ?_
        refine xr_j2 rfl rfl rfl rfl rfl (fun h263 => ?_) (fun h263 => ?_)
        · refine xr_stp rfl rfl rfl rfl ?_
          refine xr_stp (st' := .int (Int32.ofNat 2) :: _) rfl rfl rfl rfl ?_
          refine xr_j2 rfl rfl rfl rfl rfl (fun h285 => ?_) (fun h285 => ?_)
          · refine xr_stp rfl rfl rfl rfl ?_
            refine xr_stp (st' := .int (Int32.ofNat 3) :: _) rfl rfl rfl rfl ?_
            refine xr_j2 rfl rfl rfl rfl rfl (fun h306 => ?_) (fun h306 => ?_)
            · have z306 := nt_ne h306
              exact (by omega)
            · refine xr_stp rfl rfl rfl rfl ?_
              refine xr_stp rfl rfl rfl rfl ?_
              refine xr_j2 rfl rfl rfl rfl rfl (fun h313 => ?_) (fun h313 => ?_)
              · refine xr_stp rfl rfl rfl rfl ?_
                refine xr_stp rfl rfl rfl rfl ?_
                refine xr_stp rfl rfl rfl rfl ?_
                refine xr_stp rfl rfl rfl rfl ?_
                refine xr_stp rfl rfl rfl rfl ?_
                refine xr_cps rfl rfl rfl (fun r1 K2 => lw_sends _ _ _ U 16 nn W0 G f hU gU hS hnn (by omega) hJ.b63 q (sb nn f k) (sa nn f k) hq q3 q2 (hJ.a _ _ q3 q2) (hJ.c _ q3).2.1 (by omega) h0 (by omega) hJ.m hJ.k r1 (fun W1 c1 s1 kc1 ks1 hU1 hf1 => K2 _ _ _ _ ?_))
                refine xr_stp rfl rfl rfl rfl ?_
                refine xr_stp rfl rfl rfl rfl ?_
                refine xr_stp rfl rfl rfl rfl ?_
                refine xr_j1 rfl rfl rfl rfl rfl (fun h367 => ?_) (fun h367 => ?_)
                · refine xr_stp rfl rfl rfl rfl ?_
                  refine xr_stp rfl rfl rfl rfl ?_
                  refine xr_loc [(0, .ref 17), (1, .ref 16), (2, .int (Int32.ofNat q)), (3, .ref A), (4, .ref X), (5, .int (Int32.ofNat n)), (6, .int (Int32.ofNat 4294967295)), (7, .ref U), (8, .int (Int32.ofNat k))] ⟨rfl, rfl, rfl, rfl, rfl, rfl, rfl, rfl, rfl, trivial⟩ rfl ?_
                  exact K1 hB W1 _ _ (by omega) (by omega) (by rw [hG]; exact hU1) hf1
                · exact (n_ge0 (by omega) h367).elim
              · have z313 := nf_ne (by omega) (by omega) h313
                exact (by omega)
          · have z285 := nf_ne (by omega) (by omega) h285
            exact (by omega)
        · have z263 := nf_ne (by omega) (by omega) h263
          exact (by omega)
      · have z239 := nf1_ne (by omega) h239
        exact (by omega)
theorem scP4 (d c s nn q A X U k n : Nat) (f : Nat → Int32) (hnn : nn < 2147483648) (hq : q < 2) (gU : 17 ≤ U) (hk8 : k < 8) (N2 : Nat) (G : Nat → Nat) (hJ : lw_J N2 G) (hN2 : N2 + 400 < 1000000) (h4 : G 4 ≤ 61) (W0 : xi_W) (hS : W0[16]? = some (lw_s nn f)) (hU : W0[U]? = some (lw_a 1804 G)) (r : xi_R → Prop) (ew : sw nn f k = 4) (K0 : scB nn f k G = 1 → ∀ W' c' s', c' ≤ c + 160 → s' ≤ s + 1088 → W'[U]? = some (lw_a 1804 G) → fr (fun i => i = U) W0 W' → xr (d + 13) 203 379 [(0, .ref 17), (1, .ref 16), (2, .int (Int32.ofNat q)), (3, .ref A), (4, .ref X), (5, .int (Int32.ofNat n)), (6, .int (Int32.ofNat k)), (7, .ref U), (8, .int (Int32.ofNat k))] [] W' c' s' r) (K1 : scB nn f k G ≠ 1 → ∀ W' c' s', c' ≤ c + 160 → s' ≤ s + 1088 → W'[U]? = some (lw_a 1804 (scG nn f q k G)) → fr (fun i => i = U) W0 W' → xr (d + 13) 203 379 [(0, .ref 17), (1, .ref 16), (2, .int (Int32.ofNat q)), (3, .ref A), (4, .ref X), (5, .int (Int32.ofNat n)), (6, .int (Int32.ofNat 4294967295)), (7, .ref U), (8, .int (Int32.ofNat k))] [] W' c' s' r) : xr (d + 13) 203 234 [(0, .ref 17), (1, .ref 16), (2, .int (Int32.ofNat q)), (3, .ref A), (4, .ref X), (5, .int (Int32.ofNat n)), (6, .int (Int32.ofNat 4294967295)), (7, .ref U), (8, .int (Int32.ofNat k)), (10, .int (Int32.ofNat 4)), (11, .int (Int32.ofNat ((sa nn f k)))), (12, .int (Int32.ofNat ((sb nn f k)))), (13, .int (Int32.ofNat ((sf nn f k))))] [] W0 c s r := by
  obtain ⟨q1, q2, q3, q4⟩ := swb nn f k
  have hok := hJ.ok (show N2 < 1000000 by omega)
  have hB : scB nn f k G ≠ 1 := by unfold scB; rw [if_neg (by omega), if_neg (by omega), if_neg (by omega)]; omega
  have hG : scG nn f q k G = tk_ nn f q 2 G := by unfold scG; rw [if_neg (by omega), if_neg (by omega), if_neg (by omega), if_neg (by omega)]
  have hJ1 := hJ.ti nn f q 24 (by omega)
  have hm1 := lw_mcl nn f q 24 (lw_t0 G)
  have hm2 := lw_mcl nn f q 24 (lw_t0 (lw_ti nn f q 24 G))
  refine xr_stp (st' := .int (Int32.ofNat 0) :: _) rfl rfl rfl rfl ?_
  refine xr_stp rfl rfl rfl rfl ?_
  refine xr_stp rfl rfl rfl rfl ?_
  refine xr_j1 rfl rfl rfl rfl rfl (fun h239 => ?_) (fun h239 => ?_)
  · refine xr_stp rfl rfl rfl rfl ?_
    refine xr_stp (st' := .int (Int32.ofNat 1) :: _) rfl rfl rfl rfl ?_
    refine xr_j2 rfl rfl rfl rfl rfl (fun h263 => ?_) (fun h263 => ?_)
    · refine xr_stp rfl rfl rfl rfl ?_
      refine xr_stp (st' := .int (Int32.ofNat 2) :: _) rfl rfl rfl rfl ?_
      refine xr_j2 rfl rfl rfl rfl rfl (fun h285 => ?_) (fun h285 => ?_)
      · refine xr_stp rfl rfl rfl rfl ?_
        refine xr_stp (st' := .int (Int32.ofNat 3) :: _) rfl rfl rfl rfl ?_
        refine xr_j2 rfl rfl rfl rfl rfl (fun h306 => ?_) (fun h306 => ?_)
        · refine xr_stp (st' := .int (Int32.ofNat 0) :: _) rfl rfl rfl rfl ?_
          refine xr_stp rfl rfl rfl rfl ?_
          refine xr_loc [(0, .ref 17), (1, .ref 16), (2, .int (Int32.ofNat q)), (3, .ref A), (4, .ref X), (5, .int (Int32.ofNat n)), (6, .int (Int32.ofNat 4294967295)), (7, .ref U), (8, .int (Int32.ofNat k)), (14, .int (Int32.ofNat 0)), (15, .int (Int32.ofNat 0))] ⟨rfl, rfl, rfl, rfl, rfl, rfl, rfl, rfl, rfl, rfl, rfl, trivial⟩ rfl ?_
          refine xr_stp rfl rfl rfl rfl ?_
          refine xr_stp (st' := .int (Int32.ofNat 2) :: _) rfl rfl rfl rfl ?_
          refine xr_j2 rfl rfl rfl rfl rfl (fun h342 => ?_) (fun h342 => ?_)
          · have z342 := nt_ge (by omega) (by omega) h342
            exact (by omega)
          · refine xr_stp rfl rfl rfl rfl ?_
            refine xr_stp rfl rfl rfl rfl ?_
            refine xr_stp rfl rfl rfl rfl ?_
            refine xr_stp rfl rfl rfl rfl ?_
            refine xr_cps rfl rfl rfl (fun r1 K2 => lw_tick _ U 16 nn f (by omega) hnn (by omega) q hq r1 24 _ _ _ G W0 hJ (by omega) (lw_me24 hJ nn f q (by omega)) hU hS (fun W1 c1 s1 kc1 ks1 hU1 hf1 => K2 _ _ _ _ ?_))
            refine xs_min (by omega) (by omega) rfl rfl rfl ?_
            rw [Nat.zero_min]
            refine xr_stp rfl rfl rfl rfl ?_
            refine xs_inc (e := 1) rfl rfl rfl rfl ?_
            refine xr_stp rfl rfl rfl rfl ?_
            refine xr_loc [(0, .ref 17), (1, .ref 16), (2, .int (Int32.ofNat q)), (3, .ref A), (4, .ref X), (5, .int (Int32.ofNat n)), (6, .int (Int32.ofNat 4294967295)), (7, .ref U), (8, .int (Int32.ofNat k)), (14, .int (Int32.ofNat 0)), (15, .int (Int32.ofNat 1))] ⟨rfl, rfl, rfl, rfl, rfl, rfl, rfl, rfl, rfl, rfl, rfl, trivial⟩ rfl ?_
            have hS1 := hf1.at hS (fun z => by have z : 16 = U := z; omega)
            refine xr_stp rfl rfl rfl rfl ?_
            refine xr_stp (st' := .int (Int32.ofNat 2) :: _) rfl rfl rfl rfl ?_
            refine xr_j2 rfl rfl rfl rfl rfl (fun h342 => ?_) (fun h342 => ?_)
            · have z342 := nt_ge (by omega) (by omega) h342
              exact (by omega)
            · refine xr_stp rfl rfl rfl rfl ?_
              refine xr_stp rfl rfl rfl rfl ?_
              refine xr_stp rfl rfl rfl rfl ?_
              refine xr_stp rfl rfl rfl rfl ?_
              refine xr_cps rfl rfl rfl (fun r1 K2 => lw_tick _ U 16 nn f (by omega) hnn (by omega) q hq r1 24 _ _ _ _ W1 hJ1 (by omega) (lw_me24 hJ1 nn f q (by omega)) hU1 hS1 (fun W2 c2 s2 kc2 ks2 hU2 hf2 => K2 _ _ _ _ ?_))
              refine xs_min (by omega) (by omega) rfl rfl rfl ?_
              rw [Nat.zero_min]
              refine xr_stp rfl rfl rfl rfl ?_
              refine xs_inc (e := 1) rfl rfl rfl rfl ?_
              refine xr_stp rfl rfl rfl rfl ?_
              refine xr_loc [(0, .ref 17), (1, .ref 16), (2, .int (Int32.ofNat q)), (3, .ref A), (4, .ref X), (5, .int (Int32.ofNat n)), (6, .int (Int32.ofNat 4294967295)), (7, .ref U), (8, .int (Int32.ofNat k)), (14, .int (Int32.ofNat 0)), (15, .int (Int32.ofNat 2))] ⟨rfl, rfl, rfl, rfl, rfl, rfl, rfl, rfl, rfl, rfl, rfl, trivial⟩ rfl ?_
              refine xr_stp rfl rfl rfl rfl ?_
              refine xr_stp (st' := .int (Int32.ofNat 2) :: _) rfl rfl rfl rfl ?_
              refine xr_j2 rfl rfl rfl rfl rfl (fun h342 => ?_) (fun h342 => ?_)
              · refine xr_stp rfl rfl rfl rfl ?_
                refine xr_j1 rfl rfl rfl rfl rfl (fun h367 => ?_) (fun h367 => ?_)
                · refine xr_stp rfl rfl rfl rfl ?_
                  refine xr_stp rfl rfl rfl rfl ?_
                  refine xr_loc [(0, .ref 17), (1, .ref 16), (2, .int (Int32.ofNat q)), (3, .ref A), (4, .ref X), (5, .int (Int32.ofNat n)), (6, .int (Int32.ofNat 4294967295)), (7, .ref U), (8, .int (Int32.ofNat k))] ⟨rfl, rfl, rfl, rfl, rfl, rfl, rfl, rfl, rfl, trivial⟩ rfl ?_
                  exact K1 hB W2 _ _ (by omega) (by omega) (by rw [hG]; exact hU2) (hf1.tr hf2)
                · exact (n_ge0 (by omega) h367).elim
              · have z342 := nf_ge (by omega) (by omega) h342
                exact (by omega)
        · have z306 := nf_ne (by omega) (by omega) h306
          exact (by omega)
      · have z285 := nf_ne (by omega) (by omega) h285
        exact (by omega)
    · have z263 := nf_ne (by omega) (by omega) h263
      exact (by omega)
  · have z239 := nf1_ne (by omega) h239
    exact (by omega)
