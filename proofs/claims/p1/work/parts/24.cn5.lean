/-! the class: what comes, ticks, draws of YEARS -/
def cn_h1 (F : Nat → Nat) : Nat → Nat := cn_mv F 28 53 1
def cn_h2 (F : Nat → Nat) : Nat → Nat := xn_u (cn_h1 F) 8 (cn_h1 F 8 - 1)
def cn_h3 (F : Nat → Nat) : Nat → Nat := cn_cp 6 (cn_h2 F) 5 0 (cn_h2 F 8 * 5)
def cn_h4 (F : Nat → Nat) : Nat → Nat := cn_mv (cn_h3 F) 29 28 (cn_h3 F 8)
/-- the first in flight is taken out and written down -/
def cn_h5 (F : Nat → Nat) : Nat → Nat := cn_wr (cn_h4 F) 4 (F (16 * 1 + 6)) (F (16 * 0 + 6))
def cn_h6 (F : Nat → Nat) (q : Nat) : Nat → Nat := cn_wz 4 (52 * 4) (cn_ab F q)
/-- the first in flight comes -/
def cn_ce (F : Nat → Nat) : Nat → Nat := if F (16 * 3 + 6) = 1 then cn_ak (cn_h5 F) (F (16 * 1 + 6)) (F (16 * 0 + 6)) (F (16 * 4 + 6)) else cn_po (cn_h6 (cn_h5 F) (F (16 * 1 + 6))) (F (16 * 1 + 6)) (F (16 * 0 + 6)) 1 (F (16 * 4 + 6))
theorem cn_h2a (F : Nat → Nat) : cn_h2 F 8 = F 8 - 1 := by
  unfold cn_h2 cn_h1; rw [xn_ue, cn_mvo _ _ _ _ (by omega)]
theorem cn_h3a (F : Nat → Nat) : cn_h3 F 8 = F 8 - 1 := by
  unfold cn_h3; rw [cn_cpn _ _ _ _ _ (by omega), cn_h2a]
theorem cn_h4a (F : Nat → Nat) : cn_h4 F 24 = F 24 := by
  unfold cn_h4 cn_h3 cn_h2 cn_h1
  rw [cn_mvo _ _ _ _ (by omega), cn_cpn _ _ _ _ _ (by omega), xn_un _ _ (by omega), cn_mvo _ _ _ _ (by omega)]
def cn_cek (F : Nat → Nat) : Prop := 0 < F 8 ∧ F 8 ≤ 24 ∧ F 24 ≤ 25 ∧ F (16 * 0 + 6) < 4 ∧ F (16 * 1 + 6) < 4 ∧ F (16 * 3 + 6) < 4294967296 ∧ F (16 * 4 + 6) < 2147483648 ∧
  (F (16 * 3 + 6) = 1 → cn_h5 F (16 * F (16 * 1 + 6) + 4) < 2147483648 ∧ cn_h5 F (16 * F (16 * 1 + 6) + 5) < 2147483648 ∧ (∀ k, k < 4 → cn_h5 F (16 * (F (16 * 1 + 6) * 4 + k) + 3) < 2147483648)) ∧
  (¬ F (16 * 3 + 6) = 1 → cn_lo (cn_b5 (cn_h5 F) (F (16 * 1 + 6))) 54 ∧ cn_lo (cn_b5 (cn_h5 F) (F (16 * 1 + 6))) (F (16 * 1 + 6)) ∧ cn_h5 F (16 * F (16 * 1 + 6) + 4) < 1000000 ∧ cn_h5 F (16 * F (16 * 1 + 6) + 5) < 1000000 ∧ cn_pok (cn_h6 (cn_h5 F) (F (16 * 1 + 6))))
/-- 'come' -/
theorem cn_come {b : xi_W} {I : Nat → Nat} {R : Nat × List Value} (B : cn_B b I R) (d : Nat) (F : Nat → Nat) (c s : Nat) (hk : cn_cek F) : xg (d + 4) 91 0 [(0, .ref (I 0)), (1, .ref (I 2))] [] (cn_w b I F) c s (none, cn_w b I (cn_ce F), c, s) := by
  obtain ⟨k1, k2, k3, k4, k5, k6, k7, k8, k9⟩ := hk
  have z1 : cn_mv F 28 53 1 8 = F 8 := cn_mvo _ _ _ _ (by omega)
  have z2 := cn_h2a F
  have z3 := cn_h3a F
  have z4 := cn_h4a F
  have z5 : xn_u (cn_mv F 28 53 1) 8 (cn_mv F 28 53 1 8 - 1) 8 = F 8 - 1 := z2
  unfold cn_ce
  refine xg_stp rfl rfl rfl rfl ?_
  refine xg_getfield (cn_g0 B _) rfl rfl rfl rfl ?_
  refine xg_stp (st' := .int (Int32.ofNat 0) :: _) rfl rfl rfl rfl ?_
  refine cn_ld9 B (by omega) rfl ?_
  refine xg_stp rfl rfl rfl rfl ?_
  refine xg_stp rfl rfl rfl rfl ?_
  refine xg_getfield (cn_g0 B _) rfl rfl rfl rfl ?_
  refine xg_stp (st' := .int (Int32.ofNat 1) :: _) rfl rfl rfl rfl ?_
  refine cn_ld9 B (by omega) rfl ?_
  refine xg_stp rfl rfl rfl rfl ?_
  refine xg_stp rfl rfl rfl rfl ?_
  refine xg_getfield (cn_g0 B _) rfl rfl rfl rfl ?_
  refine xg_stp (st' := .int (Int32.ofNat 3) :: _) rfl rfl rfl rfl ?_
  refine cn_ld9 B (by omega) rfl ?_
  refine xg_stp rfl rfl rfl rfl ?_
  refine xg_stp rfl rfl rfl rfl ?_
  refine xg_getfield (cn_g0 B _) rfl rfl rfl rfl ?_
  refine xg_stp (st' := .int (Int32.ofNat 4) :: _) rfl rfl rfl rfl ?_
  refine cn_ld9 B (by omega) rfl ?_
  refine xg_stp rfl rfl rfl rfl ?_
  refine xg_stp rfl rfl rfl rfl ?_
  refine xg_getfield (cn_g0 B _) rfl rfl rfl rfl ?_
  refine xg_stp (st' := .int (Int32.ofNat 53) :: _) rfl rfl rfl rfl ?_
  refine xg_stp (st' := .int (Int32.ofNat 28) :: _) rfl rfl rfl rfl ?_
  refine xg_vcall (cn_g1 B _) rfl rfl rfl rfl rfl rfl (cn_put B (d + 1) F 0 0 53 28 (by omega) (by omega)) ?_
  refine xg_stp rfl rfl rfl rfl ?_
  refine xg_stp rfl rfl rfl rfl ?_
  refine xg_getfield (cn_g0 B _) rfl rfl rfl rfl ?_
  refine xg_stp (st' := .int (Int32.ofNat 1) :: _) rfl rfl rfl rfl ?_
  refine xn_sub (by omega) rfl ?_
  refine cn_pf0 B rfl rfl ?_
  refine xg_stp rfl rfl rfl rfl ?_
  refine xg_getfield (cn_g0 B _) rfl rfl rfl rfl ?_
  refine xg_stp (st' := .int (Int32.ofNat 5) :: _) rfl rfl rfl rfl ?_
  refine xg_stp rfl rfl rfl rfl ?_
  refine xg_getfield (cn_g0 B _) rfl rfl rfl rfl ?_
  refine xg_stp (st' := .int (Int32.ofNat 0) :: _) rfl rfl rfl rfl ?_
  refine xg_stp rfl rfl rfl rfl ?_
  refine xg_getfield (cn_g0 B _) rfl rfl rfl rfl ?_
  refine xg_stp (st' := .int (Int32.ofNat 5) :: _) rfl rfl rfl rfl ?_
  refine xn_mul rfl ?_
  refine cn_ac9 B (by omega) (by omega) rfl rfl rfl ?_
  refine xg_stp rfl rfl rfl rfl ?_
  refine xg_getfield (cn_g0 B _) rfl rfl rfl rfl ?_
  refine xg_stp (st' := .int (Int32.ofNat 29) :: _) rfl rfl rfl rfl ?_
  refine xg_stp (st' := .int (Int32.ofNat 28) :: _) rfl rfl rfl rfl ?_
  refine xg_stp rfl rfl rfl rfl ?_
  refine xg_getfield (cn_g0 B _) rfl rfl rfl rfl ?_
  refine xg_vcall (cn_g1 B _) rfl rfl rfl rfl rfl rfl (cn_move B (d + 2) (cn_h3 F) 0 0 29 28 (cn_h3 F 8) (by omega) (by omega)) ?_
  refine xg_stp rfl rfl rfl rfl ?_
  refine xg_stp (st' := .int (Int32.ofNat 4) :: _) rfl rfl rfl rfl ?_
  refine xg_stp rfl rfl rfl rfl ?_
  refine xg_stp rfl rfl rfl rfl ?_
  refine xg_vcall (cn_g0 B _) rfl rfl rfl rfl rfl rfl (cn_write B (d + 2) (cn_h4 F) 0 0 4 (F (16 * 1 + 6)) (F (16 * 0 + 6)) (by omega)) ?_
  refine xg_stp rfl rfl rfl rfl ?_
  refine xg_stp (st' := .int (Int32.ofNat 1) :: _) rfl rfl rfl rfl ?_
  refine xg_j2 rfl rfl rfl rfl rfl (fun h95 => ?_) (fun h95 => ?_)
  · have e95 := nt_ne h95
    rw [if_neg e95]
    obtain ⟨m1, m2, m3, m4, m5⟩ := k9 e95
    refine xg_stp rfl rfl rfl rfl ?_
    refine xg_stp rfl rfl rfl rfl ?_
    refine xg_vcall (cn_g0 B _) rfl rfl rfl rfl rfl rfl (cn_absorb B d (cn_h5 F) 0 0 (F (16 * 1 + 6)) k5 m1 m2 m3 m4) ?_
    refine xg_stp rfl rfl rfl rfl ?_
    refine xg_getfield (cn_g0 B _) rfl rfl rfl rfl ?_
    refine xg_stp (st' := .int (Int32.ofNat 52) :: _) rfl rfl rfl rfl ?_
    refine xg_vcall (cn_g1 B _) rfl rfl rfl rfl rfl rfl (cn_wipe B (d + 3) (cn_ab (cn_h5 F) (F (16 * 1 + 6))) 0 0 52 (by omega)) ?_
    refine xg_stp rfl rfl rfl rfl ?_
    refine xg_stp rfl rfl rfl rfl ?_
    refine xg_stp rfl rfl rfl rfl ?_
    refine xg_stp rfl rfl rfl rfl ?_
    refine xg_stp (st' := .int (Int32.ofNat 1) :: _) rfl rfl rfl rfl ?_
    refine xg_stp rfl rfl rfl rfl ?_
    refine xg_vcall (cn_g0 B _) rfl rfl rfl rfl rfl rfl (cn_post B d (cn_h6 (cn_h5 F) (F (16 * 1 + 6))) 0 0 (F (16 * 1 + 6)) (F (16 * 0 + 6)) 1 (F (16 * 4 + 6)) m5) ?_
    exact xg_ret rfl rfl
  · have e95 := nf_ne k6 (by omega) h95
    rw [if_pos e95]
    obtain ⟨m1, m2, m3⟩ := k8 e95
    refine xg_stp rfl rfl rfl rfl ?_
    refine xg_stp rfl rfl rfl rfl ?_
    refine xg_stp rfl rfl rfl rfl ?_
    refine xg_stp rfl rfl rfl rfl ?_
    refine xg_vcall (cn_g0 B _) rfl rfl rfl rfl rfl rfl (cn_acknowledge B (d + 2) (cn_h5 F) 0 0 (F (16 * 1 + 6)) (F (16 * 0 + 6)) (F (16 * 4 + 6)) k5 k4 k7 m1 m2 m3) ?_
    exact xg_ret rfl rfl
def cn_t0 (F : Nat → Nat) : Nat → Nat := xn_u F 40 (F 40 + 1)
/-- what comes now comes; m at most -/
def cn_tl : Nat → (Nat → Nat) → (Nat → Nat)
  | 0, F => F
  | m + 1, F => if 0 < F 8 ∧ F (16 * 2 + 6) ≤ F 40 then cn_tl m (cn_ce F) else F
def cn_tn : Nat → (Nat → Nat) → Nat → Nat
  | 0, _, n => n
  | m + 1, F, n => if 0 < F 8 ∧ F (16 * 2 + 6) ≤ F 40 then cn_tn m (cn_ce F) (n + 1) else n
def cn_tlk : Nat → (Nat → Nat) → Prop
  | 0, _ => True
  | m + 1, F => F 8 < 2147483648 ∧ (0 < F 8 → F (16 * 2 + 6) < 2147483648) ∧ F 40 < 2147483648 ∧ (0 < F 8 ∧ F (16 * 2 + 6) ≤ F 40 → cn_cek F ∧ cn_tlk m (cn_ce F))
/-- nobody speaks -/
def cn_npk (F : Nat → Nat) : Prop := (∀ r, r < 4 → F (16 * r + 4) < 1000000) ∧ (∀ r q, r < 4 → q < 4 → F (16 * (r * 4 + q) + 3) ≤ F (16 * r + 4))
theorem cn_tkI {b : xi_W} {I : Nat → Nat} {R : Nat × List Value} (B : cn_B b I R) (d c s : Nat) (F : Nat → Nat) (np : cn_npk F) (n : Nat) (r : Nat) (hr : r < 4) (Q : xi_R) : ∀ (m q : Nat), q + m = 4 → xg (d + 3) 78 136 [(5, .int (Int32.ofNat (4))), (4, .int (Int32.ofNat r)), (3, .null), (2, .int (Int32.ofNat n)), (0, .ref (I 0)), (1, .ref (I 2))] [] (cn_w b I F) c s Q → xg (d + 3) 78 75 [(5, .int (Int32.ofNat (q))), (4, .int (Int32.ofNat r)), (3, .null), (2, .int (Int32.ofNat n)), (0, .ref (I 0)), (1, .ref (I 2))] [] (cn_w b I F) c s Q
  | 0, q, hm, hk => by
    have e0 : q = 4 := by omega
    subst e0
    refine xg_stp rfl rfl rfl rfl ?_
    refine xg_stp (st' := .int (Int32.ofNat 4) :: _) rfl rfl rfl rfl ?_
    refine xg_j2 rfl rfl rfl rfl rfl (fun h78 => ?_) (fun h78 => ?_)
    · exact hk
    · exact absurd (nf_ge (by omega) (by omega) h78) (by omega)
  | m + 1, q, hm, hk => by
    refine xg_stp rfl rfl rfl rfl ?_
    refine xg_stp (st' := .int (Int32.ofNat 4) :: _) rfl rfl rfl rfl ?_
    refine xg_j2 rfl rfl rfl rfl rfl (fun h78 => ?_) (fun h78 => ?_)
    · exact absurd (nt_ge (by omega) (by omega) h78) (by omega)
    · refine xg_stp rfl rfl rfl rfl ?_
      refine xg_stp rfl rfl rfl rfl ?_
      refine xg_j2 rfl rfl rfl rfl rfl (fun h85 => ?_) (fun h85 => ?_)
      · refine xn_inc (e := 1) rfl rfl rfl rfl ?_
        refine xg_stp rfl rfl rfl rfl ?_
        exact cn_tkI B d c s F np n r hr Q m (q + 1) (by omega) hk
      · refine xg_stp rfl rfl rfl rfl ?_
        refine xg_stp rfl rfl rfl rfl ?_
        refine xg_stp rfl rfl rfl rfl ?_
        refine xg_vcall (cn_g0 B _) rfl rfl rfl rfl rfl rfl (cn_hasNews B (d + 1) F 0 0 r q hr (by omega) (np.2 r q hr (by omega)) (np.1 r hr)) ?_
        refine xg_j1 rfl rfl rfl rfl rfl (fun h96 => ?_) (fun h96 => ?_)
        · refine xn_inc (e := 1) rfl rfl rfl rfl ?_
          refine xg_stp rfl rfl rfl rfl ?_
          exact cn_tkI B d c s F np n r hr Q m (q + 1) (by omega) hk
        · refine xg_stp rfl rfl rfl rfl ?_
          refine xg_stp rfl rfl rfl rfl ?_
          refine xg_stp rfl rfl rfl rfl ?_
          refine xg_stp rfl rfl rfl rfl ?_
          refine xg_stp rfl rfl rfl rfl ?_
          refine xg_stp rfl rfl rfl rfl ?_
          refine xg_stp rfl rfl rfl rfl ?_
          refine xg_stp rfl rfl rfl rfl ?_
          refine xg_vcall (cn_g0 B _) rfl rfl rfl rfl rfl rfl (cn_lag B (d + 2) F 0 0 r q hr (by omega) (np.2 r q hr (by omega))) ?_
          refine xg_vcall (cn_g2 B _) rfl rfl rfl rfl (cn_r3 B) rfl (cn_lets B (d + 2) F 0 0 r q (F (16 * r + 4) - F (16 * (r * 4 + q) + 3))) ?_
          refine xg_j1 rfl rfl rfl rfl rfl (fun h117 => ?_) (fun h117 => ?_)
          · refine xn_inc (e := 1) rfl rfl rfl rfl ?_
            refine xg_stp rfl rfl rfl rfl ?_
            exact cn_tkI B d c s F np n r hr Q m (q + 1) (by omega) hk
          · exact absurd rfl (nf1_eq h117)
theorem cn_tkO {b : xi_W} {I : Nat → Nat} {R : Nat × List Value} (B : cn_B b I R) (d c s : Nat) (F : Nat → Nat) (np : cn_npk F) (n : Nat) : ∀ (m r : Nat) (L : xi_L), r + m = 4 → (L = [(4, .int (Int32.ofNat r)), (3, .null), (2, .int (Int32.ofNat n)), (0, .ref (I 0)), (1, .ref (I 2))] ∨ L = [(4, .int (Int32.ofNat r)), (5, .int (Int32.ofNat 4)), (3, .null), (2, .int (Int32.ofNat n)), (0, .ref (I 0)), (1, .ref (I 2))]) → xg (d + 3) 78 66 L [] (cn_w b I F) c s (some (.int (Int32.ofNat n)), cn_w b I F, c, s)
  | 0, r, L, hm, hL => by
    rcases hL with rfl | rfl
    · refine xg_stp rfl rfl rfl rfl ?_
      refine xg_stp (st' := .int (Int32.ofNat 4) :: _) rfl rfl rfl rfl ?_
      refine xg_j2 rfl rfl rfl rfl rfl (fun h69 => ?_) (fun h69 => ?_)
      · refine xg_stp rfl rfl rfl rfl ?_
        exact xg_ret rfl rfl
      · exact absurd (nf_ge (by omega) (by omega) h69) (by omega)
    · refine xg_stp rfl rfl rfl rfl ?_
      refine xg_stp (st' := .int (Int32.ofNat 4) :: _) rfl rfl rfl rfl ?_
      refine xg_j2 rfl rfl rfl rfl rfl (fun h69 => ?_) (fun h69 => ?_)
      · refine xg_stp rfl rfl rfl rfl ?_
        exact xg_ret rfl rfl
      · exact absurd (nf_ge (by omega) (by omega) h69) (by omega)
  | m + 1, r, L, hm, hL => by
    rcases hL with rfl | rfl
    · refine xg_stp rfl rfl rfl rfl ?_
      refine xg_stp (st' := .int (Int32.ofNat 4) :: _) rfl rfl rfl rfl ?_
      refine xg_j2 rfl rfl rfl rfl rfl (fun h69 => ?_) (fun h69 => ?_)
      · exact absurd (nt_ge (by omega) (by omega) h69) (by omega)
      · refine xg_stp (st' := .int (Int32.ofNat 0) :: _) rfl rfl rfl rfl ?_
        refine xg_stp rfl rfl rfl rfl ?_
        refine cn_tkI B d c s F np n r (by omega) _ 4 0 rfl ?_
        refine xn_inc (e := 1) rfl rfl rfl rfl ?_
        refine xg_stp rfl rfl rfl rfl ?_
        exact cn_tkO B d c s F np n m (r + 1) _ (by omega) (Or.inr rfl)
    · refine xg_stp rfl rfl rfl rfl ?_
      refine xg_stp (st' := .int (Int32.ofNat 4) :: _) rfl rfl rfl rfl ?_
      refine xg_j2 rfl rfl rfl rfl rfl (fun h69 => ?_) (fun h69 => ?_)
      · exact absurd (nt_ge (by omega) (by omega) h69) (by omega)
      · refine xg_stp (st' := .int (Int32.ofNat 0) :: _) rfl rfl rfl rfl ?_
        refine xg_stp rfl rfl rfl rfl ?_
        refine cn_tkI B d c s F np n r (by omega) _ 4 0 rfl ?_
        refine xn_inc (e := 1) rfl rfl rfl rfl ?_
        refine xg_stp rfl rfl rfl rfl ?_
        exact cn_tkO B d c s F np n m (r + 1) _ (by omega) (Or.inr rfl)
theorem cn_tkN {b : xi_W} {I : Nat → Nat} {R : Nat × List Value} (B : cn_B b I R) (d c s : Nat) (F : Nat → Nat) (np : cn_npk F) (n : Nat) (k : Nat) : xg (d + 3) 78 54 [(3, .int (Int32.ofNat k)), (2, .int (Int32.ofNat n)), (0, .ref (I 0)), (1, .ref (I 2))] [] (cn_w b I F) c s (some (.int (Int32.ofNat n)), cn_w b I F, c, s) := by
  refine xg_stp rfl rfl rfl rfl ?_
  refine xg_stp rfl rfl rfl rfl ?_
  refine xg_getfield (cn_g2 B _) rfl rfl (cn_r2 B) B.2.2.2.2.2.1 ?_
  refine xg_vcall (cn_g2 B _) rfl rfl rfl rfl (cn_r3 B) rfl (cn_numbered B (d + 2) F 0 0) ?_
  refine xg_stp rfl rfl rfl rfl ?_
  refine xg_stp (st' := .int (Int32.ofNat 0) :: _) rfl rfl rfl rfl ?_
  refine xg_stp rfl rfl rfl rfl ?_
  exact cn_tkO B d c s F np n 4 0 _ rfl (Or.inl rfl)
/-- the loop of 'tick' over what comes -/
theorem cn_tlL {b : xi_W} {I : Nat → Nat} {R : Nat × List Value} (B : cn_B b I R) (d c s : Nat) : ∀ (m k : Nat) (F : Nat → Nat) (n : Nat), k + m = 24 → cn_tlk m F → cn_npk (cn_tl m F) → xg (d + 5) 78 14 [(3, .int (Int32.ofNat k)), (2, .int (Int32.ofNat n)), (0, .ref (I 0)), (1, .ref (I 2))] [] (cn_w b I F) c s (some (.int (Int32.ofNat (cn_tn m F n))), cn_w b I (cn_tl m F), c, s)
  | 0, k, F, n, hm, hk, hx => by
    unfold cn_tl at hx
    unfold cn_tl cn_tn
    refine xg_stp rfl rfl rfl rfl ?_
    refine xg_stp (st' := .int (Int32.ofNat 24) :: _) rfl rfl rfl rfl ?_
    refine xg_j2 rfl rfl rfl rfl rfl (fun h17 => ?_) (fun h17 => ?_)
    · exact cn_tkN B (d + 2) c s F hx n k
    · exact absurd (nf_ge (by omega) (by omega) h17) (by omega)
  | m + 1, k, F, n, hm, hk, hx => by
    unfold cn_tlk at hk
    obtain ⟨g1, g2, g3, g4⟩ := hk
    unfold cn_tl at hx
    unfold cn_tl cn_tn
    refine xg_stp rfl rfl rfl rfl ?_
    refine xg_stp (st' := .int (Int32.ofNat 24) :: _) rfl rfl rfl rfl ?_
    refine xg_j2 rfl rfl rfl rfl rfl (fun h17 => ?_) (fun h17 => ?_)
    · exact absurd (nt_ge (by omega) (by omega) h17) (by omega)
    · refine xg_stp rfl rfl rfl rfl ?_
      refine xg_getfield (cn_g0 B _) rfl rfl rfl rfl ?_
      refine xg_j1 rfl rfl rfl rfl rfl (fun h24 => ?_) (fun h24 => ?_)
      · have en : ¬ (0 < F 8 ∧ F (16 * 2 + 6) ≤ F 40) := fun h => absurd h.1 (by have := nt1_le g1 h24; omega)
        rw [if_neg en] at hx
        rw [if_neg en, if_neg en]
        exact cn_tkN B (d + 2) c s F hx n k
      · have q2 := g2 (nf1_le g1 h24)
        refine xg_stp rfl rfl rfl rfl ?_
        refine xg_getfield (cn_g0 B _) rfl rfl rfl rfl ?_
        refine xg_stp (st' := .int (Int32.ofNat 2) :: _) rfl rfl rfl rfl ?_
        refine cn_ld9 B (by omega) rfl ?_
        refine xg_stp rfl rfl rfl rfl ?_
        refine xg_getfield (cn_g0 B _) rfl rfl rfl rfl ?_
        refine xg_j2 rfl rfl rfl rfl rfl (fun h37 => ?_) (fun h37 => ?_)
        · have en : ¬ (0 < F 8 ∧ F (16 * 2 + 6) ≤ F 40) := fun h => absurd (nt_gt q2 g3 h37) (by omega)
          rw [if_neg en] at hx
          rw [if_neg en, if_neg en]
          exact cn_tkN B (d + 2) c s F hx n k
        · have e37 : 0 < F 8 ∧ F (16 * 2 + 6) ≤ F 40 := ⟨nf1_le g1 h24, nf_gt q2 g3 h37⟩
          rw [if_pos e37] at hx
          rw [if_pos e37, if_pos e37]
          have hk2 := g4 e37
          refine xg_stp rfl rfl rfl rfl ?_
          refine xg_stp rfl rfl rfl rfl ?_
          refine xg_vcall (cn_g0 B _) rfl rfl rfl rfl rfl rfl (cn_come B d F 0 0 hk2.1) ?_
          refine xn_inc (e := 1) rfl rfl rfl rfl ?_
          refine xn_inc (e := 1) rfl rfl rfl rfl ?_
          refine xg_stp rfl rfl rfl rfl ?_
          exact cn_tlL B d c s m (k + 1) (cn_ce F) (n + 1) (by omega) hk2.2 hx
/-- a tick -/
def cn_tic (F : Nat → Nat) : Nat → Nat := cn_tl 24 (cn_t0 F)
def cn_tik (F : Nat → Nat) : Prop := cn_tlk 24 (cn_t0 F) ∧ cn_npk (cn_tic F)
/-- 'tick' -/
theorem cn_tick {b : xi_W} {I : Nat → Nat} {R : Nat × List Value} (B : cn_B b I R) (d : Nat) (F : Nat → Nat) (c s : Nat) (hk : cn_tik F) : xg (d + 5) 78 0 [(0, .ref (I 0)), (1, .ref (I 2))] [] (cn_w b I F) c s (some (.int (Int32.ofNat (cn_tn 24 (cn_t0 F) 0))), cn_w b I (cn_tic F), c, s) := by
  refine xg_stp rfl rfl rfl rfl ?_
  refine xg_stp rfl rfl rfl rfl ?_
  refine xg_getfield (cn_g0 B _) rfl rfl rfl rfl ?_
  refine xg_stp (st' := .int (Int32.ofNat 1) :: _) rfl rfl rfl rfl ?_
  refine xn_add rfl ?_
  refine cn_pf2 B rfl rfl ?_
  refine xg_stp (st' := .int (Int32.ofNat 0) :: _) rfl rfl rfl rfl ?_
  refine xg_stp rfl rfl rfl rfl ?_
  refine xg_stp (st' := .int (Int32.ofNat 0) :: _) rfl rfl rfl rfl ?_
  refine xg_stp rfl rfl rfl rfl ?_
  exact cn_tlL B d c s 24 0 (cn_t0 F) 0 rfl hk.1 hk.2
def cn_an (F : Nat → Nat) : Nat → Nat := xn_u F 56 ((F 56 * 773 + 641) % 31139)
/-- one draw of YEARS happens (X is drawn before); n: up to which number the replica that is drawn has set -/
def cn_hap (F : Nat → Nat) (x n : Nat) : Nat → Nat :=
  if x % 8 < 3 then cn_pl F (rf_rep x) (rf_key x) (x % 3) (x % 100) n
  else if x % 8 = 3 then (if cn_mo F (rf_rep x) (rf_key x) 4294967295 256 0 0 = 0 then F else cn_rv F (rf_rep x) (rf_key x))
  else if x % 8 < 6 then (if F (16 * (rf_rep x * 4 + rf_to x) + 3) < F (16 * rf_rep x + 4) then cn_po (cn_co F (rf_rep x) (rf_to x)) (rf_rep x) (rf_to x) 0 (cn_co F (rf_rep x) (rf_to x) (16 * rf_rep x + 4)) else F)
  else if F 40 < 9999 then cn_tic F else F
def cn_hak (F : Nat → Nat) (x n : Nat) : Prop :=
  (x % 8 < 3 → n < 25 ∧ F (16 * (rf_rep x * 4 + rf_rep x) + 0) = 2 ^ n - 1 ∧ F (16 * rf_rep x + 4) < 1000000 ∧ F (16 * rf_rep x + 5) < 1000000 ∧ cn_ok (cn_nd F (rf_rep x)) (rf_rep x) ∧ cn_pm F (rf_rep x) (rf_key x) (x % 3) (x % 100) n 24 ≤ 25) ∧
  (x % 8 = 3 → cn_ok F (rf_rep x) ∧ F (16 * rf_rep x + 4) < 1000000 ∧ F (16 * rf_rep x + 5) < 1000000 ∧ cn_ok (cn_nd F (rf_rep x)) (rf_rep x) ∧ cn_rg F (rf_rep x) (rf_key x) 24 ≤ 25) ∧
  (¬ x % 8 < 3 → ¬ x % 8 = 3 → x % 8 < 6 → F (16 * (rf_rep x * 4 + rf_to x) + 3) ≤ F (16 * rf_rep x + 4) ∧ F (16 * rf_rep x + 4) < 1000000 ∧ F (16 * rf_rep x + 5) < 1000000 ∧ (F (16 * (rf_rep x * 4 + rf_to x) + 3) < F (16 * rf_rep x + 4) → cn_pok (cn_co F (rf_rep x) (rf_to x)))) ∧
  (¬ x % 8 < 6 → F 40 < 2147483648 ∧ (F 40 < 9999 → cn_tik F))
theorem rf_rto (x : Nat) : rf_rep x ≠ rf_to x := by unfold rf_rep rf_to; omega
theorem cn_dyS {b : xi_W} {I : Nat → Nat} {R : Nat × List Value} (B : cn_B b I R) (d : Nat) (F : Nat → Nat) (c s : Nat) (x n : Nat) (hx : x < 31139) (h0 : x % 8 < 3) (hk : cn_hak F x n) : xg (d + 6) 79 64 [(4, .int (Int32.ofNat (x / 32 % 4))), (3, .int (Int32.ofNat (x / 8 % 4))), (2, .int (Int32.ofNat x)), (0, .ref (I 0)), (1, .ref (I 2))] [] (cn_w b I F) c s (none, cn_w b I (cn_hap F x n), c, s) := by
  have hr : rf_rep x < 4 := Nat.mod_lt _ (by omega)
  have hq : rf_key x < 4 := Nat.mod_lt _ (by omega)
  have ht : rf_to x < 4 := Nat.mod_lt _ (by omega)
  have hrt := rf_rto x
  obtain ⟨m1, m2, m3, m4, m5, m6⟩ := hk.1 h0
  unfold cn_hap
  rw [if_pos h0]
  refine xg_stp rfl rfl rfl rfl ?_
  refine xg_stp rfl rfl rfl rfl ?_
  refine xg_stp rfl rfl rfl rfl ?_
  refine xg_stp rfl rfl rfl rfl ?_
  refine xg_stp (st' := .int (Int32.ofNat 3) :: _) rfl rfl rfl rfl ?_
  refine xn_mod (by omega) (by omega) (by omega) rfl ?_
  refine xg_stp rfl rfl rfl rfl ?_
  refine xg_stp (st' := .int (Int32.ofNat 100) :: _) rfl rfl rfl rfl ?_
  refine xn_mod (by omega) (by omega) (by omega) rfl ?_
  refine xg_vcall (cn_g0 B _) rfl rfl rfl rfl rfl rfl (cn_place B (d + 2) F 0 0 (rf_rep x) (rf_key x) (x % 3) (x % 100) n hr hq (Nat.mod_lt _ (by omega)) m1 m2 m3 m4 m5 m6) ?_
  refine xg_stp rfl rfl rfl rfl ?_
  refine xg_stp rfl rfl rfl rfl ?_
  exact xg_ret rfl rfl
theorem cn_dyR0 {b : xi_W} {I : Nat → Nat} {R : Nat × List Value} (B : cn_B b I R) (d : Nat) (F : Nat → Nat) (c s : Nat) (x n : Nat) (hx : x < 31139) (h0 : x % 8 = 3) (hk : cn_hak F x n) (hz : cn_mo F (rf_rep x) (rf_key x) 4294967295 256 0 0 = 0) : xg (d + 6) 79 82 [(4, .int (Int32.ofNat (x / 32 % 4))), (3, .int (Int32.ofNat (x / 8 % 4))), (2, .int (Int32.ofNat x)), (0, .ref (I 0)), (1, .ref (I 2))] [] (cn_w b I F) c s (none, cn_w b I (cn_hap F x n), c, s) := by
  have hr : rf_rep x < 4 := Nat.mod_lt _ (by omega)
  have hq : rf_key x < 4 := Nat.mod_lt _ (by omega)
  have ht : rf_to x < 4 := Nat.mod_lt _ (by omega)
  have hrt := rf_rto x
  obtain ⟨m1, m2, m3, m4, m5⟩ := hk.2.1 h0
  unfold cn_hap
  rw [if_neg (show ¬ x % 8 < 3 by omega), if_pos h0, if_pos hz]
  refine xg_stp rfl rfl rfl rfl ?_
  refine xg_stp rfl rfl rfl rfl ?_
  refine xg_stp rfl rfl rfl rfl ?_
  refine xg_stp (st' := .int (Int32.ofNat 4294967295) :: _) rfl rfl rfl rfl ?_
  refine xg_vcall (cn_g0 B _) rfl rfl rfl rfl rfl rfl (cn_remove0 B (d + 2) F 0 0 (rf_rep x) (rf_key x) hr hq m1 hz) ?_
  refine xg_stp rfl rfl rfl rfl ?_
  refine xg_stp rfl rfl rfl rfl ?_
  exact xg_ret rfl rfl
theorem cn_dyR1 {b : xi_W} {I : Nat → Nat} {R : Nat × List Value} (B : cn_B b I R) (d : Nat) (F : Nat → Nat) (c s : Nat) (x n : Nat) (hx : x < 31139) (h0 : x % 8 = 3) (hk : cn_hak F x n) (hz : ¬ cn_mo F (rf_rep x) (rf_key x) 4294967295 256 0 0 = 0) : xg (d + 6) 79 82 [(4, .int (Int32.ofNat (x / 32 % 4))), (3, .int (Int32.ofNat (x / 8 % 4))), (2, .int (Int32.ofNat x)), (0, .ref (I 0)), (1, .ref (I 2))] [] (cn_w b I F) c s (none, cn_w b I (cn_hap F x n), c, s) := by
  have hr : rf_rep x < 4 := Nat.mod_lt _ (by omega)
  have hq : rf_key x < 4 := Nat.mod_lt _ (by omega)
  have ht : rf_to x < 4 := Nat.mod_lt _ (by omega)
  have hrt := rf_rto x
  obtain ⟨m1, m2, m3, m4, m5⟩ := hk.2.1 h0
  unfold cn_hap
  rw [if_neg (show ¬ x % 8 < 3 by omega), if_pos h0, if_neg hz]
  refine xg_stp rfl rfl rfl rfl ?_
  refine xg_stp rfl rfl rfl rfl ?_
  refine xg_stp rfl rfl rfl rfl ?_
  refine xg_stp (st' := .int (Int32.ofNat 4294967295) :: _) rfl rfl rfl rfl ?_
  refine xg_vcall (cn_g0 B _) rfl rfl rfl rfl rfl rfl (cn_remove B (d + 2) F 0 0 (rf_rep x) (rf_key x) hr hq m1 hz m2 m3 m4 m5) ?_
  refine xg_stp rfl rfl rfl rfl ?_
  refine xg_stp rfl rfl rfl rfl ?_
  exact xg_ret rfl rfl
theorem cn_dyT1 {b : xi_W} {I : Nat → Nat} {R : Nat × List Value} (B : cn_B b I R) (d : Nat) (F : Nat → Nat) (c s : Nat) (x n : Nat) (hx : x < 31139) (h0 : ¬ x % 8 < 3) (h1 : ¬ x % 8 = 3) (h2 : x % 8 < 6) (hk : cn_hak F x n) (hz : F (16 * (rf_rep x * 4 + rf_to x) + 3) < F (16 * rf_rep x + 4)) : xg (d + 6) 79 94 [(4, .int (Int32.ofNat (x / 32 % 4))), (3, .int (Int32.ofNat (x / 8 % 4))), (2, .int (Int32.ofNat x)), (0, .ref (I 0)), (1, .ref (I 2))] [] (cn_w b I F) c s (none, cn_w b I (cn_hap F x n), c, s) := by
  have hr : rf_rep x < 4 := Nat.mod_lt _ (by omega)
  have hq : rf_key x < 4 := Nat.mod_lt _ (by omega)
  have ht : rf_to x < 4 := Nat.mod_lt _ (by omega)
  have hrt := rf_rto x
  obtain ⟨m1, m2, m3, m4⟩ := hk.2.2.1 h0 h1 h2
  unfold cn_hap
  rw [if_neg h0, if_neg h1, if_pos h2, if_pos hz]
  refine xg_stp rfl rfl rfl rfl ?_
  refine xg_stp rfl rfl rfl rfl ?_
  refine xg_stp rfl rfl rfl rfl ?_
  refine xg_stp rfl rfl rfl rfl ?_
  refine xg_stp rfl rfl rfl rfl ?_
  refine xg_stp (st' := .int (Int32.ofNat 32) :: _) rfl rfl rfl rfl ?_
  refine xn_div (by omega) (by omega) (by omega) rfl ?_
  refine xg_stp (st' := .int (Int32.ofNat 3) :: _) rfl rfl rfl rfl ?_
  refine xn_mod (by omega) (by omega) (by omega) rfl ?_
  refine xn_add rfl ?_
  refine xg_stp (st' := .int (Int32.ofNat 1) :: _) rfl rfl rfl rfl ?_
  refine xn_add rfl ?_
  refine xg_stp (st' := .int (Int32.ofNat 4) :: _) rfl rfl rfl rfl ?_
  refine xn_mod (by omega) (by omega) (by omega) rfl ?_
  refine xg_vcall (cn_g0 B _) rfl rfl rfl rfl rfl rfl (cn_transmit B (d + 1) F 0 0 (rf_rep x) (rf_to x) hr ht hrt hz m2 m3 (m4 hz)) ?_
  refine xg_stp rfl rfl rfl rfl ?_
  refine xg_stp rfl rfl rfl rfl ?_
  exact xg_ret rfl rfl
theorem cn_dyT0 {b : xi_W} {I : Nat → Nat} {R : Nat × List Value} (B : cn_B b I R) (d : Nat) (F : Nat → Nat) (c s : Nat) (x n : Nat) (hx : x < 31139) (h0 : ¬ x % 8 < 3) (h1 : ¬ x % 8 = 3) (h2 : x % 8 < 6) (hk : cn_hak F x n) (hz : ¬ F (16 * (rf_rep x * 4 + rf_to x) + 3) < F (16 * rf_rep x + 4)) : xg (d + 6) 79 94 [(4, .int (Int32.ofNat (x / 32 % 4))), (3, .int (Int32.ofNat (x / 8 % 4))), (2, .int (Int32.ofNat x)), (0, .ref (I 0)), (1, .ref (I 2))] [] (cn_w b I F) c s (none, cn_w b I (cn_hap F x n), c, s) := by
  have hr : rf_rep x < 4 := Nat.mod_lt _ (by omega)
  have hq : rf_key x < 4 := Nat.mod_lt _ (by omega)
  have ht : rf_to x < 4 := Nat.mod_lt _ (by omega)
  have hrt := rf_rto x
  obtain ⟨m1, m2, m3, m4⟩ := hk.2.2.1 h0 h1 h2
  unfold cn_hap
  rw [if_neg h0, if_neg h1, if_pos h2, if_neg hz]
  refine xg_stp rfl rfl rfl rfl ?_
  refine xg_stp rfl rfl rfl rfl ?_
  refine xg_stp rfl rfl rfl rfl ?_
  refine xg_stp rfl rfl rfl rfl ?_
  refine xg_stp rfl rfl rfl rfl ?_
  refine xg_stp (st' := .int (Int32.ofNat 32) :: _) rfl rfl rfl rfl ?_
  refine xn_div (by omega) (by omega) (by omega) rfl ?_
  refine xg_stp (st' := .int (Int32.ofNat 3) :: _) rfl rfl rfl rfl ?_
  refine xn_mod (by omega) (by omega) (by omega) rfl ?_
  refine xn_add rfl ?_
  refine xg_stp (st' := .int (Int32.ofNat 1) :: _) rfl rfl rfl rfl ?_
  refine xn_add rfl ?_
  refine xg_stp (st' := .int (Int32.ofNat 4) :: _) rfl rfl rfl rfl ?_
  refine xn_mod (by omega) (by omega) (by omega) rfl ?_
  refine xg_vcall (cn_g0 B _) rfl rfl rfl rfl rfl rfl (cn_transmit0 B (d + 1) F 0 0 (rf_rep x) (rf_to x) hr ht hrt (by omega) m2) ?_
  refine xg_stp rfl rfl rfl rfl ?_
  refine xg_stp rfl rfl rfl rfl ?_
  exact xg_ret rfl rfl
theorem cn_dyK {b : xi_W} {I : Nat → Nat} {R : Nat × List Value} (B : cn_B b I R) (d : Nat) (F : Nat → Nat) (c s : Nat) (x n : Nat) (hx : x < 31139) (h2 : ¬ x % 8 < 6) (hk : cn_hak F x n) : xg (d + 6) 79 116 [(4, .int (Int32.ofNat (x / 32 % 4))), (3, .int (Int32.ofNat (x / 8 % 4))), (2, .int (Int32.ofNat x)), (0, .ref (I 0)), (1, .ref (I 2))] [] (cn_w b I F) c s (none, cn_w b I (cn_hap F x n), c, s) := by
  have hr : rf_rep x < 4 := Nat.mod_lt _ (by omega)
  have hq : rf_key x < 4 := Nat.mod_lt _ (by omega)
  have ht : rf_to x < 4 := Nat.mod_lt _ (by omega)
  have hrt := rf_rto x
  obtain ⟨m1, m2⟩ := hk.2.2.2 h2
  unfold cn_hap
  rw [if_neg (show ¬ x % 8 < 3 by omega), if_neg (show ¬ x % 8 = 3 by omega), if_neg h2]
  refine xg_stp rfl rfl rfl rfl ?_
  refine xg_getfield (cn_g0 B _) rfl rfl rfl rfl ?_
  refine xg_stp (st' := .int (Int32.ofNat 9999) :: _) rfl rfl rfl rfl ?_
  refine xg_j2 rfl rfl rfl rfl rfl (fun h123 => ?_) (fun h123 => ?_)
  · have e123 := nt_ge m1 (by omega) h123
    rw [if_neg (Nat.not_lt.mpr e123)]
    exact xg_ret rfl rfl
  · have e123 := nf_ge m1 (by omega) h123
    rw [if_pos e123]
    refine xg_stp rfl rfl rfl rfl ?_
    refine xg_stp rfl rfl rfl rfl ?_
    refine xg_vcall (cn_g0 B _) rfl rfl rfl rfl rfl rfl (cn_tick B d F 0 0 (m2 e123)) ?_
    refine xg_stp rfl rfl rfl rfl ?_
    exact xg_ret rfl rfl
/-- 'drawYear' -/
theorem cn_drawYear {b : xi_W} {I : Nat → Nat} {R : Nat × List Value} (B : cn_B b I R) (d : Nat) (F : Nat → Nat) (c s : Nat) (x n : Nat) (he : F 56 = x) (hx : x < 31139) (hk : cn_hak (cn_an F) x n) : xg (d + 6) 79 0 [(0, .ref (I 0)), (1, .ref (I 2))] [] (cn_w b I F) c s (none, cn_w b I (cn_hap (cn_an F) x n), c, s) := by
  subst he
  refine xg_stp rfl rfl rfl rfl ?_
  refine xg_vcall (cn_g0 B _) rfl rfl rfl rfl rfl rfl (cn_draw B (d + 5) F 0 0 (by omega)) ?_
  refine xg_stp rfl rfl rfl rfl ?_
  refine xg_stp rfl rfl rfl rfl ?_
  refine xg_stp (st' := .int (Int32.ofNat 8) :: _) rfl rfl rfl rfl ?_
  refine xn_div (by omega) (by omega) (by omega) rfl ?_
  refine xg_stp (st' := .int (Int32.ofNat 4) :: _) rfl rfl rfl rfl ?_
  refine xn_mod (by omega) (by omega) (by omega) rfl ?_
  refine xg_stp rfl rfl rfl rfl ?_
  refine xg_stp rfl rfl rfl rfl ?_
  refine xg_stp (st' := .int (Int32.ofNat 32) :: _) rfl rfl rfl rfl ?_
  refine xn_div (by omega) (by omega) (by omega) rfl ?_
  refine xg_stp (st' := .int (Int32.ofNat 4) :: _) rfl rfl rfl rfl ?_
  refine xn_mod (by omega) (by omega) (by omega) rfl ?_
  refine xg_stp rfl rfl rfl rfl ?_
  refine xg_stp rfl rfl rfl rfl ?_
  refine xg_stp (st' := .int (Int32.ofNat 8) :: _) rfl rfl rfl rfl ?_
  refine xn_mod (by omega) (by omega) (by omega) rfl ?_
  have h8 : F 56 % 8 = 0 ∨ F 56 % 8 = 1 ∨ F 56 % 8 = 2 ∨ F 56 % 8 = 3 ∨ F 56 % 8 = 4 ∨ F 56 % 8 = 5 ∨ F 56 % 8 = 6 ∨ F 56 % 8 = 7 := by omega
  rcases h8 with h8 | h8 | h8 | h8 | h8 | h8 | h8 | h8
  · rw [h8]
    refine xg_stp (pc' := 64) rfl rfl rfl rfl ?_
    exact cn_dyS B d (cn_an F) c s (F 56) n hx (by omega) hk
  · rw [h8]
    refine xg_stp (pc' := 64) rfl rfl rfl rfl ?_
    exact cn_dyS B d (cn_an F) c s (F 56) n hx (by omega) hk
  · rw [h8]
    refine xg_stp (pc' := 64) rfl rfl rfl rfl ?_
    exact cn_dyS B d (cn_an F) c s (F 56) n hx (by omega) hk
  · rw [h8]
    refine xg_stp (pc' := 82) rfl rfl rfl rfl ?_
    by_cases hz : cn_mo (cn_an F) (rf_rep (F 56)) (rf_key (F 56)) 4294967295 256 0 0 = 0
    · exact cn_dyR0 B d (cn_an F) c s (F 56) n hx h8 hk hz
    · exact cn_dyR1 B d (cn_an F) c s (F 56) n hx h8 hk hz
  · rw [h8]
    refine xg_stp (pc' := 94) rfl rfl rfl rfl ?_
    by_cases hz : cn_an F (16 * (rf_rep (F 56) * 4 + rf_to (F 56)) + 3) < cn_an F (16 * rf_rep (F 56) + 4)
    · exact cn_dyT1 B d (cn_an F) c s (F 56) n hx (by omega) (by omega) (by omega) hk hz
    · exact cn_dyT0 B d (cn_an F) c s (F 56) n hx (by omega) (by omega) (by omega) hk hz
  · rw [h8]
    refine xg_stp (pc' := 94) rfl rfl rfl rfl ?_
    by_cases hz : cn_an F (16 * (rf_rep (F 56) * 4 + rf_to (F 56)) + 3) < cn_an F (16 * rf_rep (F 56) + 4)
    · exact cn_dyT1 B d (cn_an F) c s (F 56) n hx (by omega) (by omega) (by omega) hk hz
    · exact cn_dyT0 B d (cn_an F) c s (F 56) n hx (by omega) (by omega) (by omega) hk hz
  · rw [h8]
    refine xg_stp (pc' := 116) rfl rfl rfl rfl ?_
    exact cn_dyK B d (cn_an F) c s (F 56) n hx (by omega) hk
  · rw [h8]
    refine xg_stp (pc' := 116) rfl rfl rfl rfl ?_
    exact cn_dyK B d (cn_an F) c s (F 56) n hx (by omega) hk
