/-! the class: methods of World -/
theorem cn_r3 {b : xi_W} {I : Nat → Nat} {R : Nat × List Value} (B : cn_B b I R) : Nat.beq R.1 2 = true := by rw [B.2.2.2.2.1]; rfl
theorem cn_mgo (X Y : Nat) : ∀ (m k : Nat) (F : Nat → Nat) (j : Nat), 1 < j % 16 → cn_mg X Y m k F j = F j
  | 0, _, _, _, _ => rfl
  | m + 1, k, F, j, h => by
    unfold cn_mg
    rw [cn_mgo X Y m (k + 1) _ j h]
    unfold cn_m2 cn_m1
    rw [xn_un _ _ (by omega), xn_un _ _ (by omega)]
theorem cn_mvo (F : Nat → Nat) (x y n : Nat) {j : Nat} (h : 1 < j % 16) : cn_mv F x y n j = F j := by
  unfold cn_mv
  rw [cn_cpn _ _ _ _ _ (by omega), cn_cpn _ _ _ _ _ (by omega)]
theorem cn_mv0 (F : Nat → Nat) (x y : Nat) : cn_mv F x y 0 = F := by
  unfold cn_mv
  rw [Nat.zero_mul, cn_cp0, cn_cp0]
def cn_pg (F : Nat → Nat) (r q f : Nat) : Nat → Nat := cn_gat (cn_nd F r) (cn_nr F r) r q f
def cn_pb (F : Nat → Nat) (r q f v n : Nat) : Nat → Nat := cn_be (cn_pg F r q f) (cn_nr F r) r (n + 1) ((q * 3 + f) * 100 + v)
def cn_pm (F : Nat → Nat) (r q f v n : Nat) : Nat → Nat := cn_mg r (cn_nr F r) 4 0 (cn_pb F r q f v n)
/-- SET -/
def cn_pl (F : Nat → Nat) (r q f v n : Nat) : Nat → Nat := cn_wr (cn_pm F r q f v n) 0 r q
/-- 'place' -/
theorem cn_place {b : xi_W} {I : Nat → Nat} {R : Nat × List Value} (B : cn_B b I R) (d : Nat) (F : Nat → Nat) (c s : Nat) (r q f v n : Nat) (hr : r < 4) (hq : q < 4) (hf : f < 3) (hn : n < 63) (hv : F (16 * (r * 4 + r) + 0) = 2 ^ n - 1) (h4 : F (16 * r + 4) < 1000000) (h5 : F (16 * r + 5) < 1000000) (hk : cn_ok (cn_nd F r) r) (h24 : cn_pm F r q f v n 24 ≤ 25) : xg (d + 3) 75 0 [(0, .ref (I 0)), (1, .int (Int32.ofNat r)), (2, .int (Int32.ofNat q)), (3, .int (Int32.ofNat f)), (4, .int (Int32.ofNat v))] [] (cn_w b I F) c s (some (.int (Int32.ofNat (n + 1))), cn_w b I (cn_pl F r q f v n), c, s) := by
  have hnr := cn_nrl F hr
  refine xg_stp rfl rfl rfl rfl ?_
  refine xg_getfield (cn_g0 B _) rfl rfl rfl rfl ?_
  refine xg_stp rfl rfl rfl rfl ?_
  refine xg_stp rfl rfl rfl rfl ?_
  refine xg_vcall (cn_g1 B _) rfl rfl rfl rfl rfl rfl (cn_vector B (d + 1) F 0 0 r r n (by omega) hr hn hv) ?_
  refine xg_stp (st' := .int (Int32.ofNat 1) :: _) rfl rfl rfl rfl ?_
  refine xn_add rfl ?_
  refine xg_stp rfl rfl rfl rfl ?_
  refine xg_stp rfl rfl rfl rfl ?_
  refine xg_stp (st' := .int (Int32.ofNat 63) :: _) rfl rfl rfl rfl ?_
  refine xg_j2 rfl rfl rfl rfl rfl (fun h17 => ?_) (fun h17 => ?_)
  · refine xg_stp rfl rfl rfl rfl ?_
    refine xg_stp rfl rfl rfl rfl ?_
    refine xg_vcall (cn_g0 B _) rfl rfl rfl rfl rfl rfl (cn_nextDelta B d F 0 0 r hr h4 h5) ?_
    refine xg_stp rfl rfl rfl rfl ?_
    refine xg_stp rfl rfl rfl rfl ?_
    refine xg_getfield (cn_g0 B _) rfl rfl rfl rfl ?_
    refine xg_stp rfl rfl rfl rfl ?_
    refine xg_stp rfl rfl rfl rfl ?_
    refine xg_stp rfl rfl rfl rfl ?_
    refine xg_stp rfl rfl rfl rfl ?_
    refine xg_vcall (cn_g1 B _) rfl rfl rfl rfl rfl rfl (cn_gather B d (cn_nd F r) 0 0 (cn_nr F r) r q f (by omega) (by omega) (by omega) (by omega) (by omega) hk) ?_
    refine xg_stp rfl rfl rfl rfl ?_
    refine xg_getfield (cn_g0 B _) rfl rfl rfl rfl ?_
    refine xg_stp rfl rfl rfl rfl ?_
    refine xg_stp rfl rfl rfl rfl ?_
    refine xg_stp rfl rfl rfl rfl ?_
    refine xg_stp rfl rfl rfl rfl ?_
    refine xg_stp (st' := .int (Int32.ofNat 3) :: _) rfl rfl rfl rfl ?_
    refine xn_mul rfl ?_
    refine xg_stp rfl rfl rfl rfl ?_
    refine xn_add rfl ?_
    refine xg_stp (st' := .int (Int32.ofNat 100) :: _) rfl rfl rfl rfl ?_
    refine xn_mul rfl ?_
    refine xg_stp rfl rfl rfl rfl ?_
    refine xn_add rfl ?_
    refine xg_vcall (cn_g1 B _) rfl rfl rfl rfl rfl rfl (cn_bear B (d + 2) (cn_pg F r q f) 0 0 (cn_nr F r) r (n + 1) ((q * 3 + f) * 100 + v) (by omega) hr (by omega) (by omega)) ?_
    refine xg_stp rfl rfl rfl rfl ?_
    refine xg_getfield (cn_g0 B _) rfl rfl rfl rfl ?_
    refine xg_stp rfl rfl rfl rfl ?_
    refine xg_stp rfl rfl rfl rfl ?_
    refine xg_vcall (cn_g1 B _) rfl rfl rfl rfl rfl rfl (cn_merge B (d + 2) (cn_pb F r q f v n) 0 0 r (cn_nr F r) (by omega) (by omega)) ?_
    refine xg_stp rfl rfl rfl rfl ?_
    refine xg_stp (st' := .int (Int32.ofNat 0) :: _) rfl rfl rfl rfl ?_
    refine xg_stp rfl rfl rfl rfl ?_
    refine xg_stp rfl rfl rfl rfl ?_
    refine xg_vcall (cn_g0 B _) rfl rfl rfl rfl rfl rfl (cn_write B (d + 1) (cn_pm F r q f v n) 0 0 0 r q h24) ?_
    refine xg_stp rfl rfl rfl rfl ?_
    exact xg_ret rfl rfl
  · exact absurd (nf_le (by omega) (by omega) h17) (by omega)
theorem cn_mole (F : Nat → Nat) (x q f : Nat) : ∀ (m t n : Nat), cn_mo F x q f m t n ≤ n + m
  | 0, _, _ => Nat.le_refl _
  | m + 1, t, n => by
    unfold cn_mo
    have h1 := cn_mole F x q f m (t + 1) (n + cn_he F x t q f)
    have h2 := cn_heb F x t q f
    omega
def cn_rg (F : Nat → Nat) (r q : Nat) : Nat → Nat := cn_mg r (cn_nr F r) 4 0 (cn_pg F r q 4294967295)
/-- RESET -/
def cn_rv (F : Nat → Nat) (r q : Nat) : Nat → Nat := cn_wr (cn_rg F r q) 2 r q
/-- 'remove' -/
theorem cn_remove0 {b : xi_W} {I : Nat → Nat} {R : Nat × List Value} (B : cn_B b I R) (d : Nat) (F : Nat → Nat) (c s : Nat) (r q : Nat) (hr : r < 4) (hq : q < 4) (hk0 : cn_ok F r) (h0 : cn_mo F r q 4294967295 256 0 0 = 0) : xg (d + 3) 76 0 [(0, .ref (I 0)), (1, .int (Int32.ofNat r)), (2, .int (Int32.ofNat q)), (3, .int (Int32.ofNat 4294967295))] [] (cn_w b I F) c s (some (.int (Int32.ofNat (4294967295))), cn_w b I (F), c, s) := by
  refine xg_stp rfl rfl rfl rfl ?_
  refine xg_getfield (cn_g0 B _) rfl rfl rfl rfl ?_
  refine xg_stp rfl rfl rfl rfl ?_
  refine xg_stp rfl rfl rfl rfl ?_
  refine xg_stp rfl rfl rfl rfl ?_
  refine xg_vcall (cn_g1 B _) rfl rfl rfl rfl rfl rfl (cn_many B d F 0 0 r q 4294967295 (by omega) (by omega) (by omega) hk0) ?_
  refine xg_stp rfl rfl rfl rfl ?_
  refine xg_stp rfl rfl rfl rfl ?_
  refine xg_j1 rfl rfl rfl rfl rfl (fun h14 => ?_) (fun h14 => ?_)
  · exact absurd h0 (nt1_ne h14)
  · refine xg_stp (st' := .int (Int32.ofNat 4294967295) :: _) rfl rfl rfl rfl ?_
    exact xg_ret rfl rfl
/-- 'remove' -/
theorem cn_remove {b : xi_W} {I : Nat → Nat} {R : Nat × List Value} (B : cn_B b I R) (d : Nat) (F : Nat → Nat) (c s : Nat) (r q : Nat) (hr : r < 4) (hq : q < 4) (hk0 : cn_ok F r) (h0 : ¬ cn_mo F r q 4294967295 256 0 0 = 0) (h4 : F (16 * r + 4) < 1000000) (h5 : F (16 * r + 5) < 1000000) (hk : cn_ok (cn_nd F r) r) (h24 : cn_rg F r q 24 ≤ 25) : xg (d + 3) 76 0 [(0, .ref (I 0)), (1, .int (Int32.ofNat r)), (2, .int (Int32.ofNat q)), (3, .int (Int32.ofNat 4294967295))] [] (cn_w b I F) c s (some (.int (Int32.ofNat (cn_mo F r q 4294967295 256 0 0))), cn_w b I (cn_rv F r q), c, s) := by
  have hnr := cn_nrl F hr
  have hml := cn_mole F r q 4294967295 256 0 0
  refine xg_stp rfl rfl rfl rfl ?_
  refine xg_getfield (cn_g0 B _) rfl rfl rfl rfl ?_
  refine xg_stp rfl rfl rfl rfl ?_
  refine xg_stp rfl rfl rfl rfl ?_
  refine xg_stp rfl rfl rfl rfl ?_
  refine xg_vcall (cn_g1 B _) rfl rfl rfl rfl rfl rfl (cn_many B d F 0 0 r q 4294967295 (by omega) (by omega) (by omega) hk0) ?_
  refine xg_stp rfl rfl rfl rfl ?_
  refine xg_stp rfl rfl rfl rfl ?_
  refine xg_j1 rfl rfl rfl rfl rfl (fun h14 => ?_) (fun h14 => ?_)
  · refine xg_stp rfl rfl rfl rfl ?_
    refine xg_stp rfl rfl rfl rfl ?_
    refine xg_vcall (cn_g0 B _) rfl rfl rfl rfl rfl rfl (cn_nextDelta B d F 0 0 r hr h4 h5) ?_
    refine xg_stp rfl rfl rfl rfl ?_
    refine xg_stp rfl rfl rfl rfl ?_
    refine xg_getfield (cn_g0 B _) rfl rfl rfl rfl ?_
    refine xg_stp rfl rfl rfl rfl ?_
    refine xg_stp rfl rfl rfl rfl ?_
    refine xg_stp rfl rfl rfl rfl ?_
    refine xg_stp rfl rfl rfl rfl ?_
    refine xg_vcall (cn_g1 B _) rfl rfl rfl rfl rfl rfl (cn_gather B d (cn_nd F r) 0 0 (cn_nr F r) r q 4294967295 (by omega) (by omega) (by omega) (by omega) (by omega) hk) ?_
    refine xg_stp rfl rfl rfl rfl ?_
    refine xg_getfield (cn_g0 B _) rfl rfl rfl rfl ?_
    refine xg_stp rfl rfl rfl rfl ?_
    refine xg_stp rfl rfl rfl rfl ?_
    refine xg_vcall (cn_g1 B _) rfl rfl rfl rfl rfl rfl (cn_merge B (d + 2) (cn_pg F r q 4294967295) 0 0 r (cn_nr F r) (by omega) (by omega)) ?_
    refine xg_stp rfl rfl rfl rfl ?_
    refine xg_stp rfl rfl rfl rfl ?_
    refine xg_stp (st' := .int (Int32.ofNat 4294967295) :: _) rfl rfl rfl rfl ?_
    refine xg_j2 rfl rfl rfl rfl rfl (fun h51 => ?_) (fun h51 => ?_)
    · exact absurd rfl (nt_ne h51)
    · refine xg_stp (st' := .int (Int32.ofNat 2) :: _) rfl rfl rfl rfl ?_
      refine xg_stp rfl rfl rfl rfl ?_
      refine xg_stp rfl rfl rfl rfl ?_
      refine xg_stp rfl rfl rfl rfl ?_
      refine xg_vcall (cn_g0 B _) rfl rfl rfl rfl rfl rfl (cn_write B (d + 1) (cn_rg F r q) 0 0 2 r q h24) ?_
      refine xg_stp rfl rfl rfl rfl ?_
      exact xg_ret rfl rfl
  · exact absurd (nf1_ne (by omega) h14) h0
/-- deltas from the n-th on are joined in the row SENDING -/
def cn_cl (r : Nat) : Nat → Nat → (Nat → Nat) → (Nat → Nat)
  | 0, _, F => F
  | m + 1, n, F => cn_cl r m (n + 1) (cn_mg 52 (4 + r * 6 + (n - 1) % 6) 4 0 F)
def cn_wp (F : Nat → Nat) : Nat → Nat := cn_wz 4 (52 * 4) F
def cn_fr (F : Nat → Nat) (r q : Nat) : Nat := max (F (16 * (r * 4 + q) + 3)) (F (16 * r + 4) - 6)
/-- the row SENDING becomes what would be sent -/
def cn_co (F : Nat → Nat) (r q : Nat) : Nat → Nat := if F (16 * (r * 4 + q) + 3) < F (16 * r + 5) then cn_mv F r 52 1 else cn_cl r (cn_wp F (16 * r + 4) - cn_fr (cn_wp F) r q) (cn_fr (cn_wp F) r q + 1) (cn_wp F)
theorem cn_clL {b : xi_W} {I : Nat → Nat} {R : Nat × List Value} (B : cn_B b I R) (d c s : Nat) (r q : Nat) (a : Int32) (hr : r < 4) : ∀ (m n : Nat) (F : Nat → Nat), n + m = F (16 * r + 4) + 1 → 0 < n → F (16 * r + 4) < 1000000 → xg (d + 3) 84 57 [(4, .int (Int32.ofNat (n))), (3, .int a), (0, .ref (I 0)), (1, .int (Int32.ofNat r)), (2, .int (Int32.ofNat q))] [] (cn_w b I F) c s (none, cn_w b I (cn_cl r m n F), c, s)
  | 0, n, F, hm, hn, h4 => by
    unfold cn_cl
    refine xg_stp rfl rfl rfl rfl ?_
    refine xg_stp rfl rfl rfl rfl ?_
    refine xg_getfield (cn_g0 B _) rfl rfl rfl rfl ?_
    refine xg_stp rfl rfl rfl rfl ?_
    refine cn_ld7 B (by omega) rfl ?_
    refine xg_j2 rfl rfl rfl rfl rfl (fun h65 => ?_) (fun h65 => ?_)
    · exact xg_ret rfl rfl
    · exact absurd (nf_gt (by omega) (by omega) h65) (by omega)
  | m + 1, n, F, hm, hn, h4 => by
    have e4 := cn_mgo 52 (4 + r * 6 + (n - 1) % 6) 4 0 F (16 * r + 4) (by omega)
    unfold cn_cl
    refine xg_stp rfl rfl rfl rfl ?_
    refine xg_stp rfl rfl rfl rfl ?_
    refine xg_getfield (cn_g0 B _) rfl rfl rfl rfl ?_
    refine xg_stp rfl rfl rfl rfl ?_
    refine cn_ld7 B (by omega) rfl ?_
    refine xg_j2 rfl rfl rfl rfl rfl (fun h65 => ?_) (fun h65 => ?_)
    · exact absurd (nt_gt (by omega) (by omega) h65) (by omega)
    · refine xg_stp rfl rfl rfl rfl ?_
      refine xg_getfield (cn_g0 B _) rfl rfl rfl rfl ?_
      refine xg_stp (st' := .int (Int32.ofNat 52) :: _) rfl rfl rfl rfl ?_
      refine xg_stp rfl rfl rfl rfl ?_
      refine xg_stp rfl rfl rfl rfl ?_
      refine xg_stp rfl rfl rfl rfl ?_
      refine xg_vcall (cn_g0 B _) rfl rfl rfl rfl rfl rfl (cn_deltaRow B (d + 1) F 0 0 r n hr (by omega) (by omega)) ?_
      refine xg_vcall (cn_g1 B _) rfl rfl rfl rfl rfl rfl (cn_merge B (d + 2) F 0 0 52 (4 + r * 6 + (n - 1) % 6) (by omega) (by omega)) ?_
      refine xn_inc (e := 1) rfl rfl rfl rfl ?_
      refine xg_stp rfl rfl rfl rfl ?_
      exact cn_clL B d c s r q a hr m (n + 1) _ (by omega) (by omega) (by omega)
/-- 'compose' -/
theorem cn_compose {b : xi_W} {I : Nat → Nat} {R : Nat × List Value} (B : cn_B b I R) (d : Nat) (F : Nat → Nat) (c s : Nat) (r q : Nat) (hr : r < 4) (hq : q < 4) (h3 : F (16 * (r * 4 + q) + 3) ≤ F (16 * r + 4)) (h4 : F (16 * r + 4) < 1000000) (h5 : F (16 * r + 5) < 1000000) : xg (d + 3) 84 0 [(0, .ref (I 0)), (1, .int (Int32.ofNat r)), (2, .int (Int32.ofNat q))] [] (cn_w b I F) c s (none, cn_w b I (cn_co F r q), c, s) := by
  have w3 : cn_wz 4 (52 * 4) F (16 * (r * 4 + q) + 3) = F (16 * (r * 4 + q) + 3) := cn_wzo _ _ _ _ (by omega)
  have w4 : cn_wz 4 (52 * 4) F (16 * r + 4) = F (16 * r + 4) := cn_wzo _ _ _ _ (by omega)
  have wf : cn_fr (cn_wp F) r q ≤ cn_wp F (16 * r + 4) := by unfold cn_fr cn_wp; rw [w3, w4]; omega
  unfold cn_co
  refine xg_stp rfl rfl rfl rfl ?_
  refine xg_stp rfl rfl rfl rfl ?_
  refine xg_stp rfl rfl rfl rfl ?_
  refine xg_vcall (cn_g0 B _) rfl rfl rfl rfl rfl rfl (cn_needsState B (d + 2) F 0 0 r q hr hq (by omega) h5) ?_
  refine xg_j1 rfl rfl rfl rfl rfl (fun h6 => ?_) (fun h6 => ?_)
  · have e6 : ¬ F (16 * (r * 4 + q) + 3) < F (16 * r + 5) := by
      intro e
      rw [if_pos e] at h6
      exact absurd (nt1_eq (by omega) h6) (by omega)
    rw [if_neg e6]
    refine xg_stp rfl rfl rfl rfl ?_
    refine xg_getfield (cn_g0 B _) rfl rfl rfl rfl ?_
    refine xg_stp (st' := .int (Int32.ofNat 52) :: _) rfl rfl rfl rfl ?_
    refine xg_vcall (cn_g1 B _) rfl rfl rfl rfl rfl rfl (cn_wipe B (d + 2) F 0 0 52 (by omega)) ?_
    refine xg_stp rfl rfl rfl rfl ?_
    refine xg_getfield (cn_g0 B _) rfl rfl rfl rfl ?_
    refine xg_stp rfl rfl rfl rfl ?_
    refine xg_stp (st' := .int (Int32.ofNat 4) :: _) rfl rfl rfl rfl ?_
    refine xn_mul rfl ?_
    refine xg_stp rfl rfl rfl rfl ?_
    refine xn_add rfl ?_
    refine cn_ld6 B (by omega) rfl ?_
    refine xg_stp rfl rfl rfl rfl ?_
    refine xg_getfield (cn_g0 B _) rfl rfl rfl rfl ?_
    refine xg_stp rfl rfl rfl rfl ?_
    refine cn_ld7 B (by omega) rfl ?_
    refine xg_stp (st' := .int (Int32.ofNat 6) :: _) rfl rfl rfl rfl ?_
    refine xn_smx (by omega) (by omega) (by omega) rfl rfl rfl rfl ?_
    refine xg_stp (st' := .int (Int32.ofNat 1) :: _) rfl rfl rfl rfl ?_
    refine xn_add rfl ?_
    refine xg_stp rfl rfl rfl rfl ?_
    refine xg_stp rfl rfl rfl rfl ?_
    refine xg_stp rfl rfl rfl rfl ?_
    exact cn_clL B d c s r q _ hr (cn_wp F (16 * r + 4) - cn_fr (cn_wp F) r q) (cn_fr (cn_wp F) r q + 1) (cn_wp F) (by omega) (by omega) (by show cn_wz 4 (52 * 4) F (16 * r + 4) < 1000000; omega)
  · have e6 : F (16 * (r * 4 + q) + 3) < F (16 * r + 5) := by
      apply Decidable.byContradiction
      intro e
      rw [if_neg e] at h6
      exact absurd rfl (nf1_eq h6)
    rw [if_pos e6]
    refine xg_stp rfl rfl rfl rfl ?_
    refine xg_getfield (cn_g0 B _) rfl rfl rfl rfl ?_
    refine xg_stp (st' := .int (Int32.ofNat 52) :: _) rfl rfl rfl rfl ?_
    refine xg_stp rfl rfl rfl rfl ?_
    refine xg_vcall (cn_g1 B _) rfl rfl rfl rfl rfl rfl (cn_put B d F 0 0 52 r (by omega) (by omega)) ?_
    exact xg_ret rfl rfl
/-- room behind all that is in flight, what is in SENDING goes there -/
def cn_rm (F : Nat → Nat) : Nat → Nat := xn_u (cn_mv F 52 (28 + F 8) 1) 8 (cn_mv F 52 (28 + F 8) 1 8 + 1)
/-- 'roomFor' -/
theorem cn_roomFor {b : xi_W} {I : Nat → Nat} {R : Nat × List Value} (B : cn_B b I R) (d : Nat) (F : Nat → Nat) (c s : Nat) (t : Nat) (ht : t < 2147483648) (h8 : F 8 < 24) (hcm : 0 < F 8 → F (16 * ((F 8 - 1) * 5 + 2) + 6) ≤ t) : xg (d + 2) 90 0 [(0, .ref (I 0)), (1, .int (Int32.ofNat t))] [] (cn_w b I F) c s (some (.int (Int32.ofNat (F 8 * 5))), cn_w b I (cn_rm F), c, s) := by
  refine xg_stp rfl rfl rfl rfl ?_
  refine xg_getfield (cn_g0 B _) rfl rfl rfl rfl ?_
  refine xg_stp rfl rfl rfl rfl ?_
  refine xg_stp rfl rfl rfl rfl ?_
  refine xg_j1 rfl rfl rfl rfl rfl (fun h6 => ?_) (fun h6 => ?_)
  · refine xg_stp rfl rfl rfl rfl ?_
    refine xg_stp (st' := .int (Int32.ofNat 5) :: _) rfl rfl rfl rfl ?_
    refine xn_mul rfl ?_
    refine xg_stp rfl rfl rfl rfl ?_
    refine xg_stp rfl rfl rfl rfl ?_
    refine xg_getfield (cn_g0 B _) rfl rfl rfl rfl ?_
    refine xg_stp rfl rfl rfl rfl ?_
    refine xg_stp rfl rfl rfl rfl ?_
    refine xg_getfield (cn_g0 B _) rfl rfl rfl rfl ?_
    refine xg_stp rfl rfl rfl rfl ?_
    refine xg_stp (st' := .int (Int32.ofNat 5) :: _) rfl rfl rfl rfl ?_
    refine xn_add rfl ?_
    refine xg_stp rfl rfl rfl rfl ?_
    refine xg_getfield (cn_g0 B _) rfl rfl rfl rfl ?_
    refine xg_stp rfl rfl rfl rfl ?_
    refine xn_sub (by omega) rfl ?_
    refine xg_stp (st' := .int (Int32.ofNat 5) :: _) rfl rfl rfl rfl ?_
    refine xn_mul rfl ?_
    refine cn_ac9 B (by omega) (by omega) rfl rfl rfl ?_
    rw [Nat.sub_self, Nat.zero_mul, cn_cp0]
    refine xg_stp rfl rfl rfl rfl ?_
    refine xg_getfield (cn_g0 B _) rfl rfl rfl rfl ?_
    refine xg_stp (st' := .int (Int32.ofNat 28) :: _) rfl rfl rfl rfl ?_
    refine xg_stp rfl rfl rfl rfl ?_
    refine xn_add rfl ?_
    refine xg_stp (st' := .int (Int32.ofNat 28) :: _) rfl rfl rfl rfl ?_
    refine xg_stp rfl rfl rfl rfl ?_
    refine xn_add rfl ?_
    refine xg_stp (st' := .int (Int32.ofNat 1) :: _) rfl rfl rfl rfl ?_
    refine xn_add rfl ?_
    refine xg_stp rfl rfl rfl rfl ?_
    refine xg_getfield (cn_g0 B _) rfl rfl rfl rfl ?_
    refine xg_stp rfl rfl rfl rfl ?_
    refine xn_sub (by omega) rfl ?_
    refine xg_vcall (cn_g1 B _) rfl rfl rfl rfl rfl rfl (cn_move B d F 0 0 (28 + F 8) (28 + F 8 + 1) (F 8 - F 8) (by omega) (by omega)) ?_
    rw [Nat.sub_self, cn_mv0]
    refine xg_stp rfl rfl rfl rfl ?_
    refine xg_getfield (cn_g0 B _) rfl rfl rfl rfl ?_
    refine xg_stp (st' := .int (Int32.ofNat 52) :: _) rfl rfl rfl rfl ?_
    refine xg_stp (st' := .int (Int32.ofNat 28) :: _) rfl rfl rfl rfl ?_
    refine xg_stp rfl rfl rfl rfl ?_
    refine xn_add rfl ?_
    refine xg_stp (st' := .int (Int32.ofNat 1) :: _) rfl rfl rfl rfl ?_
    refine xg_vcall (cn_g1 B _) rfl rfl rfl rfl rfl rfl (cn_move B d F 0 0 52 (28 + F 8) 1 (by omega) (by omega)) ?_
    refine xg_stp rfl rfl rfl rfl ?_
    refine xg_stp rfl rfl rfl rfl ?_
    refine xg_getfield (cn_g0 B _) rfl rfl rfl rfl ?_
    refine xg_stp (st' := .int (Int32.ofNat 1) :: _) rfl rfl rfl rfl ?_
    refine xn_add rfl ?_
    refine cn_pf0 B rfl rfl ?_
    refine xg_stp rfl rfl rfl rfl ?_
    exact xg_ret rfl rfl
  · have e6 := nf1_le (by omega) h6
    have e7 := hcm e6
    refine xg_stp rfl rfl rfl rfl ?_
    refine xg_getfield (cn_g0 B _) rfl rfl rfl rfl ?_
    refine xg_stp rfl rfl rfl rfl ?_
    refine xg_stp (st' := .int (Int32.ofNat 1) :: _) rfl rfl rfl rfl ?_
    refine xn_sub (by omega) rfl ?_
    refine xg_stp (st' := .int (Int32.ofNat 5) :: _) rfl rfl rfl rfl ?_
    refine xn_mul rfl ?_
    refine xg_stp (st' := .int (Int32.ofNat 2) :: _) rfl rfl rfl rfl ?_
    refine xn_add rfl ?_
    refine cn_ld9 B (by omega) rfl ?_
    refine xg_stp rfl rfl rfl rfl ?_
    refine xg_j2 rfl rfl rfl rfl rfl (fun h22 => ?_) (fun h22 => ?_)
    · refine xg_stp rfl rfl rfl rfl ?_
      refine xg_stp (st' := .int (Int32.ofNat 5) :: _) rfl rfl rfl rfl ?_
      refine xn_mul rfl ?_
      refine xg_stp rfl rfl rfl rfl ?_
      refine xg_stp rfl rfl rfl rfl ?_
      refine xg_getfield (cn_g0 B _) rfl rfl rfl rfl ?_
      refine xg_stp rfl rfl rfl rfl ?_
      refine xg_stp rfl rfl rfl rfl ?_
      refine xg_getfield (cn_g0 B _) rfl rfl rfl rfl ?_
      refine xg_stp rfl rfl rfl rfl ?_
      refine xg_stp (st' := .int (Int32.ofNat 5) :: _) rfl rfl rfl rfl ?_
      refine xn_add rfl ?_
      refine xg_stp rfl rfl rfl rfl ?_
      refine xg_getfield (cn_g0 B _) rfl rfl rfl rfl ?_
      refine xg_stp rfl rfl rfl rfl ?_
      refine xn_sub (by omega) rfl ?_
      refine xg_stp (st' := .int (Int32.ofNat 5) :: _) rfl rfl rfl rfl ?_
      refine xn_mul rfl ?_
      refine cn_ac9 B (by omega) (by omega) rfl rfl rfl ?_
      rw [Nat.sub_self, Nat.zero_mul, cn_cp0]
      refine xg_stp rfl rfl rfl rfl ?_
      refine xg_getfield (cn_g0 B _) rfl rfl rfl rfl ?_
      refine xg_stp (st' := .int (Int32.ofNat 28) :: _) rfl rfl rfl rfl ?_
      refine xg_stp rfl rfl rfl rfl ?_
      refine xn_add rfl ?_
      refine xg_stp (st' := .int (Int32.ofNat 28) :: _) rfl rfl rfl rfl ?_
      refine xg_stp rfl rfl rfl rfl ?_
      refine xn_add rfl ?_
      refine xg_stp (st' := .int (Int32.ofNat 1) :: _) rfl rfl rfl rfl ?_
      refine xn_add rfl ?_
      refine xg_stp rfl rfl rfl rfl ?_
      refine xg_getfield (cn_g0 B _) rfl rfl rfl rfl ?_
      refine xg_stp rfl rfl rfl rfl ?_
      refine xn_sub (by omega) rfl ?_
      refine xg_vcall (cn_g1 B _) rfl rfl rfl rfl rfl rfl (cn_move B d F 0 0 (28 + F 8) (28 + F 8 + 1) (F 8 - F 8) (by omega) (by omega)) ?_
      rw [Nat.sub_self, cn_mv0]
      refine xg_stp rfl rfl rfl rfl ?_
      refine xg_getfield (cn_g0 B _) rfl rfl rfl rfl ?_
      refine xg_stp (st' := .int (Int32.ofNat 52) :: _) rfl rfl rfl rfl ?_
      refine xg_stp (st' := .int (Int32.ofNat 28) :: _) rfl rfl rfl rfl ?_
      refine xg_stp rfl rfl rfl rfl ?_
      refine xn_add rfl ?_
      refine xg_stp (st' := .int (Int32.ofNat 1) :: _) rfl rfl rfl rfl ?_
      refine xg_vcall (cn_g1 B _) rfl rfl rfl rfl rfl rfl (cn_move B d F 0 0 52 (28 + F 8) 1 (by omega) (by omega)) ?_
      refine xg_stp rfl rfl rfl rfl ?_
      refine xg_stp rfl rfl rfl rfl ?_
      refine xg_getfield (cn_g0 B _) rfl rfl rfl rfl ?_
      refine xg_stp (st' := .int (Int32.ofNat 1) :: _) rfl rfl rfl rfl ?_
      refine xn_add rfl ?_
      refine cn_pf0 B rfl rfl ?_
      refine xg_stp rfl rfl rfl rfl ?_
      exact xg_ret rfl rfl
    · exact absurd (nf_le (by omega) ht h22) (by omega)
def cn_q1 (F : Nat → Nat) : Nat → Nat := xn_u F 72 (F 72 + 1)
def cn_q2 (F : Nat → Nat) : Nat → Nat := xn_u (cn_q1 F) 56 ((cn_q1 F 56 * 773 + 641) % 31139)
def cn_q3 (F : Nat → Nat) : Nat → Nat := xn_u (cn_q2 F) 88 (cn_q2 F 88 + 1)
theorem cn_q2o (F : Nat → Nat) {j : Nat} (h : j ≠ 56) (h2 : j ≠ 72) : cn_q2 F j = F j := by
  unfold cn_q2 cn_q1; rw [xn_un _ _ h, xn_un _ _ h2]
/-- the least of what is acked -/
def cn_lm (F : Nat → Nat) (r : Nat) : Nat → Nat → Nat → Nat
  | 0, _, v => v
  | m + 1, k, v => cn_lm F r m (k + 1) (if k = r then v else min v (F (16 * (r * 4 + k) + 3)))
theorem cn_lmle (F : Nat → Nat) (r : Nat) : ∀ (m k v : Nat), cn_lm F r m k v ≤ v
  | 0, _, _ => Nat.le_refl _
  | m + 1, k, v => by
    unfold cn_lm
    refine Nat.le_trans (cn_lmle F r m (k + 1) _) ?_
    split <;> omega
def cn_a1 (F : Nat → Nat) (r q u : Nat) : Nat → Nat := xn_u F (16 * (r * 4 + q) + 3) (max (F (16 * (r * 4 + q) + 3)) u)
/-- what is ACKED is as much -/
def cn_ak (F : Nat → Nat) (r q u : Nat) : Nat → Nat := xn_u (cn_a1 F r q u) (16 * r + 5) (max (cn_a1 F r q u (16 * r + 5)) (cn_lm (cn_a1 F r q u) r 4 0 (cn_a1 F r q u (16 * r + 4))))
theorem cn_lmL {b : xi_W} {I : Nat → Nat} {R : Nat × List Value} (B : cn_B b I R) (d c s : Nat) (r q u : Nat) (a : Int32) (hr : r < 4) (F : Nat → Nat) (hA : ∀ k, k < 4 → F (16 * (r * 4 + k) + 3) < 2147483648) (Q : xi_R) : ∀ (m k v : Nat), k + m = 4 → v < 2147483648 → xg (d + 1) 93 72 [(6, .int (Int32.ofNat (4))), (5, .int (Int32.ofNat (cn_lm F r m k v))), (4, .int a), (0, .ref (I 0)), (1, .int (Int32.ofNat r)), (2, .int (Int32.ofNat q)), (3, .int (Int32.ofNat u))] [] (cn_w b I F) c s Q → xg (d + 1) 93 36 [(6, .int (Int32.ofNat (k))), (5, .int (Int32.ofNat (v))), (4, .int a), (0, .ref (I 0)), (1, .int (Int32.ofNat r)), (2, .int (Int32.ofNat q)), (3, .int (Int32.ofNat u))] [] (cn_w b I F) c s Q
  | 0, k, v, hm, hv, hk => by
    have e0 : k = 4 := by omega
    subst e0
    refine xg_stp rfl rfl rfl rfl ?_
    refine xg_stp (st' := .int (Int32.ofNat 4) :: _) rfl rfl rfl rfl ?_
    refine xg_j2 rfl rfl rfl rfl rfl (fun h39 => ?_) (fun h39 => ?_)
    · exact hk
    · exact absurd (nf_ge (by omega) (by omega) h39) (by omega)
  | m + 1, k, v, hm, hv, hk => by
    have g := hA k (by omega)
    unfold cn_lm at hk
    refine xg_stp rfl rfl rfl rfl ?_
    refine xg_stp (st' := .int (Int32.ofNat 4) :: _) rfl rfl rfl rfl ?_
    refine xg_j2 rfl rfl rfl rfl rfl (fun h39 => ?_) (fun h39 => ?_)
    · exact absurd (nt_ge (by omega) (by omega) h39) (by omega)
    · refine xg_stp rfl rfl rfl rfl ?_
      refine xg_stp rfl rfl rfl rfl ?_
      refine xg_j2 rfl rfl rfl rfl rfl (fun h45 => ?_) (fun h45 => ?_)
      · rw [if_pos (nt_eq (by omega) (by omega) h45)] at hk
        refine xn_inc (e := 1) rfl rfl rfl rfl ?_
        refine xg_stp rfl rfl rfl rfl ?_
        exact cn_lmL B d c s r q u a hr F hA Q m (k + 1) _ (by omega) (by omega) hk
      · rw [if_neg (nf_eq h45)] at hk
        refine xg_stp rfl rfl rfl rfl ?_
        refine xg_stp rfl rfl rfl rfl ?_
        refine xg_getfield (cn_g0 B _) rfl rfl rfl rfl ?_
        refine xg_stp rfl rfl rfl rfl ?_
        refine xg_stp (st' := .int (Int32.ofNat 4) :: _) rfl rfl rfl rfl ?_
        refine xn_mul rfl ?_
        refine xg_stp rfl rfl rfl rfl ?_
        refine xn_add rfl ?_
        refine cn_ld6 B (by omega) rfl ?_
        refine xn_min (by omega) (by omega) rfl rfl rfl ?_
        refine xg_stp rfl rfl rfl rfl ?_
        refine xn_inc (e := 1) rfl rfl rfl rfl ?_
        refine xg_stp rfl rfl rfl rfl ?_
        exact cn_lmL B d c s r q u a hr F hA Q m (k + 1) _ (by omega) (by omega) hk
/-- 'acknowledge' -/
theorem cn_acknowledge {b : xi_W} {I : Nat → Nat} {R : Nat × List Value} (B : cn_B b I R) (d : Nat) (F : Nat → Nat) (c s : Nat) (r q u : Nat) (hr : r < 4) (hq : q < 4) (hu : u < 2147483648) (h4 : F (16 * r + 4) < 2147483648) (h5 : F (16 * r + 5) < 2147483648) (hA : ∀ k, k < 4 → F (16 * (r * 4 + k) + 3) < 2147483648) : xg (d + 1) 93 0 [(0, .ref (I 0)), (1, .int (Int32.ofNat r)), (2, .int (Int32.ofNat q)), (3, .int (Int32.ofNat u))] [] (cn_w b I F) c s (none, cn_w b I (cn_ak F r q u), c, s) := by
  have hq3 := hA q hq
  have a4 : cn_a1 F r q u (16 * r + 4) = F (16 * r + 4) := xn_un _ _ (by omega)
  have a4b : xn_u F (16 * (r * 4 + q) + 3) (max (F (16 * (r * 4 + q) + 3)) u) (16 * r + 4) = F (16 * r + 4) := xn_un _ _ (by omega)
  have a5 : cn_a1 F r q u (16 * r + 5) = F (16 * r + 5) := xn_un _ _ (by omega)
  have hA1 : ∀ k, k < 4 → cn_a1 F r q u (16 * (r * 4 + k) + 3) < 2147483648 := fun k hk => by
    have := hA k hk
    unfold cn_a1 xn_u
    split <;> omega
  have hl := cn_lmle (cn_a1 F r q u) r 4 0 (cn_a1 F r q u (16 * r + 4))
  refine xg_stp rfl rfl rfl rfl ?_
  refine xg_stp (st' := .int (Int32.ofNat 4) :: _) rfl rfl rfl rfl ?_
  refine xn_mul rfl ?_
  refine xg_stp rfl rfl rfl rfl ?_
  refine xn_add rfl ?_
  refine xg_stp rfl rfl rfl rfl ?_
  refine xg_stp rfl rfl rfl rfl ?_
  refine xg_getfield (cn_g0 B _) rfl rfl rfl rfl ?_
  refine xg_stp rfl rfl rfl rfl ?_
  refine xg_stp rfl rfl rfl rfl ?_
  refine xg_getfield (cn_g0 B _) rfl rfl rfl rfl ?_
  refine xg_stp rfl rfl rfl rfl ?_
  refine cn_ld6 B (by omega) rfl ?_
  refine xg_stp rfl rfl rfl rfl ?_
  refine xn_max (by omega) (by omega) rfl rfl rfl ?_
  refine cn_st6 B (by omega) rfl ?_
  refine xg_stp rfl rfl rfl rfl ?_
  refine xg_getfield (cn_g0 B _) rfl rfl rfl rfl ?_
  refine xg_stp rfl rfl rfl rfl ?_
  refine cn_ld7 B (by omega) rfl ?_
  refine xg_stp rfl rfl rfl rfl ?_
  refine xg_stp (st' := .int (Int32.ofNat 0) :: _) rfl rfl rfl rfl ?_
  refine xg_stp rfl rfl rfl rfl ?_
  refine cn_lmL B d c s r q u _ hr (cn_a1 F r q u) hA1 _ 4 0 _ rfl (by omega) ?_
  refine xg_stp rfl rfl rfl rfl ?_
  refine xg_getfield (cn_g0 B _) rfl rfl rfl rfl ?_
  refine xg_stp rfl rfl rfl rfl ?_
  refine xg_stp rfl rfl rfl rfl ?_
  refine xg_getfield (cn_g0 B _) rfl rfl rfl rfl ?_
  refine xg_stp rfl rfl rfl rfl ?_
  refine cn_ld8 B (by omega) rfl ?_
  refine xg_stp rfl rfl rfl rfl ?_
  refine xn_max (by first | omega | (show cn_a1 F r q u (16 * r + 5) < 2147483648; omega) | (show cn_lm (cn_a1 F r q u) r 4 0 (cn_a1 F r q u (16 * r + 4)) < 2147483648; omega)) (by first | omega | (show cn_a1 F r q u (16 * r + 5) < 2147483648; omega) | (show cn_lm (cn_a1 F r q u) r 4 0 (cn_a1 F r q u (16 * r + 4)) < 2147483648; omega)) rfl rfl rfl ?_
  refine cn_st8 B (by omega) rfl ?_
  exact xg_ret rfl rfl
def cn_b5 (F : Nat → Nat) (r : Nat) : Nat → Nat := cn_mg 54 53 4 0 (cn_mv F r 54 1)
def cn_b6 (F : Nat → Nat) (r : Nat) : Nat → Nat := cn_mv (cn_b5 F r) 54 r 1
/-- what came is joined -/
def cn_ab (F : Nat → Nat) (r : Nat) : Nat → Nat := if cn_lk (cn_b5 F r) 54 r 4 0 = 0 then cn_mv (cn_nd (cn_b6 F r) r) 53 (cn_nr (cn_b6 F r) r) 1 else cn_b5 F r
theorem cn_lk1 (F : Nat → Nat) (X Y : Nat) : ∀ (m k : Nat), cn_lk F X Y m k ≤ 1
  | 0, _ => Nat.le_refl _
  | m + 1, k => by
    unfold cn_lk
    split
    · exact cn_lk1 F X Y m (k + 1)
    · omega
/-- 'absorb' -/
theorem cn_absorb {b : xi_W} {I : Nat → Nat} {R : Nat × List Value} (B : cn_B b I R) (d : Nat) (F : Nat → Nat) (c s : Nat) (r : Nat) (hr : r < 4) (l1 : cn_lo (cn_b5 F r) 54) (l2 : cn_lo (cn_b5 F r) r) (h4 : F (16 * r + 4) < 1000000) (h5 : F (16 * r + 5) < 1000000) : xg (d + 3) 92 0 [(0, .ref (I 0)), (1, .int (Int32.ofNat r))] [] (cn_w b I F) c s (none, cn_w b I (cn_ab F r), c, s) := by
  have hnr := cn_nrl (cn_b6 F r) hr
  have g4 : cn_b6 F r (16 * r + 4) = F (16 * r + 4) := by unfold cn_b6 cn_b5; rw [cn_mvo _ _ _ _ (by omega), cn_mgo _ _ _ _ _ _ (by omega), cn_mvo _ _ _ _ (by omega)]
  have g5 : cn_b6 F r (16 * r + 5) = F (16 * r + 5) := by unfold cn_b6 cn_b5; rw [cn_mvo _ _ _ _ (by omega), cn_mgo _ _ _ _ _ _ (by omega), cn_mvo _ _ _ _ (by omega)]
  unfold cn_ab
  refine xg_stp rfl rfl rfl rfl ?_
  refine xg_getfield (cn_g0 B _) rfl rfl rfl rfl ?_
  refine xg_stp (st' := .int (Int32.ofNat 54) :: _) rfl rfl rfl rfl ?_
  refine xg_stp rfl rfl rfl rfl ?_
  refine xg_vcall (cn_g1 B _) rfl rfl rfl rfl rfl rfl (cn_put B d F 0 0 54 r (by omega) (by omega)) ?_
  refine xg_stp rfl rfl rfl rfl ?_
  refine xg_getfield (cn_g0 B _) rfl rfl rfl rfl ?_
  refine xg_stp (st' := .int (Int32.ofNat 54) :: _) rfl rfl rfl rfl ?_
  refine xg_stp (st' := .int (Int32.ofNat 53) :: _) rfl rfl rfl rfl ?_
  refine xg_vcall (cn_g1 B _) rfl rfl rfl rfl rfl rfl (cn_merge B (d + 2) (cn_mv F r 54 1) 0 0 54 53 (by omega) (by omega)) ?_
  refine xg_stp rfl rfl rfl rfl ?_
  refine xg_getfield (cn_g0 B _) rfl rfl rfl rfl ?_
  refine xg_stp (st' := .int (Int32.ofNat 54) :: _) rfl rfl rfl rfl ?_
  refine xg_stp rfl rfl rfl rfl ?_
  refine xg_vcall (cn_g1 B _) rfl rfl rfl rfl rfl rfl (cn_alike B (d + 2) (cn_b5 F r) 0 0 54 r (by omega) (by omega) l1 l2) ?_
  refine xg_j1 rfl rfl rfl rfl rfl (fun h31 => ?_) (fun h31 => ?_)
  · rw [if_neg (nt1_ne h31)]
    exact xg_ret rfl rfl
  · rw [if_pos (nf1_ne (Nat.lt_of_le_of_lt (cn_lk1 _ _ _ _ _) (by omega)) h31)]
    refine xg_stp rfl rfl rfl rfl ?_
    refine xg_getfield (cn_g0 B _) rfl rfl rfl rfl ?_
    refine xg_stp rfl rfl rfl rfl ?_
    refine xg_stp (st' := .int (Int32.ofNat 54) :: _) rfl rfl rfl rfl ?_
    refine xg_vcall (cn_g1 B _) rfl rfl rfl rfl rfl rfl (cn_put B d (cn_b5 F r) 0 0 r 54 (by omega) (by omega)) ?_
    refine xg_stp rfl rfl rfl rfl ?_
    refine xg_getfield (cn_g0 B _) rfl rfl rfl rfl ?_
    refine xg_stp rfl rfl rfl rfl ?_
    refine xg_stp rfl rfl rfl rfl ?_
    refine xg_vcall (cn_g0 B _) rfl rfl rfl rfl rfl rfl (cn_nextDelta B d (cn_b6 F r) 0 0 r hr (by omega) (by omega)) ?_
    refine xg_stp (st' := .int (Int32.ofNat 53) :: _) rfl rfl rfl rfl ?_
    refine xg_vcall (cn_g1 B _) rfl rfl rfl rfl rfl rfl (cn_put B d (cn_nd (cn_b6 F r) r) 0 0 (cn_nr (cn_b6 F r) r) 53 (by omega) (by omega)) ?_
    exact xg_ret rfl rfl
