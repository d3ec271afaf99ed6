/-! the class: methods of Nests and World over their numbers -/
/-- 'deltaRow' -/
theorem cn_deltaRow {b : xi_W} {I : Nat → Nat} {R : Nat × List Value} (B : cn_B b I R) (d : Nat) (F : Nat → Nat) (c s : Nat) (r n : Nat) (hr : r < 4) (hn : 0 < n) (hn2 : n < 2147483648) : xg (d + 1) 83 0 [(0, .ref (I 0)), (1, .int (Int32.ofNat r)), (2, .int (Int32.ofNat n))] [] (cn_w b I F) c s (some (.int (Int32.ofNat (4 + r * 6 + (n - 1) % 6))), cn_w b I (F), c, s) := by
  refine xg_stp (st' := .int (Int32.ofNat 4) :: _) rfl rfl rfl rfl ?_
  refine xg_stp rfl rfl rfl rfl ?_
  refine xg_stp (st' := .int (Int32.ofNat 6) :: _) rfl rfl rfl rfl ?_
  refine xn_mul rfl ?_
  refine xn_add rfl ?_
  refine xg_stp rfl rfl rfl rfl ?_
  refine xg_stp (st' := .int (Int32.ofNat 1) :: _) rfl rfl rfl rfl ?_
  refine xn_sub (by omega) rfl ?_
  refine xg_stp (st' := .int (Int32.ofNat 6) :: _) rfl rfl rfl rfl ?_
  refine xn_fm (by omega) (by omega) (by omega) rfl rfl rfl ?_
  refine xn_add rfl ?_
  exact xg_ret rfl rfl
def cn_n1 (F : Nat → Nat) (r : Nat) : Nat → Nat := xn_u F (16 * r + 4) (F (16 * r + 4) + 1)
/-- the next delta's place is made free -/
def cn_nd (F : Nat → Nat) (r : Nat) : Nat → Nat := xn_u (cn_n1 F r) (16 * r + 5) (max (cn_n1 F r (16 * r + 5)) (cn_n1 F r (16 * r + 4) - 6))
theorem cn_nd4 (F : Nat → Nat) (r : Nat) : cn_nd F r (16 * r + 4) = F (16 * r + 4) + 1 := by
  unfold cn_nd cn_n1; rw [xn_un _ _ (by omega), xn_ue]
def cn_nr (F : Nat → Nat) (r : Nat) : Nat := 4 + r * 6 + (cn_nd F r (16 * r + 4) - 1) % 6
theorem cn_nrl (F : Nat → Nat) {r : Nat} (hr : r < 4) : 4 ≤ cn_nr F r ∧ cn_nr F r < 28 := by unfold cn_nr; omega
/-- 'nextDelta' -/
theorem cn_nextDelta {b : xi_W} {I : Nat → Nat} {R : Nat × List Value} (B : cn_B b I R) (d : Nat) (F : Nat → Nat) (c s : Nat) (r : Nat) (hr : r < 4) (h4 : F (16 * r + 4) < 1000000) (h5 : F (16 * r + 5) < 1000000) : xg (d + 2) 88 0 [(0, .ref (I 0)), (1, .int (Int32.ofNat r))] [] (cn_w b I F) c s (some (.int (Int32.ofNat (cn_nr F r))), cn_w b I (cn_nd F r), c, s) := by
  have g4 : xn_u F (16 * r + 4) (F (16 * r + 4) + 1) (16 * r + 4) = F (16 * r + 4) + 1 := xn_ue _ _ _
  have g5 : xn_u F (16 * r + 4) (F (16 * r + 4) + 1) (16 * r + 5) = F (16 * r + 5) := xn_un _ _ (by omega)
  have e4 := cn_nd4 F r
  refine xg_stp rfl rfl rfl rfl ?_
  refine xg_getfield (cn_g0 B _) rfl rfl rfl rfl ?_
  refine xg_stp rfl rfl rfl rfl ?_
  refine xg_stp rfl rfl rfl rfl ?_
  refine cn_ld7 B (by omega) rfl ?_
  refine xg_stp (st' := .int (Int32.ofNat 1) :: _) rfl rfl rfl rfl ?_
  refine xn_add rfl ?_
  refine cn_st7 B (by omega) rfl ?_
  refine xg_stp rfl rfl rfl rfl ?_
  refine xg_getfield (cn_g0 B _) rfl rfl rfl rfl ?_
  refine xg_stp rfl rfl rfl rfl ?_
  refine xg_stp rfl rfl rfl rfl ?_
  refine xg_getfield (cn_g0 B _) rfl rfl rfl rfl ?_
  refine xg_stp rfl rfl rfl rfl ?_
  refine cn_ld8 B (by omega) rfl ?_
  refine xg_stp rfl rfl rfl rfl ?_
  refine xg_getfield (cn_g0 B _) rfl rfl rfl rfl ?_
  refine xg_stp rfl rfl rfl rfl ?_
  refine cn_ld7 B (by omega) rfl ?_
  refine xg_stp (st' := .int (Int32.ofNat 6) :: _) rfl rfl rfl rfl ?_
  refine xn_smx (by omega) (by omega) (by omega) rfl rfl rfl rfl ?_
  refine cn_st8 B (by omega) rfl ?_
  refine xg_stp rfl rfl rfl rfl ?_
  refine xg_stp rfl rfl rfl rfl ?_
  refine xg_stp rfl rfl rfl rfl ?_
  refine xg_getfield (cn_g0 B _) rfl rfl rfl rfl ?_
  refine xg_stp rfl rfl rfl rfl ?_
  refine cn_ld7 B (by omega) rfl ?_
  refine xg_vcall (cn_g0 B _) rfl rfl rfl rfl rfl rfl (cn_deltaRow B d (cn_nd F r) 0 0 r (cn_nd F r (16 * r + 4)) hr (by omega) (by omega)) ?_
  exact xg_ret rfl rfl
/-- 'draw' -/
theorem cn_draw {b : xi_W} {I : Nat → Nat} {R : Nat × List Value} (B : cn_B b I R) (d : Nat) (F : Nat → Nat) (c s : Nat) (hx : F 56 < 1000000) : xg (d) 87 0 [(0, .ref (I 0))] [] (cn_w b I F) c s (some (.int (Int32.ofNat (F 56))), cn_w b I (xn_u F 56 ((F 56 * 773 + 641) % 31139)), c, s) := by
  refine xg_stp rfl rfl rfl rfl ?_
  refine xg_getfield (cn_g0 B _) rfl rfl rfl rfl ?_
  refine xg_stp rfl rfl rfl rfl ?_
  refine xg_stp rfl rfl rfl rfl ?_
  refine xg_stp rfl rfl rfl rfl ?_
  refine xg_getfield (cn_g0 B _) rfl rfl rfl rfl ?_
  refine xg_stp (st' := .int (Int32.ofNat 773) :: _) rfl rfl rfl rfl ?_
  refine xn_mul rfl ?_
  refine xg_stp (st' := .int (Int32.ofNat 641) :: _) rfl rfl rfl rfl ?_
  refine xn_add rfl ?_
  refine xg_stp (st' := .int (Int32.ofNat 31139) :: _) rfl rfl rfl rfl ?_
  refine xn_mod (by omega) (by omega) (by omega) rfl ?_
  refine cn_pf3 B rfl rfl ?_
  refine xg_stp rfl rfl rfl rfl ?_
  exact xg_ret rfl rfl
/-- 'lag' -/
theorem cn_lag {b : xi_W} {I : Nat → Nat} {R : Nat × List Value} (B : cn_B b I R) (d : Nat) (F : Nat → Nat) (c s : Nat) (r q : Nat) (hr : r < 4) (hq : q < 4) (h : F (16 * (r * 4 + q) + 3) ≤ F (16 * r + 4)) : xg (d) 81 0 [(0, .ref (I 0)), (1, .int (Int32.ofNat r)), (2, .int (Int32.ofNat q))] [] (cn_w b I F) c s (some (.int (Int32.ofNat (F (16 * r + 4) - F (16 * (r * 4 + q) + 3)))), cn_w b I (F), c, s) := by
  refine xg_stp rfl rfl rfl rfl ?_
  refine xg_getfield (cn_g0 B _) rfl rfl rfl rfl ?_
  refine xg_stp rfl rfl rfl rfl ?_
  refine cn_ld7 B (by omega) rfl ?_
  refine xg_stp rfl rfl rfl rfl ?_
  refine xg_getfield (cn_g0 B _) rfl rfl rfl rfl ?_
  refine xg_stp rfl rfl rfl rfl ?_
  refine xg_stp (st' := .int (Int32.ofNat 4) :: _) rfl rfl rfl rfl ?_
  refine xn_mul rfl ?_
  refine xg_stp rfl rfl rfl rfl ?_
  refine xn_add rfl ?_
  refine cn_ld6 B (by omega) rfl ?_
  refine xn_sub (by omega) rfl ?_
  exact xg_ret rfl rfl
/-- 'hasNews' -/
theorem cn_hasNews {b : xi_W} {I : Nat → Nat} {R : Nat × List Value} (B : cn_B b I R) (d : Nat) (F : Nat → Nat) (c s : Nat) (r q : Nat) (hr : r < 4) (hq : q < 4) (h : F (16 * (r * 4 + q) + 3) ≤ F (16 * r + 4)) (h4 : F (16 * r + 4) < 1000000) : xg (d + 1) 80 0 [(0, .ref (I 0)), (1, .int (Int32.ofNat r)), (2, .int (Int32.ofNat q))] [] (cn_w b I F) c s (some (.int (Int32.ofNat (if F (16 * (r * 4 + q) + 3) < F (16 * r + 4) then 1 else 0))), cn_w b I (F), c, s) := by
  refine xg_stp rfl rfl rfl rfl ?_
  refine xg_stp rfl rfl rfl rfl ?_
  refine xg_stp rfl rfl rfl rfl ?_
  refine xg_vcall (cn_g0 B _) rfl rfl rfl rfl rfl rfl (cn_lag B d F 0 0 r q hr hq h) ?_
  refine xg_j1 rfl rfl rfl rfl rfl (fun h6 => ?_) (fun h6 => ?_)
  · have e6 := nt1_le (by omega) h6
    rw [if_neg (show ¬ F (16 * (r * 4 + q) + 3) < F (16 * r + 4) by omega)]
    refine xg_stp (st' := .int (Int32.ofNat 0) :: _) rfl rfl rfl rfl ?_
    exact xg_ret rfl rfl
  · have e6 := nf1_le (by omega) h6
    rw [if_pos (show F (16 * (r * 4 + q) + 3) < F (16 * r + 4) by omega)]
    refine xg_stp (st' := .int (Int32.ofNat 1) :: _) rfl rfl rfl rfl ?_
    refine xg_stp rfl rfl rfl rfl ?_
    exact xg_ret rfl rfl
/-- 'needsState' -/
theorem cn_needsState {b : xi_W} {I : Nat → Nat} {R : Nat × List Value} (B : cn_B b I R) (d : Nat) (F : Nat → Nat) (c s : Nat) (r q : Nat) (hr : r < 4) (hq : q < 4) (h3 : F (16 * (r * 4 + q) + 3) < 1000000) (h5 : F (16 * r + 5) < 1000000) : xg (d) 82 0 [(0, .ref (I 0)), (1, .int (Int32.ofNat r)), (2, .int (Int32.ofNat q))] [] (cn_w b I F) c s (some (.int (Int32.ofNat (if F (16 * (r * 4 + q) + 3) < F (16 * r + 5) then 1 else 0))), cn_w b I (F), c, s) := by
  refine xg_stp rfl rfl rfl rfl ?_
  refine xg_getfield (cn_g0 B _) rfl rfl rfl rfl ?_
  refine xg_stp rfl rfl rfl rfl ?_
  refine xg_stp (st' := .int (Int32.ofNat 4) :: _) rfl rfl rfl rfl ?_
  refine xn_mul rfl ?_
  refine xg_stp rfl rfl rfl rfl ?_
  refine xn_add rfl ?_
  refine cn_ld6 B (by omega) rfl ?_
  refine xg_stp rfl rfl rfl rfl ?_
  refine xg_getfield (cn_g0 B _) rfl rfl rfl rfl ?_
  refine xg_stp rfl rfl rfl rfl ?_
  refine cn_ld8 B (by omega) rfl ?_
  refine xg_j2 rfl rfl rfl rfl rfl (fun h16 => ?_) (fun h16 => ?_)
  · rw [if_neg (Nat.not_lt.mpr (nt_ge (by omega) (by omega) h16))]
    refine xg_stp (st' := .int (Int32.ofNat 0) :: _) rfl rfl rfl rfl ?_
    exact xg_ret rfl rfl
  · rw [if_pos (nf_ge (by omega) (by omega) h16)]
    refine xg_stp (st' := .int (Int32.ofNat 1) :: _) rfl rfl rfl rfl ?_
    refine xg_stp rfl rfl rfl rfl ?_
    exact xg_ret rfl rfl
/-- a line of the book -/
def cn_w2 (F : Nat → Nat) (a r k : Nat) : Nat → Nat := xn_u (xn_u (xn_u (xn_u F (16 * (F 24 * 4) + 7) (F 40)) (16 * (F 24 * 4 + 1) + 7) a) (16 * (F 24 * 4 + 2) + 7) r) (16 * (F 24 * 4 + 3) + 7) k
def cn_w3 (F : Nat → Nat) (a r k : Nat) : Nat → Nat := xn_u (cn_w2 F a r k) 24 (cn_w2 F a r k 24 + 1)
def cn_w1 (F : Nat → Nat) : Nat → Nat := xn_u (cn_cp 7 F 4 0 96) 24 24
def cn_wr (F : Nat → Nat) (a r k : Nat) : Nat → Nat := if F 24 < 25 then cn_w3 F a r k else cn_w3 (cn_w1 F) a r k
/-- 'write' -/
theorem cn_write2 {b : xi_W} {I : Nat → Nat} {R : Nat × List Value} (B : cn_B b I R) (d : Nat) (F : Nat → Nat) (c s : Nat) (a r k : Nat) (h : F 24 < 25) : xg (d + 1) 94 30 [(0, .ref (I 0)), (1, .int (Int32.ofNat a)), (2, .int (Int32.ofNat r)), (3, .int (Int32.ofNat k))] [] (cn_w b I F) c s (none, cn_w b I (cn_w3 F a r k), c, s) := by
  refine xg_stp rfl rfl rfl rfl ?_
  refine xg_getfield (cn_g0 B _) rfl rfl rfl rfl ?_
  refine xg_stp (st' := .int (Int32.ofNat 4) :: _) rfl rfl rfl rfl ?_
  refine xn_mul rfl ?_
  refine xg_stp rfl rfl rfl rfl ?_
  refine xg_stp rfl rfl rfl rfl ?_
  refine xg_getfield (cn_g0 B _) rfl rfl rfl rfl ?_
  refine xg_stp rfl rfl rfl rfl ?_
  refine xg_stp rfl rfl rfl rfl ?_
  refine xg_getfield (cn_g0 B _) rfl rfl rfl rfl ?_
  refine cn_st10 B (by omega) rfl ?_
  refine xg_stp rfl rfl rfl rfl ?_
  refine xg_getfield (cn_g0 B _) rfl rfl rfl rfl ?_
  refine xg_stp rfl rfl rfl rfl ?_
  refine xg_stp (st' := .int (Int32.ofNat 1) :: _) rfl rfl rfl rfl ?_
  refine xn_add rfl ?_
  refine xg_stp rfl rfl rfl rfl ?_
  refine cn_st10 B (by omega) rfl ?_
  refine xg_stp rfl rfl rfl rfl ?_
  refine xg_getfield (cn_g0 B _) rfl rfl rfl rfl ?_
  refine xg_stp rfl rfl rfl rfl ?_
  refine xg_stp (st' := .int (Int32.ofNat 2) :: _) rfl rfl rfl rfl ?_
  refine xn_add rfl ?_
  refine xg_stp rfl rfl rfl rfl ?_
  refine cn_st10 B (by omega) rfl ?_
  refine xg_stp rfl rfl rfl rfl ?_
  refine xg_getfield (cn_g0 B _) rfl rfl rfl rfl ?_
  refine xg_stp rfl rfl rfl rfl ?_
  refine xg_stp (st' := .int (Int32.ofNat 3) :: _) rfl rfl rfl rfl ?_
  refine xn_add rfl ?_
  refine xg_stp rfl rfl rfl rfl ?_
  refine cn_st10 B (by omega) rfl ?_
  refine xg_stp rfl rfl rfl rfl ?_
  refine xg_stp rfl rfl rfl rfl ?_
  refine xg_getfield (cn_g0 B _) rfl rfl rfl rfl ?_
  refine xg_stp (st' := .int (Int32.ofNat 1) :: _) rfl rfl rfl rfl ?_
  refine xn_add rfl ?_
  refine cn_pf1 B rfl rfl ?_
  exact xg_ret rfl rfl
/-- 'write' -/
theorem cn_write {b : xi_W} {I : Nat → Nat} {R : Nat × List Value} (B : cn_B b I R) (d : Nat) (F : Nat → Nat) (c s : Nat) (a r k : Nat) (h : F 24 ≤ 25) : xg (d + 1) 94 0 [(0, .ref (I 0)), (1, .int (Int32.ofNat a)), (2, .int (Int32.ofNat r)), (3, .int (Int32.ofNat k))] [] (cn_w b I F) c s (none, cn_w b I (cn_wr F a r k), c, s) := by
  unfold cn_wr
  refine xg_stp rfl rfl rfl rfl ?_
  refine xg_getfield (cn_g0 B _) rfl rfl rfl rfl ?_
  refine xg_stp (st' := .int (Int32.ofNat 25) :: _) rfl rfl rfl rfl ?_
  refine xg_j2 rfl rfl rfl rfl rfl (fun h6 => ?_) (fun h6 => ?_)
  · rw [if_pos (nt_lt (by omega) (by omega) h6)]
    first
      | exact cn_write2 B d F c s a r k (nt_lt (by omega) (by omega) h6)
      | exact cn_write2 B d (cn_w1 F) c s a r k (by rw [show cn_w1 F 24 = 24 from xn_ue _ _ _]; omega)
  · rw [if_neg (Nat.not_lt.mpr (nf_lt (by omega) (by omega) h6))]
    refine xg_stp rfl rfl rfl rfl ?_
    refine xg_getfield (cn_g0 B _) rfl rfl rfl rfl ?_
    refine xg_stp (st' := .int (Int32.ofNat 4) :: _) rfl rfl rfl rfl ?_
    refine xg_stp rfl rfl rfl rfl ?_
    refine xg_getfield (cn_g0 B _) rfl rfl rfl rfl ?_
    refine xg_stp (st' := .int (Int32.ofNat 0) :: _) rfl rfl rfl rfl ?_
    refine xg_stp (st' := .int (Int32.ofNat 96) :: _) rfl rfl rfl rfl ?_
    refine cn_ac10 B (by omega) (by omega) rfl rfl rfl ?_
    refine xg_stp rfl rfl rfl rfl ?_
    refine xg_stp (st' := .int (Int32.ofNat 24) :: _) rfl rfl rfl rfl ?_
    refine cn_pf1 B rfl rfl ?_
    first
      | exact cn_write2 B d F c s a r k (nt_lt (by omega) (by omega) h6)
      | exact cn_write2 B d (cn_w1 F) c s a r k (by rw [show cn_w1 F 24 = 24 from xn_ue _ _ _]; omega)
def cn_wz : Nat → Nat → (Nat → Nat) → (Nat → Nat)
  | 0, _, F => F
  | m + 1, k, F => cn_wz m (k + 1) (xn_u (xn_u F (16 * k + 0) 0) (16 * k + 1) 0)
theorem cn_wzL {b : xi_W} {I : Nat → Nat} {R : Nat × List Value} (B : cn_B b I R) (d c s : Nat) (x : Nat) (hx : x < 55) : ∀ (m k : Nat) (F : Nat → Nat), k + m = x * 4 + 4 → xg d 2 4 [(2, .int (Int32.ofNat (k))), (0, .ref (I 1)), (1, .int (Int32.ofNat x))] [] (cn_w b I F) c s (none, cn_w b I (cn_wz m k F), c, s)
  | 0, k, F, hm => by
    refine xg_stp rfl rfl rfl rfl ?_
    refine xg_stp rfl rfl rfl rfl ?_
    refine xg_stp (st' := .int (Int32.ofNat 1) :: _) rfl rfl rfl rfl ?_
    refine xn_add rfl ?_
    refine xg_stp (st' := .int (Int32.ofNat 4) :: _) rfl rfl rfl rfl ?_
    refine xn_mul rfl ?_
    refine xg_j2 rfl rfl rfl rfl rfl (fun h10 => ?_) (fun h10 => ?_)
    · exact xg_ret rfl rfl
    · exact absurd (nf_ge (by omega) (by omega) h10) (by omega)
  | m + 1, k, F, hm => by
    unfold cn_wz
    refine xg_stp rfl rfl rfl rfl ?_
    refine xg_stp rfl rfl rfl rfl ?_
    refine xg_stp (st' := .int (Int32.ofNat 1) :: _) rfl rfl rfl rfl ?_
    refine xn_add rfl ?_
    refine xg_stp (st' := .int (Int32.ofNat 4) :: _) rfl rfl rfl rfl ?_
    refine xn_mul rfl ?_
    refine xg_j2 rfl rfl rfl rfl rfl (fun h10 => ?_) (fun h10 => ?_)
    · exact absurd (nt_ge (by omega) (by omega) h10) (by omega)
    · refine xg_stp rfl rfl rfl rfl ?_
      refine xg_getfield (cn_g1 B _) rfl rfl rfl rfl ?_
      refine xg_stp rfl rfl rfl rfl ?_
      refine xg_stp (st' := .long (Int64.ofNat 0) :: _) rfl rfl rfl rfl ?_
      refine cn_st3 B (by omega) rfl ?_
      refine xg_stp rfl rfl rfl rfl ?_
      refine xg_getfield (cn_g1 B _) rfl rfl rfl rfl ?_
      refine xg_stp rfl rfl rfl rfl ?_
      refine xg_stp (st' := .long (Int64.ofNat 0) :: _) rfl rfl rfl rfl ?_
      refine cn_st4 B (by omega) rfl ?_
      refine xn_inc (e := 1) rfl rfl rfl rfl ?_
      refine xg_stp rfl rfl rfl rfl ?_
      exact cn_wzL B d c s x hx m (k + 1) _ (by omega)
/-- 'wipe' -/
theorem cn_wipe {b : xi_W} {I : Nat → Nat} {R : Nat × List Value} (B : cn_B b I R) (d : Nat) (F : Nat → Nat) (c s : Nat) (x : Nat) (hx : x < 55) : xg (d) 2 0 [(0, .ref (I 1)), (1, .int (Int32.ofNat x))] [] (cn_w b I F) c s (none, cn_w b I (cn_wz 4 (x * 4) F), c, s) := by
  refine xg_stp rfl rfl rfl rfl ?_
  refine xg_stp (st' := .int (Int32.ofNat 4) :: _) rfl rfl rfl rfl ?_
  refine xn_mul rfl ?_
  refine xg_stp rfl rfl rfl rfl ?_
  exact cn_wzL B d c s x hx 4 (x * 4) F rfl
/-- rows move -/
def cn_mv (F : Nat → Nat) (x y n : Nat) : Nat → Nat := cn_cp 1 (cn_cp 0 F (x * 4) (y * 4) (n * 4)) (x * 4) (y * 4) (n * 4)
/-- 'move' -/
theorem cn_move {b : xi_W} {I : Nat → Nat} {R : Nat × List Value} (B : cn_B b I R) (d : Nat) (F : Nat → Nat) (c s : Nat) (x y n : Nat) (hx : x + n ≤ 55) (hy : y + n ≤ 55) : xg (d + 1) 4 0 [(0, .ref (I 1)), (1, .int (Int32.ofNat x)), (2, .int (Int32.ofNat y)), (3, .int (Int32.ofNat n))] [] (cn_w b I F) c s (none, cn_w b I (cn_mv F x y n), c, s) := by
  refine xg_stp rfl rfl rfl rfl ?_
  refine xg_getfield (cn_g1 B _) rfl rfl rfl rfl ?_
  refine xg_stp rfl rfl rfl rfl ?_
  refine xg_stp (st' := .int (Int32.ofNat 4) :: _) rfl rfl rfl rfl ?_
  refine xn_mul rfl ?_
  refine xg_stp rfl rfl rfl rfl ?_
  refine xg_getfield (cn_g1 B _) rfl rfl rfl rfl ?_
  refine xg_stp rfl rfl rfl rfl ?_
  refine xg_stp (st' := .int (Int32.ofNat 4) :: _) rfl rfl rfl rfl ?_
  refine xn_mul rfl ?_
  refine xg_stp rfl rfl rfl rfl ?_
  refine xg_stp (st' := .int (Int32.ofNat 4) :: _) rfl rfl rfl rfl ?_
  refine xn_mul rfl ?_
  refine cn_ac3 B (by omega) (by omega) rfl rfl rfl ?_
  refine xg_stp rfl rfl rfl rfl ?_
  refine xg_getfield (cn_g1 B _) rfl rfl rfl rfl ?_
  refine xg_stp rfl rfl rfl rfl ?_
  refine xg_stp (st' := .int (Int32.ofNat 4) :: _) rfl rfl rfl rfl ?_
  refine xn_mul rfl ?_
  refine xg_stp rfl rfl rfl rfl ?_
  refine xg_getfield (cn_g1 B _) rfl rfl rfl rfl ?_
  refine xg_stp rfl rfl rfl rfl ?_
  refine xg_stp (st' := .int (Int32.ofNat 4) :: _) rfl rfl rfl rfl ?_
  refine xn_mul rfl ?_
  refine xg_stp rfl rfl rfl rfl ?_
  refine xg_stp (st' := .int (Int32.ofNat 4) :: _) rfl rfl rfl rfl ?_
  refine xn_mul rfl ?_
  refine cn_ac4 B (by omega) (by omega) rfl rfl rfl ?_
  exact xg_ret rfl rfl
/-- 'put' -/
theorem cn_put {b : xi_W} {I : Nat → Nat} {R : Nat × List Value} (B : cn_B b I R) (d : Nat) (F : Nat → Nat) (c s : Nat) (x y : Nat) (hx : x < 55) (hy : y < 55) : xg (d + 2) 3 0 [(0, .ref (I 1)), (1, .int (Int32.ofNat x)), (2, .int (Int32.ofNat y))] [] (cn_w b I F) c s (none, cn_w b I (cn_mv F y x 1), c, s) := by
  refine xg_stp rfl rfl rfl rfl ?_
  refine xg_stp rfl rfl rfl rfl ?_
  refine xg_stp rfl rfl rfl rfl ?_
  refine xg_stp (st' := .int (Int32.ofNat 1) :: _) rfl rfl rfl rfl ?_
  refine xg_vcall (cn_g1 B _) rfl rfl rfl rfl rfl rfl (cn_move B d F 0 0 y x 1 (by omega) (by omega)) ?_
  exact xg_ret rfl rfl
def cn_go (F : Nat → Nat) (i j : Nat) : Nat := (F (16 * i + 0) &&& (F (16 * i + 1) ^^^ 18446744073709551615)) ||| (F (16 * j + 0) &&& (F (16 * j + 1) ^^^ 18446744073709551615))
def cn_m1 (F : Nat → Nat) (i j : Nat) : Nat → Nat := xn_u F (16 * i + 0) (F (16 * i + 0) ||| F (16 * j + 0))
def cn_m2 (F : Nat → Nat) (i j : Nat) : Nat → Nat := xn_u (cn_m1 F i j) (16 * i + 1) (cn_m1 F i j (16 * i + 0) &&& (cn_go F i j ^^^ 18446744073709551615))
/-- a row becomes the join with another one -/
def cn_mg (X Y : Nat) : Nat → Nat → (Nat → Nat) → (Nat → Nat)
  | 0, _, F => F
  | m + 1, k, F => cn_mg X Y m (k + 1) (cn_m2 F (X * 4 + k) (Y * 4 + k))
theorem cn_mgL {b : xi_W} {I : Nat → Nat} {R : Nat × List Value} (B : cn_B b I R) (d c s : Nat) (X Y : Nat) (hX : X < 55) (hY : Y < 55) : ∀ (m k : Nat) (F : Nat → Nat) (L : xi_L), k + m = 4 → (L = [(3, .int (Int32.ofNat k)), (0, .ref (I 1)), (1, .int (Int32.ofNat X)), (2, .int (Int32.ofNat Y))] ∨ ∃ g y x, L = [(3, .int (Int32.ofNat k)), (6, .long g), (5, .int y), (4, .int x), (0, .ref (I 1)), (1, .int (Int32.ofNat X)), (2, .int (Int32.ofNat Y))]) → xg d 5 2 L [] (cn_w b I F) c s (none, cn_w b I (cn_mg X Y m k F), c, s)
  | 0, k, F, L, hm, hL => by
    unfold cn_mg
    rcases hL with rfl | ⟨g, y, x, rfl⟩
    · refine xg_stp rfl rfl rfl rfl ?_
      refine xg_stp (st' := .int (Int32.ofNat 4) :: _) rfl rfl rfl rfl ?_
      refine xg_j2 rfl rfl rfl rfl rfl (fun h4 => ?_) (fun h4 => ?_)
      · exact xg_ret rfl rfl
      · exact absurd (nf_ge (by omega) (by omega) h4) (by omega)
    · refine xg_stp rfl rfl rfl rfl ?_
      refine xg_stp (st' := .int (Int32.ofNat 4) :: _) rfl rfl rfl rfl ?_
      refine xg_j2 rfl rfl rfl rfl rfl (fun h4 => ?_) (fun h4 => ?_)
      · exact xg_ret rfl rfl
      · exact absurd (nf_ge (by omega) (by omega) h4) (by omega)
  | m + 1, k, F, L, hm, hL => by
    unfold cn_mg
    rcases hL with rfl | ⟨g, y, x, rfl⟩
    · refine xg_stp rfl rfl rfl rfl ?_
      refine xg_stp (st' := .int (Int32.ofNat 4) :: _) rfl rfl rfl rfl ?_
      refine xg_j2 rfl rfl rfl rfl rfl (fun h4 => ?_) (fun h4 => ?_)
      · exact absurd (nt_ge (by omega) (by omega) h4) (by omega)
      · refine xg_stp rfl rfl rfl rfl ?_
        refine xg_stp (st' := .int (Int32.ofNat 4) :: _) rfl rfl rfl rfl ?_
        refine xn_mul rfl ?_
        refine xg_stp rfl rfl rfl rfl ?_
        refine xn_add rfl ?_
        refine xg_stp rfl rfl rfl rfl ?_
        refine xg_stp rfl rfl rfl rfl ?_
        refine xg_stp (st' := .int (Int32.ofNat 4) :: _) rfl rfl rfl rfl ?_
        refine xn_mul rfl ?_
        refine xg_stp rfl rfl rfl rfl ?_
        refine xn_add rfl ?_
        refine xg_stp rfl rfl rfl rfl ?_
        refine xg_stp rfl rfl rfl rfl ?_
        refine xg_getfield (cn_g1 B _) rfl rfl rfl rfl ?_
        refine xg_stp rfl rfl rfl rfl ?_
        refine cn_ld3 B (by omega) rfl ?_
        refine xg_stp rfl rfl rfl rfl ?_
        refine xg_getfield (cn_g1 B _) rfl rfl rfl rfl ?_
        refine xg_stp rfl rfl rfl rfl ?_
        refine cn_ld4 B (by omega) rfl ?_
        refine xg_stp (st' := .long (Int64.ofNat 18446744073709551615) :: _) rfl rfl rfl rfl ?_
        refine xn_lxor rfl ?_
        refine xn_land rfl ?_
        refine xg_stp rfl rfl rfl rfl ?_
        refine xg_getfield (cn_g1 B _) rfl rfl rfl rfl ?_
        refine xg_stp rfl rfl rfl rfl ?_
        refine cn_ld3 B (by omega) rfl ?_
        refine xg_stp rfl rfl rfl rfl ?_
        refine xg_getfield (cn_g1 B _) rfl rfl rfl rfl ?_
        refine xg_stp rfl rfl rfl rfl ?_
        refine cn_ld4 B (by omega) rfl ?_
        refine xg_stp (st' := .long (Int64.ofNat 18446744073709551615) :: _) rfl rfl rfl rfl ?_
        refine xn_lxor rfl ?_
        refine xn_land rfl ?_
        refine xn_lor rfl ?_
        refine xg_stp rfl rfl rfl rfl ?_
        refine xg_stp rfl rfl rfl rfl ?_
        refine xg_getfield (cn_g1 B _) rfl rfl rfl rfl ?_
        refine xg_stp rfl rfl rfl rfl ?_
        refine xg_stp rfl rfl rfl rfl ?_
        refine cn_ld3 B (by omega) rfl ?_
        refine xg_stp rfl rfl rfl rfl ?_
        refine xg_getfield (cn_g1 B _) rfl rfl rfl rfl ?_
        refine xg_stp rfl rfl rfl rfl ?_
        refine cn_ld3 B (by omega) rfl ?_
        refine xn_lor rfl ?_
        refine cn_st3 B (by omega) rfl ?_
        refine xg_stp rfl rfl rfl rfl ?_
        refine xg_getfield (cn_g1 B _) rfl rfl rfl rfl ?_
        refine xg_stp rfl rfl rfl rfl ?_
        refine xg_stp rfl rfl rfl rfl ?_
        refine xg_getfield (cn_g1 B _) rfl rfl rfl rfl ?_
        refine xg_stp rfl rfl rfl rfl ?_
        refine cn_ld3 B (by omega) rfl ?_
        refine xg_stp rfl rfl rfl rfl ?_
        refine xg_stp (st' := .long (Int64.ofNat 18446744073709551615) :: _) rfl rfl rfl rfl ?_
        refine xn_lxor rfl ?_
        refine xn_land rfl ?_
        refine cn_st4 B (by omega) rfl ?_
        refine xn_inc (e := 1) rfl rfl rfl rfl ?_
        refine xg_stp rfl rfl rfl rfl ?_
        exact cn_mgL B d c s X Y hX hY m (k + 1) _ _ (by omega) (Or.inr ⟨_, _, _, rfl⟩)
    · refine xg_stp rfl rfl rfl rfl ?_
      refine xg_stp (st' := .int (Int32.ofNat 4) :: _) rfl rfl rfl rfl ?_
      refine xg_j2 rfl rfl rfl rfl rfl (fun h4 => ?_) (fun h4 => ?_)
      · exact absurd (nt_ge (by omega) (by omega) h4) (by omega)
      · refine xg_stp rfl rfl rfl rfl ?_
        refine xg_stp (st' := .int (Int32.ofNat 4) :: _) rfl rfl rfl rfl ?_
        refine xn_mul rfl ?_
        refine xg_stp rfl rfl rfl rfl ?_
        refine xn_add rfl ?_
        refine xg_stp rfl rfl rfl rfl ?_
        refine xg_stp rfl rfl rfl rfl ?_
        refine xg_stp (st' := .int (Int32.ofNat 4) :: _) rfl rfl rfl rfl ?_
        refine xn_mul rfl ?_
        refine xg_stp rfl rfl rfl rfl ?_
        refine xn_add rfl ?_
        refine xg_stp rfl rfl rfl rfl ?_
        refine xg_stp rfl rfl rfl rfl ?_
        refine xg_getfield (cn_g1 B _) rfl rfl rfl rfl ?_
        refine xg_stp rfl rfl rfl rfl ?_
        refine cn_ld3 B (by omega) rfl ?_
        refine xg_stp rfl rfl rfl rfl ?_
        refine xg_getfield (cn_g1 B _) rfl rfl rfl rfl ?_
        refine xg_stp rfl rfl rfl rfl ?_
        refine cn_ld4 B (by omega) rfl ?_
        refine xg_stp (st' := .long (Int64.ofNat 18446744073709551615) :: _) rfl rfl rfl rfl ?_
        refine xn_lxor rfl ?_
        refine xn_land rfl ?_
        refine xg_stp rfl rfl rfl rfl ?_
        refine xg_getfield (cn_g1 B _) rfl rfl rfl rfl ?_
        refine xg_stp rfl rfl rfl rfl ?_
        refine cn_ld3 B (by omega) rfl ?_
        refine xg_stp rfl rfl rfl rfl ?_
        refine xg_getfield (cn_g1 B _) rfl rfl rfl rfl ?_
        refine xg_stp rfl rfl rfl rfl ?_
        refine cn_ld4 B (by omega) rfl ?_
        refine xg_stp (st' := .long (Int64.ofNat 18446744073709551615) :: _) rfl rfl rfl rfl ?_
        refine xn_lxor rfl ?_
        refine xn_land rfl ?_
        refine xn_lor rfl ?_
        refine xg_stp rfl rfl rfl rfl ?_
        refine xg_stp rfl rfl rfl rfl ?_
        refine xg_getfield (cn_g1 B _) rfl rfl rfl rfl ?_
        refine xg_stp rfl rfl rfl rfl ?_
        refine xg_stp rfl rfl rfl rfl ?_
        refine cn_ld3 B (by omega) rfl ?_
        refine xg_stp rfl rfl rfl rfl ?_
        refine xg_getfield (cn_g1 B _) rfl rfl rfl rfl ?_
        refine xg_stp rfl rfl rfl rfl ?_
        refine cn_ld3 B (by omega) rfl ?_
        refine xn_lor rfl ?_
        refine cn_st3 B (by omega) rfl ?_
        refine xg_stp rfl rfl rfl rfl ?_
        refine xg_getfield (cn_g1 B _) rfl rfl rfl rfl ?_
        refine xg_stp rfl rfl rfl rfl ?_
        refine xg_stp rfl rfl rfl rfl ?_
        refine xg_getfield (cn_g1 B _) rfl rfl rfl rfl ?_
        refine xg_stp rfl rfl rfl rfl ?_
        refine cn_ld3 B (by omega) rfl ?_
        refine xg_stp rfl rfl rfl rfl ?_
        refine xg_stp (st' := .long (Int64.ofNat 18446744073709551615) :: _) rfl rfl rfl rfl ?_
        refine xn_lxor rfl ?_
        refine xn_land rfl ?_
        refine cn_st4 B (by omega) rfl ?_
        refine xn_inc (e := 1) rfl rfl rfl rfl ?_
        refine xg_stp rfl rfl rfl rfl ?_
        exact cn_mgL B d c s X Y hX hY m (k + 1) _ _ (by omega) (Or.inr ⟨_, _, _, rfl⟩)
/-- 'merge' -/
theorem cn_merge {b : xi_W} {I : Nat → Nat} {R : Nat × List Value} (B : cn_B b I R) (d : Nat) (F : Nat → Nat) (c s : Nat) (X Y : Nat) (hX : X < 55) (hY : Y < 55) : xg (d) 5 0 [(0, .ref (I 1)), (1, .int (Int32.ofNat X)), (2, .int (Int32.ofNat Y))] [] (cn_w b I F) c s (none, cn_w b I (cn_mg X Y 4 0 F), c, s) := by
  refine xg_stp (st' := .int (Int32.ofNat 0) :: _) rfl rfl rfl rfl ?_
  refine xg_stp rfl rfl rfl rfl ?_
  exact cn_mgL B d c s X Y hX hY 4 0 F _ rfl (Or.inl rfl)
/-- whether two rows are alike -/
def cn_lk (F : Nat → Nat) (X Y : Nat) : Nat → Nat → Nat
  | 0, _ => 1
  | m + 1, k => if F (16 * (X * 4 + k) + 0) = F (16 * (Y * 4 + k) + 0) ∧ F (16 * (X * 4 + k) + 1) = F (16 * (Y * 4 + k) + 1) then cn_lk F X Y m (k + 1) else 0
def cn_lo (F : Nat → Nat) (X : Nat) : Prop := ∀ k, k < 4 → F (16 * (X * 4 + k) + 0) < 9223372036854775808 ∧ F (16 * (X * 4 + k) + 1) < 9223372036854775808
theorem cn_lkL {b : xi_W} {I : Nat → Nat} {R : Nat × List Value} (B : cn_B b I R) (d c s : Nat) (F : Nat → Nat) (X Y : Nat) (hX : X < 55) (hY : Y < 55) (lX : cn_lo F X) (lY : cn_lo F Y) : ∀ (m k : Nat) (L : xi_L), k + m = 4 → (L = [(3, .int (Int32.ofNat k)), (0, .ref (I 1)), (1, .int (Int32.ofNat X)), (2, .int (Int32.ofNat Y))] ∨ ∃ y x, L = [(3, .int (Int32.ofNat k)), (5, .int y), (4, .int x), (0, .ref (I 1)), (1, .int (Int32.ofNat X)), (2, .int (Int32.ofNat Y))]) → xg d 6 2 L [] (cn_w b I F) c s (some (.int (Int32.ofNat (cn_lk F X Y m k))), cn_w b I F, c, s)
  | 0, k, L, hm, hL => by
    unfold cn_lk
    rcases hL with rfl | ⟨y, x, rfl⟩
    · refine xg_stp rfl rfl rfl rfl ?_
      refine xg_stp (st' := .int (Int32.ofNat 4) :: _) rfl rfl rfl rfl ?_
      refine xg_j2 rfl rfl rfl rfl rfl (fun h4 => ?_) (fun h4 => ?_)
      · refine xg_stp (st' := .int (Int32.ofNat 1) :: _) rfl rfl rfl rfl ?_
        exact xg_ret rfl rfl
      · exact absurd (nf_ge (by omega) (by omega) h4) (by omega)
    · refine xg_stp rfl rfl rfl rfl ?_
      refine xg_stp (st' := .int (Int32.ofNat 4) :: _) rfl rfl rfl rfl ?_
      refine xg_j2 rfl rfl rfl rfl rfl (fun h4 => ?_) (fun h4 => ?_)
      · refine xg_stp (st' := .int (Int32.ofNat 1) :: _) rfl rfl rfl rfl ?_
        exact xg_ret rfl rfl
      · exact absurd (nf_ge (by omega) (by omega) h4) (by omega)
  | m + 1, k, L, hm, hL => by
    have q1 := lX k (by omega)
    have q2 := lY k (by omega)
    unfold cn_lk
    rcases hL with rfl | ⟨y, x, rfl⟩
    · refine xg_stp rfl rfl rfl rfl ?_
      refine xg_stp (st' := .int (Int32.ofNat 4) :: _) rfl rfl rfl rfl ?_
      refine xg_j2 rfl rfl rfl rfl rfl (fun h4 => ?_) (fun h4 => ?_)
      · exact absurd (nt_ge (by omega) (by omega) h4) (by omega)
      · refine xg_stp rfl rfl rfl rfl ?_
        refine xg_stp (st' := .int (Int32.ofNat 4) :: _) rfl rfl rfl rfl ?_
        refine xn_mul rfl ?_
        refine xg_stp rfl rfl rfl rfl ?_
        refine xn_add rfl ?_
        refine xg_stp rfl rfl rfl rfl ?_
        refine xg_stp rfl rfl rfl rfl ?_
        refine xg_stp (st' := .int (Int32.ofNat 4) :: _) rfl rfl rfl rfl ?_
        refine xn_mul rfl ?_
        refine xg_stp rfl rfl rfl rfl ?_
        refine xn_add rfl ?_
        refine xg_stp rfl rfl rfl rfl ?_
        refine xg_stp rfl rfl rfl rfl ?_
        refine xg_getfield (cn_g1 B _) rfl rfl rfl rfl ?_
        refine xg_stp rfl rfl rfl rfl ?_
        refine cn_ld3 B (by omega) rfl ?_
        refine xg_stp rfl rfl rfl rfl ?_
        refine xg_getfield (cn_g1 B _) rfl rfl rfl rfl ?_
        refine xg_stp rfl rfl rfl rfl ?_
        refine cn_ld3 B (by omega) rfl ?_
        refine xn_lcmp (by omega) (by omega) rfl (fun e35 g35 => ?_)
        refine xg_j1 rfl rfl rfl rfl rfl (fun h36 => ?_) (fun h36 => ?_)
        · rw [if_neg (fun e => nc_ne g35 h36 e.1)]
          refine xg_stp (st' := .int (Int32.ofNat 0) :: _) rfl rfl rfl rfl ?_
          exact xg_ret rfl rfl
        · have e36 := nd_ne g35 h36
          refine xg_stp rfl rfl rfl rfl ?_
          refine xg_getfield (cn_g1 B _) rfl rfl rfl rfl ?_
          refine xg_stp rfl rfl rfl rfl ?_
          refine cn_ld4 B (by omega) rfl ?_
          refine xg_stp rfl rfl rfl rfl ?_
          refine xg_getfield (cn_g1 B _) rfl rfl rfl rfl ?_
          refine xg_stp rfl rfl rfl rfl ?_
          refine cn_ld4 B (by omega) rfl ?_
          refine xn_lcmp (by omega) (by omega) rfl (fun e53 g53 => ?_)
          refine xg_j1 rfl rfl rfl rfl rfl (fun h54 => ?_) (fun h54 => ?_)
          · have e54 := nc_eq g53 h54
            rw [if_pos ⟨e36, e54⟩]
            refine xn_inc (e := 1) rfl rfl rfl rfl ?_
            refine xg_stp rfl rfl rfl rfl ?_
            exact cn_lkL B d c s F X Y hX hY lX lY m (k + 1) _ (by omega) (Or.inr ⟨_, _, rfl⟩)
          · rw [if_neg (fun e => nd_eq g53 h54 e.2)]
            refine xg_stp (st' := .int (Int32.ofNat 0) :: _) rfl rfl rfl rfl ?_
            exact xg_ret rfl rfl
    · refine xg_stp rfl rfl rfl rfl ?_
      refine xg_stp (st' := .int (Int32.ofNat 4) :: _) rfl rfl rfl rfl ?_
      refine xg_j2 rfl rfl rfl rfl rfl (fun h4 => ?_) (fun h4 => ?_)
      · exact absurd (nt_ge (by omega) (by omega) h4) (by omega)
      · refine xg_stp rfl rfl rfl rfl ?_
        refine xg_stp (st' := .int (Int32.ofNat 4) :: _) rfl rfl rfl rfl ?_
        refine xn_mul rfl ?_
        refine xg_stp rfl rfl rfl rfl ?_
        refine xn_add rfl ?_
        refine xg_stp rfl rfl rfl rfl ?_
        refine xg_stp rfl rfl rfl rfl ?_
        refine xg_stp (st' := .int (Int32.ofNat 4) :: _) rfl rfl rfl rfl ?_
        refine xn_mul rfl ?_
        refine xg_stp rfl rfl rfl rfl ?_
        refine xn_add rfl ?_
        refine xg_stp rfl rfl rfl rfl ?_
        refine xg_stp rfl rfl rfl rfl ?_
        refine xg_getfield (cn_g1 B _) rfl rfl rfl rfl ?_
        refine xg_stp rfl rfl rfl rfl ?_
        refine cn_ld3 B (by omega) rfl ?_
        refine xg_stp rfl rfl rfl rfl ?_
        refine xg_getfield (cn_g1 B _) rfl rfl rfl rfl ?_
        refine xg_stp rfl rfl rfl rfl ?_
        refine cn_ld3 B (by omega) rfl ?_
        refine xn_lcmp (by omega) (by omega) rfl (fun e35 g35 => ?_)
        refine xg_j1 rfl rfl rfl rfl rfl (fun h36 => ?_) (fun h36 => ?_)
        · rw [if_neg (fun e => nc_ne g35 h36 e.1)]
          refine xg_stp (st' := .int (Int32.ofNat 0) :: _) rfl rfl rfl rfl ?_
          exact xg_ret rfl rfl
        · have e36 := nd_ne g35 h36
          refine xg_stp rfl rfl rfl rfl ?_
          refine xg_getfield (cn_g1 B _) rfl rfl rfl rfl ?_
          refine xg_stp rfl rfl rfl rfl ?_
          refine cn_ld4 B (by omega) rfl ?_
          refine xg_stp rfl rfl rfl rfl ?_
          refine xg_getfield (cn_g1 B _) rfl rfl rfl rfl ?_
          refine xg_stp rfl rfl rfl rfl ?_
          refine cn_ld4 B (by omega) rfl ?_
          refine xn_lcmp (by omega) (by omega) rfl (fun e53 g53 => ?_)
          refine xg_j1 rfl rfl rfl rfl rfl (fun h54 => ?_) (fun h54 => ?_)
          · have e54 := nc_eq g53 h54
            rw [if_pos ⟨e36, e54⟩]
            refine xn_inc (e := 1) rfl rfl rfl rfl ?_
            refine xg_stp rfl rfl rfl rfl ?_
            exact cn_lkL B d c s F X Y hX hY lX lY m (k + 1) _ (by omega) (Or.inr ⟨_, _, rfl⟩)
          · rw [if_neg (fun e => nd_eq g53 h54 e.2)]
            refine xg_stp (st' := .int (Int32.ofNat 0) :: _) rfl rfl rfl rfl ?_
            exact xg_ret rfl rfl
/-- 'alike' -/
theorem cn_alike {b : xi_W} {I : Nat → Nat} {R : Nat × List Value} (B : cn_B b I R) (d : Nat) (F : Nat → Nat) (c s : Nat) (X Y : Nat) (hX : X < 55) (hY : Y < 55) (lX : cn_lo F X) (lY : cn_lo F Y) : xg (d) 6 0 [(0, .ref (I 1)), (1, .int (Int32.ofNat X)), (2, .int (Int32.ofNat Y))] [] (cn_w b I F) c s (some (.int (Int32.ofNat (cn_lk F X Y 4 0))), cn_w b I (F), c, s) := by
  refine xg_stp (st' := .int (Int32.ofNat 0) :: _) rfl rfl rfl rfl ?_
  refine xg_stp rfl rfl rfl rfl ?_
  exact cn_lkL B d c s F X Y hX hY lX lY 4 0 _ rfl (Or.inl rfl)
