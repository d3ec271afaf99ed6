/-! the reference, what happens in YEARS -/
theorem nt1_le {off : Int} {a : Nat} (ha : a < 2147483648) (h : xg_t1 (.ifCond .le off) (Int32.ofNat a) = true) : a = 0 := by
  have h2 := (n_le (b := 0) ha (by omega)).mp (of_decide_eq_true h); omega
theorem nf1_le {off : Int} {a : Nat} (ha : a < 2147483648) (h : xg_t1 (.ifCond .le off) (Int32.ofNat a) = false) : 0 < a := by
  have h2 : ¬ a ≤ 0 := fun e => of_decide_eq_false h ((n_le (b := 0) ha (by omega)).mpr e); omega
/-- what 'merge' wants -/
def rf_mok (F : Nat → Nat) (X Y : Nat) : Prop := F (X + 8) + F (Y + 8) ≤ 48 ∧ (∀ t, t < F (X + 8) → F (X + 9 + t) < 307200) ∧ (∀ t, t < F (Y + 8) → F (Y + 9 + t) < 307200) ∧ (∀ t, t < 8 → F (X + t) < 2147483648) ∧ (∀ t, t < 8 → F (Y + t) < 2147483648)
/-- what 'takeDelta' wants -/
def rf_tok (F : Nat → Nat) (r : Nat) : Prop := (∀ q, q < 4 → F (20 + 4 * r + q) < 1000000) ∧ F (12 + r) < 1000000 ∧ F (16 + r) < 1000000 ∧ F (16 + r) ≤ F (12 + r)
def rf_ch1 (F : Nat → Nat) (r : Nat) : Nat → Nat := rf_c (rf_mer F (205 + 57 * r) 3315) 3201 (205 + 57 * r) 0
def rf_chg (F : Nat → Nat) (r : Nat) : Nat → Nat := rf_td (rf_ch1 F r) r 3315
def rf_cok (F : Nat → Nat) (r : Nat) : Prop := rf_mok F (205 + 57 * r) 3315 ∧ rf_tok (rf_ch1 F r) r ∧ rf_chg F r 10 ≤ 25
/-- 'change' -/
theorem rf_change {b : xi_W} {O A : Nat} {o : Nat × List Value} (B : rf_B b O A o) (d : Nat) (F : Nat → Nat) (c s : Nat) (r : Nat) (hr : r < 4) (hc : rf_cok F r) : xg (d + 3) 247 0 ([(0, .ref O), (1, .int (Int32.ofNat r))]) [] (rf_w b A F) c s (none, rf_w b A (rf_chg F r), c, s) := by
  refine xg_stp rfl rfl rfl rfl ?_
  refine xg_stp rfl rfl rfl rfl ?_
  refine xg_call rfl rfl rfl (rf_stateAt B (d + 2) F 0 0 r) ?_
  refine xg_stp (st' := .int (Int32.ofNat 3315) :: _) rfl rfl rfl rfl ?_
  refine rf_call B rfl rfl rfl rfl rfl rfl (rf_merge B d 0 0 (205 + 57 * r) (3315) (by omega) (by omega) (by omega) (by omega) F hc.1.1 hc.1.2.1 hc.1.2.2.1 hc.1.2.2.2.1 hc.1.2.2.2.2) ?_
  refine xg_stp rfl rfl rfl rfl ?_
  refine xg_stp (st' := .int (Int32.ofNat 3201) :: _) rfl rfl rfl rfl ?_
  refine xg_stp rfl rfl rfl rfl ?_
  refine xg_call rfl rfl rfl (rf_stateAt B (d + 2) _ 0 0 r) ?_
  refine rf_call B rfl rfl rfl rfl rfl rfl (rf_copyState B (d + 2) _ 0 0 3201 (205 + 57 * r) (by omega) (by omega) (by omega)) ?_
  refine xg_stp rfl rfl rfl rfl ?_
  refine xg_stp rfl rfl rfl rfl ?_
  refine xg_stp (st' := .int (Int32.ofNat 3315) :: _) rfl rfl rfl rfl ?_
  refine rf_call B rfl rfl rfl rfl rfl rfl (rf_takeDelta B d 0 0 r (3315) (by omega) (by omega) (by omega) (rf_ch1 F r) hc.2.1.1 hc.2.1.2.1 hc.2.1.2.2.1 hc.2.1.2.2.2) ?_
  exact xg_ret rfl rfl
def rf_s1 (F : Nat → Nat) (r q f : Nat) : Nat → Nat := (rf_lay F r q f).2
def rf_s2 (F : Nat → Nat) (r q f t : Nat) : Nat → Nat := xn_u (rf_s1 F r q f) (3315 + t / 32) (rf_s1 F r q f (3315 + t / 32) ||| 1 * 2 ^ (t % 32))
def rf_s3 (F : Nat → Nat) (r q f t v : Nat) : Nat → Nat := rf_ad (rf_s2 F r q f t) 3315 (t * 1200 + 300 * q + 100 * f + v)
def rf_st (F : Nat → Nat) (r q f t v : Nat) : Nat → Nat := rf_wd (rf_chg (rf_s3 F r q f t v) r) 0 r q
/-- the next dot -/
def rf_nd (F : Nat → Nat) (r : Nat) : Nat := 64 * r + (rf_v F (205 + 57 * r) r 63 0 + 1)
def rf_sok (F : Nat → Nat) (r q f v : Nat) : Prop := (∀ t, t < 8 → F (205 + 57 * r + t) < 2147483648) ∧ F (205 + 57 * r + 8) ≤ 48 ∧ (∀ j, j < F (205 + 57 * r + 8) → F (205 + 57 * r + 9 + j) < 307200) ∧ rf_s2 F r q f (rf_nd F r) 3323 ≤ 47 ∧ rf_cok (rf_s3 F r q f (rf_nd F r) v) r
def rf_clr (F : Nat → Nat) (r q f e : Nat) : Nat → Nat := rf_wd (rf_chg (rf_s1 F r q f) r) e r q
def rf_cok2 (F : Nat → Nat) (r q f : Nat) : Prop := F (205 + 57 * r + 8) ≤ 48 ∧ (∀ j, j < F (205 + 57 * r + 8) → F (205 + 57 * r + 9 + j) < 307200) ∧ rf_cok (rf_s1 F r q f) r
/-- 'setNow' -/
theorem rf_setNow {b : xi_W} {O A : Nat} {o : Nat × List Value} (B : rf_B b O A o) (d : Nat) (F : Nat → Nat) (c s : Nat) (r q f v : Nat) (hr : r < 4) (hq : q < 4) (hf : f < 3) (hv : v < 100) (hs : rf_sok F r q f v) : xg (d + 4) 252 0 ([(0, .ref O), (1, .int (Int32.ofNat r)), (2, .int (Int32.ofNat q)), (3, .int (Int32.ofNat f)), (4, .int (Int32.ofNat v))]) [] (rf_w b A F) c s (some (.int (Int32.ofNat (rf_v F (205 + 57 * r) r 63 0 + 1))), rf_w b A (rf_st F r q f (rf_nd F r) v), c, s) := by
  have hvl := rf_vle F (205 + 57 * r) r 63 0
  obtain ⟨z1, z2, z3, z4, z5⟩ := hs
  have z4b : rf_s2 F r q f (rf_nd F r) (3315 + 8) ≤ 47 := z4
  have z6 : rf_nd F r < 1000 := by unfold rf_nd; omega
  refine xg_stp rfl rfl rfl rfl ?_
  refine xg_stp rfl rfl rfl rfl ?_
  refine xg_call rfl rfl rfl (rf_stateAt B (d + 3) F 0 0 r) ?_
  refine xg_stp rfl rfl rfl rfl ?_
  refine rf_call B rfl rfl rfl rfl rfl rfl (rf_vectorOf B (d + 1) 0 0 (205 + 57 * r) r (by omega) hr F z1) ?_
  refine xg_stp (st' := .int (Int32.ofNat 1) :: _) rfl rfl rfl rfl ?_
  refine xn_add rfl ?_
  refine xg_stp rfl rfl rfl rfl ?_
  refine xg_stp (st' := .int (Int32.ofNat 64) :: _) rfl rfl rfl rfl ?_
  refine xg_stp rfl rfl rfl rfl ?_
  refine xn_mul rfl ?_
  refine xg_stp rfl rfl rfl rfl ?_
  refine xn_add rfl ?_
  refine xg_stp rfl rfl rfl rfl ?_
  refine xg_stp rfl rfl rfl rfl ?_
  refine xg_stp rfl rfl rfl rfl ?_
  refine xg_stp rfl rfl rfl rfl ?_
  refine xg_stp rfl rfl rfl rfl ?_
  refine rf_call B rfl rfl rfl rfl rfl rfl (rf_layChange B (d + 1) 0 0 r q f hr (by omega) (by omega) F z2 z3) ?_
  refine xg_stp rfl rfl rfl rfl ?_
  refine xg_stp rfl rfl rfl rfl ?_
  refine xg_stp (st' := .int (Int32.ofNat 3315) :: _) rfl rfl rfl rfl ?_
  refine xg_stp rfl rfl rfl rfl ?_
  refine rf_call B rfl rfl rfl rfl rfl rfl (rf_know B (d + 3) (rf_s1 F r q f) 0 0 3315 (rf_nd F r) (by omega) (by omega)) ?_
  refine xg_stp rfl rfl rfl rfl ?_
  refine xg_stp (st' := .int (Int32.ofNat 3315) :: _) rfl rfl rfl rfl ?_
  refine xg_stp rfl rfl rfl rfl ?_
  refine xg_stp (st' := .int (Int32.ofNat 1200) :: _) rfl rfl rfl rfl ?_
  refine xn_mul rfl ?_
  refine xg_stp (st' := .int (Int32.ofNat 300) :: _) rfl rfl rfl rfl ?_
  refine xg_stp rfl rfl rfl rfl ?_
  refine xn_mul rfl ?_
  refine xn_add rfl ?_
  refine xg_stp (st' := .int (Int32.ofNat 100) :: _) rfl rfl rfl rfl ?_
  refine xg_stp rfl rfl rfl rfl ?_
  refine xn_mul rfl ?_
  refine xn_add rfl ?_
  refine xg_stp rfl rfl rfl rfl ?_
  refine xn_add rfl ?_
  refine rf_call B rfl rfl rfl rfl rfl rfl (rf_add B (d + 2) (rf_s2 F r q f (rf_nd F r)) 0 0 3315 (rf_nd F r * 1200 + 300 * q + 100 * f + v) (by omega)) ?_
  refine xg_stp rfl rfl rfl rfl ?_
  refine xg_stp rfl rfl rfl rfl ?_
  refine rf_call B rfl rfl rfl rfl rfl rfl (rf_change B d (rf_s3 F r q f (rf_nd F r) v) 0 0 r hr z5) ?_
  refine xg_stp rfl rfl rfl rfl ?_
  refine xg_stp (st' := .int (Int32.ofNat 0) :: _) rfl rfl rfl rfl ?_
  refine xg_stp rfl rfl rfl rfl ?_
  refine xg_stp rfl rfl rfl rfl ?_
  refine rf_call B rfl rfl rfl rfl rfl rfl (rf_writeDown B (d + 3) 0 0 0 r q (rf_chg (rf_s3 F r q f (rf_nd F r) v) r) z5.2.2) ?_
  refine xg_stp rfl rfl rfl rfl ?_
  exact xg_ret rfl rfl
/-- 'clearNow' -/
theorem rf_clearNow {b : xi_W} {O A : Nat} {o : Nat × List Value} (B : rf_B b O A o) (d : Nat) (F : Nat → Nat) (c s : Nat) (r q f e : Nat) (hr : r < 4) (hq : q < 4) (hf : f < 4294967296) (hs : rf_cok2 F r q f) : xg (d + 4) 253 0 ([(0, .ref O), (1, .int (Int32.ofNat r)), (2, .int (Int32.ofNat q)), (3, .int (Int32.ofNat f)), (4, .int (Int32.ofNat e))]) [] (rf_w b A F) c s (some (.int (Int32.ofNat ((rf_lay F r q f).1))), rf_w b A (rf_clr F r q f e), c, s) := by
  refine xg_stp rfl rfl rfl rfl ?_
  refine xg_stp rfl rfl rfl rfl ?_
  refine xg_stp rfl rfl rfl rfl ?_
  refine xg_stp rfl rfl rfl rfl ?_
  refine rf_call B rfl rfl rfl rfl rfl rfl (rf_layChange B (d + 1) 0 0 r q f hr (by omega) hf F hs.1 hs.2.1) ?_
  refine xg_stp rfl rfl rfl rfl ?_
  refine xg_stp rfl rfl rfl rfl ?_
  refine xg_stp rfl rfl rfl rfl ?_
  refine rf_call B rfl rfl rfl rfl rfl rfl (rf_change B d (rf_s1 F r q f) 0 0 r hr hs.2.2) ?_
  refine xg_stp rfl rfl rfl rfl ?_
  refine xg_stp rfl rfl rfl rfl ?_
  refine xg_stp rfl rfl rfl rfl ?_
  refine xg_stp rfl rfl rfl rfl ?_
  refine rf_call B rfl rfl rfl rfl rfl rfl (rf_writeDown B (d + 3) 0 0 e r q (rf_chg (rf_s1 F r q f) r) hs.2.2.2.2) ?_
  refine xg_stp rfl rfl rfl rfl ?_
  exact xg_ret rfl rfl
/-- 'isBehind' -/
theorem rf_isBehind {b : xi_W} {O A : Nat} {o : Nat × List Value} (B : rf_B b O A o) (d : Nat) (F : Nat → Nat) (c s : Nat) (r q : Nat) (hr : r < 4) (hq : q < 4) (h1 : F (20 + 4 * r + q) < 2147483648) (h2 : F (12 + r) < 2147483648) : xg (d + 1) 254 0 ([(0, .ref O), (1, .int (Int32.ofNat r)), (2, .int (Int32.ofNat q))]) [] (rf_w b A F) c s (some (.int (Int32.ofNat (if F (20 + 4 * r + q) < F (12 + r) then 1 else 0))), rf_w b A (F), c, s) := by
  refine xg_stp rfl rfl rfl rfl ?_
  refine xg_stp rfl rfl rfl rfl ?_
  refine xg_stp rfl rfl rfl rfl ?_
  refine rf_call B rfl rfl rfl rfl rfl rfl (rf_ackedBy B d F 0 0 r q hr hq) ?_
  refine xg_stp rfl rfl rfl rfl ?_
  refine rf_fa B rfl rfl ?_
  refine xg_stp (st' := .int (Int32.ofNat 12) :: _) rfl rfl rfl rfl ?_
  refine xg_stp rfl rfl rfl rfl ?_
  refine xn_add rfl ?_
  refine rf_ld B (by omega) rfl ?_
  refine xg_j2 rfl rfl rfl rfl rfl (fun h15 => ?_) (fun h15 => ?_)
  · rw [if_neg (Nat.not_lt.mpr (nt_ge h1 h2 h15))]
    refine xg_stp (st' := .int (Int32.ofNat 0) :: _) rfl rfl rfl rfl ?_
    exact xg_ret rfl rfl
  · rw [if_pos (nf_ge h1 h2 h15)]
    refine xg_stp (st' := .int (Int32.ofNat 1) :: _) rfl rfl rfl rfl ?_
    refine xg_stp rfl rfl rfl rfl ?_
    exact xg_ret rfl rfl
/-- 'isAllSent' -/
theorem rf_isAllSent {b : xi_W} {O A : Nat} {o : Nat × List Value} (B : rf_B b O A o) (d : Nat) (F : Nat → Nat) (c s : Nat) (r q : Nat) (hr : r < 4) (hq : q < 4) (h1 : F (20 + 4 * r + q) < 2147483648) (h2 : F (16 + r) < 2147483648) : xg (d + 1) 255 0 ([(0, .ref O), (1, .int (Int32.ofNat r)), (2, .int (Int32.ofNat q))]) [] (rf_w b A F) c s (some (.int (Int32.ofNat (if F (20 + 4 * r + q) < F (16 + r) then 1 else 0))), rf_w b A (F), c, s) := by
  refine xg_stp rfl rfl rfl rfl ?_
  refine xg_stp rfl rfl rfl rfl ?_
  refine xg_stp rfl rfl rfl rfl ?_
  refine rf_call B rfl rfl rfl rfl rfl rfl (rf_ackedBy B d F 0 0 r q hr hq) ?_
  refine xg_stp rfl rfl rfl rfl ?_
  refine rf_fa B rfl rfl ?_
  refine xg_stp (st' := .int (Int32.ofNat 16) :: _) rfl rfl rfl rfl ?_
  refine xg_stp rfl rfl rfl rfl ?_
  refine xn_add rfl ?_
  refine rf_ld B (by omega) rfl ?_
  refine xg_j2 rfl rfl rfl rfl rfl (fun h15 => ?_) (fun h15 => ?_)
  · rw [if_neg (Nat.not_lt.mpr (nt_ge h1 h2 h15))]
    refine xg_stp (st' := .int (Int32.ofNat 0) :: _) rfl rfl rfl rfl ?_
    exact xg_ret rfl rfl
  · rw [if_pos (nf_ge h1 h2 h15)]
    refine xg_stp (st' := .int (Int32.ofNat 1) :: _) rfl rfl rfl rfl ?_
    refine xg_stp rfl rfl rfl rfl ?_
    exact xg_ret rfl rfl
/-- 'flightAt' -/
theorem rf_flightAt {b : xi_W} {O A : Nat} {o : Nat × List Value} (B : rf_B b O A o) (d : Nat) (F : Nat → Nat) (c s : Nat) (i : Nat) : xg (d) 257 0 ([(0, .int (Int32.ofNat i))]) [] (rf_w b A F) c s (some (.int (Int32.ofNat (61 + 6 * i))), rf_w b A (F), c, s) := by
  refine xg_stp (st' := .int (Int32.ofNat 61) :: _) rfl rfl rfl rfl ?_
  refine xg_stp (st' := .int (Int32.ofNat 6) :: _) rfl rfl rfl rfl ?_
  refine xg_stp rfl rfl rfl rfl ?_
  refine xn_mul rfl ?_
  refine xn_add rfl ?_
  exact xg_ret rfl rfl
/-- a message is laid down: deltas from n on, m of them -/
def rf_lm1 (F : Nat → Nat) (r n : Nat) : Nat → Nat := rf_c (rf_mer F 3258 (rf_dl r n)) 3201 3258 0
def rf_lm (r : Nat) : Nat → Nat → (Nat → Nat) → (Nat → Nat)
  | 0, _, F => F
  | m + 1, n, F => rf_lm r m (n + 1) (rf_lm1 F r n)
def rf_lmk (r : Nat) : Nat → Nat → (Nat → Nat) → Prop
  | 0, _, _ => True
  | m + 1, n, F => rf_mok F 3258 (rf_dl r n) ∧ rf_lm1 F r n (12 + r) = F (12 + r) ∧ rf_lmk r m (n + 1) (rf_lm1 F r n)
/-- the loop of 'layMessage' -/
theorem rf_lmL {b : xi_W} {O A : Nat} {o : Nat × List Value} (B : rf_B b O A o) (d : Nat) (c s : Nat) (r q : Nat) (hr : r < 4) : ∀ (m n : Nat) (F : Nat → Nat), n + m = F (12 + r) + 1 → 0 < n → F (12 + r) < 1000000 → rf_lmk r m n F → xg (d + 3) 256 37 ([(3, .int (Int32.ofNat n)), (0, .ref O), (1, .int (Int32.ofNat r)), (2, .int (Int32.ofNat q))]) [] (rf_w b A F) c s (none, rf_w b A (rf_lm r m n F), c, s)
  | 0, n, F, hm, hn, h12, hk => by
    unfold rf_lm
    refine xg_stp rfl rfl rfl rfl ?_
    refine xg_stp rfl rfl rfl rfl ?_
    refine rf_fa B rfl rfl ?_
    refine xg_stp (st' := .int (Int32.ofNat 12) :: _) rfl rfl rfl rfl ?_
    refine xg_stp rfl rfl rfl rfl ?_
    refine xn_add rfl ?_
    refine rf_ld B (by omega) rfl ?_
    refine xg_j2 rfl rfl rfl rfl rfl (fun h47 => ?_) (fun h47 => ?_)
    · exact xg_ret rfl rfl
    · exact absurd (nf_gt (by omega) (by omega) h47) (by omega)
  | m + 1, n, F, hm, hn, h12, hk => by
    unfold rf_lmk at hk
    unfold rf_lm
    have e2 : 433 ≤ rf_dl r n ∧ rf_dl r n + 57 ≤ 1801 := by unfold rf_dl; omega
    refine xg_stp rfl rfl rfl rfl ?_
    refine xg_stp rfl rfl rfl rfl ?_
    refine rf_fa B rfl rfl ?_
    refine xg_stp (st' := .int (Int32.ofNat 12) :: _) rfl rfl rfl rfl ?_
    refine xg_stp rfl rfl rfl rfl ?_
    refine xn_add rfl ?_
    refine rf_ld B (by omega) rfl ?_
    refine xg_j2 rfl rfl rfl rfl rfl (fun h47 => ?_) (fun h47 => ?_)
    · exact absurd (nt_gt (by omega) (by omega) h47) (by omega)
    · refine xg_stp rfl rfl rfl rfl ?_
      refine xg_stp (st' := .int (Int32.ofNat 3258) :: _) rfl rfl rfl rfl ?_
      refine xg_stp rfl rfl rfl rfl ?_
      refine xg_stp rfl rfl rfl rfl ?_
      refine xg_call rfl rfl rfl (rf_deltaAt B (d + 1) F 0 0 r n hr (by omega) (by omega)) ?_
      refine rf_call B rfl rfl rfl rfl rfl rfl (rf_merge B d 0 0 (3258) (rf_dl r n) (by omega) (by omega) (by omega) (by omega) F hk.1.1 hk.1.2.1 hk.1.2.2.1 hk.1.2.2.2.1 hk.1.2.2.2.2) ?_
      refine xg_stp rfl rfl rfl rfl ?_
      refine xg_stp (st' := .int (Int32.ofNat 3201) :: _) rfl rfl rfl rfl ?_
      refine xg_stp (st' := .int (Int32.ofNat 3258) :: _) rfl rfl rfl rfl ?_
      refine rf_call B rfl rfl rfl rfl rfl rfl (rf_copyState B (d + 2) _ 0 0 3201 3258 (by omega) (by omega) (by omega)) ?_
      refine xn_inc (e := 1) rfl rfl rfl rfl ?_
      refine xg_stp rfl rfl rfl rfl ?_
      exact rf_lmL B d c s r q hr m (n + 1) (rf_lm1 F r n) (by rw [hk.2.1]; omega) (by omega) (by rw [hk.2.1]; exact h12) hk.2.2
/-- what would be sent, laid down -/
def rf_msg (F : Nat → Nat) (r q : Nat) : Nat → Nat := if F (20 + 4 * r + q) < F (16 + r) then rf_c F (205 + 57 * r) 3258 0 else rf_lm r (F (12 + r) - F (20 + 4 * r + q)) (F (20 + 4 * r + q) + 1) (rf_z F 3258 0)
def rf_msk (F : Nat → Nat) (r q : Nat) : Prop := F (20 + 4 * r + q) < 1000000 ∧ F (16 + r) < 1000000 ∧ F (12 + r) < 1000000 ∧ F (20 + 4 * r + q) ≤ F (12 + r) ∧ (¬ F (20 + 4 * r + q) < F (16 + r) → rf_lmk r (F (12 + r) - F (20 + 4 * r + q)) (F (20 + 4 * r + q) + 1) (rf_z F 3258 0))
/-- 'layMessage' -/
theorem rf_layMessage {b : xi_W} {O A : Nat} {o : Nat × List Value} (B : rf_B b O A o) (d : Nat) (F : Nat → Nat) (c s : Nat) (r q : Nat) (hr : r < 4) (hq : q < 4) (hk : rf_msk F r q) : xg (d + 3) 256 0 ([(0, .ref O), (1, .int (Int32.ofNat r)), (2, .int (Int32.ofNat q))]) [] (rf_w b A F) c s (none, rf_w b A (rf_msg F r q), c, s) := by
  obtain ⟨k1, k2, k3, k4, k5⟩ := hk
  have ez : rf_z F 3258 0 (12 + r) = F (12 + r) := if_neg (by omega)
  unfold rf_msg
  refine xg_stp rfl rfl rfl rfl ?_
  refine xg_stp rfl rfl rfl rfl ?_
  refine xg_stp rfl rfl rfl rfl ?_
  refine rf_call B rfl rfl rfl rfl rfl rfl (rf_isAllSent B (d + 1) F 0 0 r q hr hq (by omega) (by omega)) ?_
  refine xg_j1 rfl rfl rfl rfl rfl (fun h6 => ?_) (fun h6 => ?_)
  · have e6 : ¬ F (20 + 4 * r + q) < F (16 + r) := by
      intro e
      rw [if_pos e] at h6
      exact absurd (nt1_eq (by omega) h6) (by omega)
    rw [if_neg e6]
    refine xg_stp rfl rfl rfl rfl ?_
    refine xg_stp (st' := .int (Int32.ofNat 3258) :: _) rfl rfl rfl rfl ?_
    refine rf_call B rfl rfl rfl rfl rfl rfl (rf_clearState B (d + 2) F 0 0 3258 (by omega)) ?_
    refine xg_stp rfl rfl rfl rfl ?_
    refine xg_stp rfl rfl rfl rfl ?_
    refine xg_stp rfl rfl rfl rfl ?_
    refine rf_call B rfl rfl rfl rfl rfl rfl (by have := rf_ackedBy B (d + 2) (rf_z F 3258 0) 0 0 r q hr hq; rw [show rf_z F 3258 0 (20 + 4 * r + q) = F (20 + 4 * r + q) from if_neg (by omega)] at this; exact this) ?_
    refine xg_stp (st' := .int (Int32.ofNat 1) :: _) rfl rfl rfl rfl ?_
    refine xn_add rfl ?_
    refine xg_stp rfl rfl rfl rfl ?_
    exact rf_lmL B d c s r q hr _ _ _ (by rw [ez]; omega) (by omega) (by rw [ez]; exact k3) (k5 e6)
  · have e6 : F (20 + 4 * r + q) < F (16 + r) := by
      apply Decidable.byContradiction
      intro e
      rw [if_neg e] at h6
      exact absurd rfl (nf1_eq h6)
    rw [if_pos e6]
    refine xg_stp rfl rfl rfl rfl ?_
    refine xg_stp rfl rfl rfl rfl ?_
    refine xg_call rfl rfl rfl (rf_stateAt B (d + 2) F 0 0 r) ?_
    refine xg_stp (st' := .int (Int32.ofNat 3258) :: _) rfl rfl rfl rfl ?_
    refine rf_call B rfl rfl rfl rfl rfl rfl (rf_copyState B (d + 2) F 0 0 (205 + 57 * r) 3258 (by omega) (by omega) (by omega)) ?_
    exact xg_ret rfl rfl
/-- whether a state's place is taken -/
def rf_tk (F : Nat → Nat) (i : Nat) : Nat → Nat → Nat → Nat
  | 0, _, t => t
  | m + 1, k, t => rf_tk F i m (k + 1) (if t = 0 then (if F (61 + 6 * k + 5) = i then 1 else 0) else 1)
def rf_sp (F : Nat → Nat) : Nat → Nat → Nat
  | 0, i => i
  | m + 1, i => if rf_tk F i (F 11) 0 0 = 0 then i else rf_sp F m (i + 1)
theorem rf_tk1 (F : Nat → Nat) (i : Nat) : ∀ (m k t : Nat), t < 2 → rf_tk F i m k t < 2
  | 0, _, _, h => h
  | m + 1, k, t, h => by
    unfold rf_tk
    refine rf_tk1 F i m (k + 1) _ ?_
    split
    · split <;> omega
    · omega
/-- the inner loop of 'spareState' -/
theorem rf_tkL {b : xi_W} {O A : Nat} {o : Nat × List Value} (B : rf_B b O A o) (d : Nat) (c s : Nat) (F : Nat → Nat) (h11 : F 11 ≤ 24) (hb : ∀ k, k < F 11 → F (61 + 6 * k + 5) < 4294967296) (i : Nat) (hi : i < 1000000) (R : xi_R) : ∀ (m k t : Nat), k + m = F 11 → t < 2 → xg (d + 1) 258 54 [(3, .int (Int32.ofNat (F 11))), (2, .int (Int32.ofNat (rf_tk F i m k t))), (1, .int (Int32.ofNat i)), (0, .ref O)] [] (rf_w b A F) c s R → xg (d + 1) 258 12 [(3, .int (Int32.ofNat (k))), (2, .int (Int32.ofNat (t))), (1, .int (Int32.ofNat i)), (0, .ref O)] [] (rf_w b A F) c s R
  | 0, k, t, hm, ht, hk => by
    have e : k = F 11 := by omega
    subst e
    refine xg_stp rfl rfl rfl rfl ?_
    refine xg_stp rfl rfl rfl rfl ?_
    refine rf_fa B rfl rfl ?_
    refine xg_stp (st' := .int (Int32.ofNat 11) :: _) rfl rfl rfl rfl ?_
    refine rf_ld B (by omega) rfl ?_
    refine xg_j2 rfl rfl rfl rfl rfl (fun h20 => ?_) (fun h20 => ?_)
    · exact hk
    · exact absurd (nf_ge (by omega) (by omega) h20) (by omega)
  | m + 1, k, t, hm, ht, hk => by
    have g := hb k (by omega)
    unfold rf_tk at hk
    refine xg_stp rfl rfl rfl rfl ?_
    refine xg_stp rfl rfl rfl rfl ?_
    refine rf_fa B rfl rfl ?_
    refine xg_stp (st' := .int (Int32.ofNat 11) :: _) rfl rfl rfl rfl ?_
    refine rf_ld B (by omega) rfl ?_
    refine xg_j2 rfl rfl rfl rfl rfl (fun h20 => ?_) (fun h20 => ?_)
    · exact absurd (nt_ge (by omega) (by omega) h20) (by omega)
    · refine xg_stp rfl rfl rfl rfl ?_
      refine xg_j1 rfl rfl rfl rfl rfl (fun h24 => ?_) (fun h24 => ?_)
      · rw [if_neg (nt1_ne h24)] at hk
        refine xg_stp (st' := .int (Int32.ofNat 1) :: _) rfl rfl rfl rfl ?_
        refine xg_stp rfl rfl rfl rfl ?_
        refine xg_stp rfl rfl rfl rfl ?_
        refine xn_inc (e := 1) rfl rfl rfl rfl ?_
        refine xg_stp rfl rfl rfl rfl ?_
        exact rf_tkL B d c s F h11 hb i hi R m (k + 1) 1 (by omega) (by omega) hk
      · rw [if_pos (nf1_ne (by omega) h24)] at hk
        refine xg_stp rfl rfl rfl rfl ?_
        refine rf_fa B rfl rfl ?_
        refine xg_stp rfl rfl rfl rfl ?_
        refine xg_call rfl rfl rfl (rf_flightAt B d F 0 0 k) ?_
        refine xg_stp (st' := .int (Int32.ofNat 5) :: _) rfl rfl rfl rfl ?_
        refine xn_add rfl ?_
        refine rf_ld B (by omega) rfl ?_
        refine xg_stp rfl rfl rfl rfl ?_
        refine xg_j2 rfl rfl rfl rfl rfl (fun h39 => ?_) (fun h39 => ?_)
        · rw [if_neg (nt_ne h39)] at hk
          refine xg_stp (st' := .int (Int32.ofNat 0) :: _) rfl rfl rfl rfl ?_
          refine xg_stp rfl rfl rfl rfl ?_
          refine xn_inc (e := 1) rfl rfl rfl rfl ?_
          refine xg_stp rfl rfl rfl rfl ?_
          exact rf_tkL B d c s F h11 hb i hi R m (k + 1) _ (by omega) (by omega) hk
        · rw [if_pos (nf_ne g (by omega) h39)] at hk
          refine xg_stp (st' := .int (Int32.ofNat 1) :: _) rfl rfl rfl rfl ?_
          refine xg_stp rfl rfl rfl rfl ?_
          refine xg_stp rfl rfl rfl rfl ?_
          refine xn_inc (e := 1) rfl rfl rfl rfl ?_
          refine xg_stp rfl rfl rfl rfl ?_
          exact rf_tkL B d c s F h11 hb i hi R m (k + 1) _ (by omega) (by omega) hk
/-- the outer loop of 'spareState' -/
theorem rf_spL {b : xi_W} {O A : Nat} {o : Nat × List Value} (B : rf_B b O A o) (d : Nat) (c s : Nat) (F : Nat → Nat) (h11 : F 11 ≤ 24) (hb : ∀ k, k < F 11 → F (61 + 6 * k + 5) < 4294967296) : ∀ (m i : Nat), i + m < 1000000 → rf_tk F (i + m) (F 11) 0 0 = 0 → xg (d + 1) 258 12 [(3, .int (Int32.ofNat (0))), (2, .int (Int32.ofNat (0))), (1, .int (Int32.ofNat i)), (0, .ref O)] [] (rf_w b A F) c s (some (.int (Int32.ofNat (rf_sp F (m + 1) i))), rf_w b A F, c, s)
  | 0, i, hi, hf => by
    unfold rf_sp
    refine rf_tkL B d c s F h11 hb i (by omega) _ (F 11) 0 0 (Nat.zero_add _) (by omega) ?_
    refine xg_stp rfl rfl rfl rfl ?_
    refine xg_j1 rfl rfl rfl rfl rfl (fun h55 => ?_) (fun h55 => ?_)
    · have e55 := nt1_eq (Nat.lt_trans (rf_tk1 F i (F 11) 0 0 (by omega)) (by omega)) h55
      rw [if_pos e55]
      refine xg_stp rfl rfl rfl rfl ?_
      refine xg_j1 rfl rfl rfl rfl rfl (fun h5 => ?_) (fun h5 => ?_)
      · refine xg_stp rfl rfl rfl rfl ?_
        exact xg_ret rfl rfl
      · exact absurd e55 (nf1_eq h5)
    · exact absurd hf (nf1_eq h55)
  | m + 1, i, hi, hf => by
    unfold rf_sp
    refine rf_tkL B d c s F h11 hb i (by omega) _ (F 11) 0 0 (Nat.zero_add _) (by omega) ?_
    refine xg_stp rfl rfl rfl rfl ?_
    refine xg_j1 rfl rfl rfl rfl rfl (fun h55 => ?_) (fun h55 => ?_)
    · have e55 := nt1_eq (Nat.lt_trans (rf_tk1 F i (F 11) 0 0 (by omega)) (by omega)) h55
      rw [if_pos e55]
      refine xg_stp rfl rfl rfl rfl ?_
      refine xg_j1 rfl rfl rfl rfl rfl (fun h5 => ?_) (fun h5 => ?_)
      · refine xg_stp rfl rfl rfl rfl ?_
        exact xg_ret rfl rfl
      · exact absurd e55 (nf1_eq h5)
    · have e55 := nf1_eq h55
      rw [if_neg e55]
      refine xn_inc (e := 1) rfl rfl rfl rfl ?_
      refine xg_stp rfl rfl rfl rfl ?_
      refine xg_stp rfl rfl rfl rfl ?_
      refine xg_j1 rfl rfl rfl rfl rfl (fun h5 => ?_) (fun h5 => ?_)
      · exact absurd (nt1_eq (Nat.lt_trans (rf_tk1 F i (F 11) 0 0 (by omega)) (by omega)) h5) e55
      · refine xg_stp (st' := .int (Int32.ofNat 0) :: _) rfl rfl rfl rfl ?_
        refine xg_stp rfl rfl rfl rfl ?_
        refine xg_stp (st' := .int (Int32.ofNat 0) :: _) rfl rfl rfl rfl ?_
        refine xg_stp rfl rfl rfl rfl ?_
        exact rf_spL B d c s F h11 hb m (i + 1) (by omega) (by rw [show i + 1 + m = i + (m + 1) by omega]; exact hf)
/-- 'spareState' -/
theorem rf_spareState {b : xi_W} {O A : Nat} {o : Nat × List Value} (B : rf_B b O A o) (d : Nat) (c s : Nat) (F : Nat → Nat) (h11 : F 11 ≤ 24) (hb : ∀ k, k < F 11 → F (61 + 6 * k + 5) < 4294967296) (m : Nat) (hm : m < 1000000) (hf : rf_tk F m (F 11) 0 0 = 0) : xg (d + 1) 258 0 [(0, .ref O)] [] (rf_w b A F) c s (some (.int (Int32.ofNat (rf_sp F (m + 1) 0))), rf_w b A F, c, s) := by
  refine xg_stp (st' := .int (Int32.ofNat 0) :: _) rfl rfl rfl rfl ?_
  refine xg_stp rfl rfl rfl rfl ?_
  refine xg_stp (st' := .int (Int32.ofNat 1) :: _) rfl rfl rfl rfl ?_
  refine xg_stp rfl rfl rfl rfl ?_
  refine xg_stp rfl rfl rfl rfl ?_
  refine xg_j1 rfl rfl rfl rfl rfl (fun h5 => ?_) (fun h5 => ?_)
  · exact absurd (nt1_eq (a := 1) (by omega) h5) (by omega)
  · refine xg_stp (st' := .int (Int32.ofNat 0) :: _) rfl rfl rfl rfl ?_
    refine xg_stp rfl rfl rfl rfl ?_
    refine xg_stp (st' := .int (Int32.ofNat 0) :: _) rfl rfl rfl rfl ?_
    refine xg_stp rfl rfl rfl rfl ?_
    exact rf_spL B d c s F h11 hb m 0 (by omega) (by rw [Nat.zero_add]; exact hf)
def rf_n1 (F : Nat → Nat) : Nat → Nat := xn_u F 8 (F 8 + 1)
def rf_n2 (F : Nat → Nat) : Nat → Nat := xn_u (rf_n1 F) 7 ((rf_n1 F 7 * 773 + 641) % 31139)
def rf_n3 (F : Nat → Nat) : Nat → Nat := xn_u (rf_n2 F) 9 (rf_n2 F 9 + 1)
/-- one is in flight behind all others -/
def rf_fl (F : Nat → Nat) (p q e u v : Nat) : Nat → Nat := xn_u (xn_u (xn_u (xn_u (xn_u (xn_u F (61 + 6 * F 11 + 0) p) (61 + 6 * F 11 + 1) q) (61 + 6 * F 11 + 2) (F 6 + F 5)) (61 + 6 * F 11 + 3) e) (61 + 6 * F 11 + 4) u) (61 + 6 * F 11 + 5) v
def rf_f2 (F : Nat → Nat) (p q e u v : Nat) : Nat → Nat := xn_u (rf_fl F p q e u v) 11 (rf_fl F p q e u v 11 + 1)
/-- an answer is sent -/
def rf_sA (F : Nat → Nat) (p q u : Nat) : Nat → Nat := if F 7 % 10 < 3 then rf_wd (rf_n3 F) 3 q p else rf_f2 (rf_n2 F) p q 1 u 4294967295
/-- MESSAGE is sent -/
def rf_sM (F : Nat → Nat) (p q u m : Nat) : Nat → Nat := if F 7 % 10 < 3 then rf_wd (rf_n3 F) 3 q p else rf_f2 (rf_c (rf_n2 F) 3258 (205 + 57 * (28 + rf_sp (rf_n2 F) (m + 1) 0)) 0) p q 0 u (rf_sp (rf_n2 F) (m + 1) 0)
theorem rf_cfar (F : Nat → Nat) (X Y : Nat) {j : Nat} (h : j < Y ∨ Y + 57 ≤ j) : rf_c F X Y 0 j = F j := if_neg (by omega)
theorem rf_sple (F : Nat → Nat) : ∀ (m i : Nat), rf_tk F (i + m) (F 11) 0 0 = 0 → rf_sp F (m + 1) i ≤ i + m
  | 0, i, h => by
    unfold rf_sp
    rw [if_pos (show rf_tk F i (F 11) 0 0 = 0 from h)]
    exact Nat.le_refl _
  | m + 1, i, h => by
    unfold rf_sp
    split
    · omega
    · have := rf_sple F m (i + 1) (by rw [show i + 1 + m = i + (m + 1) by omega]; exact h)
      omega
theorem rf_n2o (F : Nat → Nat) {j : Nat} (h : j ≠ 7) (h2 : j ≠ 8) : rf_n2 F j = F j := by
  unfold rf_n2 rf_n1; rw [xn_un _ _ h, xn_un _ _ h2]
/-- 'sendNow', its end -/
theorem rf_sT {b : xi_W} {O A : Nat} {o : Nat × List Value} (B : rf_B b O A o) (d : Nat) (F : Nat → Nat) (c s : Nat) (p q e u v k : Nat) (he : e = 0 ∨ e = 1) (h11 : F 11 < 24) (h56 : F 6 + F 5 < 2147483648) (hcm : 0 < F 11 → F (61 + 6 * (F 11 - 1) + 2) ≤ F 6 + F 5) : xg (d + 1) 259 122 [(7, .int (Int32.ofNat v)), (6, .int (Int32.ofNat 0)), (5, .int (Int32.ofNat k)), (0, .ref O), (1, .int (Int32.ofNat p)), (2, .int (Int32.ofNat q)), (3, .int (Int32.ofNat e)), (4, .int (Int32.ofNat u))] [] (rf_w b A F) c s (none, rf_w b A (rf_f2 F p q e u v), c, s) := by
  rcases he with rfl | rfl
  · refine xg_stp rfl rfl rfl rfl ?_
    refine rf_fa B rfl rfl ?_
    refine xg_stp (st' := .int (Int32.ofNat 6) :: _) rfl rfl rfl rfl ?_
    refine rf_ld B (by omega) rfl ?_
    refine xg_stp rfl rfl rfl rfl ?_
    refine rf_fa B rfl rfl ?_
    refine xg_stp (st' := .int (Int32.ofNat 5) :: _) rfl rfl rfl rfl ?_
    refine rf_ld B (by omega) rfl ?_
    refine xn_add rfl ?_
    refine xg_stp rfl rfl rfl rfl ?_
    refine xg_stp rfl rfl rfl rfl ?_
    refine rf_fa B rfl rfl ?_
    refine xg_stp (st' := .int (Int32.ofNat 11) :: _) rfl rfl rfl rfl ?_
    refine rf_ld B (by omega) rfl ?_
    refine xg_stp rfl rfl rfl rfl ?_
    refine xg_stp rfl rfl rfl rfl ?_
    refine xg_j1 rfl rfl rfl rfl rfl (fun h149 => ?_) (fun h149 => ?_)
    · refine xg_stp rfl rfl rfl rfl ?_
      refine rf_fa B rfl rfl ?_
      refine xg_stp (st' := .int (Int32.ofNat 11) :: _) rfl rfl rfl rfl ?_
      refine rf_ld B (by omega) rfl ?_
      refine xg_call rfl rfl rfl (rf_flightAt B d F 0 0 _) ?_
      refine xg_stp (st' := .int (Int32.ofNat 1) :: _) rfl rfl rfl rfl ?_
      refine xn_sub (by omega) rfl ?_
      refine xg_stp rfl rfl rfl rfl ?_
      refine xg_stp rfl rfl rfl rfl ?_
      refine xg_stp rfl rfl rfl rfl ?_
      refine xg_call rfl rfl rfl (rf_flightAt B d F 0 0 _) ?_
      refine xg_j2 rfl rfl rfl rfl rfl (fun h198 => ?_) (fun h198 => ?_)
      · refine xg_stp rfl rfl rfl rfl ?_
        refine xg_call rfl rfl rfl (rf_flightAt B d F 0 0 _) ?_
        refine xg_stp rfl rfl rfl rfl ?_
        refine xg_stp rfl rfl rfl rfl ?_
        refine rf_fa B rfl rfl ?_
        refine xg_stp rfl rfl rfl rfl ?_
        refine xg_stp (st' := .int (Int32.ofNat 0) :: _) rfl rfl rfl rfl ?_
        refine xn_add rfl ?_
        refine xg_stp rfl rfl rfl rfl ?_
        refine rf_sto B (by omega) rfl ?_
        refine xg_stp rfl rfl rfl rfl ?_
        refine rf_fa B rfl rfl ?_
        refine xg_stp rfl rfl rfl rfl ?_
        refine xg_stp (st' := .int (Int32.ofNat 1) :: _) rfl rfl rfl rfl ?_
        refine xn_add rfl ?_
        refine xg_stp rfl rfl rfl rfl ?_
        refine rf_sto B (by omega) rfl ?_
        refine xg_stp rfl rfl rfl rfl ?_
        refine rf_fa B rfl rfl ?_
        refine xg_stp rfl rfl rfl rfl ?_
        refine xg_stp (st' := .int (Int32.ofNat 2) :: _) rfl rfl rfl rfl ?_
        refine xn_add rfl ?_
        refine xg_stp rfl rfl rfl rfl ?_
        refine rf_sto B (by omega) rfl ?_
        refine xg_stp rfl rfl rfl rfl ?_
        refine rf_fa B rfl rfl ?_
        refine xg_stp rfl rfl rfl rfl ?_
        refine xg_stp (st' := .int (Int32.ofNat 3) :: _) rfl rfl rfl rfl ?_
        refine xn_add rfl ?_
        refine xg_stp rfl rfl rfl rfl ?_
        refine xg_j1 rfl rfl rfl rfl rfl (fun h271 => ?_) (fun h271 => ?_)
        · refine xg_stp (st' := .int (Int32.ofNat 0) :: _) rfl rfl rfl rfl ?_
          refine rf_sto B (by omega) rfl ?_
          refine xg_stp rfl rfl rfl rfl ?_
          refine rf_fa B rfl rfl ?_
          refine xg_stp rfl rfl rfl rfl ?_
          refine xg_stp (st' := .int (Int32.ofNat 4) :: _) rfl rfl rfl rfl ?_
          refine xn_add rfl ?_
          refine xg_stp rfl rfl rfl rfl ?_
          refine rf_sto B (by omega) rfl ?_
          refine xg_stp rfl rfl rfl rfl ?_
          refine rf_fa B rfl rfl ?_
          refine xg_stp rfl rfl rfl rfl ?_
          refine xg_stp (st' := .int (Int32.ofNat 5) :: _) rfl rfl rfl rfl ?_
          refine xn_add rfl ?_
          refine xg_stp rfl rfl rfl rfl ?_
          refine rf_sto B (by omega) rfl ?_
          refine xg_stp rfl rfl rfl rfl ?_
          refine rf_fa B rfl rfl ?_
          refine xg_stp (st' := .int (Int32.ofNat 11) :: _) rfl rfl rfl rfl ?_
          refine xg_stp rfl rfl rfl rfl ?_
          refine rf_ld B (by omega) rfl ?_
          refine xg_stp (st' := .int (Int32.ofNat 1) :: _) rfl rfl rfl rfl ?_
          refine xn_add rfl ?_
          refine rf_sto B (by omega) rfl ?_
          exact xg_ret rfl rfl
        · exact absurd rfl (nf1_eq h271)
      · exact absurd (nf_lt (by omega) (by omega) h198) (by omega)
    · have e149 : 0 < F 11 := nf1_le (by omega) h149
      have e150 := hcm e149
      refine xg_stp rfl rfl rfl rfl ?_
      refine rf_fa B rfl rfl ?_
      refine xg_stp rfl rfl rfl rfl ?_
      refine xg_stp (st' := .int (Int32.ofNat 1) :: _) rfl rfl rfl rfl ?_
      refine xn_sub (by omega) rfl ?_
      refine xg_call rfl rfl rfl (rf_flightAt B d F 0 0 _) ?_
      refine xg_stp (st' := .int (Int32.ofNat 2) :: _) rfl rfl rfl rfl ?_
      refine xn_add rfl ?_
      refine rf_ld B (by omega) rfl ?_
      refine xg_stp rfl rfl rfl rfl ?_
      refine xg_j2 rfl rfl rfl rfl rfl (fun h168 => ?_) (fun h168 => ?_)
      · refine xg_stp rfl rfl rfl rfl ?_
        refine rf_fa B rfl rfl ?_
        refine xg_stp (st' := .int (Int32.ofNat 11) :: _) rfl rfl rfl rfl ?_
        refine rf_ld B (by omega) rfl ?_
        refine xg_call rfl rfl rfl (rf_flightAt B d F 0 0 _) ?_
        refine xg_stp (st' := .int (Int32.ofNat 1) :: _) rfl rfl rfl rfl ?_
        refine xn_sub (by omega) rfl ?_
        refine xg_stp rfl rfl rfl rfl ?_
        refine xg_stp rfl rfl rfl rfl ?_
        refine xg_stp rfl rfl rfl rfl ?_
        refine xg_call rfl rfl rfl (rf_flightAt B d F 0 0 _) ?_
        refine xg_j2 rfl rfl rfl rfl rfl (fun h198 => ?_) (fun h198 => ?_)
        · refine xg_stp rfl rfl rfl rfl ?_
          refine xg_call rfl rfl rfl (rf_flightAt B d F 0 0 _) ?_
          refine xg_stp rfl rfl rfl rfl ?_
          refine xg_stp rfl rfl rfl rfl ?_
          refine rf_fa B rfl rfl ?_
          refine xg_stp rfl rfl rfl rfl ?_
          refine xg_stp (st' := .int (Int32.ofNat 0) :: _) rfl rfl rfl rfl ?_
          refine xn_add rfl ?_
          refine xg_stp rfl rfl rfl rfl ?_
          refine rf_sto B (by omega) rfl ?_
          refine xg_stp rfl rfl rfl rfl ?_
          refine rf_fa B rfl rfl ?_
          refine xg_stp rfl rfl rfl rfl ?_
          refine xg_stp (st' := .int (Int32.ofNat 1) :: _) rfl rfl rfl rfl ?_
          refine xn_add rfl ?_
          refine xg_stp rfl rfl rfl rfl ?_
          refine rf_sto B (by omega) rfl ?_
          refine xg_stp rfl rfl rfl rfl ?_
          refine rf_fa B rfl rfl ?_
          refine xg_stp rfl rfl rfl rfl ?_
          refine xg_stp (st' := .int (Int32.ofNat 2) :: _) rfl rfl rfl rfl ?_
          refine xn_add rfl ?_
          refine xg_stp rfl rfl rfl rfl ?_
          refine rf_sto B (by omega) rfl ?_
          refine xg_stp rfl rfl rfl rfl ?_
          refine rf_fa B rfl rfl ?_
          refine xg_stp rfl rfl rfl rfl ?_
          refine xg_stp (st' := .int (Int32.ofNat 3) :: _) rfl rfl rfl rfl ?_
          refine xn_add rfl ?_
          refine xg_stp rfl rfl rfl rfl ?_
          refine xg_j1 rfl rfl rfl rfl rfl (fun h271 => ?_) (fun h271 => ?_)
          · refine xg_stp (st' := .int (Int32.ofNat 0) :: _) rfl rfl rfl rfl ?_
            refine rf_sto B (by omega) rfl ?_
            refine xg_stp rfl rfl rfl rfl ?_
            refine rf_fa B rfl rfl ?_
            refine xg_stp rfl rfl rfl rfl ?_
            refine xg_stp (st' := .int (Int32.ofNat 4) :: _) rfl rfl rfl rfl ?_
            refine xn_add rfl ?_
            refine xg_stp rfl rfl rfl rfl ?_
            refine rf_sto B (by omega) rfl ?_
            refine xg_stp rfl rfl rfl rfl ?_
            refine rf_fa B rfl rfl ?_
            refine xg_stp rfl rfl rfl rfl ?_
            refine xg_stp (st' := .int (Int32.ofNat 5) :: _) rfl rfl rfl rfl ?_
            refine xn_add rfl ?_
            refine xg_stp rfl rfl rfl rfl ?_
            refine rf_sto B (by omega) rfl ?_
            refine xg_stp rfl rfl rfl rfl ?_
            refine rf_fa B rfl rfl ?_
            refine xg_stp (st' := .int (Int32.ofNat 11) :: _) rfl rfl rfl rfl ?_
            refine xg_stp rfl rfl rfl rfl ?_
            refine rf_ld B (by omega) rfl ?_
            refine xg_stp (st' := .int (Int32.ofNat 1) :: _) rfl rfl rfl rfl ?_
            refine xn_add rfl ?_
            refine rf_sto B (by omega) rfl ?_
            exact xg_ret rfl rfl
          · exact absurd rfl (nf1_eq h271)
        · exact absurd (nf_lt (by omega) (by omega) h198) (by omega)
      · exact absurd (nf_le (by omega) (by omega) h168) (by omega)
  · refine xg_stp rfl rfl rfl rfl ?_
    refine rf_fa B rfl rfl ?_
    refine xg_stp (st' := .int (Int32.ofNat 6) :: _) rfl rfl rfl rfl ?_
    refine rf_ld B (by omega) rfl ?_
    refine xg_stp rfl rfl rfl rfl ?_
    refine rf_fa B rfl rfl ?_
    refine xg_stp (st' := .int (Int32.ofNat 5) :: _) rfl rfl rfl rfl ?_
    refine rf_ld B (by omega) rfl ?_
    refine xn_add rfl ?_
    refine xg_stp rfl rfl rfl rfl ?_
    refine xg_stp rfl rfl rfl rfl ?_
    refine rf_fa B rfl rfl ?_
    refine xg_stp (st' := .int (Int32.ofNat 11) :: _) rfl rfl rfl rfl ?_
    refine rf_ld B (by omega) rfl ?_
    refine xg_stp rfl rfl rfl rfl ?_
    refine xg_stp rfl rfl rfl rfl ?_
    refine xg_j1 rfl rfl rfl rfl rfl (fun h149 => ?_) (fun h149 => ?_)
    · refine xg_stp rfl rfl rfl rfl ?_
      refine rf_fa B rfl rfl ?_
      refine xg_stp (st' := .int (Int32.ofNat 11) :: _) rfl rfl rfl rfl ?_
      refine rf_ld B (by omega) rfl ?_
      refine xg_call rfl rfl rfl (rf_flightAt B d F 0 0 _) ?_
      refine xg_stp (st' := .int (Int32.ofNat 1) :: _) rfl rfl rfl rfl ?_
      refine xn_sub (by omega) rfl ?_
      refine xg_stp rfl rfl rfl rfl ?_
      refine xg_stp rfl rfl rfl rfl ?_
      refine xg_stp rfl rfl rfl rfl ?_
      refine xg_call rfl rfl rfl (rf_flightAt B d F 0 0 _) ?_
      refine xg_j2 rfl rfl rfl rfl rfl (fun h198 => ?_) (fun h198 => ?_)
      · refine xg_stp rfl rfl rfl rfl ?_
        refine xg_call rfl rfl rfl (rf_flightAt B d F 0 0 _) ?_
        refine xg_stp rfl rfl rfl rfl ?_
        refine xg_stp rfl rfl rfl rfl ?_
        refine rf_fa B rfl rfl ?_
        refine xg_stp rfl rfl rfl rfl ?_
        refine xg_stp (st' := .int (Int32.ofNat 0) :: _) rfl rfl rfl rfl ?_
        refine xn_add rfl ?_
        refine xg_stp rfl rfl rfl rfl ?_
        refine rf_sto B (by omega) rfl ?_
        refine xg_stp rfl rfl rfl rfl ?_
        refine rf_fa B rfl rfl ?_
        refine xg_stp rfl rfl rfl rfl ?_
        refine xg_stp (st' := .int (Int32.ofNat 1) :: _) rfl rfl rfl rfl ?_
        refine xn_add rfl ?_
        refine xg_stp rfl rfl rfl rfl ?_
        refine rf_sto B (by omega) rfl ?_
        refine xg_stp rfl rfl rfl rfl ?_
        refine rf_fa B rfl rfl ?_
        refine xg_stp rfl rfl rfl rfl ?_
        refine xg_stp (st' := .int (Int32.ofNat 2) :: _) rfl rfl rfl rfl ?_
        refine xn_add rfl ?_
        refine xg_stp rfl rfl rfl rfl ?_
        refine rf_sto B (by omega) rfl ?_
        refine xg_stp rfl rfl rfl rfl ?_
        refine rf_fa B rfl rfl ?_
        refine xg_stp rfl rfl rfl rfl ?_
        refine xg_stp (st' := .int (Int32.ofNat 3) :: _) rfl rfl rfl rfl ?_
        refine xn_add rfl ?_
        refine xg_stp rfl rfl rfl rfl ?_
        refine xg_j1 rfl rfl rfl rfl rfl (fun h271 => ?_) (fun h271 => ?_)
        · exact absurd (nt1_eq (a := 1) (by omega) h271) (by omega)
        · refine xg_stp (st' := .int (Int32.ofNat 1) :: _) rfl rfl rfl rfl ?_
          refine xg_stp rfl rfl rfl rfl ?_
          refine rf_sto B (by omega) rfl ?_
          refine xg_stp rfl rfl rfl rfl ?_
          refine rf_fa B rfl rfl ?_
          refine xg_stp rfl rfl rfl rfl ?_
          refine xg_stp (st' := .int (Int32.ofNat 4) :: _) rfl rfl rfl rfl ?_
          refine xn_add rfl ?_
          refine xg_stp rfl rfl rfl rfl ?_
          refine rf_sto B (by omega) rfl ?_
          refine xg_stp rfl rfl rfl rfl ?_
          refine rf_fa B rfl rfl ?_
          refine xg_stp rfl rfl rfl rfl ?_
          refine xg_stp (st' := .int (Int32.ofNat 5) :: _) rfl rfl rfl rfl ?_
          refine xn_add rfl ?_
          refine xg_stp rfl rfl rfl rfl ?_
          refine rf_sto B (by omega) rfl ?_
          refine xg_stp rfl rfl rfl rfl ?_
          refine rf_fa B rfl rfl ?_
          refine xg_stp (st' := .int (Int32.ofNat 11) :: _) rfl rfl rfl rfl ?_
          refine xg_stp rfl rfl rfl rfl ?_
          refine rf_ld B (by omega) rfl ?_
          refine xg_stp (st' := .int (Int32.ofNat 1) :: _) rfl rfl rfl rfl ?_
          refine xn_add rfl ?_
          refine rf_sto B (by omega) rfl ?_
          exact xg_ret rfl rfl
      · exact absurd (nf_lt (by omega) (by omega) h198) (by omega)
    · have e149 : 0 < F 11 := nf1_le (by omega) h149
      have e150 := hcm e149
      refine xg_stp rfl rfl rfl rfl ?_
      refine rf_fa B rfl rfl ?_
      refine xg_stp rfl rfl rfl rfl ?_
      refine xg_stp (st' := .int (Int32.ofNat 1) :: _) rfl rfl rfl rfl ?_
      refine xn_sub (by omega) rfl ?_
      refine xg_call rfl rfl rfl (rf_flightAt B d F 0 0 _) ?_
      refine xg_stp (st' := .int (Int32.ofNat 2) :: _) rfl rfl rfl rfl ?_
      refine xn_add rfl ?_
      refine rf_ld B (by omega) rfl ?_
      refine xg_stp rfl rfl rfl rfl ?_
      refine xg_j2 rfl rfl rfl rfl rfl (fun h168 => ?_) (fun h168 => ?_)
      · refine xg_stp rfl rfl rfl rfl ?_
        refine rf_fa B rfl rfl ?_
        refine xg_stp (st' := .int (Int32.ofNat 11) :: _) rfl rfl rfl rfl ?_
        refine rf_ld B (by omega) rfl ?_
        refine xg_call rfl rfl rfl (rf_flightAt B d F 0 0 _) ?_
        refine xg_stp (st' := .int (Int32.ofNat 1) :: _) rfl rfl rfl rfl ?_
        refine xn_sub (by omega) rfl ?_
        refine xg_stp rfl rfl rfl rfl ?_
        refine xg_stp rfl rfl rfl rfl ?_
        refine xg_stp rfl rfl rfl rfl ?_
        refine xg_call rfl rfl rfl (rf_flightAt B d F 0 0 _) ?_
        refine xg_j2 rfl rfl rfl rfl rfl (fun h198 => ?_) (fun h198 => ?_)
        · refine xg_stp rfl rfl rfl rfl ?_
          refine xg_call rfl rfl rfl (rf_flightAt B d F 0 0 _) ?_
          refine xg_stp rfl rfl rfl rfl ?_
          refine xg_stp rfl rfl rfl rfl ?_
          refine rf_fa B rfl rfl ?_
          refine xg_stp rfl rfl rfl rfl ?_
          refine xg_stp (st' := .int (Int32.ofNat 0) :: _) rfl rfl rfl rfl ?_
          refine xn_add rfl ?_
          refine xg_stp rfl rfl rfl rfl ?_
          refine rf_sto B (by omega) rfl ?_
          refine xg_stp rfl rfl rfl rfl ?_
          refine rf_fa B rfl rfl ?_
          refine xg_stp rfl rfl rfl rfl ?_
          refine xg_stp (st' := .int (Int32.ofNat 1) :: _) rfl rfl rfl rfl ?_
          refine xn_add rfl ?_
          refine xg_stp rfl rfl rfl rfl ?_
          refine rf_sto B (by omega) rfl ?_
          refine xg_stp rfl rfl rfl rfl ?_
          refine rf_fa B rfl rfl ?_
          refine xg_stp rfl rfl rfl rfl ?_
          refine xg_stp (st' := .int (Int32.ofNat 2) :: _) rfl rfl rfl rfl ?_
          refine xn_add rfl ?_
          refine xg_stp rfl rfl rfl rfl ?_
          refine rf_sto B (by omega) rfl ?_
          refine xg_stp rfl rfl rfl rfl ?_
          refine rf_fa B rfl rfl ?_
          refine xg_stp rfl rfl rfl rfl ?_
          refine xg_stp (st' := .int (Int32.ofNat 3) :: _) rfl rfl rfl rfl ?_
          refine xn_add rfl ?_
          refine xg_stp rfl rfl rfl rfl ?_
          refine xg_j1 rfl rfl rfl rfl rfl (fun h271 => ?_) (fun h271 => ?_)
          · exact absurd (nt1_eq (a := 1) (by omega) h271) (by omega)
          · refine xg_stp (st' := .int (Int32.ofNat 1) :: _) rfl rfl rfl rfl ?_
            refine xg_stp rfl rfl rfl rfl ?_
            refine rf_sto B (by omega) rfl ?_
            refine xg_stp rfl rfl rfl rfl ?_
            refine rf_fa B rfl rfl ?_
            refine xg_stp rfl rfl rfl rfl ?_
            refine xg_stp (st' := .int (Int32.ofNat 4) :: _) rfl rfl rfl rfl ?_
            refine xn_add rfl ?_
            refine xg_stp rfl rfl rfl rfl ?_
            refine rf_sto B (by omega) rfl ?_
            refine xg_stp rfl rfl rfl rfl ?_
            refine rf_fa B rfl rfl ?_
            refine xg_stp rfl rfl rfl rfl ?_
            refine xg_stp (st' := .int (Int32.ofNat 5) :: _) rfl rfl rfl rfl ?_
            refine xn_add rfl ?_
            refine xg_stp rfl rfl rfl rfl ?_
            refine rf_sto B (by omega) rfl ?_
            refine xg_stp rfl rfl rfl rfl ?_
            refine rf_fa B rfl rfl ?_
            refine xg_stp (st' := .int (Int32.ofNat 11) :: _) rfl rfl rfl rfl ?_
            refine xg_stp rfl rfl rfl rfl ?_
            refine rf_ld B (by omega) rfl ?_
            refine xg_stp (st' := .int (Int32.ofNat 1) :: _) rfl rfl rfl rfl ?_
            refine xn_add rfl ?_
            refine rf_sto B (by omega) rfl ?_
            exact xg_ret rfl rfl
        · exact absurd (nf_lt (by omega) (by omega) h198) (by omega)
      · exact absurd (nf_le (by omega) (by omega) h168) (by omega)
/-- 'sendNow' -/
theorem rf_sendA {b : xi_W} {O A : Nat} {o : Nat × List Value} (B : rf_B b O A o) (d : Nat) (F : Nat → Nat) (c s : Nat) (p q u : Nat) (h1 : F 1 = 4294967295) (h7 : F 7 < 2147483648) (h10 : F 10 ≤ 25) (h11 : F 11 < 24) (h56 : F 6 + F 5 < 2147483648) (hcm : 0 < F 11 → F (61 + 6 * (F 11 - 1) + 2) ≤ F 6 + F 5) : xg (d + 2) 259 0 ([(0, .ref O), (1, .int (Int32.ofNat p)), (2, .int (Int32.ofNat q)), (3, .int (Int32.ofNat 1)), (4, .int (Int32.ofNat u))]) [] (rf_w b A F) c s (none, rf_w b A (rf_sA F p q u), c, s) := by
  have hN1 : rf_n2 F 1 = 4294967295 := h1
  unfold rf_sA
  refine xg_stp rfl rfl rfl rfl ?_
  refine xg_j1 rfl rfl rfl rfl rfl (fun h1 => ?_) (fun h1 => ?_)
  · exact absurd (nt1_eq (a := 1) (by omega) h1) (by omega)
  · refine xg_stp (st' := .int (Int32.ofNat 0) :: _) rfl rfl rfl rfl ?_
    refine xg_stp rfl rfl rfl rfl ?_
    refine xg_stp rfl rfl rfl rfl ?_
    refine xg_stp rfl rfl rfl rfl ?_
    refine rf_fa B rfl rfl ?_
    refine xg_stp (st' := .int (Int32.ofNat 8) :: _) rfl rfl rfl rfl ?_
    refine xg_stp rfl rfl rfl rfl ?_
    refine rf_ld B (by omega) rfl ?_
    refine xg_stp (st' := .int (Int32.ofNat 1) :: _) rfl rfl rfl rfl ?_
    refine xn_add rfl ?_
    refine rf_sto B (by omega) rfl ?_
    refine xg_stp rfl rfl rfl rfl ?_
    refine xg_stp (st' := .int (Int32.ofNat 10) :: _) rfl rfl rfl rfl ?_
    refine rf_call B rfl rfl rfl rfl rfl rfl (rf_drawnBy B d (rf_n1 F) 0 0 10 h7 (by omega) (by omega)) ?_
    refine xg_stp rfl rfl rfl rfl ?_
    refine xg_stp rfl rfl rfl rfl ?_
    refine xg_stp rfl rfl rfl rfl ?_
    refine xg_stp rfl rfl rfl rfl ?_
    refine xg_stp rfl rfl rfl rfl ?_
    refine rf_call B rfl rfl rfl rfl rfl rfl (rf_losesNow B d (rf_n2 F) 0 0 p q 1 _ hN1) ?_
    refine xg_j2 rfl rfl rfl rfl rfl (fun h43 => ?_) (fun h43 => ?_)
    · have e43 : 3 ≤ F 7 % 10 := nt_ge (Nat.lt_trans (Nat.mod_lt _ (by omega)) (by omega)) (by omega) h43
      rw [if_neg (Nat.not_lt.mpr e43)]
      refine xg_stp (st' := .int (Int32.ofNat 0) :: _) rfl rfl rfl rfl ?_
      refine xg_stp rfl rfl rfl rfl ?_
      refine xg_stp rfl rfl rfl rfl ?_
      refine xg_j1 rfl rfl rfl rfl rfl (fun h55 => ?_) (fun h55 => ?_)
      · exact absurd rfl (nt1_ne h55)
      · refine xg_stp rfl rfl rfl rfl ?_
        refine rf_fa B rfl rfl ?_
        refine xg_stp (st' := .int (Int32.ofNat 11) :: _) rfl rfl rfl rfl ?_
        refine rf_ld B (by omega) rfl ?_
        refine xg_stp (st' := .int (Int32.ofNat 24) :: _) rfl rfl rfl rfl ?_
        refine xg_j2 rfl rfl rfl rfl rfl (fun h67 => ?_) (fun h67 => ?_)
        · refine xg_stp rfl rfl rfl rfl ?_
          refine xg_j1 rfl rfl rfl rfl rfl (fun h90 => ?_) (fun h90 => ?_)
          · exact absurd (nt1_eq (a := 1) (by omega) h90) (by omega)
          · refine xg_stp (st' := .int (Int32.ofNat 4294967295) :: _) rfl rfl rfl rfl ?_
            refine xg_stp rfl rfl rfl rfl ?_
            refine xg_stp rfl rfl rfl rfl ?_
            refine xg_stp rfl rfl rfl rfl ?_
            refine xg_j1 rfl rfl rfl rfl rfl (fun h104 => ?_) (fun h104 => ?_)
            · exact rf_sT B (d + 1) (rf_n2 F) c s p q 1 u 4294967295 _ (Or.inr rfl) h11 h56 (by rw [rf_n2o F (j := 61 + 6 * (rf_n2 F 11 - 1) + 2) (by omega) (by omega)]; exact hcm)
            · exact absurd (nf1_ne (a := 1) (by omega) h104) (by omega)
        · exact absurd (nf_ne (show F 11 < 4294967296 by omega) (by omega) h67) (show F 11 ≠ 24 by omega)
    · have e43 : F 7 % 10 < 3 := nf_ge (Nat.lt_trans (Nat.mod_lt _ (by omega)) (by omega)) (by omega) h43
      rw [if_pos e43]
      refine xg_stp (st' := .int (Int32.ofNat 1) :: _) rfl rfl rfl rfl ?_
      refine xg_stp rfl rfl rfl rfl ?_
      refine xg_stp rfl rfl rfl rfl ?_
      refine xg_stp rfl rfl rfl rfl ?_
      refine xg_j1 rfl rfl rfl rfl rfl (fun h55 => ?_) (fun h55 => ?_)
      · refine xg_stp rfl rfl rfl rfl ?_
        refine rf_fa B rfl rfl ?_
        refine xg_stp (st' := .int (Int32.ofNat 9) :: _) rfl rfl rfl rfl ?_
        refine xg_stp rfl rfl rfl rfl ?_
        refine rf_ld B (by omega) rfl ?_
        refine xg_stp (st' := .int (Int32.ofNat 1) :: _) rfl rfl rfl rfl ?_
        refine xn_add rfl ?_
        refine rf_sto B (by omega) rfl ?_
        refine xg_stp rfl rfl rfl rfl ?_
        refine xg_stp (st' := .int (Int32.ofNat 3) :: _) rfl rfl rfl rfl ?_
        refine xg_stp rfl rfl rfl rfl ?_
        refine xg_stp rfl rfl rfl rfl ?_
        refine rf_call B rfl rfl rfl rfl rfl rfl (rf_writeDown B (d + 1) 0 0 3 q p (rf_n3 F) h10) ?_
        exact xg_ret rfl rfl
      · exact absurd (nf1_ne (a := 1) (by omega) h55) (by omega)
/-- 'sendNow' -/
theorem rf_sendM {b : xi_W} {O A : Nat} {o : Nat × List Value} (B : rf_B b O A o) (d : Nat) (F : Nat → Nat) (c s : Nat) (p q u m : Nat) (h1 : F 1 = 4294967295) (h7 : F 7 < 2147483648) (h10 : F 10 ≤ 25) (h11 : F 11 < 24) (h56 : F 6 + F 5 < 2147483648) (hcm : 0 < F 11 → F (61 + 6 * (F 11 - 1) + 2) ≤ F 6 + F 5) (hm : m < 24) (hb : ∀ k, k < F 11 → F (61 + 6 * k + 5) < 4294967296) (hf : rf_tk (rf_n2 F) m (rf_n2 F 11) 0 0 = 0) : xg (d + 2) 259 0 ([(0, .ref O), (1, .int (Int32.ofNat p)), (2, .int (Int32.ofNat q)), (3, .int (Int32.ofNat 0)), (4, .int (Int32.ofNat u))]) [] (rf_w b A F) c s (none, rf_w b A (rf_sM F p q u m), c, s) := by
  have hN1 : rf_n2 F 1 = 4294967295 := h1
  have hb2 : ∀ k, k < rf_n2 F 11 → rf_n2 F (61 + 6 * k + 5) < 4294967296 := fun k hk => by rw [rf_n2o F (by omega) (by omega)]; exact hb k hk
  have hsp := rf_sple (rf_n2 F) m 0 (by rw [Nat.zero_add]; exact hf)
  have e1 : rf_c (rf_n2 F) 3258 (205 + 57 * (28 + rf_sp (rf_n2 F) (m + 1) 0)) 0 11 = F 11 := rf_cfar _ _ _ (by omega)
  have e2 : rf_c (rf_n2 F) 3258 (205 + 57 * (28 + rf_sp (rf_n2 F) (m + 1) 0)) 0 6 = F 6 := rf_cfar _ _ _ (by omega)
  have e3 : rf_c (rf_n2 F) 3258 (205 + 57 * (28 + rf_sp (rf_n2 F) (m + 1) 0)) 0 5 = F 5 := rf_cfar _ _ _ (by omega)
  unfold rf_sM
  refine xg_stp rfl rfl rfl rfl ?_
  refine xg_j1 rfl rfl rfl rfl rfl (fun h1 => ?_) (fun h1 => ?_)
  · refine xg_stp rfl rfl rfl rfl ?_
    refine xg_stp (st' := .int (Int32.ofNat 3258) :: _) rfl rfl rfl rfl ?_
    refine rf_call B rfl rfl rfl rfl rfl rfl (rf_many B (d + 1) F 0 0 3258 (by omega)) ?_
    refine xg_stp rfl rfl rfl rfl ?_
    refine xg_stp rfl rfl rfl rfl ?_
    refine rf_fa B rfl rfl ?_
    refine xg_stp (st' := .int (Int32.ofNat 8) :: _) rfl rfl rfl rfl ?_
    refine xg_stp rfl rfl rfl rfl ?_
    refine rf_ld B (by omega) rfl ?_
    refine xg_stp (st' := .int (Int32.ofNat 1) :: _) rfl rfl rfl rfl ?_
    refine xn_add rfl ?_
    refine rf_sto B (by omega) rfl ?_
    refine xg_stp rfl rfl rfl rfl ?_
    refine xg_stp (st' := .int (Int32.ofNat 10) :: _) rfl rfl rfl rfl ?_
    refine rf_call B rfl rfl rfl rfl rfl rfl (rf_drawnBy B d (rf_n1 F) 0 0 10 h7 (by omega) (by omega)) ?_
    refine xg_stp rfl rfl rfl rfl ?_
    refine xg_stp rfl rfl rfl rfl ?_
    refine xg_stp rfl rfl rfl rfl ?_
    refine xg_stp rfl rfl rfl rfl ?_
    refine xg_stp rfl rfl rfl rfl ?_
    refine rf_call B rfl rfl rfl rfl rfl rfl (rf_losesNow B d (rf_n2 F) 0 0 p q 0 _ hN1) ?_
    refine xg_j2 rfl rfl rfl rfl rfl (fun h43 => ?_) (fun h43 => ?_)
    · have e43 : 3 ≤ F 7 % 10 := nt_ge (Nat.lt_trans (Nat.mod_lt _ (by omega)) (by omega)) (by omega) h43
      rw [if_neg (Nat.not_lt.mpr e43)]
      refine xg_stp (st' := .int (Int32.ofNat 0) :: _) rfl rfl rfl rfl ?_
      refine xg_stp rfl rfl rfl rfl ?_
      refine xg_stp rfl rfl rfl rfl ?_
      refine xg_j1 rfl rfl rfl rfl rfl (fun h55 => ?_) (fun h55 => ?_)
      · exact absurd rfl (nt1_ne h55)
      · refine xg_stp rfl rfl rfl rfl ?_
        refine rf_fa B rfl rfl ?_
        refine xg_stp (st' := .int (Int32.ofNat 11) :: _) rfl rfl rfl rfl ?_
        refine rf_ld B (by omega) rfl ?_
        refine xg_stp (st' := .int (Int32.ofNat 24) :: _) rfl rfl rfl rfl ?_
        refine xg_j2 rfl rfl rfl rfl rfl (fun h67 => ?_) (fun h67 => ?_)
        · refine xg_stp rfl rfl rfl rfl ?_
          refine xg_j1 rfl rfl rfl rfl rfl (fun h90 => ?_) (fun h90 => ?_)
          · refine xg_stp rfl rfl rfl rfl ?_
            refine rf_call B rfl rfl rfl rfl rfl rfl (rf_spareState B d 0 0 (rf_n2 F) (by show F 11 ≤ 24; omega) hb2 m (by omega) hf) ?_
            refine xg_stp rfl rfl rfl rfl ?_
            refine xg_stp rfl rfl rfl rfl ?_
            refine xg_j1 rfl rfl rfl rfl rfl (fun h104 => ?_) (fun h104 => ?_)
            · exact absurd rfl (nt1_ne h104)
            · refine xg_stp rfl rfl rfl rfl ?_
              refine xg_stp (st' := .int (Int32.ofNat 3258) :: _) rfl rfl rfl rfl ?_
              refine xg_stp (st' := .int (Int32.ofNat 28) :: _) rfl rfl rfl rfl ?_
              refine xg_stp rfl rfl rfl rfl ?_
              refine xn_add rfl ?_
              refine xg_call rfl rfl rfl (rf_stateAt B (d + 1) (rf_n2 F) 0 0 (28 + (rf_sp (rf_n2 F) (m + 1) 0))) ?_
              refine rf_call B rfl rfl rfl rfl rfl rfl (rf_copyState B (d + 1) (rf_n2 F) 0 0 3258 (205 + 57 * (28 + (rf_sp (rf_n2 F) (m + 1) 0))) (by omega) (by omega) (by omega)) ?_
              exact rf_sT B (d + 1) (rf_c (rf_n2 F) 3258 (205 + 57 * (28 + (rf_sp (rf_n2 F) (m + 1) 0))) 0) c s p q 0 u (rf_sp (rf_n2 F) (m + 1) 0) _ (Or.inl rfl) (by rw [e1]; exact h11) (by rw [e2, e3]; exact h56) (by rw [e1, e2, e3, rf_cfar _ _ _ (by omega), rf_n2o F (by omega) (by omega)]; exact hcm)
          · exact absurd rfl (nf1_eq h90)
        · exact absurd (nf_ne (show F 11 < 4294967296 by omega) (by omega) h67) (show F 11 ≠ 24 by omega)
    · have e43 : F 7 % 10 < 3 := nf_ge (Nat.lt_trans (Nat.mod_lt _ (by omega)) (by omega)) (by omega) h43
      rw [if_pos e43]
      refine xg_stp (st' := .int (Int32.ofNat 1) :: _) rfl rfl rfl rfl ?_
      refine xg_stp rfl rfl rfl rfl ?_
      refine xg_stp rfl rfl rfl rfl ?_
      refine xg_stp rfl rfl rfl rfl ?_
      refine xg_j1 rfl rfl rfl rfl rfl (fun h55 => ?_) (fun h55 => ?_)
      · refine xg_stp rfl rfl rfl rfl ?_
        refine rf_fa B rfl rfl ?_
        refine xg_stp (st' := .int (Int32.ofNat 9) :: _) rfl rfl rfl rfl ?_
        refine xg_stp rfl rfl rfl rfl ?_
        refine rf_ld B (by omega) rfl ?_
        refine xg_stp (st' := .int (Int32.ofNat 1) :: _) rfl rfl rfl rfl ?_
        refine xn_add rfl ?_
        refine rf_sto B (by omega) rfl ?_
        refine xg_stp rfl rfl rfl rfl ?_
        refine xg_stp (st' := .int (Int32.ofNat 3) :: _) rfl rfl rfl rfl ?_
        refine xg_stp rfl rfl rfl rfl ?_
        refine xg_stp rfl rfl rfl rfl ?_
        refine rf_call B rfl rfl rfl rfl rfl rfl (rf_writeDown B (d + 1) 0 0 3 q p (rf_n3 F) h10) ?_
        exact xg_ret rfl rfl
      · exact absurd (nf1_ne (a := 1) (by omega) h55) (by omega)
  · exact absurd rfl (nf1_eq h1)
/-- one sends another -/
def rf_spk (F : Nat → Nat) (r q m : Nat) : Nat → Nat := rf_sM (rf_msg F r q) r q (F (12 + r)) m
def rf_snk (F : Nat → Nat) (m : Nat) : Prop := F 1 = 4294967295 ∧ F 7 < 2147483648 ∧ F 10 ≤ 25 ∧ F 11 < 24 ∧ F 6 + F 5 < 2147483648 ∧ (0 < F 11 → F (61 + 6 * (F 11 - 1) + 2) ≤ F 6 + F 5) ∧ m < 24 ∧ (∀ k, k < F 11 → F (61 + 6 * k + 5) < 4294967296) ∧ rf_tk (rf_n2 F) m (rf_n2 F 11) 0 0 = 0
def rf_spkk (F : Nat → Nat) (r q m : Nat) : Prop := rf_msk F r q ∧ rf_snk (rf_msg F r q) m ∧ rf_msg F r q (12 + r) = F (12 + r)
/-- 'speakNow' -/
theorem rf_speakNow {b : xi_W} {O A : Nat} {o : Nat × List Value} (B : rf_B b O A o) (d : Nat) (F : Nat → Nat) (c s : Nat) (r q m : Nat) (hr : r < 4) (hq : q < 4) (hk : rf_spkk F r q m) : xg (d + 4) 260 0 ([(0, .ref O), (1, .int (Int32.ofNat r)), (2, .int (Int32.ofNat q))]) [] (rf_w b A F) c s ((some (.int (Int32.ofNat (rf_spk F r q m (12 + r))))), rf_w b A (rf_spk F r q m), c, s) := by
  obtain ⟨k1, ⟨g1, g2, g3, g4, g5, g6, g7, g8, g9⟩, k3⟩ := hk
  unfold rf_spk
  rw [← k3]
  refine xg_stp rfl rfl rfl rfl ?_
  refine xg_stp rfl rfl rfl rfl ?_
  refine xg_stp rfl rfl rfl rfl ?_
  refine rf_call B rfl rfl rfl rfl rfl rfl (rf_layMessage B d F 0 0 r q hr hq k1) ?_
  refine xg_stp rfl rfl rfl rfl ?_
  refine xg_stp rfl rfl rfl rfl ?_
  refine xg_stp rfl rfl rfl rfl ?_
  refine xg_stp (st' := .int (Int32.ofNat 0) :: _) rfl rfl rfl rfl ?_
  refine xg_stp rfl rfl rfl rfl ?_
  refine rf_fa B rfl rfl ?_
  refine xg_stp (st' := .int (Int32.ofNat 12) :: _) rfl rfl rfl rfl ?_
  refine xg_stp rfl rfl rfl rfl ?_
  refine xn_add rfl ?_
  refine rf_ld B (by omega) rfl ?_
  refine rf_call B rfl rfl rfl rfl rfl rfl (rf_sendM B (d + 1) (rf_msg F r q) 0 0 r q (rf_msg F r q (12 + r)) m g1 g2 g3 g4 g5 g6 g7 g8 g9) ?_
  refine xg_stp rfl rfl rfl rfl ?_
  refine rf_fa B rfl rfl ?_
  refine xg_stp (st' := .int (Int32.ofNat 12) :: _) rfl rfl rfl rfl ?_
  refine xg_stp rfl rfl rfl rfl ?_
  refine xn_add rfl ?_
  refine rf_ld B (by omega) rfl ?_
  exact xg_ret rfl rfl
/-- the reference's object, n having come -/
def rf_oo (o : Nat × List Value) (n : Nat) : Nat × List Value := (o.1, o.2.set 23 (.int (Int32.ofNat n)))
def rf_o (b : xi_W) (O : Nat) (o : Nat × List Value) (n : Nat) : xi_W := b.set O (.inr (rf_oo o n))
theorem rf_Bo {b : xi_W} {O A : Nat} {o : Nat × List Value} (B : rf_B b O A o) (n : Nat) : rf_B (rf_o b O o n) O A (rf_oo o n) := by
  obtain ⟨h1, h2, h3, h4, h5⟩ := B
  have hO : O < b.length := by
    rcases Nat.lt_or_ge O b.length with h | h
    · exact h
    · rw [List.getElem?_eq_none h] at h1; cases h1
  refine ⟨List.getElem?_set_self hO, ?_, h3, h4, ?_⟩
  · unfold rf_o; rw [List.length_set]; exact h2
  · show (o.2.set 23 (.int (Int32.ofNat n)))[0]? = _
    rw [List.getElem?_set_ne (by omega)]; exact h5
theorem rf_call2 {d i pc k j : Nat} {l : xi_L} {st av rest : List Value} {b : xi_W} {O A : Nat} {o : Nat × List Value} {F : Nat → Nat} {w' : xi_W} {c s : Nat} {r : xi_R} {v : Option Value} {ps : List Nat} (B : rf_B b O A o) (hc : xt_cd i pc = some (.invokevirtual k)) (hm : xt_mdp (xt_mo i) k = some (0, j, ps)) (hd : st.drop (xt_mp j) = .ref O :: rest) (hav : .ref O :: (st.take (xt_mp j)).reverse = av) (hj : xt_mo j = 7) (hr : xi_rm1 j av rest = true) (h1 : xg d j 0 (lv_args 0 av) [] (rf_w b A F) 0 0 (v, w', 0, 0)) (h2 : xg (d + 1) i (pc + 3) l (v.toList ++ rest) w' c s r) : xg (d + 1) i pc l st (rf_w b A F) c s r := by
  subst hav
  have ho : Nat.beq o.1 (xt_mo j) = true := by
    rw [hj, ← Nat.eq_of_beq_eq_true B.2.2.2.1]
    rfl
  exact xg_call hc rfl (by simp only [xi_inv, hm, hd, rf_gO B F, ho, hr, Bool.and_true, cond_true]) h1 h2
/-- 'came' of the object is read and written -/
theorem rf_gc {d i pc k n : Nat} {l : xi_L} {st : List Value} {b : xi_W} {O A : Nat} {o : Nat × List Value} {F : Nat → Nat} {c s : Nat} {r : xi_R} (B : rf_B b O A o) (h23 : 24 ≤ o.2.length) (hc : xt_cd i pc = some (.getfield k)) (hq : xt_fdp (xt_mo i) k = some (7, 23, 1199)) (h : xg d i (pc + 3) l (.int (Int32.ofNat n) :: st) (rf_w (rf_o b O o n) A F) c s r) : xg d i pc l (.ref O :: st) (rf_w (rf_o b O o n) A F) c s r :=
  xg_getfield (rf_gO (rf_Bo B n) F) hc hq B.2.2.2.1 (List.getElem?_set_self (by omega)) h
theorem rf_pc2 {d i pc k n m : Nat} {l : xi_L} {st : List Value} {b : xi_W} {O A : Nat} {o : Nat × List Value} {F : Nat → Nat} {c s : Nat} {r : xi_R} (B : rf_B b O A o) (h23 : 24 ≤ o.2.length) (hc : xt_cd i pc = some (.putfield k)) (hq : xt_fdp (xt_mo i) k = some (7, 23, 1199)) (hy : xi_fit (xt_fy 7 23) (.int (Int32.ofNat m)) = true) (hf : xt_ff 7 23 = false) (h : xg d i (pc + 3) l st (rf_w (rf_o b O o m) A F) c s r) : xg d i pc l (.int (Int32.ofNat m) :: .ref O :: st) (rf_w (rf_o b O o n) A F) c s r := by
  have e7 : o.1 = 7 := (Nat.eq_of_beq_eq_true B.2.2.2.1).symm
  have hl : Nat.blt 23 (o.2.set 23 (.int (Int32.ofNat n))).length = true := Nat.blt_eq.mpr (by rw [List.length_set]; omega)
  have hw : (rf_w (rf_o b O o n) A F).set O (.inr (o.1, (o.2.set 23 (.int (Int32.ofNat n))).set 23 (.int (Int32.ofNat m)))) = rf_w (rf_o b O o m) A F := by
    unfold rf_w rf_o rf_oo
    rw [List.set_comm _ _ B.2.2.1, List.set_set, List.set_set]
  refine xg_stp hc rfl rfl ?_ h
  simp only [xi_stp, hq, rf_gO (rf_Bo B n) F]
  simp only [rf_oo, hl, hf, hy, e7, Nat.beq_refl, Bool.not_false, Bool.true_or, Bool.and_true, cond_true]
  rw [← e7, hw]
def rf_c1 (F : Nat → Nat) : Nat → Nat := xn_u F 11 (F 11 - 1)
/-- what is in flight goes ahead by one -/
def rf_sd : Nat → Nat → (Nat → Nat) → (Nat → Nat)
  | 0, _, F => F
  | m + 1, k, F => rf_sd m (k + 1) (xn_u F k (F (k + 6)))
def rf_zd : Nat → Nat → (Nat → Nat) → (Nat → Nat)
  | 0, _, F => F
  | m + 1, k, F => rf_zd m (k + 1) (xn_u F (61 + 6 * F 11 + k) 0)
theorem rf_sdo : ∀ (m k : Nat) (F : Nat → Nat) (j : Nat), (j < k ∨ k + m ≤ j) → rf_sd m k F j = F j
  | 0, _, _, _, _ => rfl
  | m + 1, k, F, j, h => by
    unfold rf_sd
    rw [rf_sdo m (k + 1) _ j (by omega), xn_un _ _ (by omega)]
theorem rf_zdo : ∀ (m k : Nat) (F : Nat → Nat) (j : Nat), (j < 61 + 6 * F 11 + k ∨ 61 + 6 * F 11 + k + m ≤ j) → rf_zd m k F j = F j
  | 0, _, _, _, _ => rfl
  | m + 1, k, F, j, h => by
    unfold rf_zd
    have e : xn_u F (61 + 6 * F 11 + k) 0 11 = F 11 := xn_un _ _ (by omega)
    rw [rf_zdo m (k + 1) _ j (by rw [e]; omega), xn_un _ _ (by omega)]
/-- the first loop of 'comeFirst' -/
theorem rf_sdL {b : xi_W} {O A : Nat} {o : Nat × List Value} (B : rf_B b O A o) (d : Nat) (c s : Nat) (p q e u v : Nat) (R : xi_R) (N : Nat) : ∀ (m k : Nat) (F : Nat → Nat), F 11 ≤ 24 → 61 ≤ k → k + m = 61 + 6 * F 11 → (xg (d + 1) 261 104 [(6, .int (Int32.ofNat (61 + 6 * F 11))), (5, .int (Int32.ofNat v)), (4, .int (Int32.ofNat u)), (3, .int (Int32.ofNat e)), (2, .int (Int32.ofNat q)), (1, .int (Int32.ofNat p)), (0, .ref O)] [] (rf_w b A (rf_sd m k F)) c s R) → xg (d + 1) 261 66 [(6, .int (Int32.ofNat (k))), (5, .int (Int32.ofNat v)), (4, .int (Int32.ofNat u)), (3, .int (Int32.ofNat e)), (2, .int (Int32.ofNat q)), (1, .int (Int32.ofNat p)), (0, .ref O)] [] (rf_w b A F) c s R
  | 0, k, F, h11, hk61, hm, hk => by
    have e0 : k = 61 + 6 * F 11 := by omega
    subst e0
    refine xg_stp rfl rfl rfl rfl ?_
    refine xg_stp rfl rfl rfl rfl ?_
    refine rf_fa B rfl rfl ?_
    refine xg_stp (st' := .int (Int32.ofNat 11) :: _) rfl rfl rfl rfl ?_
    refine rf_ld B (by omega) rfl ?_
    refine xg_call rfl rfl rfl (rf_flightAt B d _ 0 0 (F 11)) ?_
    refine xg_j2 rfl rfl rfl rfl rfl (fun h78 => ?_) (fun h78 => ?_)
    · exact hk
    · exact absurd (nf_ge (by omega) (by omega) h78) (by omega)
  | m + 1, k, F, h11, hk61, hm, hk => by
    unfold rf_sd at hk
    have e11 : xn_u F k (F (k + 6)) 11 = F 11 := xn_un _ _ (by omega)
    refine xg_stp rfl rfl rfl rfl ?_
    refine xg_stp rfl rfl rfl rfl ?_
    refine rf_fa B rfl rfl ?_
    refine xg_stp (st' := .int (Int32.ofNat 11) :: _) rfl rfl rfl rfl ?_
    refine rf_ld B (by omega) rfl ?_
    refine xg_call rfl rfl rfl (rf_flightAt B d _ 0 0 (F 11)) ?_
    refine xg_j2 rfl rfl rfl rfl rfl (fun h78 => ?_) (fun h78 => ?_)
    · exact absurd (nt_ge (by omega) (by omega) h78) (by omega)
    · refine xg_stp rfl rfl rfl rfl ?_
      refine rf_fa B rfl rfl ?_
      refine xg_stp rfl rfl rfl rfl ?_
      refine xg_stp rfl rfl rfl rfl ?_
      refine rf_fa B rfl rfl ?_
      refine xg_stp rfl rfl rfl rfl ?_
      refine xg_stp (st' := .int (Int32.ofNat 6) :: _) rfl rfl rfl rfl ?_
      refine xn_add rfl ?_
      refine rf_ld B (by omega) rfl ?_
      refine rf_sto B (by omega) rfl ?_
      refine xn_inc (e := 1) rfl rfl rfl rfl ?_
      refine xg_stp rfl rfl rfl rfl ?_
      exact rf_sdL B d c s p q e u v R N m (k + 1) _ (by rw [e11]; exact h11) (by omega) (by rw [e11]; omega) (by rw [e11]; exact hk)
/-- the second loop of 'comeFirst' -/
theorem rf_zdL {b : xi_W} {O A : Nat} {o : Nat × List Value} (B : rf_B b O A o) (d : Nat) (c s : Nat) (p q e u v : Nat) (R : xi_R) : ∀ (m k : Nat) (F : Nat → Nat), F 11 ≤ 24 → k + m = 6 → (xg (d + 1) 261 139 [(6, .int (Int32.ofNat (6))), (5, .int (Int32.ofNat v)), (4, .int (Int32.ofNat u)), (3, .int (Int32.ofNat e)), (2, .int (Int32.ofNat q)), (1, .int (Int32.ofNat p)), (0, .ref O)] [] (rf_w b A (rf_zd m k F)) c s R) → xg (d + 1) 261 107 [(6, .int (Int32.ofNat (k))), (5, .int (Int32.ofNat v)), (4, .int (Int32.ofNat u)), (3, .int (Int32.ofNat e)), (2, .int (Int32.ofNat q)), (1, .int (Int32.ofNat p)), (0, .ref O)] [] (rf_w b A F) c s R
  | 0, k, F, h11, hm, hk => by
    have e0 : k = 6 := by omega
    subst e0
    refine xg_stp rfl rfl rfl rfl ?_
    refine xg_stp (st' := .int (Int32.ofNat 6) :: _) rfl rfl rfl rfl ?_
    refine xg_j2 rfl rfl rfl rfl rfl (fun h111 => ?_) (fun h111 => ?_)
    · exact hk
    · exact absurd (nf_ge (by omega) (by omega) h111) (by omega)
  | m + 1, k, F, h11, hm, hk => by
    unfold rf_zd at hk
    have e11 : xn_u F (61 + 6 * F 11 + k) 0 11 = F 11 := xn_un _ _ (by omega)
    refine xg_stp rfl rfl rfl rfl ?_
    refine xg_stp (st' := .int (Int32.ofNat 6) :: _) rfl rfl rfl rfl ?_
    refine xg_j2 rfl rfl rfl rfl rfl (fun h111 => ?_) (fun h111 => ?_)
    · exact absurd (nt_ge (by omega) (by omega) h111) (by omega)
    · refine xg_stp rfl rfl rfl rfl ?_
      refine rf_fa B rfl rfl ?_
      refine xg_stp rfl rfl rfl rfl ?_
      refine rf_fa B rfl rfl ?_
      refine xg_stp (st' := .int (Int32.ofNat 11) :: _) rfl rfl rfl rfl ?_
      refine rf_ld B (by omega) rfl ?_
      refine xg_call rfl rfl rfl (rf_flightAt B d _ 0 0 (F 11)) ?_
      refine xg_stp rfl rfl rfl rfl ?_
      refine xn_add rfl ?_
      refine xg_stp (st' := .int (Int32.ofNat 0) :: _) rfl rfl rfl rfl ?_
      refine rf_sto B (by omega) rfl ?_
      refine xn_inc (e := 1) rfl rfl rfl rfl ?_
      refine xg_stp rfl rfl rfl rfl ?_
      exact rf_zdL B d c s p q e u v R m (k + 1) _ (by rw [e11]; exact h11) (by omega) hk
/-- the first in flight is taken out and written down -/
def rf_cfP (F : Nat → Nat) : Nat → Nat := rf_wd (rf_zd 6 0 (rf_sd (6 * (F 11 - 1)) 61 (rf_c1 F))) 4 (F 62) (F 61)
def rf_cA1 (F : Nat → Nat) (p q u : Nat) : Nat → Nat := if u ≤ F (20 + 4 * q + p) then F else xn_u F (20 + 4 * q + p) u
def rf_cJ0 (F : Nat → Nat) (q x : Nat) : Nat → Nat := rf_mer F (205 + 57 * q) x
def rf_cJ1 (F : Nat → Nat) (q x : Nat) : Nat → Nat := rf_c (rf_cJ0 F q x) 3201 (205 + 57 * q) 0
def rf_cJ (F : Nat → Nat) (q x : Nat) : Nat → Nat := if rf_al (rf_cJ0 F q x) 3201 (205 + 57 * q) 57 0 = 0 then rf_td (rf_cJ1 F q x) q x else rf_cJ0 F q x
/-- the first in flight comes -/
def rf_cf (F : Nat → Nat) : Nat → Nat := if F 64 = 1 then rf_da (rf_cA1 (rf_cfP F) (F 61) (F 62) (F 65)) (F 62) else rf_sA (rf_cJ (rf_cfP F) (F 62) (205 + 57 * (28 + F 66))) (F 62) (F 61) (F 65)
def rf_alk (F : Nat → Nat) (X : Nat) : Prop := ∀ q, q < 57 → F (X + q) < 4294967296
def rf_sAk (F : Nat → Nat) : Prop := F 1 = 4294967295 ∧ F 7 < 2147483648 ∧ F 10 ≤ 25 ∧ F 11 < 24 ∧ F 6 + F 5 < 2147483648 ∧ (0 < F 11 → F (61 + 6 * (F 11 - 1) + 2) ≤ F 6 + F 5)
def rf_cJk (F : Nat → Nat) (q x : Nat) : Prop := rf_mok F (205 + 57 * q) x ∧ rf_alk (rf_cJ0 F q x) 3201 ∧ rf_alk (rf_cJ0 F q x) (205 + 57 * q) ∧ rf_tok (rf_cJ1 F q x) q ∧ rf_sAk (rf_cJ F q x)
def rf_dak (F : Nat → Nat) (p q u : Nat) : Prop := F (20 + 4 * q + p) < 2147483648 ∧ (∀ t, t < 4 → rf_cA1 F p q u (20 + 4 * q + t) < 2147483648) ∧ rf_cA1 F p q u (12 + q) < 2147483648 ∧ rf_cA1 F p q u (16 + q) < 2147483648
def rf_cfk (F : Nat → Nat) : Prop := 0 < F 11 ∧ F 11 ≤ 24 ∧ F 10 ≤ 25 ∧ F 61 < 4 ∧ F 62 < 4 ∧ F 64 < 4294967296 ∧ F 65 < 2147483648 ∧ (F 64 = 1 → rf_dak (rf_cfP F) (F 61) (F 62) (F 65)) ∧ (¬ F 64 = 1 → F 66 < 24 ∧ rf_cJk (rf_cfP F) (F 62) (205 + 57 * (28 + F 66)))
theorem rf_al1 (F : Nat → Nat) (X Y : Nat) : ∀ (m k : Nat), rf_al F X Y m k ≤ 1
  | 0, _ => Nat.le_refl _
  | m + 1, k => by
    unfold rf_al
    split
    · exact rf_al1 F X Y m (k + 1)
    · omega
/-- 'comeFirst' -/
theorem rf_comeA {b : xi_W} {O A : Nat} {o : Nat × List Value} (B : rf_B b O A o) (h23 : 24 ≤ o.2.length) (d : Nat) (F : Nat → Nat) (c s n : Nat) (hk : rf_cfk F) (he : F 64 = 1) : xg (d + 3) 261 0 [(0, .ref O)] [] (rf_w (rf_o b O o n) A F) c s (none, rf_w (rf_o b O o (n + 1)) A (rf_cf F), c, s) := by
  obtain ⟨k1, k2, k3, k4, k5, k6, k7, k8, k9⟩ := hk
  have e11 : rf_c1 F 11 = F 11 - 1 := xn_ue _ _ _
  have f11 : rf_sd (6 * (F 11 - 1)) 61 (rf_c1 F) 11 = F 11 - 1 := by rw [rf_sdo _ _ _ _ (by omega), e11]
  have w10 : rf_zd 6 0 (rf_sd (6 * (F 11 - 1)) 61 (rf_c1 F)) 10 ≤ 25 := by
    rw [rf_zdo _ _ _ _ (by rw [f11]; omega), rf_sdo _ _ _ _ (by omega)]; exact k3
  have B0 := rf_Bo B n
  unfold rf_cf
  rw [if_pos he]
  obtain ⟨g1, g2, g3, g4⟩ := k8 he
  refine xg_stp rfl rfl rfl rfl ?_
  refine rf_fa B0 rfl rfl ?_
  refine xg_stp (st' := .int (Int32.ofNat 61) :: _) rfl rfl rfl rfl ?_
  refine rf_ld B0 (by omega) rfl ?_
  refine xg_stp rfl rfl rfl rfl ?_
  refine xg_stp rfl rfl rfl rfl ?_
  refine rf_fa B0 rfl rfl ?_
  refine xg_stp (st' := .int (Int32.ofNat 62) :: _) rfl rfl rfl rfl ?_
  refine rf_ld B0 (by omega) rfl ?_
  refine xg_stp rfl rfl rfl rfl ?_
  refine xg_stp rfl rfl rfl rfl ?_
  refine rf_fa B0 rfl rfl ?_
  refine xg_stp (st' := .int (Int32.ofNat 64) :: _) rfl rfl rfl rfl ?_
  refine rf_ld B0 (by omega) rfl ?_
  refine xg_stp (st' := .int (Int32.ofNat 1) :: _) rfl rfl rfl rfl ?_
  refine xg_j2 rfl rfl rfl rfl rfl (fun h24 => ?_) (fun h24 => ?_)
  · exact absurd he (nt_ne h24)
  · refine xg_stp (st' := .int (Int32.ofNat 1) :: _) rfl rfl rfl rfl ?_
    refine xg_stp rfl rfl rfl rfl ?_
    refine xg_stp rfl rfl rfl rfl ?_
    refine xg_stp rfl rfl rfl rfl ?_
    refine rf_fa B0 rfl rfl ?_
    refine xg_stp (st' := .int (Int32.ofNat 65) :: _) rfl rfl rfl rfl ?_
    refine rf_ld B0 (by omega) rfl ?_
    refine xg_stp rfl rfl rfl rfl ?_
    refine xg_stp rfl rfl rfl rfl ?_
    refine rf_fa B0 rfl rfl ?_
    refine xg_stp (st' := .int (Int32.ofNat 66) :: _) rfl rfl rfl rfl ?_
    refine rf_ld B0 (by omega) rfl ?_
    refine xg_stp rfl rfl rfl rfl ?_
    refine xg_stp rfl rfl rfl rfl ?_
    refine rf_fa B0 rfl rfl ?_
    refine xg_stp (st' := .int (Int32.ofNat 11) :: _) rfl rfl rfl rfl ?_
    refine xg_stp rfl rfl rfl rfl ?_
    refine rf_ld B0 (by omega) rfl ?_
    refine xg_stp (st' := .int (Int32.ofNat 1) :: _) rfl rfl rfl rfl ?_
    refine xn_sub (by omega) rfl ?_
    refine rf_sto B0 (by omega) rfl ?_
    refine xg_stp (st' := .int (Int32.ofNat 61) :: _) rfl rfl rfl rfl ?_
    refine xg_stp rfl rfl rfl rfl ?_
    refine rf_sdL B0 (d + 2) c s (F 61) (F 62) 1 (F 65) (F 66) _ 0 (6 * (F 11 - 1)) 61 (rf_c1 F) (by rw [e11]; omega) (by omega) (by rw [e11]) ?_
    refine xg_stp (st' := .int (Int32.ofNat 0) :: _) rfl rfl rfl rfl ?_
    refine xg_stp rfl rfl rfl rfl ?_
    refine rf_zdL B0 (d + 2) c s (F 61) (F 62) 1 (F 65) (F 66) _ 6 0 _ (by rw [f11]; omega) rfl ?_
    refine xg_stp rfl rfl rfl rfl ?_
    refine xg_stp rfl rfl rfl rfl ?_
    refine rf_gc B h23 rfl rfl ?_
    refine xg_stp (st' := .int (Int32.ofNat 1) :: _) rfl rfl rfl rfl ?_
    refine xn_add rfl ?_
    refine rf_pc2 B h23 rfl rfl rfl rfl ?_
    have B1 := rf_Bo B (n + 1)
    refine xg_stp rfl rfl rfl rfl ?_
    refine xg_stp (st' := .int (Int32.ofNat 4) :: _) rfl rfl rfl rfl ?_
    refine xg_stp rfl rfl rfl rfl ?_
    refine xg_stp rfl rfl rfl rfl ?_
    refine rf_call B1 rfl rfl rfl rfl rfl rfl (rf_writeDown B1 (d + 2) 0 0 4 (F 62) (F 61) _ w10) ?_
    refine xg_stp rfl rfl rfl rfl ?_
    refine xg_j1 rfl rfl rfl rfl rfl (fun h157 => ?_) (fun h157 => ?_)
    · exact absurd (nt1_eq (a := 1) (by omega) h157) (by omega)
    · refine xg_stp rfl rfl rfl rfl ?_
      refine xg_stp rfl rfl rfl rfl ?_
      refine xg_stp rfl rfl rfl rfl ?_
      refine xg_stp rfl rfl rfl rfl ?_
      refine rf_call B1 rfl rfl rfl rfl rfl rfl (rf_ackedBy B1 (d + 2) (rf_cfP F) 0 0 (F 62) (F 61) k5 k4) ?_
      refine xg_j2 rfl rfl rfl rfl rfl (fun h168 => ?_) (fun h168 => ?_)
      · have ea : rf_cA1 (rf_cfP F) (F 61) (F 62) (F 65) = rf_cfP F := if_pos (nt_le (by omega) g1 h168)
        rw [ea] at g2 g3 g4 ⊢
        refine xg_stp rfl rfl rfl rfl ?_
        refine xg_stp rfl rfl rfl rfl ?_
        refine rf_call B1 rfl rfl rfl rfl rfl rfl (rf_dropAcked B1 (d + 1) 0 0 (F 62) k5 _ g2 g3 g4) ?_
        exact xg_ret rfl rfl
      · have ea : rf_cA1 (rf_cfP F) (F 61) (F 62) (F 65) = xn_u (rf_cfP F) (20 + 4 * F 62 + F 61) (F 65) := if_neg (Nat.not_le.mpr (nf_le (by omega) g1 h168))
        rw [ea] at g2 g3 g4 ⊢
        refine xg_stp rfl rfl rfl rfl ?_
        refine rf_fa B1 rfl rfl ?_
        refine xg_stp (st' := .int (Int32.ofNat 20) :: _) rfl rfl rfl rfl ?_
        refine xg_stp (st' := .int (Int32.ofNat 4) :: _) rfl rfl rfl rfl ?_
        refine xg_stp rfl rfl rfl rfl ?_
        refine xn_mul rfl ?_
        refine xn_add rfl ?_
        refine xg_stp rfl rfl rfl rfl ?_
        refine xn_add rfl ?_
        refine xg_stp rfl rfl rfl rfl ?_
        refine rf_sto B1 (by omega) rfl ?_
        refine xg_stp rfl rfl rfl rfl ?_
        refine xg_stp rfl rfl rfl rfl ?_
        refine rf_call B1 rfl rfl rfl rfl rfl rfl (rf_dropAcked B1 (d + 1) 0 0 (F 62) k5 _ g2 g3 g4) ?_
        exact xg_ret rfl rfl
/-- 'comeFirst' -/
theorem rf_comeM {b : xi_W} {O A : Nat} {o : Nat × List Value} (B : rf_B b O A o) (h23 : 24 ≤ o.2.length) (d : Nat) (F : Nat → Nat) (c s n : Nat) (hk : rf_cfk F) (he : ¬ F 64 = 1) : xg (d + 3) 261 0 [(0, .ref O)] [] (rf_w (rf_o b O o n) A F) c s (none, rf_w (rf_o b O o (n + 1)) A (rf_cf F), c, s) := by
  obtain ⟨k1, k2, k3, k4, k5, k6, k7, k8, k9⟩ := hk
  have e11 : rf_c1 F 11 = F 11 - 1 := xn_ue _ _ _
  have f11 : rf_sd (6 * (F 11 - 1)) 61 (rf_c1 F) 11 = F 11 - 1 := by rw [rf_sdo _ _ _ _ (by omega), e11]
  have w10 : rf_zd 6 0 (rf_sd (6 * (F 11 - 1)) 61 (rf_c1 F)) 10 ≤ 25 := by
    rw [rf_zdo _ _ _ _ (by rw [f11]; omega), rf_sdo _ _ _ _ (by omega)]; exact k3
  have B0 := rf_Bo B n
  unfold rf_cf
  rw [if_neg he]
  obtain ⟨k66, m1, m2, m3, m4, m5⟩ := k9 he
  refine xg_stp rfl rfl rfl rfl ?_
  refine rf_fa B0 rfl rfl ?_
  refine xg_stp (st' := .int (Int32.ofNat 61) :: _) rfl rfl rfl rfl ?_
  refine rf_ld B0 (by omega) rfl ?_
  refine xg_stp rfl rfl rfl rfl ?_
  refine xg_stp rfl rfl rfl rfl ?_
  refine rf_fa B0 rfl rfl ?_
  refine xg_stp (st' := .int (Int32.ofNat 62) :: _) rfl rfl rfl rfl ?_
  refine rf_ld B0 (by omega) rfl ?_
  refine xg_stp rfl rfl rfl rfl ?_
  refine xg_stp rfl rfl rfl rfl ?_
  refine rf_fa B0 rfl rfl ?_
  refine xg_stp (st' := .int (Int32.ofNat 64) :: _) rfl rfl rfl rfl ?_
  refine rf_ld B0 (by omega) rfl ?_
  refine xg_stp (st' := .int (Int32.ofNat 1) :: _) rfl rfl rfl rfl ?_
  refine xg_j2 rfl rfl rfl rfl rfl (fun h24 => ?_) (fun h24 => ?_)
  · refine xg_stp (st' := .int (Int32.ofNat 0) :: _) rfl rfl rfl rfl ?_
    refine xg_stp rfl rfl rfl rfl ?_
    refine xg_stp rfl rfl rfl rfl ?_
    refine rf_fa B0 rfl rfl ?_
    refine xg_stp (st' := .int (Int32.ofNat 65) :: _) rfl rfl rfl rfl ?_
    refine rf_ld B0 (by omega) rfl ?_
    refine xg_stp rfl rfl rfl rfl ?_
    refine xg_stp rfl rfl rfl rfl ?_
    refine rf_fa B0 rfl rfl ?_
    refine xg_stp (st' := .int (Int32.ofNat 66) :: _) rfl rfl rfl rfl ?_
    refine rf_ld B0 (by omega) rfl ?_
    refine xg_stp rfl rfl rfl rfl ?_
    refine xg_stp rfl rfl rfl rfl ?_
    refine rf_fa B0 rfl rfl ?_
    refine xg_stp (st' := .int (Int32.ofNat 11) :: _) rfl rfl rfl rfl ?_
    refine xg_stp rfl rfl rfl rfl ?_
    refine rf_ld B0 (by omega) rfl ?_
    refine xg_stp (st' := .int (Int32.ofNat 1) :: _) rfl rfl rfl rfl ?_
    refine xn_sub (by omega) rfl ?_
    refine rf_sto B0 (by omega) rfl ?_
    refine xg_stp (st' := .int (Int32.ofNat 61) :: _) rfl rfl rfl rfl ?_
    refine xg_stp rfl rfl rfl rfl ?_
    refine rf_sdL B0 (d + 2) c s (F 61) (F 62) 0 (F 65) (F 66) _ 0 (6 * (F 11 - 1)) 61 (rf_c1 F) (by rw [e11]; omega) (by omega) (by rw [e11]) ?_
    refine xg_stp (st' := .int (Int32.ofNat 0) :: _) rfl rfl rfl rfl ?_
    refine xg_stp rfl rfl rfl rfl ?_
    refine rf_zdL B0 (d + 2) c s (F 61) (F 62) 0 (F 65) (F 66) _ 6 0 _ (by rw [f11]; omega) rfl ?_
    refine xg_stp rfl rfl rfl rfl ?_
    refine xg_stp rfl rfl rfl rfl ?_
    refine rf_gc B h23 rfl rfl ?_
    refine xg_stp (st' := .int (Int32.ofNat 1) :: _) rfl rfl rfl rfl ?_
    refine xn_add rfl ?_
    refine rf_pc2 B h23 rfl rfl rfl rfl ?_
    have B1 := rf_Bo B (n + 1)
    refine xg_stp rfl rfl rfl rfl ?_
    refine xg_stp (st' := .int (Int32.ofNat 4) :: _) rfl rfl rfl rfl ?_
    refine xg_stp rfl rfl rfl rfl ?_
    refine xg_stp rfl rfl rfl rfl ?_
    refine rf_call B1 rfl rfl rfl rfl rfl rfl (rf_writeDown B1 (d + 2) 0 0 4 (F 62) (F 61) _ w10) ?_
    refine xg_stp rfl rfl rfl rfl ?_
    refine xg_j1 rfl rfl rfl rfl rfl (fun h157 => ?_) (fun h157 => ?_)
    · refine xg_stp (st' := .int (Int32.ofNat 28) :: _) rfl rfl rfl rfl ?_
      refine xg_stp rfl rfl rfl rfl ?_
      refine xn_add rfl ?_
      refine xg_call rfl rfl rfl (rf_stateAt B1 (d + 2) _ 0 0 (28 + F 66)) ?_
      refine xg_stp rfl rfl rfl rfl ?_
      refine xg_stp rfl rfl rfl rfl ?_
      refine xg_stp rfl rfl rfl rfl ?_
      refine xg_call rfl rfl rfl (rf_stateAt B1 (d + 2) _ 0 0 (F 62)) ?_
      refine xg_stp rfl rfl rfl rfl ?_
      refine rf_call B1 rfl rfl rfl rfl rfl rfl (rf_merge B1 d 0 0 (205 + 57 * F 62) (205 + 57 * (28 + F 66)) (by omega) (by omega) (by omega) (by omega) (rf_cfP F) m1.1 m1.2.1 m1.2.2.1 m1.2.2.2.1 m1.2.2.2.2) ?_
      refine xg_stp rfl rfl rfl rfl ?_
      refine xg_stp (st' := .int (Int32.ofNat 3201) :: _) rfl rfl rfl rfl ?_
      refine xg_stp rfl rfl rfl rfl ?_
      refine xg_call rfl rfl rfl (rf_stateAt B1 (d + 2) _ 0 0 (F 62)) ?_
      refine rf_call B1 rfl rfl rfl rfl rfl rfl (rf_areAlike B1 (d + 2) 0 0 3201 (205 + 57 * F 62) (by omega) (by omega) (rf_cJ0 (rf_cfP F) (F 62) (205 + 57 * (28 + F 66))) m2 m3) ?_
      refine xg_j1 rfl rfl rfl rfl rfl (fun h223 => ?_) (fun h223 => ?_)
      · have ej : rf_cJ (rf_cfP F) (F 62) (205 + 57 * (28 + F 66)) = rf_cJ0 (rf_cfP F) (F 62) (205 + 57 * (28 + F 66)) := if_neg (nt1_ne h223)
        rw [ej] at m5 ⊢
        refine xg_stp rfl rfl rfl rfl ?_
        refine xg_stp rfl rfl rfl rfl ?_
        refine xg_stp rfl rfl rfl rfl ?_
        refine xg_stp (st' := .int (Int32.ofNat 1) :: _) rfl rfl rfl rfl ?_
        refine xg_stp rfl rfl rfl rfl ?_
        refine rf_call B1 rfl rfl rfl rfl rfl rfl (rf_sendA B1 d _ 0 0 (F 62) (F 61) (F 65) m5.1 m5.2.1 m5.2.2.1 m5.2.2.2.1 m5.2.2.2.2.1 m5.2.2.2.2.2) ?_
        exact xg_ret rfl rfl
      · have ej : rf_cJ (rf_cfP F) (F 62) (205 + 57 * (28 + F 66)) = rf_td (rf_cJ1 (rf_cfP F) (F 62) (205 + 57 * (28 + F 66))) (F 62) (205 + 57 * (28 + F 66)) := if_pos (nf1_ne (Nat.lt_of_le_of_lt (rf_al1 _ _ _ _ _) (by omega)) h223)
        rw [ej] at m5 ⊢
        refine xg_stp rfl rfl rfl rfl ?_
        refine xg_stp (st' := .int (Int32.ofNat 3201) :: _) rfl rfl rfl rfl ?_
        refine xg_stp rfl rfl rfl rfl ?_
        refine xg_call rfl rfl rfl (rf_stateAt B1 (d + 2) _ 0 0 (F 62)) ?_
        refine rf_call B1 rfl rfl rfl rfl rfl rfl (rf_copyState B1 (d + 2) _ 0 0 3201 (205 + 57 * F 62) (by omega) (by omega) (by omega)) ?_
        refine xg_stp rfl rfl rfl rfl ?_
        refine xg_stp rfl rfl rfl rfl ?_
        refine xg_stp rfl rfl rfl rfl ?_
        refine rf_call B1 rfl rfl rfl rfl rfl rfl (rf_takeDelta B1 d 0 0 (F 62) (205 + 57 * (28 + F 66)) k5 (by omega) (by omega) (rf_cJ1 (rf_cfP F) (F 62) (205 + 57 * (28 + F 66))) m4.1 m4.2.1 m4.2.2.1 m4.2.2.2) ?_
        refine xg_stp rfl rfl rfl rfl ?_
        refine xg_stp rfl rfl rfl rfl ?_
        refine xg_stp rfl rfl rfl rfl ?_
        refine xg_stp (st' := .int (Int32.ofNat 1) :: _) rfl rfl rfl rfl ?_
        refine xg_stp rfl rfl rfl rfl ?_
        refine rf_call B1 rfl rfl rfl rfl rfl rfl (rf_sendA B1 d _ 0 0 (F 62) (F 61) (F 65) m5.1 m5.2.1 m5.2.2.1 m5.2.2.2.1 m5.2.2.2.2.1 m5.2.2.2.2.2) ?_
        exact xg_ret rfl rfl
    · exact absurd rfl (nf1_eq h157)
  · exact absurd (nf_ne k6 (by omega) h24) he
theorem rf_comeFirst {b : xi_W} {O A : Nat} {o : Nat × List Value} (B : rf_B b O A o) (h23 : 24 ≤ o.2.length) (d : Nat) (F : Nat → Nat) (c s n : Nat) (hk : rf_cfk F) : xg (d + 3) 261 0 [(0, .ref O)] [] (rf_w (rf_o b O o n) A F) c s (none, rf_w (rf_o b O o (n + 1)) A (rf_cf F), c, s) :=
  if he : F 64 = 1 then rf_comeA B h23 d F c s n hk he else rf_comeM B h23 d F c s n hk he
/-- what comes now comes; m at most -/
def rf_tl : Nat → (Nat → Nat) → (Nat → Nat)
  | 0, F => F
  | m + 1, F => if 0 < F 11 ∧ F 63 = F 6 then rf_tl m (rf_cf F) else F
def rf_tlk : Nat → (Nat → Nat) → Prop
  | 0, F => F 11 < 2147483648 ∧ (0 < F 11 → F 63 < 2147483648) ∧ F 6 < 2147483648 ∧ ¬ (0 < F 11 ∧ F 63 = F 6)
  | m + 1, F => F 11 < 2147483648 ∧ (0 < F 11 → F 63 < 2147483648) ∧ F 6 < 2147483648 ∧ (0 < F 11 ∧ F 63 = F 6 → rf_cfk F ∧ rf_tlk m (rf_cf F))
/-- nobody speaks -/
def rf_npk (F : Nat → Nat) : Prop := F 1 = 4294967295 ∧ (∀ r, r < 4 → F (12 + r) < 1000000) ∧ (∀ r q, r < 4 → q < 4 → F (20 + 4 * r + q) < 1000000)
theorem rf_tkI {b : xi_W} {O A : Nat} {o : Nat × List Value} (B : rf_B b O A o) (d : Nat) (F : Nat → Nat) (c s : Nat) (np : rf_npk F) (r : Nat) (hr : r < 4) (R : xi_R) : ∀ (m q : Nat), q + m = 4 → xg (d + 2) 262 117 [(2, .int (Int32.ofNat (4))), (1, .int (Int32.ofNat r)), (0, .ref O)] [] (rf_w b A F) c s R → xg (d + 2) 262 54 [(2, .int (Int32.ofNat (q))), (1, .int (Int32.ofNat r)), (0, .ref O)] [] (rf_w b A F) c s R
  | 0, q, hm, hk => by
    have e0 : q = 4 := by omega
    subst e0
    refine xg_stp rfl rfl rfl rfl ?_
    refine xg_stp (st' := .int (Int32.ofNat 4) :: _) rfl rfl rfl rfl ?_
    refine xg_j2 rfl rfl rfl rfl rfl (fun h56 => ?_) (fun h56 => ?_)
    · exact hk
    · exact absurd (nf_ge (by omega) (by omega) h56) (by omega)
  | m + 1, q, hm, hk => by
    refine xg_stp rfl rfl rfl rfl ?_
    refine xg_stp (st' := .int (Int32.ofNat 4) :: _) rfl rfl rfl rfl ?_
    refine xg_j2 rfl rfl rfl rfl rfl (fun h56 => ?_) (fun h56 => ?_)
    · exact absurd (nt_ge (by omega) (by omega) h56) (by omega)
    · refine xg_stp rfl rfl rfl rfl ?_
      refine xg_stp rfl rfl rfl rfl ?_
      refine xg_j2 rfl rfl rfl rfl rfl (fun h61 => ?_) (fun h61 => ?_)
      · refine xn_inc (e := 1) rfl rfl rfl rfl ?_
        refine xg_stp rfl rfl rfl rfl ?_
        exact rf_tkI B d F c s np r hr R m (q + 1) (by omega) hk
      · refine xg_stp rfl rfl rfl rfl ?_
        refine xg_stp rfl rfl rfl rfl ?_
        refine xg_stp rfl rfl rfl rfl ?_
        refine rf_call B rfl rfl rfl rfl rfl rfl (rf_isBehind B d F 0 0 r q hr (by omega) (by have := np.2.2 r q hr (by omega); omega) (by have := np.2.1 r hr; omega)) ?_
        refine xg_j1 rfl rfl rfl rfl rfl (fun h70 => ?_) (fun h70 => ?_)
        · refine xn_inc (e := 1) rfl rfl rfl rfl ?_
          refine xg_stp rfl rfl rfl rfl ?_
          exact rf_tkI B d F c s np r hr R m (q + 1) (by omega) hk
        · have e70 : F (20 + 4 * r + q) < F (12 + r) := by
            apply Decidable.byContradiction
            intro e
            rw [if_neg e] at h70
            exact absurd rfl (nf1_eq h70)
          refine xg_stp rfl rfl rfl rfl ?_
          refine xg_stp rfl rfl rfl rfl ?_
          refine rf_fa B rfl rfl ?_
          refine xg_stp (st' := .int (Int32.ofNat 1) :: _) rfl rfl rfl rfl ?_
          refine rf_ld B (by omega) rfl ?_
          refine xg_stp rfl rfl rfl rfl ?_
          refine xg_stp rfl rfl rfl rfl ?_
          refine xg_stp rfl rfl rfl rfl ?_
          refine rf_fa B rfl rfl ?_
          refine xg_stp (st' := .int (Int32.ofNat 12) :: _) rfl rfl rfl rfl ?_
          refine xg_stp rfl rfl rfl rfl ?_
          refine xn_add rfl ?_
          refine rf_ld B (by omega) rfl ?_
          refine xg_stp rfl rfl rfl rfl ?_
          refine xg_stp rfl rfl rfl rfl ?_
          refine xg_stp rfl rfl rfl rfl ?_
          refine rf_call B rfl rfl rfl rfl rfl rfl (rf_ackedBy B (d + 1) F 0 0 r q hr (by omega)) ?_
          refine xn_sub (by omega) rfl ?_
          refine rf_call B rfl rfl rfl rfl rfl rfl (by rw [np.1]; exact rf_doesSpeak B d F 0 0 r q (F (12 + r) - F (20 + 4 * r + q))) ?_
          refine xg_j1 rfl rfl rfl rfl rfl (fun h101 => ?_) (fun h101 => ?_)
          · refine xn_inc (e := 1) rfl rfl rfl rfl ?_
            refine xg_stp rfl rfl rfl rfl ?_
            exact rf_tkI B d F c s np r hr R m (q + 1) (by omega) hk
          · exact absurd rfl (nf1_eq h101)
theorem rf_tkO {b : xi_W} {O A : Nat} {o : Nat × List Value} (B : rf_B b O A o) (d : Nat) (F : Nat → Nat) (c s : Nat) (np : rf_npk F) : ∀ (m r : Nat) (L : xi_L), r + m = 4 → (L = [(1, .int (Int32.ofNat r)), (0, .ref O)] ∨ L = [(1, .int (Int32.ofNat r)), (2, .int (Int32.ofNat 4)), (0, .ref O)]) → xg (d + 2) 262 47 L [] (rf_w b A F) c s (none, rf_w b A F, c, s)
  | 0, r, L, hm, hL => by
    rcases hL with rfl | rfl
    · refine xg_stp rfl rfl rfl rfl ?_
      refine xg_stp (st' := .int (Int32.ofNat 4) :: _) rfl rfl rfl rfl ?_
      refine xg_j2 rfl rfl rfl rfl rfl (fun h49 => ?_) (fun h49 => ?_)
      · exact xg_ret rfl rfl
      · exact absurd (nf_ge (by omega) (by omega) h49) (by omega)
    · refine xg_stp rfl rfl rfl rfl ?_
      refine xg_stp (st' := .int (Int32.ofNat 4) :: _) rfl rfl rfl rfl ?_
      refine xg_j2 rfl rfl rfl rfl rfl (fun h49 => ?_) (fun h49 => ?_)
      · exact xg_ret rfl rfl
      · exact absurd (nf_ge (by omega) (by omega) h49) (by omega)
  | m + 1, r, L, hm, hL => by
    rcases hL with rfl | rfl
    · refine xg_stp rfl rfl rfl rfl ?_
      refine xg_stp (st' := .int (Int32.ofNat 4) :: _) rfl rfl rfl rfl ?_
      refine xg_j2 rfl rfl rfl rfl rfl (fun h49 => ?_) (fun h49 => ?_)
      · exact absurd (nt_ge (by omega) (by omega) h49) (by omega)
      · refine xg_stp (st' := .int (Int32.ofNat 0) :: _) rfl rfl rfl rfl ?_
        refine xg_stp rfl rfl rfl rfl ?_
        refine rf_tkI B d F c s np r (by omega) _ 4 0 rfl ?_
        refine xn_inc (e := 1) rfl rfl rfl rfl ?_
        refine xg_stp rfl rfl rfl rfl ?_
        exact rf_tkO B d F c s np m (r + 1) _ (by omega) (Or.inr rfl)
    · refine xg_stp rfl rfl rfl rfl ?_
      refine xg_stp (st' := .int (Int32.ofNat 4) :: _) rfl rfl rfl rfl ?_
      refine xg_j2 rfl rfl rfl rfl rfl (fun h49 => ?_) (fun h49 => ?_)
      · exact absurd (nt_ge (by omega) (by omega) h49) (by omega)
      · refine xg_stp (st' := .int (Int32.ofNat 0) :: _) rfl rfl rfl rfl ?_
        refine xg_stp rfl rfl rfl rfl ?_
        refine rf_tkI B d F c s np r (by omega) _ 4 0 rfl ?_
        refine xn_inc (e := 1) rfl rfl rfl rfl ?_
        refine xg_stp rfl rfl rfl rfl ?_
        exact rf_tkO B d F c s np m (r + 1) _ (by omega) (Or.inr rfl)
theorem rf_tlN {b : xi_W} {O A : Nat} {o : Nat × List Value} (B : rf_B b O A o) (d : Nat) (F : Nat → Nat) (c s : Nat) (np : rf_npk F) : xg (d + 2) 262 45 [(0, .ref O)] [] (rf_w b A F) c s (none, rf_w b A F, c, s) := by
  refine xg_stp (st' := .int (Int32.ofNat 0) :: _) rfl rfl rfl rfl ?_
  refine xg_stp rfl rfl rfl rfl ?_
  exact rf_tkO B d F c s np 4 0 _ rfl (Or.inl rfl)
def rf_tn : Nat → (Nat → Nat) → Nat → Nat
  | 0, _, n => n
  | m + 1, F, n => if 0 < F 11 ∧ F 63 = F 6 then rf_tn m (rf_cf F) (n + 1) else n
/-- the loop of 'tick' over what comes -/
theorem rf_tlL {b : xi_W} {O A : Nat} {o : Nat × List Value} (B : rf_B b O A o) (h23 : 24 ≤ o.2.length) (d : Nat) (c s : Nat) : ∀ (m : Nat) (F : Nat → Nat) (n : Nat), rf_tlk m F → rf_npk (rf_tl m F) → xg (d + 4) 262 11 [(0, .ref O)] [] (rf_w (rf_o b O o n) A F) c s (none, rf_w (rf_o b O o (rf_tn m F n)) A (rf_tl m F), c, s)
  | 0, F, n, hk, hx => by
    unfold rf_tlk at hk
    obtain ⟨g1, g2, g3, g4⟩ := hk
    have B1 := rf_Bo B n
    unfold rf_tl rf_tn at *
    refine xg_stp rfl rfl rfl rfl ?_
    refine rf_fa B1 rfl rfl ?_
    refine xg_stp (st' := .int (Int32.ofNat 11) :: _) rfl rfl rfl rfl ?_
    refine rf_ld B1 (by omega) rfl ?_
    refine xg_j1 rfl rfl rfl rfl rfl (fun h18 => ?_) (fun h18 => ?_)
    · exact rf_tlN B1 (d + 2) F c s hx
    · have q2 := g2 (nf1_le g1 h18)
      refine xg_stp rfl rfl rfl rfl ?_
      refine rf_fa B1 rfl rfl ?_
      refine xg_stp (st' := .int (Int32.ofNat 63) :: _) rfl rfl rfl rfl ?_
      refine rf_ld B1 (by omega) rfl ?_
      refine xg_stp rfl rfl rfl rfl ?_
      refine rf_fa B1 rfl rfl ?_
      refine xg_stp (st' := .int (Int32.ofNat 6) :: _) rfl rfl rfl rfl ?_
      refine rf_ld B1 (by omega) rfl ?_
      refine xg_j2 rfl rfl rfl rfl rfl (fun h35 => ?_) (fun h35 => ?_)
      · exact rf_tlN B1 (d + 2) F c s hx
      · exact absurd ⟨nf1_le g1 h18, nf_ne (by omega) (by omega) h35⟩ g4
  | m + 1, F, n, hk, hx => by
    unfold rf_tlk at hk
    obtain ⟨g1, g2, g3, g4⟩ := hk
    have B1 := rf_Bo B n
    unfold rf_tl at hx
    unfold rf_tl rf_tn
    refine xg_stp rfl rfl rfl rfl ?_
    refine rf_fa B1 rfl rfl ?_
    refine xg_stp (st' := .int (Int32.ofNat 11) :: _) rfl rfl rfl rfl ?_
    refine rf_ld B1 (by omega) rfl ?_
    refine xg_j1 rfl rfl rfl rfl rfl (fun h18 => ?_) (fun h18 => ?_)
    · have en : ¬ (0 < F 11 ∧ F 63 = F 6) := fun h => absurd h.1 (by have := nt1_le g1 h18; omega)
      rw [if_neg en] at hx
      rw [if_neg en, if_neg en]
      exact rf_tlN B1 (d + 2) F c s hx
    · have q2 := g2 (nf1_le g1 h18)
      refine xg_stp rfl rfl rfl rfl ?_
      refine rf_fa B1 rfl rfl ?_
      refine xg_stp (st' := .int (Int32.ofNat 63) :: _) rfl rfl rfl rfl ?_
      refine rf_ld B1 (by omega) rfl ?_
      refine xg_stp rfl rfl rfl rfl ?_
      refine rf_fa B1 rfl rfl ?_
      refine xg_stp (st' := .int (Int32.ofNat 6) :: _) rfl rfl rfl rfl ?_
      refine rf_ld B1 (by omega) rfl ?_
      refine xg_j2 rfl rfl rfl rfl rfl (fun h35 => ?_) (fun h35 => ?_)
      · have en : ¬ (0 < F 11 ∧ F 63 = F 6) := fun h => nt_ne h35 h.2
        rw [if_neg en] at hx
        rw [if_neg en, if_neg en]
        exact rf_tlN B1 (d + 2) F c s hx
      · have e35 : 0 < F 11 ∧ F 63 = F 6 := ⟨nf1_le g1 h18, nf_ne (by omega) (by omega) h35⟩
        rw [if_pos e35] at hx
        rw [if_pos e35, if_pos e35]
        have hk := g4 e35
        refine xg_stp rfl rfl rfl rfl ?_
        refine rf_call2 B1 rfl rfl rfl rfl rfl rfl (rf_comeFirst B h23 d F 0 0 n hk.1) ?_
        refine xg_stp rfl rfl rfl rfl ?_
        exact rf_tlL B h23 d c s m (rf_cf F) (n + 1) hk.2 hx
def rf_t0 (F : Nat → Nat) : Nat → Nat := xn_u F 6 (F 6 + 1)
/-- a tick; m come at most -/
def rf_tic (F : Nat → Nat) (m : Nat) : Nat → Nat := rf_tl m (rf_t0 F)
def rf_tik (F : Nat → Nat) (m : Nat) : Prop := rf_tlk m (rf_t0 F) ∧ rf_npk (rf_tic F m)
/-- 'tick' -/
theorem rf_tick {b : xi_W} {O A : Nat} {o : Nat × List Value} (B : rf_B b O A o) (h23 : 24 ≤ o.2.length) (d : Nat) (F : Nat → Nat) (c s n : Nat) (m : Nat) (hk : rf_tik F m) : xg (d + 4) 262 0 [(0, .ref O)] [] (rf_w (rf_o b O o n) A F) c s (none, rf_w (rf_o b O o (rf_tn m (rf_t0 F) n)) A (rf_tic F m), c, s) := by
  have B1 := rf_Bo B n
  refine xg_stp rfl rfl rfl rfl ?_
  refine rf_fa B1 rfl rfl ?_
  refine xg_stp (st' := .int (Int32.ofNat 6) :: _) rfl rfl rfl rfl ?_
  refine xg_stp rfl rfl rfl rfl ?_
  refine rf_ld B1 (by omega) rfl ?_
  refine xg_stp (st' := .int (Int32.ofNat 1) :: _) rfl rfl rfl rfl ?_
  refine xn_add rfl ?_
  refine rf_sto B1 (by omega) rfl ?_
  exact rf_tlL B h23 d c s m (rf_t0 F) n hk.1 hk.2
def rf_key (x : Nat) : Nat := x / 32 % 4
def rf_rep (x : Nat) : Nat := x / 8 % 4
def rf_to (x : Nat) : Nat := (x / 8 % 4 + x / 32 % 3 + 1) % 4
/-- one draw of YEARS happens; m: what is free, what comes at most -/
def rf_hap (F : Nat → Nat) (x m : Nat) : Nat → Nat :=
  if x % 8 < 3 then (if rf_v F (205 + 57 * rf_rep x) (rf_rep x) 63 0 < 63 then rf_st F (rf_rep x) (rf_key x) (x % 3) (rf_nd F (rf_rep x)) (x % 100) else F)
  else if x % 8 = 3 then (if 0 < rf_mo F (205 + 57 * rf_rep x) (rf_key x) 4294967295 (F (205 + 57 * rf_rep x + 8)) 0 0 then rf_clr F (rf_rep x) (rf_key x) 4294967295 2 else F)
  else if x % 8 < 6 then (if F (20 + 4 * rf_rep x + rf_to x) < F (12 + rf_rep x) then rf_spk F (rf_rep x) (rf_to x) m else F)
  else if F 6 < 9999 then rf_tic F m else F
def rf_han (F : Nat → Nat) (x m n : Nat) : Nat := if x % 8 < 6 then n else if F 6 < 9999 then rf_tn m (rf_t0 F) n else n
def rf_hak (F : Nat → Nat) (x m : Nat) : Prop :=
  (x % 8 < 3 → (∀ t, t < 8 → F (205 + 57 * rf_rep x + t) < 2147483648) ∧ (rf_v F (205 + 57 * rf_rep x) (rf_rep x) 63 0 < 63 → rf_sok F (rf_rep x) (rf_key x) (x % 3) (x % 100))) ∧
  (x % 8 = 3 → F (205 + 57 * rf_rep x + 8) ≤ 48 ∧ (∀ i, i < F (205 + 57 * rf_rep x + 8) → F (205 + 57 * rf_rep x + 9 + i) < 307200) ∧ (0 < rf_mo F (205 + 57 * rf_rep x) (rf_key x) 4294967295 (F (205 + 57 * rf_rep x + 8)) 0 0 → rf_cok2 F (rf_rep x) (rf_key x) 4294967295)) ∧
  (¬ x % 8 < 3 → ¬ x % 8 = 3 → x % 8 < 6 → F (20 + 4 * rf_rep x + rf_to x) < 2147483648 ∧ F (12 + rf_rep x) < 2147483648 ∧ (F (20 + 4 * rf_rep x + rf_to x) < F (12 + rf_rep x) → rf_spkk F (rf_rep x) (rf_to x) m)) ∧
  (¬ x % 8 < 6 → F 6 < 2147483648 ∧ (F 6 < 9999 → rf_tik F m))
theorem rf_mole (F : Nat → Nat) (X q f : Nat) : ∀ (m i n : Nat), rf_mo F X q f m i n ≤ n + m
  | 0, _, _ => Nat.le_refl _
  | m + 1, i, n => by
    unfold rf_mo
    have h1 := rf_mole F X q f m (i + 1) (n + rf_is (F (X + 9 + i)) q f)
    have h2 := rf_isb (F (X + 9 + i)) q f
    omega
/-- 'happens' -/
theorem rf_happens {b : xi_W} {O A : Nat} {o : Nat × List Value} (B : rf_B b O A o) (h23 : 24 ≤ o.2.length) (d : Nat) (F : Nat → Nat) (c s n : Nat) (x m : Nat) (hx : x < 31139) (hk : rf_hak F x m) : xg (d + 5) 275 0 [(0, .ref O), (1, .int (Int32.ofNat x))] [] (rf_w (rf_o b O o n) A F) c s (none, rf_w (rf_o b O o (rf_han F x m n)) A (rf_hap F x m), c, s) := by
  have B1 := rf_Bo B n
  obtain ⟨a1, a2, a3, a4⟩ := hk
  have hr : rf_rep x < 4 := Nat.mod_lt _ (by omega)
  have hq : rf_key x < 4 := Nat.mod_lt _ (by omega)
  have ht : rf_to x < 4 := Nat.mod_lt _ (by omega)
  unfold rf_hap rf_han
  refine xg_stp rfl rfl rfl rfl ?_
  refine xg_stp (st' := .int (Int32.ofNat 8) :: _) rfl rfl rfl rfl ?_
  refine xn_div (by omega) (by omega) (by omega) rfl ?_
  refine xg_stp (st' := .int (Int32.ofNat 4) :: _) rfl rfl rfl rfl ?_
  refine xn_mod (by omega) (by omega) (by omega) rfl ?_
  refine xg_stp rfl rfl rfl rfl ?_
  refine xg_stp rfl rfl rfl rfl ?_
  refine xg_stp (st' := .int (Int32.ofNat 32) :: _) rfl rfl rfl rfl ?_
  refine xn_div (by omega) (by omega) (by omega) rfl ?_
  refine xg_stp (st' := .int (Int32.ofNat 4) :: _) rfl rfl rfl rfl ?_
  refine xn_mod (by omega) (by omega) (by omega) rfl ?_
  refine xg_stp rfl rfl rfl rfl ?_
  refine xg_stp rfl rfl rfl rfl ?_
  refine xg_stp rfl rfl rfl rfl ?_
  refine xg_stp (st' := .int (Int32.ofNat 32) :: _) rfl rfl rfl rfl ?_
  refine xn_div (by omega) (by omega) (by omega) rfl ?_
  refine xg_stp (st' := .int (Int32.ofNat 3) :: _) rfl rfl rfl rfl ?_
  refine xn_mod (by omega) (by omega) (by omega) rfl ?_
  refine xn_add rfl ?_
  refine xg_stp (st' := .int (Int32.ofNat 1) :: _) rfl rfl rfl rfl ?_
  refine xn_add rfl ?_
  refine xg_stp (st' := .int (Int32.ofNat 4) :: _) rfl rfl rfl rfl ?_
  refine xn_mod (by omega) (by omega) (by omega) rfl ?_
  refine xg_stp rfl rfl rfl rfl ?_
  refine xg_stp rfl rfl rfl rfl ?_
  refine xg_stp (st' := .int (Int32.ofNat 8) :: _) rfl rfl rfl rfl ?_
  refine xn_mod (by omega) (by omega) (by omega) rfl ?_
  refine xg_stp rfl rfl rfl rfl ?_
  refine xg_stp rfl rfl rfl rfl ?_
  refine xg_stp (st' := .int (Int32.ofNat 3) :: _) rfl rfl rfl rfl ?_
  refine xg_j2 rfl rfl rfl rfl rfl (fun h37 => ?_) (fun h37 => ?_)
  · have e37 := nt_ge (by omega) (by omega) h37
    rw [if_neg (Nat.not_lt.mpr e37)]
    refine xg_stp rfl rfl rfl rfl ?_
    refine xg_stp (st' := .int (Int32.ofNat 3) :: _) rfl rfl rfl rfl ?_
    refine xg_j2 rfl rfl rfl rfl rfl (fun h68 => ?_) (fun h68 => ?_)
    · have e68 : ¬ x % 8 = 3 := nt_ne h68
      rw [if_neg e68]
      refine xg_stp rfl rfl rfl rfl ?_
      refine xg_stp (st' := .int (Int32.ofNat 6) :: _) rfl rfl rfl rfl ?_
      refine xg_j2 rfl rfl rfl rfl rfl (fun h100 => ?_) (fun h100 => ?_)
      · have e100 := nt_ge (by omega) (by omega) h100
        rw [if_neg (Nat.not_lt.mpr e100), if_neg (Nat.not_lt.mpr e100)]
        obtain ⟨a41, a42⟩ := a4 (Nat.not_lt.mpr e100)
        refine xg_stp rfl rfl rfl rfl ?_
        refine rf_fa B1 rfl rfl ?_
        refine xg_stp (st' := .int (Int32.ofNat 6) :: _) rfl rfl rfl rfl ?_
        refine rf_ld B1 (by omega) rfl ?_
        refine xg_stp (st' := .int (Int32.ofNat 9999) :: _) rfl rfl rfl rfl ?_
        refine xg_j2 rfl rfl rfl rfl rfl (fun h134 => ?_) (fun h134 => ?_)
        · have e134 := nt_ge a41 (by omega) h134
          rw [if_neg (Nat.not_lt.mpr e134), if_neg (Nat.not_lt.mpr e134)]
          exact xg_ret rfl rfl
        · have e134 := nf_ge a41 (by omega) h134
          rw [if_pos e134, if_pos e134]
          refine xg_stp rfl rfl rfl rfl ?_
          refine rf_call2 B1 rfl rfl rfl rfl rfl rfl (rf_tick B h23 d F 0 0 n m (a42 e134)) ?_
          exact xg_ret rfl rfl
      · have e100 := nf_ge (by omega) (by omega) h100
        rw [if_pos e100, if_pos e100]
        obtain ⟨a31, a32, a33⟩ := a3 (by omega) e68 e100
        refine xg_stp rfl rfl rfl rfl ?_
        refine xg_stp rfl rfl rfl rfl ?_
        refine xg_stp rfl rfl rfl rfl ?_
        refine rf_call B1 rfl rfl rfl rfl rfl rfl (rf_isBehind B1 (d + 3) F 0 0 (rf_rep x) (rf_to x) hr ht a31 a32) ?_
        refine xg_j1 rfl rfl rfl rfl rfl (fun h110 => ?_) (fun h110 => ?_)
        · have e110 : ¬ F (20 + 4 * rf_rep x + rf_to x) < F (12 + rf_rep x) := by
            intro e
            rw [if_pos e] at h110
            exact absurd (nt1_eq (by omega) h110) (by omega)
          rw [if_neg e110]
          exact xg_ret rfl rfl
        · have e110 : F (20 + 4 * rf_rep x + rf_to x) < F (12 + rf_rep x) := by
            apply Decidable.byContradiction
            intro e
            rw [if_neg e] at h110
            exact absurd rfl (nf1_eq h110)
          rw [if_pos e110]
          refine xg_stp rfl rfl rfl rfl ?_
          refine xg_stp rfl rfl rfl rfl ?_
          refine xg_stp rfl rfl rfl rfl ?_
          refine rf_call B1 rfl rfl rfl rfl rfl rfl (rf_speakNow B1 d F 0 0 (rf_rep x) (rf_to x) m hr ht (a33 e110)) ?_
          refine xg_stp rfl rfl rfl rfl ?_
          refine xg_stp rfl rfl rfl rfl ?_
          exact xg_ret rfl rfl
    · have e68 : x % 8 = 3 := nf_ne (by omega) (by omega) h68
      rw [if_pos e68, if_pos (show x % 8 < 6 by omega)]
      have hml := rf_mole F (205 + 57 * rf_rep x) (rf_key x) 4294967295 (F (205 + 57 * rf_rep x + 8)) 0 0
      have hm8 := (a2 e68).1
      refine xg_stp rfl rfl rfl rfl ?_
      refine xg_stp rfl rfl rfl rfl ?_
      refine xg_call rfl rfl rfl (rf_stateAt B1 (d + 4) F 0 0 (rf_rep x)) ?_
      refine xg_stp rfl rfl rfl rfl ?_
      refine xg_stp (st' := .int (Int32.ofNat 4294967295) :: _) rfl rfl rfl rfl ?_
      refine rf_call B1 rfl rfl rfl rfl rfl rfl (rf_manyOf B1 (d + 2) 0 0 (205 + 57 * (rf_rep x)) (rf_key x) 4294967295 (by omega) (by omega) (by omega) F (a2 e68).1 (fun i hi => Nat.lt_trans ((a2 e68).2.1 i hi) (by omega))) ?_
      refine xg_j1 rfl rfl rfl rfl rfl (fun h81 => ?_) (fun h81 => ?_)
      · have e81 := nt1_le (by omega) h81
        rw [if_neg (by omega)]
        exact xg_ret rfl rfl
      · have e81 := nf1_le (by omega) h81
        rw [if_pos e81]
        refine xg_stp rfl rfl rfl rfl ?_
        refine xg_stp rfl rfl rfl rfl ?_
        refine xg_stp rfl rfl rfl rfl ?_
        refine xg_stp (st' := .int (Int32.ofNat 4294967295) :: _) rfl rfl rfl rfl ?_
        refine xg_stp (st' := .int (Int32.ofNat 2) :: _) rfl rfl rfl rfl ?_
        refine rf_call B1 rfl rfl rfl rfl rfl rfl (rf_clearNow B1 d F 0 0 (rf_rep x) (rf_key x) 4294967295 2 hr hq (by omega) ((a2 e68).2.2 e81)) ?_
        refine xg_stp rfl rfl rfl rfl ?_
        refine xg_stp rfl rfl rfl rfl ?_
        exact xg_ret rfl rfl
  · have e37 := nf_ge (by omega) (by omega) h37
    rw [if_pos e37]
    refine xg_stp rfl rfl rfl rfl ?_
    refine xg_stp rfl rfl rfl rfl ?_
    refine rf_call B1 rfl rfl rfl rfl rfl rfl (rf_canSet B1 (d + 1) F 0 0 (rf_rep x) hr (a1 (by omega)).1) ?_
    refine xg_j1 rfl rfl rfl rfl rfl (fun h45 => ?_) (fun h45 => ?_)
    · have e45 : ¬ rf_v F (205 + 57 * rf_rep x) (rf_rep x) 63 0 < 63 := by
        intro e
        rw [if_pos e] at h45
        exact absurd (nt1_eq (by omega) h45) (by omega)
      rw [if_neg e45, if_pos (show x % 8 < 6 by omega)]
      exact xg_ret rfl rfl
    · have e45 : rf_v F (205 + 57 * rf_rep x) (rf_rep x) 63 0 < 63 := by
        apply Decidable.byContradiction
        intro e
        rw [if_neg e] at h45
        exact absurd rfl (nf1_eq h45)
      rw [if_pos e45, if_pos (show x % 8 < 6 by omega)]
      refine xg_stp rfl rfl rfl rfl ?_
      refine xg_stp rfl rfl rfl rfl ?_
      refine xg_stp rfl rfl rfl rfl ?_
      refine xg_stp rfl rfl rfl rfl ?_
      refine xg_stp (st' := .int (Int32.ofNat 3) :: _) rfl rfl rfl rfl ?_
      refine xn_mod (by omega) (by omega) (by omega) rfl ?_
      refine xg_stp rfl rfl rfl rfl ?_
      refine xg_stp (st' := .int (Int32.ofNat 100) :: _) rfl rfl rfl rfl ?_
      refine xn_mod (by omega) (by omega) (by omega) rfl ?_
      refine rf_call B1 rfl rfl rfl rfl rfl rfl (rf_setNow B1 d F 0 0 (rf_rep x) (rf_key x) (x % 3) (x % 100) hr hq (Nat.mod_lt _ (by omega)) (Nat.mod_lt _ (by omega)) ((a1 (by omega)).2 e45)) ?_
      refine xg_stp rfl rfl rfl rfl ?_
      refine xg_stp rfl rfl rfl rfl ?_
      exact xg_ret rfl rfl
def rf_an (F : Nat → Nat) : Nat → Nat := xn_u F 7 ((F 7 * 773 + 641) % 31139)
/-- m draws of YEARS, from the k-th on -/
def rf_yr : Nat → Nat → (Nat → Nat) → (Nat → Nat)
  | 0, _, F => F
  | m + 1, k, F => rf_yr m (k + 1) (rf_hap (rf_an F) (F 7) k)
def rf_yrk : Nat → Nat → (Nat → Nat) → Prop
  | 0, _, _ => True
  | m + 1, k, F => F 7 < 31139 ∧ rf_hak (rf_an F) (F 7) k ∧ rf_yrk m (k + 1) (rf_hap (rf_an F) (F 7) k)
/-- the loop of 'years' -/
theorem rf_yrL {b : xi_W} {O A : Nat} {o : Nat × List Value} (B : rf_B b O A o) (h23 : 24 ≤ o.2.length) (d : Nat) (c s e N : Nat) (hN : N < 25) : ∀ (m k n : Nat) (F : Nat → Nat) (L : xi_L), k + m = N → rf_yrk m k F → (L = [(3, .int (Int32.ofNat (k))), (0, .ref O), (1, .int (Int32.ofNat e)), (2, .int (Int32.ofNat N))] ∨ ∃ x0, L = [(3, .int (Int32.ofNat (k))), (4, .int (Int32.ofNat (x0))), (0, .ref O), (1, .int (Int32.ofNat e)), (2, .int (Int32.ofNat N))]) → ∃ n', xg (d + 6) 276 43 L [] (rf_w (rf_o b O o n) A F) c s (some (.int (Int32.ofNat (rf_yr m k F 6))), rf_w (rf_o b O o n') A (rf_yr m k F), c, s)
  | 0, k, n, F, L, hm, hk, hL => by
    have B1 := rf_Bo B n
    unfold rf_yr
    refine ⟨n, ?_⟩
    rcases hL with rfl | ⟨x0, rfl⟩
    · refine xg_stp rfl rfl rfl rfl ?_
      refine xg_stp rfl rfl rfl rfl ?_
      refine xg_j2 rfl rfl rfl rfl rfl (fun h45 => ?_) (fun h45 => ?_)
      · refine xg_stp rfl rfl rfl rfl ?_
        refine rf_fa B1 rfl rfl ?_
        refine xg_stp (st' := .int (Int32.ofNat 6) :: _) rfl rfl rfl rfl ?_
        refine rf_ld B1 (by omega) rfl ?_
        exact xg_ret rfl rfl
      · exact absurd (nf_ge (by omega) (by omega) h45) (by omega)
    · refine xg_stp rfl rfl rfl rfl ?_
      refine xg_stp rfl rfl rfl rfl ?_
      refine xg_j2 rfl rfl rfl rfl rfl (fun h45 => ?_) (fun h45 => ?_)
      · refine xg_stp rfl rfl rfl rfl ?_
        refine rf_fa B1 rfl rfl ?_
        refine xg_stp (st' := .int (Int32.ofNat 6) :: _) rfl rfl rfl rfl ?_
        refine rf_ld B1 (by omega) rfl ?_
        exact xg_ret rfl rfl
      · exact absurd (nf_ge (by omega) (by omega) h45) (by omega)
  | m + 1, k, n, F, L, hm, hk, hL => by
    have B1 := rf_Bo B n
    unfold rf_yrk at hk
    have hk7 := hk.1
    unfold rf_yr
    obtain ⟨n', hr⟩ := rf_yrL B h23 d c s e N hN m (k + 1) (rf_han (rf_an F) (F 7) k n) (rf_hap (rf_an F) (F 7) k) _ (by omega) hk.2.2 (Or.inr ⟨F 7, rfl⟩)
    refine ⟨n', ?_⟩
    rcases hL with rfl | ⟨x0, rfl⟩
    · refine xg_stp rfl rfl rfl rfl ?_
      refine xg_stp rfl rfl rfl rfl ?_
      refine xg_j2 rfl rfl rfl rfl rfl (fun h45 => ?_) (fun h45 => ?_)
      · exact absurd (nt_ge (by omega) (by omega) h45) (by omega)
      · refine xg_stp rfl rfl rfl rfl ?_
        refine rf_fa B1 rfl rfl ?_
        refine xg_stp (st' := .int (Int32.ofNat 7) :: _) rfl rfl rfl rfl ?_
        refine rf_ld B1 (by omega) rfl ?_
        refine xg_stp rfl rfl rfl rfl ?_
        refine xg_stp rfl rfl rfl rfl ?_
        refine rf_call B1 rfl rfl rfl rfl rfl rfl (rf_anew B1 (d + 5) F 0 0 (by omega)) ?_
        refine xg_stp rfl rfl rfl rfl ?_
        refine xg_stp rfl rfl rfl rfl ?_
        refine rf_call2 B1 rfl rfl rfl rfl rfl rfl (rf_happens B h23 d (rf_an F) 0 0 n (F 7) k hk.1 hk.2.1) ?_
        have B2 := rf_Bo B (rf_han (rf_an F) (F 7) k n)
        refine xn_inc (e := 1) rfl rfl rfl rfl ?_
        refine xg_stp rfl rfl rfl rfl ?_
        exact hr
    · refine xg_stp rfl rfl rfl rfl ?_
      refine xg_stp rfl rfl rfl rfl ?_
      refine xg_j2 rfl rfl rfl rfl rfl (fun h45 => ?_) (fun h45 => ?_)
      · exact absurd (nt_ge (by omega) (by omega) h45) (by omega)
      · refine xg_stp rfl rfl rfl rfl ?_
        refine rf_fa B1 rfl rfl ?_
        refine xg_stp (st' := .int (Int32.ofNat 7) :: _) rfl rfl rfl rfl ?_
        refine rf_ld B1 (by omega) rfl ?_
        refine xg_stp rfl rfl rfl rfl ?_
        refine xg_stp rfl rfl rfl rfl ?_
        refine rf_call B1 rfl rfl rfl rfl rfl rfl (rf_anew B1 (d + 5) F 0 0 (by omega)) ?_
        refine xg_stp rfl rfl rfl rfl ?_
        refine xg_stp rfl rfl rfl rfl ?_
        refine rf_call2 B1 rfl rfl rfl rfl rfl rfl (rf_happens B h23 d (rf_an F) 0 0 n (F 7) k hk.1 hk.2.1) ?_
        have B2 := rf_Bo B (rf_han (rf_an F) (F 7) k n)
        refine xn_inc (e := 1) rfl rfl rfl rfl ?_
        refine xg_stp rfl rfl rfl rfl ?_
        exact hr
