/-! both sides: SET and RESET -/
theorem cn_wro (G : Nat → Nat) (a r k : Nat) {j : Nat} (h : j ≠ 24) (h7 : j % 16 ≠ 7) : cn_wr G a r k j = G j := by
  have h3 : ∀ H : Nat → Nat, cn_w3 H a r k j = H j := fun H => by
    unfold cn_w3 cn_w2
    rw [xn_un _ _ h, xn_un _ _ (by omega), xn_un _ _ (by omega), xn_un _ _ (by omega), xn_un _ _ (by omega)]
  unfold cn_wr
  split
  · exact h3 G
  · rw [h3]
    unfold cn_w1
    rw [xn_un _ _ h, cn_cpn _ _ _ _ _ h7]
theorem cn_wrt (G : Nat → Nat) (a r k : Nat) : cn_wr G a r k 24 ≤ 25 := by
  have h3 : ∀ H : Nat → Nat, cn_w3 H a r k 24 = H 24 + 1 := fun H => by
    unfold cn_w3
    rw [xn_ue]
    unfold cn_w2
    rw [xn_un _ _ (by omega), xn_un _ _ (by omega), xn_un _ _ (by omega), xn_un _ _ (by omega)]
  unfold cn_wr
  split
  · rw [h3]; omega
  · rw [h3]
    have : cn_w1 G 24 = 24 := xn_ue _ _ _
    omega
theorem rr_al {N G : Nat → Nat} {x : Nat} {F : Nat → Nat} {X r : Nat} (h : rr N G x F X) (hr : r < 4) : G (16 * (x * 4 + r) + 1) < 2 ^ N r := by
  apply Nat.lt_pow_two_of_testBit
  intro n hn
  cases hb : (G (16 * (x * 4 + r) + 1)).testBit n with
  | false => rfl
  | true =>
    have := rr_bit (h.2.1 r hr) (h.2.2.1 r n hr hb)
    omega
theorem rr_p24 {n : Nat} (h : n ≤ 24) : 2 ^ n ≤ 16777216 := Nat.pow_le_pow_right (n := 2) (by omega) h
theorem rr_ok {N G : Nat → Nat} {x : Nat} {F : Nat → Nat} {X : Nat} (hS : rr_S N) (hC : rr_C G) (h : rr N G x F X) : cn_ok G x :=
  ⟨fun k hk => by have := rr_al h hk; have := rr_p24 (rr_NS hS hk); omega, fun u hu => by have := hC u hu; omega⟩
theorem rr_lo {N G : Nat → Nat} {x : Nat} {F : Nat → Nat} {X : Nat} (hS : rr_S N) (h : rr N G x F X) : cn_lo G x :=
  fun k hk => by have := rr_al h hk; have := h.2.1 k hk; have := rr_p24 (rr_NS hS hk); omega
theorem rf_vN (F : Nat → Nat) (X o M : Nat) (h1 : ∀ k, 0 < k → k ≤ M → rf_b F X (64 * o + k) ≠ 0) (h2 : rf_b F X (64 * o + M + 1) = 0) : ∀ (m n : Nat), n ≤ M → M < n + m → rf_v F X o m n = M
  | 0, n, h3, h4 => by omega
  | m + 1, n, h3, h4 => by
    unfold rf_v
    rcases Nat.lt_or_ge n M with e | e
    · have := h1 (n + 1) (by omega) (by omega)
      rw [← Nat.add_assoc] at this
      rw [if_neg this]
      exact rf_vN F X o M h1 h2 m (n + 1) (by omega) (by omega)
    · have e2 : n = M := by omega
      subst e2
      rw [if_pos h2]
/-- the vector of a replica's own dots -/
theorem rl_v {t lo bd : Nat} {N F G : Nat → Nat} (h : rl t lo bd N F G) {r : Nat} (hr : r < 4) : rf_v F (205 + 57 * r) r 63 0 = N r := by
  obtain ⟨b1, b2, b3, b4, b5, b6, b7, b8, b9, b10, b11⟩ := h
  have hS : rr_S N := Nat.le_trans b1 b2
  have hN := rr_NS hS hr
  have hb : ∀ k, 0 < k → k ≤ 25 → (rf_b F (205 + 57 * r) (64 * r + k) = 0 ↔ ¬ k ≤ N r) := fun k h0 h1 => by
    rw [rr_b (b8 r (by omega)) (show 64 * r + k < 256 by omega)]
    unfold rr_k
    rw [show (64 * r + k) / 64 = r by omega, show (64 * r + k) % 64 = k by omega, b9 r hr, Nat.testBit_two_pow_sub_one, decide_eq_true_iff]
    omega
  refine rf_vN F _ r (N r) (fun k h0 h1 => ?_) ?_ 63 0 (by omega) (by omega)
  · rw [Ne, hb k h0 (by omega)]; omega
  · have := (hb (N r + 1) (by omega) (by omega)).mpr (by omega)
    rw [← Nat.add_assoc] at this
    exact this
theorem rr_own {n a b : Nat} (ha : a = 2 ^ n - 1) (hb : b < 2 ^ n) : a ||| b = 2 ^ n - 1 := by
  subst ha
  apply Nat.eq_of_testBit_eq
  intro k
  rw [Nat.testBit_or, Nat.testBit_two_pow_sub_one]
  by_cases h : k < n
  · rw [decide_eq_true h, Bool.true_or]
  · rw [decide_eq_false h, Bool.false_or]
    cases hk : b.testBit k with
    | false => rfl
    | true => exact absurd (rr_bit hb hk) h
theorem rr_own1 {n a b : Nat} (ha : a = 2 ^ n - 1) (hb : b < 2 ^ (n + 1)) (hn : b.testBit n = true) : a ||| b = 2 ^ (n + 1) - 1 := by
  subst ha
  apply Nat.eq_of_testBit_eq
  intro k
  rw [Nat.testBit_or, Nat.testBit_two_pow_sub_one, Nat.testBit_two_pow_sub_one]
  rcases Nat.lt_trichotomy k n with h | h | h
  · rw [decide_eq_true h, decide_eq_true (show k < n + 1 by omega), Bool.true_or]
  · subst h
    rw [hn, Bool.or_true, decide_eq_true (show k < k + 1 by omega)]
  · rw [decide_eq_false (show ¬ k < n by omega), decide_eq_false (show ¬ k < n + 1 by omega), Bool.false_or]
    cases hk : b.testBit k with
    | false => rfl
    | true => have := rr_bit hb hk; omega
/-- a change: joined, kept as a delta, written down -/
theorem rl_chg {t lo bd : Nat} {N F G N' F3 Gb : Nat → Nat} {r a q : Nat} (h : rl t lo bd N F G) (ht : t + 1 ≤ 24) (hbd : bd < 500000) (hr : r < 4) (hN : ∀ s, s < 4 → N s ≤ N' s) (hNo : ∀ s, s ≠ r → N' s = N s) (hNS : N' 0 + N' 1 + N' 2 + N' 3 ≤ t + 1)
    (r1 : rr N' Gb (cn_nr G r) F3 3315) (r2 : rr N' Gb r F3 (205 + 57 * r)) (fF : ∀ j, j < 3315 → F3 j = F j)
    (fG : ∀ j, j % 16 ≠ 2 → (1 < j % 16 ∨ j / 16 < cn_nr G r * 4 ∨ cn_nr G r * 4 + 4 ≤ j / 16) → Gb j = cn_nd G r j)
    (hc : ∀ u, u < 256 → u % 64 ≤ N (u / 64) → Gb (16 * u + 2) = G (16 * u + 2)) (hC : rr_C Gb) (own : Gb (16 * (r * 4 + r) + 0) ||| Gb (16 * (cn_nr G r * 4 + r) + 0) = 2 ^ N' r - 1) :
    rf_cok F3 r ∧ cn_mg r (cn_nr G r) 4 0 Gb 24 ≤ 25 ∧ rl (t + 1) lo (bd + 1) N' (rf_wd (rf_chg F3 r) a r q) (cn_wr (cn_mg r (cn_nr G r) 4 0 Gb) a r q) := by
  have h' := h
  obtain ⟨b1, b2, ⟨s1, s2, s3, s4, s5, s6, s7, s8, s9, s10⟩, b4, b5, b6, b7, b8, b9, b10, b11⟩ := h
  have hS' : rr_S N' := Nat.le_trans hNS ht
  have hnr := cn_nrl G hr
  have hnv := cn_nrv G r
  obtain ⟨c1, c2, c3, c4, c5⟩ := b4 r hr
  have hm6 : G (16 * r + 4) % 6 < 6 := Nat.mod_lt _ (by omega)
  have hD : 205 + 57 * (4 + r * 6 + F (12 + r) % 6) = 205 + 57 * cn_nr G r := by rw [hnv, c1]
  have f4 : ∀ j, j < 3201 ∨ (3258 ≤ j ∧ j < 3315) → rf_mer F3 (205 + 57 * r) 3315 j = F j := fun j hj => by
    rw [rf_mero (by omega) (by omega) (by omega)]; exact fF j (by omega)
  have f5 : ∀ j, j < 3201 → (j < 205 + 57 * r ∨ 205 + 57 * r + 57 ≤ j) → rf_ch1 F3 r j = F j := fun j hj h2 => by
    unfold rf_ch1; rw [rf_cfar _ _ _ h2]; exact f4 j (by omega)
  have f5c : ∀ k, k < 57 → rf_ch1 F3 r (205 + 57 * r + k) = rf_mer F3 (205 + 57 * r) 3315 (3201 + k) := fun k hk => by
    unfold rf_ch1 rf_c; rw [if_pos (by omega), Nat.add_sub_cancel_left]
  have f5d : ∀ k, k < 57 → rf_ch1 F3 r (3315 + k) = F3 (3315 + k) := fun k hk => by
    unfold rf_ch1; rw [rf_cfar _ _ _ (by omega), rf_mero (by omega) (by omega) (by omega)]
  have tq : ∃ q, q < 4 ∧ q ≠ r ∧ rf_ch1 F3 r (20 + 4 * r + q) ≤ rf_ch1 F3 r (16 + r) := by
    obtain ⟨q, q1, q2, q3⟩ := b6 r hr
    refine ⟨q, q1, q2, ?_⟩
    rw [f5 _ (by omega) (by omega), f5 _ (by omega) (by omega), (b5 r q hr q1).1, c2]; exact q3
  have e12 : rf_ch1 F3 r (12 + r) = F (12 + r) := f5 _ (by omega) (by omega)
  have e16 : rf_ch1 F3 r (16 + r) = F (16 + r) := f5 _ (by omega) (by omega)
  obtain ⟨t1, t2, t3, t4⟩ := rf_tdv (F := rf_ch1 F3 r) (x := 3315) hr (by omega) (by rw [e12, e16]; omega) (by rw [e12, e16]; omega) tq
  rw [e12] at t1 t2 t3 t4
  rw [hD] at t3 t4
  have g10 : rf_chg F3 r 10 ≤ 25 := by
    show rf_td (rf_ch1 F3 r) r 3315 10 ≤ 25
    rw [t4 10 (by omega) (by omega) (by omega), f5 10 (by omega) (by omega)]; exact s6
  have wd : ∀ j, j ≠ 10 → (j < 36 ∨ 61 ≤ j) → rf_wd (rf_chg F3 r) a r q j = rf_td (rf_ch1 F3 r) r 3315 j := fun j h1 h2 => rf_wdo _ a r q j g10 h1 h2
  have mg : ∀ j, (1 < j % 16 ∨ j / 16 < r * 4 ∨ r * 4 + 4 ≤ j / 16) → cn_mg r (cn_nr G r) 4 0 Gb j = Gb j := fun j hj => cn_mgu r (cn_nr G r) 4 0 Gb j (by omega)
  have g24 : cn_mg r (cn_nr G r) 4 0 Gb 24 ≤ 25 := by
    rw [mg 24 (by omega), fG 24 (by omega) (by omega), cn_ndo G r (by omega) (by omega)]; exact s7
  have hrn : r ≠ cn_nr G r := by omega
  have hmr := rr_merge hS' hC hrn (X := 205 + 57 * r) (Y := 3315) (by omega) (by omega) r2 r1
  have hmc : ∀ u, cn_mg r (cn_nr G r) 4 0 Gb (16 * u + 2) = Gb (16 * u + 2) := fun u => mg _ (by omega)
  refine ⟨⟨rr_mok hS' hC r2 r1, ⟨fun k hk => ?_, ?_, ?_, ?_⟩, g10⟩, g24, ?_⟩
  · rw [f5 _ (by omega) (by omega), (b5 r k hr hk).1]
    have := (b5 r k hr hk).2
    omega
  · rw [e12]; omega
  · rw [e16]; omega
  · rw [e12, e16]; omega
  · refine rl_new h' hr hnr (by omega) ht hN hNo hNS (fun k hk h12 h16 h10 hbk hrow1 hrow2 => ?_) (rf_wdt _ a r q g10) (cn_wrt _ a r q) (fun j j24 j7 j2 j4 j5 jr jn _ => ?_) (fun u hu hn => ?_) (fun u hu => ?_) ?_ ?_ ?_ ?_ ?_ ?_ ?_
    · rw [wd k h10 (by omega), t4 k h12 h16 hrow2]; exact f5 k (by omega) hrow1
    · rw [cn_wro _ a r q j24 j7, mg j jr, fG j j2 jn]; exact cn_ndo G r j4 j5
    · rw [cn_wro _ a r q (by omega) (by omega), hmc]; exact hc u hu hn
    · rw [cn_wro _ a r q (by omega) (by omega), hmc]; exact hC u hu
    · rw [wd (12 + r) (by omega) (by omega), t1, c1]
    · rw [cn_wro _ a r q (by omega) (by omega), mg _ (by omega), fG _ (by omega) (by omega)]; exact cn_nd4 G r
    · rw [wd (16 + r) (by omega) (by omega), t2, cn_wro _ a r q (by omega) (by omega), mg _ (by omega), fG _ (by omega) (by omega), cn_nd5, e16, c1, c2]
    · rw [cn_wro _ a r q (by omega) (by omega), mg _ (by omega), fG _ (by omega) (by omega)]; exact cn_nd5 G r
    · refine rr_frame hmr (fun k hk => ?_) (fun s hs => ⟨cn_wro _ a r q (by omega) (by omega), cn_wro _ a r q (by omega) (by omega)⟩) (fun u _ _ => cn_wro _ a r q (by omega) (by omega)) (fun _ _ => Nat.le_refl _) (by have := rr_c24 hS' (fun u hu => by rw [hmc]; exact hC u hu) hmr; omega)
      rw [wd _ (by omega) (by omega), t4 _ (by omega) (by omega) (by omega)]
      exact f5c k hk
    · refine rr_frame r1 (fun k hk => ?_) (fun s hs => ⟨?_, ?_⟩) (fun u _ _ => ?_) (fun _ _ => Nat.le_refl _) (by have := rr_c24 hS' hC r1; omega)
      · rw [wd _ (by omega) (by omega), t3 k hk]; exact f5d k hk
      · rw [cn_wro _ a r q (by omega) (by omega)]; exact mg _ (by omega)
      · rw [cn_wro _ a r q (by omega) (by omega)]; exact mg _ (by omega)
      · rw [cn_wro _ a r q (by omega) (by omega)]; exact hmc u
    · rw [cn_wro _ a r q (by omega) (by omega), (cn_mgv r (cn_nr G r) hrn 4 0 Gb r (by omega) (by omega) (by omega)).1]; exact own
/-- RESET -/
theorem rl_reset {t lo bd : Nat} {N F G : Nat → Nat} {r q : Nat} (h : rl t lo bd N F G) (ht : t + 1 ≤ 24) (hbd : bd < 500000) (hr : r < 4) (hq : q < 4) :
    rf_cok2 F r q 4294967295 ∧ (cn_ok G r ∧ G (16 * r + 4) < 1000000 ∧ G (16 * r + 5) < 1000000 ∧ cn_ok (cn_nd G r) r ∧ cn_rg G r q 24 ≤ 25) ∧ rl (t + 1) lo (bd + 1) N (rf_clr F r q 4294967295 2) (cn_rv G r q) := by
  have h' := h
  obtain ⟨b1, b2, ⟨s1, s2, s3, s4, s5, s6, s7, s8, s9, s10⟩, b4, b5, b6, b7, b8, b9, b10, b11⟩ := h
  have hS : rr_S N := Nat.le_trans b1 b2
  have hnr := cn_nrl G hr
  obtain ⟨c1, c2, c3, c4, c5⟩ := b4 r hr
  have hrow := b8 r (by omega)
  have c24 := rr_c24 hS b7 hrow
  have hndC : rr_C (cn_nd G r) := fun u hu => by rw [cn_ndo G r (by omega) (by omega)]; exact b7 u hu
  have hnd : rr N (cn_nd G r) r F (205 + 57 * r) := rr_frame hrow (fun _ _ => rfl) (fun s hs => ⟨cn_ndo G r (by omega) (by omega), cn_ndo G r (by omega) (by omega)⟩) (fun u _ _ => cn_ndo G r (by omega) (by omega)) (fun _ _ => Nat.le_refl _) (by omega)
  obtain ⟨l1, l2, l3⟩ := rr_lay (f := 4294967295) hS hndC hr hnd hq (show cn_nr G r ≠ r by omega)
  have ga : ∀ j, (1 < j % 16 ∨ j / 16 < cn_nr G r * 4 ∨ cn_nr G r * 4 + 4 ≤ j / 16) → cn_pg G r q 4294967295 j = cn_nd G r j := fun j hj => cn_gato _ _ _ _ _ hj
  have r2 : rr N (cn_pg G r q 4294967295) r (rf_s1 F r q 4294967295) (205 + 57 * r) := rr_frame hnd (fun k hk => l3 _ (by omega)) (fun s hs => ⟨ga _ (by omega), ga _ (by omega)⟩) (fun u _ _ => ga _ (by omega)) (fun _ _ => Nat.le_refl _) (by omega)
  obtain ⟨k1, k2, k3⟩ := rl_chg (Gb := cn_pg G r q 4294967295) (a := 2) (q := q) h' ht hbd hr (fun _ _ => Nat.le_refl _) (fun _ _ => rfl) (by omega) l1 r2 (fun j hj => l3 j (by omega)) (fun j _ hj => ga j hj) (fun u hu _ => by rw [ga _ (by omega), cn_ndo G r (by omega) (by omega)]) (fun u hu => by rw [ga _ (by omega)]; exact hndC u hu)
    (rr_own (by rw [ga _ (by omega), cn_ndo G r (by omega) (by omega)]; exact b9 r hr) (l1.2.1 r hr))
  exact ⟨⟨by omega, rr_e24 b7 hrow, k1⟩, ⟨rr_ok hS b7 hrow, by omega, by omega, rr_ok hS hndC hnd, k2⟩, k3⟩
/-- SET -/
theorem rl_set {t lo bd : Nat} {N F G : Nat → Nat} {r q f v : Nat} (h : rl t lo bd N F G) (ht : t + 1 ≤ 24) (hbd : bd < 500000) (hr : r < 4) (hq : q < 4) (hf : f < 3) (hv : v < 100) :
    (N r < 25 ∧ G (16 * (r * 4 + r) + 0) = 2 ^ N r - 1 ∧ G (16 * r + 4) < 1000000 ∧ G (16 * r + 5) < 1000000 ∧ cn_ok (cn_nd G r) r ∧ cn_pm G r q f v (N r) 24 ≤ 25) ∧ rf_sok F r q f v ∧
    rl (t + 1) lo (bd + 1) (rr_N1 N r) (rf_st F r q f (rf_nd F r) v) (cn_pl G r q f v (N r)) := by
  have h' := h
  have hvec := rl_v h hr
  obtain ⟨b1, b2, ⟨s1, s2, s3, s4, s5, s6, s7, s8, s9, s10⟩, b4, b5, b6, b7, b8, b9, b10, b11⟩ := h
  have hS : rr_S N := Nat.le_trans b1 b2
  have hNr : N r + 1 ≤ 24 := by
    have h1 : r = 0 ∨ r = 1 ∨ r = 2 ∨ r = 3 := by omega
    rcases h1 with rfl | rfl | rfl | rfl <;> omega
  have hnr := cn_nrl G hr
  obtain ⟨c1, c2, c3, c4, c5⟩ := b4 r hr
  have hrow := b8 r (by omega)
  have c24 := rr_c24 hS b7 hrow
  have hdot : rf_nd F r = 64 * r + (N r + 1) := by unfold rf_nd; rw [hvec]
  have hndC : rr_C (cn_nd G r) := fun u hu => by rw [cn_ndo G r (by omega) (by omega)]; exact b7 u hu
  have hnd : rr N (cn_nd G r) r F (205 + 57 * r) := rr_frame hrow (fun _ _ => rfl) (fun s hs => ⟨cn_ndo G r (by omega) (by omega), cn_ndo G r (by omega) (by omega)⟩) (fun u _ _ => cn_ndo G r (by omega) (by omega)) (fun _ _ => Nat.le_refl _) (by omega)
  obtain ⟨l1, l2, l3⟩ := rr_lay (f := f) hS hndC hr hnd hq (show cn_nr G r ≠ r by omega)
  have ga : ∀ j, (1 < j % 16 ∨ j / 16 < cn_nr G r * 4 ∨ cn_nr G r * 4 + 4 ≤ j / 16) → cn_pg G r q f j = cn_nd G r j := fun j hj => cn_gato _ _ _ _ _ hj
  have hcv : (q * 3 + f) * 100 + v < 1200 := by omega
  have hbe := rr_bear (c := (q * 3 + f) * 100 + v) hS hr hNr l1 l2 hcv (fun s hs => cn_gata _ _ _ _ _ hs)
  have es3 : rf_s3 F r q f (rf_nd F r) v = rf_ad (rf_kn (rf_s1 F r q f) 3315 (64 * r + (N r + 1))) 3315 ((64 * r + (N r + 1)) * 1200 + ((q * 3 + f) * 100 + v)) := by
    unfold rf_s3
    rw [hdot, show (64 * r + (N r + 1)) * 1200 + 300 * q + 100 * f + v = (64 * r + (N r + 1)) * 1200 + ((q * 3 + f) * 100 + v) by omega]
    rfl
  have hs2 : rf_s2 F r q f (rf_nd F r) 3323 = 0 := by
    unfold rf_s2
    rw [hdot, xn_un _ _ (by omega)]
    exact l2
  have f3 : ∀ j, j < 3315 → rf_s3 F r q f (rf_nd F r) v j = F j := fun j hj => by
    rw [es3]
    have hk8 : rf_kn (rf_s1 F r q f) 3315 (64 * r + (N r + 1)) (3315 + 8) = 0 := by unfold rf_kn; rw [xn_un _ _ (by omega)]; exact l2
    rw [rf_ado _ _ _ _ (by omega) (by omega)]
    unfold rf_kn
    rw [xn_un _ _ (by omega)]
    exact l3 j (by omega)
  have gb : ∀ j, j % 16 ≠ 2 → (1 < j % 16 ∨ j / 16 < cn_nr G r * 4 ∨ cn_nr G r * 4 + 4 ≤ j / 16) → cn_pb G r q f v (N r) j = cn_nd G r j := fun j h2 hj => by
    unfold cn_pb cn_be cn_e2 cn_e1
    rw [xn_un _ _ (by omega), xn_un _ _ (by omega), xn_un _ _ (by omega)]
    exact ga j hj
  have gc : ∀ u, u ≠ 64 * r + (N r + 1) → cn_pb G r q f v (N r) (16 * u + 2) = G (16 * u + 2) := fun u hu => by
    unfold cn_pb cn_be cn_e2 cn_e1
    rw [xn_un _ _ (by omega), xn_un _ _ (by omega), xn_un _ _ (by omega), ga _ (by omega)]
    exact cn_ndo G r (by omega) (by omega)
  have gd : cn_pb G r q f v (N r) (16 * (64 * r + (N r + 1)) + 2) = (q * 3 + f) * 100 + v := by
    unfold cn_pb cn_be
    rw [show r * 64 + (N r + 1) = 64 * r + (N r + 1) by omega]
    exact xn_ue _ _ _
  have r1 : rr (rr_N1 N r) (cn_pb G r q f v (N r)) (cn_nr G r) (rf_s3 F r q f (rf_nd F r) v) 3315 := by rw [es3]; exact hbe
  have r2 : rr (rr_N1 N r) (cn_pb G r q f v (N r)) r (rf_s3 F r q f (rf_nd F r) v) (205 + 57 * r) := rr_frame hrow (fun k hk => f3 _ (by omega)) (fun s hs => ⟨by rw [gb _ (by omega) (by omega), cn_ndo G r (by omega) (by omega)], by rw [gb _ (by omega) (by omega), cn_ndo G r (by omega) (by omega)]⟩) (fun u hu ua => gc u (fun e => by
    have := rr_kN hrow hu (rr_ak hrow hu ua)
    subst e
    rw [show (64 * r + (N r + 1)) / 64 = r by omega] at this
    omega)) (fun s _ => rr_N1l N r s) (by omega)
  have hN1r : rr_N1 N r r = N r + 1 := if_pos rfl
  have hbit : (cn_pb G r q f v (N r) (16 * (cn_nr G r * 4 + r) + 0)).testBit (N r) = true := by
    unfold cn_pb cn_be cn_e2 cn_e1
    rw [xn_un _ _ (by omega), xn_un _ _ (by omega), xn_ue, Nat.testBit_or, Nat.one_mul, Nat.add_sub_cancel, Nat.testBit_two_pow, decide_eq_true rfl, Bool.or_true]
  obtain ⟨k1, k2, k3⟩ := rl_chg (Gb := cn_pb G r q f v (N r)) (a := 0) (q := q) h' ht hbd hr (fun s _ => rr_N1l N r s) (fun s hs => if_neg hs) (by rw [rr_N1S hr]; omega) r1 r2 f3 gb (fun u hu hn => gc u (fun e => by
      subst e
      rw [show (64 * r + (N r + 1)) / 64 = r by omega] at hn
      omega)) (fun u hu => by
      by_cases e : u = 64 * r + (N r + 1)
      · subst e; rw [gd]; exact hcv
      · rw [gc u e]; exact b7 u hu)
    (by
      rw [hN1r]
      refine rr_own1 (by rw [gb _ (by omega) (by omega), cn_ndo G r (by omega) (by omega)]; exact b9 r hr) ?_ hbit
      have := r1.2.1 r hr
      rw [hN1r] at this
      exact this)
  exact ⟨⟨by omega, b9 r hr, by omega, by omega, rr_ok hS hndC hnd, k2⟩, ⟨fun t ht => Nat.lt_trans (rr_w24 hS hrow t ht) (by omega), by omega, rr_e24 b7 hrow, by omega, k1⟩, k3⟩
