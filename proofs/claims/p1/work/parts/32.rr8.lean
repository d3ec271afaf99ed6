/-! both sides: what comes -/
theorem rf_sdv : ∀ (m k : Nat) (F : Nat → Nat) (j : Nat), k ≤ j → j < k + m → rf_sd m k F j = F (j + 6)
  | 0, _, _, _, h1, h2 => by omega
  | m + 1, k, F, j, h1, h2 => by
    unfold rf_sd
    rcases Nat.lt_or_ge k j with e | e
    · rw [rf_sdv m (k + 1) _ j (by omega) (by omega), xn_un _ _ (by omega)]
    · have : j = k := by omega
      subst this
      rw [rf_sdo m (j + 1) _ j (by omega), xn_ue]
theorem rf_cfv (F : Nat → Nat) (h0 : 0 < F 11) (h24 : F 11 ≤ 24) (h10 : F 10 ≤ 25) : rf_cfP F 11 = F 11 - 1 ∧ rf_cfP F 10 ≤ 25 ∧ (∀ i k, i < F 11 - 1 → k < 6 → rf_cfP F (61 + 6 * i + k) = F (61 + 6 * (i + 1) + k)) ∧ (∀ j, j ≠ 10 → j ≠ 11 → ¬ (36 ≤ j ∧ j < 205) → rf_cfP F j = F j) := by
  have e11 : rf_c1 F 11 = F 11 - 1 := xn_ue _ _ _
  have s11 : rf_sd (6 * (F 11 - 1)) 61 (rf_c1 F) 11 = F 11 - 1 := by rw [rf_sdo _ _ _ _ (by omega), e11]
  have z : ∀ j, (j < 61 + 6 * (F 11 - 1) ∨ 61 + 6 * (F 11 - 1) + 6 ≤ j) → rf_zd 6 0 (rf_sd (6 * (F 11 - 1)) 61 (rf_c1 F)) j = rf_sd (6 * (F 11 - 1)) 61 (rf_c1 F) j := fun j hj => rf_zdo _ _ _ _ (by rw [s11]; omega)
  have z10 : rf_zd 6 0 (rf_sd (6 * (F 11 - 1)) 61 (rf_c1 F)) 10 ≤ 25 := by
    rw [z 10 (by omega), rf_sdo _ _ _ _ (by omega)]; exact h10
  have w : ∀ j, j ≠ 10 → (j < 36 ∨ 61 ≤ j) → rf_cfP F j = rf_zd 6 0 (rf_sd (6 * (F 11 - 1)) 61 (rf_c1 F)) j := fun j h1 h2 => rf_wdo _ _ _ _ _ z10 h1 h2
  refine ⟨?_, rf_wdt _ _ _ _ z10, fun i k hi hk => ?_, fun j h1 h2 h3 => ?_⟩
  · rw [w 11 (by omega) (by omega), z 11 (by omega), s11]
  · rw [w _ (by omega) (by omega), z _ (by omega), rf_sdv _ _ _ _ (by omega) (by omega)]
    unfold rf_c1
    rw [xn_un _ _ (by omega)]
    exact congrArg _ (by omega)
  · rw [w j h1 (by omega), z j (by omega), rf_sdo _ _ _ _ (by omega)]
    exact xn_un _ _ h2
theorem cn_h5v (G : Nat → Nat) (h24 : G 8 ≤ 24) : cn_h5 G 8 = G 8 - 1 ∧ cn_h5 G 24 ≤ 25 ∧ (∀ j, j < 5 * (G 8 - 1) → cn_h5 G (16 * j + 6) = G (16 * (j + 5) + 6)) ∧
    (∀ i s, i < G 8 - 1 → s < 4 → cn_h5 G (16 * ((28 + i) * 4 + s) + 0) = G (16 * ((29 + i) * 4 + s) + 0) ∧ cn_h5 G (16 * ((28 + i) * 4 + s) + 1) = G (16 * ((29 + i) * 4 + s) + 1)) ∧
    (∀ s, s < 4 → cn_h5 G (16 * (53 * 4 + s) + 0) = G (16 * (28 * 4 + s) + 0) ∧ cn_h5 G (16 * (53 * 4 + s) + 1) = G (16 * (28 * 4 + s) + 1)) ∧
    (∀ j, j ≠ 8 → j ≠ 24 → j % 16 ≠ 6 → j % 16 ≠ 7 → (1 < j % 16 ∨ j / 16 < 112) → cn_h5 G j = G j) := by
  have e3 := cn_h3a G
  have w : ∀ j, j ≠ 24 → j % 16 ≠ 7 → cn_h5 G j = cn_h4 G j := fun j h1 h2 => cn_wro _ _ _ _ h1 h2
  have m : ∀ j, 1 < j % 16 → cn_h4 G j = cn_h3 G j := fun j hj => cn_mvo _ _ _ _ hj
  have c : ∀ j, j % 16 ≠ 6 → cn_h3 G j = cn_h2 G j := fun j hj => cn_cpn _ _ _ _ _ hj
  have row : ∀ j, j % 16 < 2 → cn_h3 G j = cn_mv G 28 53 1 j := fun j hj => by
    rw [c j (by omega)]
    exact xn_un _ _ (by omega)
  refine ⟨?_, cn_wrt _ _ _ _, fun j hj => ?_, fun i s hi hs => ?_, fun s hs => ?_, fun j h1 h2 h3 h4 h5 => ?_⟩
  · rw [w 8 (by omega) (by omega), m 8 (by omega), e3]
  · rw [w _ (by omega) (by omega), m _ (by omega)]
    unfold cn_h3
    rw [cn_h2a]
    unfold cn_cp
    rw [if_pos (by omega)]
    unfold cn_h2 cn_h1
    rw [xn_un _ _ (by omega), cn_mvo _ _ _ _ (by omega)]
    exact congrArg _ (by omega)
  · rw [w _ (by omega) (by omega), w _ (by omega) (by omega)]
    have := cn_mvg (cn_h3 G) 29 28 (cn_h3 G 8) (28 + i) s (by omega) (by omega) hs
    unfold cn_h4
    rw [this.1, this.2, row _ (by omega), row _ (by omega), show 29 + (28 + i - 28) = 29 + i by omega]
    rw [cn_mvn _ _ _ _ (by omega), cn_mvn _ _ _ _ (by omega)]
    exact ⟨rfl, rfl⟩
  · rw [w _ (by omega) (by omega), w _ (by omega) (by omega)]
    unfold cn_h4
    rw [cn_mvn _ _ _ _ (by omega), cn_mvn _ _ _ _ (by omega), row _ (by omega), row _ (by omega)]
    have := cn_mvg G 28 53 1 53 s (by omega) (by omega) hs
    rw [Nat.sub_self, Nat.add_zero] at this
    exact this
  · rw [w j h2 h4]
    unfold cn_h4
    rw [cn_mvn _ _ _ _ (by omega), c j h3]
    unfold cn_h2 cn_h1
    rw [xn_un _ _ h1, cn_mvn _ _ _ _ (by omega)]
/-- the first in flight is taken out -/
theorem rl_pop {t lo bd : Nat} {N F G : Nat → Nat} (h : rl t lo bd N F G) (h0 : 0 < G 8) : rl t lo bd N (rf_cfP F) (cn_h5 G) := by
  have h' := h
  obtain ⟨b1, b2, ⟨s1, s2, s3, s4, s5, s6, s7, s8, s9, s10⟩, b4, b5, b6, b7, b8, b9, b10, b11⟩ := h
  have hS : rr_S N := Nat.le_trans b1 b2
  obtain ⟨p1, p2, p3, p4⟩ := rf_cfv F (by omega) (by omega) s6
  obtain ⟨q1, q2, q3, q4, q5, q6⟩ := cn_h5v G (by omega)
  have e40 : cn_h5 G 40 = G 40 := q6 40 (by omega) (by omega) (by omega) (by omega) (by omega)
  have eg : ∀ j u, 2 ≤ u → u < 6 → cn_h5 G (16 * j + u) = G (16 * j + u) := fun j u h1 h2 => q6 _ (by omega) (by omega) (by omega) (by omega) (by omega)
  have er : ∀ x X, x < 28 → 205 ≤ X → rr N G x F X → rr N (cn_h5 G) x (rf_cfP F) X := fun x X hx hX hr =>
    rr_frame hr (fun k hk => p4 _ (by omega) (by omega) (by omega)) (fun s hs => ⟨q6 _ (by omega) (by omega) (by omega) (by omega) (by omega), q6 _ (by omega) (by omega) (by omega) (by omega) (by omega)⟩) (fun u _ _ => eg u 2 (by omega) (by omega)) (fun _ _ => Nat.le_refl _) (by have := rr_c24 hS b7 hr; omega)
  have e6 : ∀ i k, i < G 8 - 1 → k < 5 → cn_h5 G (16 * (i * 5 + k) + 6) = G (16 * ((i + 1) * 5 + k) + 6) := fun i k hi hk => by
    rw [q3 _ (by omega)]
    exact congrArg _ (by omega)
  have e60 : ∀ i, i < G 8 - 1 → cn_h5 G (16 * (i * 5) + 6) = G (16 * ((i + 1) * 5) + 6) := fun i hi => by
    rw [q3 _ (by omega)]
    exact congrArg _ (by omega)
  refine ⟨b1, b2, ⟨?_, ?_, ?_, ?_, ?_, p2, q2, by omega, by omega, by omega⟩, fun s hs => ?_, fun s q hs hq => ?_, fun s hs => ?_, fun u hu => ?_, fun x hx => er x _ hx (by omega) (b8 x hx), fun s hs => ?_, fun i hi => ?_, fun i j hij hj => ?_⟩
  · rw [p4 1 (by omega) (by omega) (by omega)]; exact s1
  · rw [p4 5 (by omega) (by omega) (by omega)]; exact s2
  · rw [p4 6 (by omega) (by omega) (by omega), e40]; exact s3
  · rw [p4 7 (by omega) (by omega) (by omega), q6 56 (by omega) (by omega) (by omega) (by omega) (by omega)]; exact s4
  · rw [p4 7 (by omega) (by omega) (by omega)]; exact s5
  · obtain ⟨c1, c2, c3, c4, c5⟩ := b4 s hs
    unfold rl_m
    rw [p4 (12 + s) (by omega) (by omega) (by omega), p4 (16 + s) (by omega) (by omega) (by omega), eg s 4 (by omega) (by omega), eg s 5 (by omega) (by omega)]
    exact ⟨c1, c2, c3, c4, c5⟩
  · rw [p4 (20 + 4 * s + q) (by omega) (by omega) (by omega), eg _ 3 (by omega) (by omega), eg _ 4 (by omega) (by omega)]
    exact b5 s q hs hq
  · obtain ⟨q, r1, r2, r3⟩ := b6 s hs
    exact ⟨q, r1, r2, by rw [eg _ 3 (by omega) (by omega), eg _ 5 (by omega) (by omega)]; exact r3⟩
  · rw [eg _ 2 (by omega) (by omega)]; exact b7 u hu
  · rw [q6 _ (by omega) (by omega) (by omega) (by omega) (by omega)]; exact b9 s hs
  · rw [q1] at hi
    obtain ⟨f1, f3, f5, f6, f10', f11', f12⟩ := b10 (i + 1) (by omega)
    unfold rl_f
    rw [p3 i 0 (by omega) (by omega), p3 i 1 (by omega) (by omega), p3 i 2 (by omega) (by omega), p3 i 3 (by omega) (by omega), p3 i 4 (by omega) (by omega), p3 i 5 (by omega) (by omega), e60 i hi, e6 i 1 hi (by omega), e6 i 2 hi (by omega), e6 i 3 hi (by omega), e6 i 4 hi (by omega), e40, eg _ 4 (by omega) (by omega), eg _ 4 (by omega) (by omega)]
    refine ⟨f1, f3, f5, f6, f10', f11', ?_⟩
    rcases f12 with p | ⟨r1, r2, r3, r4⟩
    · exact Or.inl p
    · refine Or.inr ⟨r1, r2, r3, ?_⟩
      rw [show 28 + (i + 1) = 29 + i by omega] at r4
      exact rr_frame r4 (fun k hk => p4 _ (by omega) (by omega) (by omega)) (fun s hs => q4 i s hi hs) (fun u _ _ => eg u 2 (by omega) (by omega)) (fun _ _ => Nat.le_refl _) (by have := rr_c24 hS b7 r4; omega)
  · rw [q1] at hj
    rw [e6 i 2 (by omega) (by omega), e6 j 2 (by omega) (by omega)]
    exact b11 (i + 1) (j + 1) (by omega) (by omega)
theorem rl_ltm {F G : Nat → Nat} {r : Nat} (h : ∀ k, k < 4 → F (20 + 4 * r + k) = G (16 * (r * 4 + k) + 3)) : ∀ (m k v : Nat), k + m ≤ 4 → rf_lt F r m k v = cn_lm G r m k v
  | 0, _, _, _ => rfl
  | m + 1, k, v, hk => by
    unfold rf_lt cn_lm
    rw [h k (by omega)]
    have e : (if k = r then v else if G (16 * (r * 4 + k) + 3) < v then G (16 * (r * 4 + k) + 3) else v) = (if k = r then v else min v (G (16 * (r * 4 + k) + 3))) := by
      split
      · rfl
      · split <;> omega
    rw [e]
    exact rl_ltm h m (k + 1) _ (by omega)
theorem cn_lmx (G : Nat → Nat) (r : Nat) : ∀ (m k v : Nat), cn_lm G r m k v = v ∨ ∃ q, k ≤ q ∧ q < k + m ∧ q ≠ r ∧ cn_lm G r m k v = G (16 * (r * 4 + q) + 3)
  | 0, _, _ => Or.inl rfl
  | m + 1, k, v => by
    unfold cn_lm
    rcases cn_lmx G r m (k + 1) (if k = r then v else min v (G (16 * (r * 4 + k) + 3))) with e | ⟨q, h1, h2, h3, h4⟩
    · rw [e]
      by_cases hk : k = r
      · rw [if_pos hk]; exact Or.inl rfl
      · rw [if_neg hk]
        rcases Nat.le_total v (G (16 * (r * 4 + k) + 3)) with g | g
        · exact Or.inl (Nat.min_eq_left g)
        · exact Or.inr ⟨k, Nat.le_refl _, by omega, hk, Nat.min_eq_right g⟩
    · exact Or.inr ⟨q, by omega, by omega, h3, h4⟩
/-- what is acked is as much -/
theorem rl_ack {t lo bd : Nat} {N F G : Nat → Nat} {p q u : Nat} (h : rl t lo bd N F G) (hbd : bd < 500000) (hp : p < 4) (hq : q < 4) (hpq : p ≠ q) (hu : u ≤ G (16 * q + 4)) :
    rf_dak F p q u ∧ rl t lo bd N (rf_da (rf_cA1 F p q u) q) (cn_ak G q p u) := by
  obtain ⟨b1, b2, ⟨s1, s2, s3, s4, s5, s6, s7, s8, s9, s10⟩, b4, b5, b6, b7, b8, b9, b10, b11⟩ := h
  have hS : rr_S N := Nat.le_trans b1 b2
  obtain ⟨c1, c2, c3, c4, c5⟩ := b4 q hq
  obtain ⟨a1, a2⟩ := b5 q p hq hp
  have fA : ∀ j, j ≠ 20 + 4 * q + p → rf_cA1 F p q u j = F j := fun j hj => by
    unfold rf_cA1
    split
    · rfl
    · exact xn_un _ _ hj
  have fA1 : rf_cA1 F p q u (20 + 4 * q + p) = max (G (16 * (q * 4 + p) + 3)) u := by
    unfold rf_cA1
    split
    · omega
    · rw [xn_ue]; omega
  have gA : ∀ j, j ≠ 16 * (q * 4 + p) + 3 → cn_a1 G q p u j = G j := fun j hj => xn_un _ _ hj
  have gA1 : cn_a1 G q p u (16 * (q * 4 + p) + 3) = max (G (16 * (q * 4 + p) + 3)) u := xn_ue _ _ _
  have hk : ∀ k, k < 4 → rf_cA1 F p q u (20 + 4 * q + k) = cn_a1 G q p u (16 * (q * 4 + k) + 3) := fun k hk => by
    by_cases e : k = p
    · subst e; rw [fA1, gA1]
    · rw [fA _ (by omega), gA _ (by omega)]; exact (b5 q k hq hk).1
  have hkm : ∀ k, k < 4 → cn_a1 G q p u (16 * (q * 4 + k) + 3) ≤ G (16 * q + 4) := fun k hk => by
    by_cases e : k = p
    · subst e; rw [gA1]; omega
    · rw [gA _ (by omega)]; exact (b5 q k hq hk).2
  have e12 : rf_cA1 F p q u (12 + q) = G (16 * q + 4) := by rw [fA _ (by omega)]; exact c1
  have e16 : rf_cA1 F p q u (16 + q) = G (16 * q + 5) := by rw [fA _ (by omega)]; exact c2
  have g4 : cn_a1 G q p u (16 * q + 4) = G (16 * q + 4) := gA _ (by omega)
  have g5 : cn_a1 G q p u (16 * q + 5) = G (16 * q + 5) := gA _ (by omega)
  have hlt : rf_lt (rf_cA1 F p q u) q 4 0 (G (16 * q + 4)) = cn_lm (cn_a1 G q p u) q 4 0 (G (16 * q + 4)) := rl_ltm hk 4 0 _ (by omega)
  have hle := cn_lmle (cn_a1 G q p u) q 4 0 (G (16 * q + 4))
  have d16 : rf_da (rf_cA1 F p q u) q (16 + q) = max (G (16 * q + 5)) (cn_lm (cn_a1 G q p u) q 4 0 (G (16 * q + 4))) := by
    unfold rf_da
    rw [e12, e16, hlt]
    split
    · rw [e16]; omega
    · rw [xn_ue]; omega
  have dO : ∀ j, j ≠ 16 + q → rf_da (rf_cA1 F p q u) q j = rf_cA1 F p q u j := fun j hj => by
    unfold rf_da
    split
    · rfl
    · exact xn_un _ _ hj
  have k5 : cn_ak G q p u (16 * q + 5) = max (G (16 * q + 5)) (cn_lm (cn_a1 G q p u) q 4 0 (G (16 * q + 4))) := by
    unfold cn_ak
    rw [xn_ue, g5, g4]
  have kO : ∀ j, j ≠ 16 * q + 5 → cn_ak G q p u j = cn_a1 G q p u j := fun j hj => xn_un _ _ hj
  have fO : ∀ j, j ≠ 16 + q → j ≠ 20 + 4 * q + p → rf_da (rf_cA1 F p q u) q j = F j := fun j h1 h2 => by rw [dO j h1, fA j h2]
  have gO : ∀ j, j ≠ 16 * q + 5 → j ≠ 16 * (q * 4 + p) + 3 → cn_ak G q p u j = G j := fun j h1 h2 => by rw [kO j h1, gA j h2]
  have er : ∀ x X, x < 52 → 205 ≤ X → rr N G x F X → rr N (cn_ak G q p u) x (rf_da (rf_cA1 F p q u) q) X := fun x X hx hX hr =>
    rr_frame hr (fun k hk => fO _ (by omega) (by omega)) (fun s hs => ⟨gO _ (by omega) (by omega), gO _ (by omega) (by omega)⟩) (fun u _ _ => gO _ (by omega) (by omega)) (fun _ _ => Nat.le_refl _) (by have := rr_c24 hS b7 hr; omega)
  refine ⟨⟨by rw [a1]; omega, fun k hk4 => by rw [hk k hk4]; have := hkm k hk4; omega, by omega, by omega⟩, b1, b2, ⟨?_, ?_, ?_, ?_, ?_, ?_, ?_, ?_, ?_, ?_⟩, fun s hs => ?_, fun s k hs hk4 => ?_, fun s hs => ?_, fun u hu => ?_, fun x hx => er x _ (by omega) (by omega) (b8 x hx), fun s hs => ?_, fun i hi => ?_, fun i j hij hj => ?_⟩
  · rw [fO 1 (by omega) (by omega)]; exact s1
  · rw [fO 5 (by omega) (by omega)]; exact s2
  · rw [fO 6 (by omega) (by omega), gO 40 (by omega) (by omega)]; exact s3
  · rw [fO 7 (by omega) (by omega), gO 56 (by omega) (by omega)]; exact s4
  · rw [fO 7 (by omega) (by omega)]; exact s5
  · rw [fO 10 (by omega) (by omega)]; exact s6
  · rw [gO 24 (by omega) (by omega)]; exact s7
  · rw [fO 11 (by omega) (by omega), gO 8 (by omega) (by omega)]; exact s8
  · rw [gO 8 (by omega) (by omega)]; exact s9
  · rw [gO 40 (by omega) (by omega)]; exact s10
  · by_cases e : s = q
    · subst e
      refine ⟨?_, by rw [d16, k5], ?_, ?_, ?_⟩
      · rw [dO _ (by omega), e12, kO _ (by omega), g4]
      · rw [k5, kO _ (by omega), g4]; omega
      · rw [k5, kO _ (by omega), g4]; omega
      · rw [kO _ (by omega), g4]; exact c5
    · obtain ⟨d1, d2, d3, d4, d5⟩ := b4 s hs
      unfold rl_m
      rw [fO (12 + s) (by omega) (by omega), fO (16 + s) (by omega) (by omega), gO (16 * s + 4) (by omega) (by omega), gO (16 * s + 5) (by omega) (by omega)]
      exact ⟨d1, d2, d3, d4, d5⟩
  · by_cases e : s = q
    · subst e
      rw [dO _ (by omega), hk k hk4, kO _ (by omega), kO _ (by omega), g4]
      exact ⟨rfl, hkm k hk4⟩
    · rw [fO _ (by omega) (by omega), gO _ (by omega) (by omega), gO _ (by omega) (by omega)]
      exact b5 s k hs hk4
  · by_cases e : s = q
    · subst e
      rcases cn_lmx (cn_a1 G s p u) s 4 0 (G (16 * s + 4)) with g | ⟨k, h1, h2, h3, h4⟩
      · refine ⟨p, hp, hpq, ?_⟩
        rw [k5, g, kO _ (by omega)]
        have := hkm p hp
        omega
      · refine ⟨k, by omega, h3, ?_⟩
        rw [k5, h4, kO _ (by omega)]
        omega
    · obtain ⟨k, r1, r2, r3⟩ := b6 s hs
      exact ⟨k, r1, r2, by rw [gO _ (by omega) (by omega), gO _ (by omega) (by omega)]; exact r3⟩
  · rw [gO _ (by omega) (by omega)]; exact b7 u hu
  · rw [gO _ (by omega) (by omega)]; exact b9 s hs
  · rw [gO 8 (by omega) (by omega)] at hi
    obtain ⟨f1, f3, f5, f6, f10', f11', f12⟩ := b10 i hi
    have hF : ∀ k, k < 6 → rf_da (rf_cA1 F p q u) q (61 + 6 * i + k) = F (61 + 6 * i + k) := fun k hk => fO _ (by omega) (by omega)
    have e6 : ∀ j, cn_ak G q p u (16 * j + 6) = G (16 * j + 6) := fun j => gO _ (by omega) (by omega)
    unfold rl_f
    rw [hF 0 (by omega), hF 1 (by omega), hF 2 (by omega), hF 3 (by omega), hF 4 (by omega), hF 5 (by omega), e6, e6, e6, e6, e6, gO 40 (by omega) (by omega), gO (16 * G (16 * (i * 5 + 1) + 6) + 4) (by omega) (by omega), gO (16 * G (16 * (i * 5) + 6) + 4) (by omega) (by omega)]
    refine ⟨f1, f3, f5, f6, f10', f11', ?_⟩
    rcases f12 with z | ⟨r1, r2, r3, r4⟩
    · exact Or.inl z
    · exact Or.inr ⟨r1, r2, r3, er _ _ (by omega) (by omega) r4⟩
  · rw [gO 8 (by omega) (by omega)] at hj
    rw [gO _ (by omega) (by omega), gO _ (by omega) (by omega)]; exact b11 i j hij hj
/-- a state that comes -/
theorem rl_abs {t lo bd : Nat} {N F G : Nat → Nat} {q X : Nat} (h : rl t lo bd N F G) (hbd : bd < 500000) (hq : q < 4) (hX : 1801 ≤ X ∧ X + 57 ≤ 3169) (hx : rr N G 53 F X) :
    rf_mok F (205 + 57 * q) X ∧ rf_alk (rf_cJ0 F q X) 3201 ∧ rf_alk (rf_cJ0 F q X) (205 + 57 * q) ∧ rf_tok (rf_cJ1 F q X) q ∧ cn_lo (cn_b5 G q) 54 ∧ cn_lo (cn_b5 G q) q ∧
    rl t lo (bd + 1) N (rf_cJ F q X) (cn_ab G q) ∧ (∀ j, 1 < j % 16 → j % 16 ≠ 4 → j % 16 ≠ 5 → cn_ab G q j = G j) ∧ (∀ s, s ≠ q → cn_ab G q (16 * s + 4) = G (16 * s + 4)) := by
  have h' := h
  obtain ⟨b1, b2, ⟨s1, s2, s3, s4, s5, s6, s7, s8, s9, s10⟩, b4, b5, b6, b7, b8, b9, b10, b11⟩ := h
  have hS : rr_S N := Nat.le_trans b1 b2
  obtain ⟨c1, c2, c3, c4, c5⟩ := b4 q hq
  have hrow := b8 q (by omega)
  have cr := rr_c24 hS b7 hrow
  have cx := rr_c24 hS b7 hx
  have mv : ∀ j, (1 < j % 16 ∨ j / 16 < 216 ∨ 220 ≤ j / 16) → cn_mv G q 54 1 j = G j := fun j hj => cn_mvn _ _ _ _ (by omega)
  have mv54 : ∀ s, s < 4 → cn_mv G q 54 1 (16 * (54 * 4 + s) + 0) = G (16 * (q * 4 + s) + 0) ∧ cn_mv G q 54 1 (16 * (54 * 4 + s) + 1) = G (16 * (q * 4 + s) + 1) := fun s hs => by
    have := cn_mvg G q 54 1 54 s (by omega) (by omega) hs
    rw [Nat.sub_self, Nat.add_zero] at this
    exact this
  have hCm : rr_C (cn_mv G q 54 1) := fun u hu => by rw [mv _ (by omega)]; exact b7 u hu
  have r54 : rr N (cn_mv G q 54 1) 54 F (205 + 57 * q) := rr_frame hrow (fun _ _ => rfl) mv54 (fun u _ _ => mv _ (by omega)) (fun _ _ => Nat.le_refl _) (by omega)
  have r53 : rr N (cn_mv G q 54 1) 53 F X := rr_frame hx (fun _ _ => rfl) (fun s hs => ⟨mv _ (by omega), mv _ (by omega)⟩) (fun u _ _ => mv _ (by omega)) (fun _ _ => Nat.le_refl _) (by omega)
  have rJ : rr N (cn_b5 G q) 54 (rf_cJ0 F q X) 3201 := rr_merge hS hCm (show 54 ≠ 53 by omega) (by omega) (by omega) r54 r53
  have g5o : ∀ j, (1 < j % 16 ∨ j / 16 < 216 ∨ 220 ≤ j / 16) → cn_b5 G q j = G j := fun j hj => by
    unfold cn_b5
    rw [cn_mgu _ _ _ _ _ _ (by omega)]
    exact mv j hj
  have f0 : ∀ j, j < 3201 ∨ 3258 ≤ j → rf_cJ0 F q X j = F j := fun j hj => rf_mero (by omega) (by omega) hj
  have rq : rr N (cn_b5 G q) q (rf_cJ0 F q X) (205 + 57 * q) := rr_frame hrow (fun k hk => f0 _ (by omega)) (fun s hs => ⟨g5o _ (by omega), g5o _ (by omega)⟩) (fun u _ _ => g5o _ (by omega)) (fun _ _ => Nat.le_refl _) (by omega)
  have hC5 : rr_C (cn_b5 G q) := fun u hu => by rw [g5o _ (by omega)]; exact b7 u hu
  have hal := rr_alike hS hC5 rJ rq
  have cJ := rr_c24 hS hC5 rJ
  have alk : ∀ Y y, rr N (cn_b5 G q) y (rf_cJ0 F q X) Y → rf_alk (rf_cJ0 F q X) Y := fun Y y hr k hk => by
    have cY := rr_c24 hS hC5 hr
    rcases Nat.lt_or_ge k 8 with e | e
    · have := rr_w24 hS hr k e; omega
    · rcases Nat.lt_or_ge 8 k with e2 | e2
      · have e3 : Y + k = Y + 9 + (k - 9) := by omega
        rw [e3]
        rcases Nat.lt_or_ge (k - 9) (rf_cJ0 F q X (Y + 8)) with e4 | e4
        · have := rr_e24 hC5 hr _ e4; omega
        · rw [hr.2.2.2.2.2.2 _ e4 (by omega)]; omega
      · have : k = 8 := by omega
        subst this; omega
  have f1 : ∀ j, j < 3201 ∨ 3258 ≤ j → (j < 205 + 57 * q ∨ 205 + 57 * q + 57 ≤ j) → rf_cJ1 F q X j = F j := fun j hj h2 => by
    unfold rf_cJ1; rw [rf_cfar _ _ _ h2]; exact f0 j hj
  have e12 : rf_cJ1 F q X (12 + q) = F (12 + q) := f1 _ (by omega) (by omega)
  have e16 : rf_cJ1 F q X (16 + q) = F (16 + q) := f1 _ (by omega) (by omega)
  have tok : rf_tok (rf_cJ1 F q X) q := ⟨fun k hk => by
    rw [f1 _ (by omega) (by omega), (b5 q k hq hk).1]
    have := (b5 q k hq hk).2
    omega, by rw [e12]; omega, by rw [e16]; omega, by rw [e12, e16]; omega⟩
  have g6o : ∀ j, (1 < j % 16 ∨ ((j / 16 < q * 4 ∨ q * 4 + 4 ≤ j / 16) ∧ (j / 16 < 216 ∨ 220 ≤ j / 16))) → cn_b6 G q j = G j := fun j hj => by
    unfold cn_b6
    rw [cn_mvn _ _ _ _ (by omega)]
    exact g5o j (by omega)
  have g6q : ∀ s, s < 4 → cn_b6 G q (16 * (q * 4 + s) + 0) = cn_b5 G q (16 * (54 * 4 + s) + 0) ∧ cn_b6 G q (16 * (q * 4 + s) + 1) = cn_b5 G q (16 * (54 * 4 + s) + 1) := fun s hs => by
    have := cn_mvg (cn_b5 G q) 54 q 1 q s (by omega) (by omega) hs
    rw [Nat.sub_self, Nat.add_zero] at this
    exact this
  have g64 : cn_b6 G q (16 * q + 4) = G (16 * q + 4) := g6o _ (by omega)
  have g65 : cn_b6 G q (16 * q + 5) = G (16 * q + 5) := g6o _ (by omega)
  have hnr := cn_nrl (cn_b6 G q) hq
  have hnv := cn_nrv (cn_b6 G q) q
  rw [g64] at hnv
  have gN : ∀ j, (1 < j % 16 ∨ j / 16 < cn_nr (cn_b6 G q) q * 4 ∨ cn_nr (cn_b6 G q) q * 4 + 4 ≤ j / 16) → cn_mv (cn_nd (cn_b6 G q) q) 53 (cn_nr (cn_b6 G q) q) 1 j = cn_nd (cn_b6 G q) q j := fun j hj => cn_mvn _ _ _ _ (by omega)
  refine ⟨rr_mok hS b7 hrow hx, alk _ _ rJ, alk _ _ rq, tok, rr_lo hS rJ, rr_lo hS rq, ?_, fun j h1 h4 h5 => ?_, fun s hs => ?_⟩
  · unfold rf_cJ cn_ab
    rw [hal]
    by_cases e : cn_lk (cn_b5 G q) 54 q 4 0 = 0
    · rw [if_pos e, if_pos e]
      have hD : 205 + 57 * (4 + q * 6 + F (12 + q) % 6) = 205 + 57 * cn_nr (cn_b6 G q) q := by rw [hnv, c1]
      have tq : ∃ k, k < 4 ∧ k ≠ q ∧ rf_cJ1 F q X (20 + 4 * q + k) ≤ rf_cJ1 F q X (16 + q) := by
        obtain ⟨k, k1, k2, k3⟩ := b6 q hq
        refine ⟨k, k1, k2, ?_⟩
        rw [f1 _ (by omega) (by omega), e16, (b5 q k hq k1).1, c2]; exact k3
      obtain ⟨t1, t2, t3, t4⟩ := rf_tdv (F := rf_cJ1 F q X) (x := X) hq (by omega) (by rw [e12, e16]; omega) (by rw [e12, e16]; omega) tq
      rw [e12] at t1 t2 t3 t4
      rw [hD] at t3 t4
      have gO : ∀ j, j ≠ 16 * q + 4 → j ≠ 16 * q + 5 → (1 < j % 16 ∨ ((j / 16 < q * 4 ∨ q * 4 + 4 ≤ j / 16) ∧ (j / 16 < 216 ∨ 220 ≤ j / 16))) → (1 < j % 16 ∨ j / 16 < cn_nr (cn_b6 G q) q * 4 ∨ cn_nr (cn_b6 G q) q * 4 + 4 ≤ j / 16) → cn_mv (cn_nd (cn_b6 G q) q) 53 (cn_nr (cn_b6 G q) q) 1 j = G j := fun j h4 h5 h6 h7 => by
        rw [gN j h7, cn_ndo _ _ h4 h5]; exact g6o j h6
      have own : cn_mv (cn_nd (cn_b6 G q) q) 53 (cn_nr (cn_b6 G q) q) 1 (16 * (q * 4 + q) + 0) = 2 ^ N q - 1 := by
        rw [gN _ (by omega), cn_ndo _ _ (by omega) (by omega), (g6q q hq).1]
        unfold cn_b5
        rw [(cn_mgv 54 53 (by omega) 4 0 _ q (by omega) (by omega) (by omega)).1, (mv54 q hq).1, mv _ (by omega)]
        exact rr_own (b9 q hq) (hx.2.1 q hq)
      refine rl_new h' hq hnr (Nat.le_refl _) b2 (fun _ _ => Nat.le_refl _) (fun _ _ => rfl) b1 (fun k hk h12 h16 h10 hbk hr1 hr2 => ?_) ?_ ?_ (fun j j24 j7 j2 j4 j5 jr jn j208 => ?_) (fun u hu _ => ?_) (fun u hu => ?_) ?_ ?_ ?_ ?_ ?_ ?_ own
      · rw [t4 k h12 h16 hr2]; exact f1 k (by omega) hr1
      · rw [t4 10 (by omega) (by omega) (by omega), f1 10 (by omega) (by omega)]; exact s6
      · rw [gO 24 (by omega) (by omega) (by omega) (by omega)]; exact s7
      · exact gO j j4 j5 (by omega) jn
      · exact gO _ (by omega) (by omega) (by omega) (by omega)
      · rw [gO _ (by omega) (by omega) (by omega) (by omega)]; exact b7 u hu
      · rw [t1, c1]
      · rw [gN _ (by omega), cn_nd4, g64]
      · rw [t2, gN _ (by omega), cn_nd5, g65, g64, e16, c1, c2]
      · rw [gN _ (by omega), cn_nd5, g65, g64]
      · refine rr_frame rJ (fun k hk => ?_) (fun s hs => ⟨?_, ?_⟩) (fun u _ _ => ?_) (fun _ _ => Nat.le_refl _) (by omega)
        · rw [t4 _ (by omega) (by omega) (by omega)]
          unfold rf_cJ1 rf_c
          rw [if_pos (by omega), Nat.add_sub_cancel_left]
        · rw [gN _ (by omega), cn_ndo _ _ (by omega) (by omega)]; exact (g6q s hs).1
        · rw [gN _ (by omega), cn_ndo _ _ (by omega) (by omega)]; exact (g6q s hs).2
        · rw [gO _ (by omega) (by omega) (by omega) (by omega), g5o _ (by omega)]
      · refine rr_frame hx (fun k hk => ?_) (fun s hs => ?_) (fun u _ _ => gO _ (by omega) (by omega) (by omega) (by omega)) (fun _ _ => Nat.le_refl _) (by omega)
        · rw [t3 k hk]; exact f1 _ (by omega) (by omega)
        · have := cn_mvg (cn_nd (cn_b6 G q) q) 53 (cn_nr (cn_b6 G q) q) 1 (cn_nr (cn_b6 G q) q) s (by omega) (by omega) hs
          rw [Nat.sub_self] at this
          have this2 : cn_mv (cn_nd (cn_b6 G q) q) 53 (cn_nr (cn_b6 G q) q) 1 (16 * (cn_nr (cn_b6 G q) q * 4 + s) + 0) = cn_nd (cn_b6 G q) q (16 * (53 * 4 + s) + 0) ∧ cn_mv (cn_nd (cn_b6 G q) q) 53 (cn_nr (cn_b6 G q) q) 1 (16 * (cn_nr (cn_b6 G q) q * 4 + s) + 1) = cn_nd (cn_b6 G q) q (16 * (53 * 4 + s) + 1) := this
          rw [this2.1, this2.2, cn_ndo _ _ (by omega) (by omega), cn_ndo _ _ (by omega) (by omega)]
          exact ⟨g6o _ (by omega), g6o _ (by omega)⟩
    · rw [if_neg e, if_neg e]
      exact rl_frame h' (Nat.le_refl _) b2 (by omega) (Nat.le_refl _) (fun k hk => f0 k (by omega)) (by rw [f0 7 (by omega), g5o 56 (by omega)]; exact s4) (by rw [f0 7 (by omega)]; exact s5) (by rw [f0 10 (by omega)]; exact s6) (by rw [g5o 24 (by omega)]; exact s7) (fun j _ _ _ _ _ h6 => g5o j (by omega))
  · unfold cn_ab
    split
    · rw [gN j (by omega), cn_ndo _ _ (by omega) (by omega)]; exact g6o j (by omega)
    · exact g5o j (by omega)
  · unfold cn_ab
    split
    · rw [gN _ (by omega), cn_ndo _ _ (by omega) (by omega)]; exact g6o _ (by omega)
    · exact g5o _ (by omega)
