/-! both sides: a message comes, a tick, a draw, years -/
theorem cn_pof (K : Nat → Nat) (p q e u : Nat) (h24 : K 8 < 24) : (cn_po K p q e u 8 = K 8 ∨ (cn_po K p q e u 8 = K 8 + 1 ∧ cn_po K p q e u (16 * (K 8 * 5 + 2) + 6) = K 40 + 2)) ∧ (∀ i, i < K 8 → cn_po K p q e u (16 * (i * 5 + 2) + 6) = K (16 * (i * 5 + 2) + 6)) ∧ cn_po K p q e u 40 = K 40 := by
  unfold cn_po
  split
  · refine ⟨Or.inl ?_, fun i hi => ?_, ?_⟩
    · rw [cn_wro _ _ _ _ (by omega) (by omega)]; exact cn_q3o K (by omega) (by omega) (by omega)
    · rw [cn_wro _ _ _ _ (by omega) (by omega)]; exact cn_q3o K (by omega) (by omega) (by omega)
    · rw [cn_wro _ _ _ _ (by omega) (by omega)]; exact cn_q3o K (by omega) (by omega) (by omega)
  · obtain ⟨x1, x2, x3, x4, x5, x6, x7, x8⟩ := cn_flv (cn_q2 K) p q e u
    have q8 : cn_q2 K 8 = K 8 := cn_q2o K (by omega) (by omega)
    have q40 : cn_q2 K 40 = K 40 := cn_q2o K (by omega) (by omega)
    rw [q8] at x1 x4 x8
    rw [q40] at x4
    refine ⟨Or.inr ⟨x1, x4⟩, fun i hi => ?_, ?_⟩
    · rw [x8 _ (by omega) (by omega) (by omega)]; exact cn_q2o K (by omega) (by omega)
    · rw [x8 _ (by omega) (by omega) (by omega)]; exact q40
/-- the first in flight comes -/
theorem rl_come {t lo bd : Nat} {N F G : Nat → Nat} (h : rl t lo bd N F G) (h0 : 0 < G 8) (hlo : lo ≤ G 40 + 2) (hbd : bd < 500000) :
    rf_cfk F ∧ cn_cek G ∧ rl t lo (bd + 1) N (rf_cf F) (cn_ce G) ∧ cn_ce G 40 = G 40 ∧ (∀ i, i < cn_ce G 8 → (i + 1 < G 8 ∧ cn_ce G (16 * (i * 5 + 2) + 6) = G (16 * ((i + 1) * 5 + 2) + 6)) ∨ cn_ce G (16 * (i * 5 + 2) + 6) = G 40 + 2) := by
  have hp := rl_pop h h0
  obtain ⟨b1, b2, ⟨s1, s2, s3, s4, s5, s6, s7, s8, s9, s10⟩, b4, b5, b6, b7, b8, b9, b10, b11⟩ := h
  have hS : rr_S N := Nat.le_trans b1 b2
  obtain ⟨p1, p2, p3, p4⟩ := rf_cfv F (by omega) (by omega) s6
  obtain ⟨q1, q2, q3, q4, q5, q6⟩ := cn_h5v G (by omega)
  obtain ⟨⟨f1, f2⟩, ⟨f3, f4⟩, f5, f6, f7, f8, f9⟩ := b10 0 h0
  have a61 : F 61 = G (16 * 0 + 6) := f1
  have a62 : F 62 = G (16 * 1 + 6) := f3
  have a64 : F 64 = G (16 * 3 + 6) := f7
  have a65 : F 65 = G (16 * 4 + 6) := f8
  have g0 : G (16 * 0 + 6) < 4 := f2
  have g1 : G (16 * 1 + 6) < 4 := f4
  have gne : G (16 * 0 + 6) ≠ G (16 * 1 + 6) := f5
  have e40 : cn_h5 G 40 = G 40 := q6 40 (by omega) (by omega) (by omega) (by omega) (by omega)
  have h4 : ∀ s, cn_h5 G (16 * s + 4) = G (16 * s + 4) := fun s => q6 _ (by omega) (by omega) (by omega) (by omega) (by omega)
  have h5 : ∀ s, cn_h5 G (16 * s + 5) = G (16 * s + 5) := fun s => q6 _ (by omega) (by omega) (by omega) (by omega) (by omega)
  have h3 : ∀ s, cn_h5 G (16 * s + 3) = G (16 * s + 3) := fun s => q6 _ (by omega) (by omega) (by omega) (by omega) (by omega)
  have fl : ∀ i, i < G 8 - 1 → cn_h5 G (16 * (i * 5 + 2) + 6) = G (16 * ((i + 1) * 5 + 2) + 6) := fun i hi => by
    rw [q3 _ (by omega)]
    exact congrArg _ (by omega)
  have hm := b4 (G (16 * 1 + 6)) g1
  rcases f9 with ⟨r1, r2, r3⟩ | ⟨r1, r2, r3, r4⟩
  · have e1 : G (16 * 3 + 6) = 1 := r1
    have hu : G (16 * 4 + 6) ≤ G (16 * G (16 * 1 + 6) + 4) := r3
    have hu5 := hm.2.2.2.2
    obtain ⟨k1, k2⟩ := rl_ack (p := G (16 * 0 + 6)) (q := G (16 * 1 + 6)) (u := G (16 * 4 + 6)) hp hbd g0 g1 gne (by rw [h4]; exact hu)
    refine ⟨⟨by omega, by omega, s6, by rw [a61]; exact g0, by rw [a62]; exact g1, by rw [a64]; omega, by rw [a65]; omega, fun _ => by rw [a61, a62, a65]; exact k1, fun e => absurd (by rw [a64]; exact e1) e⟩, ⟨h0, by omega, s7, g0, g1, by omega, by omega, fun _ => ⟨by rw [h4]; omega, by rw [h5]; have := hm.2.2.1; omega, fun k hk => by rw [h3]; have := (b5 _ k g1 hk).2; omega⟩, fun e => absurd e1 e⟩, ?_, ?_, ?_⟩
    · unfold rf_cf cn_ce
      rw [if_pos (by rw [a64]; exact e1), if_pos e1, a61, a62, a65]
      exact rl_frame k2 (Nat.le_refl _) b2 (by omega) (Nat.le_refl _) (fun _ _ => rfl) k2.2.2.1.2.2.2.1 k2.2.2.1.2.2.2.2.1 k2.2.2.1.2.2.2.2.2.1 k2.2.2.1.2.2.2.2.2.2.1 (fun _ _ _ _ _ _ _ => rfl)
    · unfold cn_ce
      rw [if_pos e1]
      unfold cn_ak cn_a1
      rw [xn_un _ _ (by omega), xn_un _ _ (by omega)]; exact e40
    · unfold cn_ce
      rw [if_pos e1]
      unfold cn_ak cn_a1
      intro i hi
      rw [xn_un _ _ (by omega), xn_un _ _ (by omega), q1] at hi
      refine Or.inl ⟨by omega, ?_⟩
      rw [xn_un _ _ (by omega), xn_un _ _ (by omega)]
      exact fl i (by omega)
  · have e0 : G (16 * 3 + 6) = 0 := r1
    have hs : F 66 < t := r2
    have hu : G (16 * 4 + 6) ≤ G (16 * G (16 * 0 + 6) + 4) := r3
    have hr : rr N G 28 F (205 + 57 * (28 + F 66)) := r4
    have c24 := rr_c24 hS b7 hr
    have hu5 := (b4 (G (16 * 0 + 6)) g0).2.2.2.2
    have hr53 : rr N (cn_h5 G) 53 (rf_cfP F) (205 + 57 * (28 + F 66)) := rr_frame hr (fun k hk => p4 _ (by omega) (by omega) (by omega)) (fun s hs => q5 s hs) (fun u _ _ => q6 _ (by omega) (by omega) (by omega) (by omega) (by omega)) (fun _ _ => Nat.le_refl _) (by omega)
    obtain ⟨m1, m2, m3, m4, m5, m6, m7, m8, m9⟩ := rl_abs (q := G (16 * 1 + 6)) hp hbd g1 ⟨by omega, by omega⟩ hr53
    have e8a : cn_ab (cn_h5 G) (G (16 * 1 + 6)) 8 = G 8 - 1 := by rw [m8 8 (by omega) (by omega) (by omega)]; exact q1
    have e40a : cn_ab (cn_h5 G) (G (16 * 1 + 6)) 40 = G 40 := by rw [m8 40 (by omega) (by omega) (by omega)]; exact e40
    have h6 : ∀ j, (1 < j % 16 ∨ j / 16 < 208) → cn_h6 (cn_h5 G) (G (16 * 1 + 6)) j = cn_ab (cn_h5 G) (G (16 * 1 + 6)) j := fun j hj => cn_wzo _ _ _ _ (by omega)
    obtain ⟨n1, n2, n3⟩ := rl_ans (r := G (16 * 1 + 6)) (q := G (16 * 0 + 6)) (u := G (16 * 4 + 6)) m7 (by rw [e8a]; omega) (by rw [e40a]; exact hlo) g1 g0 (fun e => gne e.symm) (by rw [m9 _ gne, h4]; exact hu) h6
    refine ⟨⟨by omega, by omega, s6, by rw [a61]; exact g0, by rw [a62]; exact g1, by rw [a64]; omega, by rw [a65]; omega, fun e => by rw [a64] at e; omega, fun _ => ⟨by omega, by rw [a62]; exact ⟨m1, m2, m3, m4, n1⟩⟩⟩, ⟨h0, by omega, s7, g0, g1, by omega, by omega, fun e => by omega, fun _ => ⟨m5, m6, by rw [h4]; have := hm.2.2.2.2; omega, by rw [h5]; have := hm.2.2.1; have := hm.2.2.2.2; omega, n2⟩⟩, ?_, ?_, ?_⟩
    · unfold rf_cf cn_ce
      rw [if_neg (by rw [a64]; omega), if_neg (by omega), a61, a62, a65]
      exact n3
    · unfold cn_ce
      rw [if_neg (by omega), (cn_pof _ _ _ _ _ n2.2.2.1).2.2, h6 40 (by omega)]; exact e40a
    · unfold cn_ce
      rw [if_neg (by omega)]
      obtain ⟨w1, w2, w3⟩ := cn_pof (cn_h6 (cn_h5 G) (G (16 * 1 + 6))) (G (16 * 1 + 6)) (G (16 * 0 + 6)) 1 (G (16 * 4 + 6)) n2.2.2.1
      rw [h6 8 (by omega), e8a, h6 40 (by omega), e40a] at w1
      rw [h6 8 (by omega), e8a] at w2
      intro i hi
      have old : ∀ i, i < G 8 - 1 → cn_po (cn_h6 (cn_h5 G) (G (16 * 1 + 6))) (G (16 * 1 + 6)) (G (16 * 0 + 6)) 1 (G (16 * 4 + 6)) (16 * (i * 5 + 2) + 6) = G (16 * ((i + 1) * 5 + 2) + 6) := fun i hi => by
        rw [w2 i hi, h6 _ (by omega), m8 _ (by omega) (by omega) (by omega)]
        exact fl i hi
      rcases w1 with w1 | ⟨w1, w4⟩
      · rw [w1] at hi
        exact Or.inl ⟨by omega, old i hi⟩
      · rw [w1] at hi
        rcases Nat.lt_or_ge i (G 8 - 1) with e | e
        · exact Or.inl ⟨by omega, old i e⟩
        · have : i = G 8 - 1 := by omega
          subst this
          exact Or.inr w4
/-- all that is in flight comes later -/
theorem rl_up {t lo lo2 bd : Nat} {N F G : Nat → Nat} (h : rl t lo bd N F G) (hi : ∀ i, i < G 8 → lo2 ≤ G (16 * (i * 5 + 2) + 6)) : rl t lo2 bd N F G := by
  obtain ⟨b1, b2, b3, b4, b5, b6, b7, b8, b9, b10, b11⟩ := h
  refine ⟨b1, b2, b3, b4, b5, b6, b7, b8, b9, fun i hi2 => ?_, b11⟩
  obtain ⟨f1, f3, f5, ⟨f6, f7, f8⟩, f9⟩ := b10 i hi2
  exact ⟨f1, f3, f5, ⟨f6, hi i hi2, f8⟩, f9⟩
theorem rl_npk {t lo bd : Nat} {N F G : Nat → Nat} (h : rl t lo bd N F G) (hbd : bd < 500000) : rf_npk F ∧ cn_npk G := by
  obtain ⟨b1, b2, b3, b4, b5, b6, b7, b8, b9, b10, b11⟩ := h
  refine ⟨⟨b3.1, fun r hr => ?_, fun r q hr hq => ?_⟩, fun r hr => ?_, fun r q hr hq => (b5 r q hr hq).2⟩
  · have := (b4 r hr).1; have := (b4 r hr).2.2.2.2; omega
  · have := (b5 r q hr hq).1; have := (b5 r q hr hq).2; have := (b4 r hr).2.2.2.2; omega
  · have := (b4 r hr).2.2.2.2; omega
/-- what comes in a tick -/
theorem rl_tl {t : Nat} {N : Nat → Nat} : ∀ (m m2 bd : Nat) (F G : Nat → Nat), rl t (G 40) bd N F G → bd + m < 500000 → (∀ i, i < G 8 → m ≤ i → G 40 < G (16 * (i * 5 + 2) + 6)) → (∀ i, i < G 8 → m2 ≤ i → G 40 < G (16 * (i * 5 + 2) + 6)) →
    rf_tlk m F ∧ cn_tlk m2 G ∧ rl t (G 40 + 1) (bd + m) N (rf_tl m F) (cn_tl m2 G) ∧ cn_tl m2 G 40 = G 40 := by
  intro m
  have stop : ∀ (m m2 bd : Nat) (F G : Nat → Nat), rl t (G 40) bd N F G → bd + m < 500000 → (∀ i, i < G 8 → G 40 < G (16 * (i * 5 + 2) + 6)) →
      rf_tlk m F ∧ cn_tlk m2 G ∧ rl t (G 40 + 1) (bd + m) N (rf_tl m F) (cn_tl m2 G) ∧ cn_tl m2 G 40 = G 40 := by
    intro m m2 bd F G h hbd hi
    have h' := h
    obtain ⟨b1, b2, ⟨s1, s2, s3, s4, s5, s6, s7, s8, s9, s10⟩, b4, b5, b6, b7, b8, b9, b10, b11⟩ := h
    have hF63 : 0 < F 11 → F 63 = G (16 * 2 + 6) := fun h0 => by
      have := (b10 0 (by omega)).2.2.2.1.1
      exact this
    have n1 : ¬ (0 < F 11 ∧ F 63 = F 6) := fun e => by
      have h1 := hF63 e.1
      have h2 := hi 0 (by omega)
      have h3 : G 40 < G (16 * 2 + 6) := h2
      omega
    have n2 : ¬ (0 < G 8 ∧ G (16 * 2 + 6) ≤ G 40) := fun e => by
      have h3 : G 40 < G (16 * 2 + 6) := hi 0 e.1
      omega
    have tf : ∀ m, rf_tl m F = F := fun m => by
      cases m with
      | zero => rfl
      | succ m => unfold rf_tl; rw [if_neg n1]
    have tg : ∀ m, cn_tl m G = G := fun m => by
      cases m with
      | zero => rfl
      | succ m => unfold cn_tl; rw [if_neg n2]
    have c63 : 0 < F 11 → F 63 < 2147483648 := fun e => by
      have h1 := hF63 e
      have h2 : G (16 * 2 + 6) ≤ G 40 + 2 := (b10 0 (by omega)).2.2.2.1.2.2
      omega
    have c38 : 0 < G 8 → G (16 * 2 + 6) < 2147483648 := fun e => by
      have h2 : G (16 * 2 + 6) ≤ G 40 + 2 := (b10 0 e).2.2.2.1.2.2
      omega
    have kf : ∀ m, rf_tlk m F := fun m => by
      cases m with
      | zero => unfold rf_tlk; exact ⟨by omega, c63, by omega, n1⟩
      | succ m => unfold rf_tlk; exact ⟨by omega, c63, by omega, fun e => absurd e n1⟩
    have kg : ∀ m, cn_tlk m G := fun m => by
      cases m with
      | zero => unfold cn_tlk; trivial
      | succ m => unfold cn_tlk; exact ⟨by omega, c38, by omega, fun e => absurd e n2⟩
    rw [tf, tg]
    exact ⟨kf m, kg m2, rl_frame (rl_up h' (fun i hi2 => hi i hi2)) (Nat.le_refl _) b2 (by omega) (Nat.le_refl _) (fun _ _ => rfl) s4 s5 s6 s7 (fun _ _ _ _ _ _ _ => rfl), rfl⟩
  induction m with
  | zero =>
    intro m2 bd F G h hbd h1 h2
    exact stop 0 m2 bd F G h hbd (fun i hi => h1 i hi (by omega))
  | succ m ih =>
    intro m2 bd F G h hbd h1 h2
    by_cases hd : 0 < G 8 ∧ G (16 * 2 + 6) ≤ G 40
    · have h' := h
      obtain ⟨b1, b2, ⟨s1, s2, s3, s4, s5, s6, s7, s8, s9, s10⟩, b4, b5, b6, b7, b8, b9, b10, b11⟩ := h
      obtain ⟨k1, k2, k3, k4, k5⟩ := rl_come h' hd.1 (by omega) (by omega)
      have f0 := (b10 0 hd.1).2.2.2.1
      have f63 : F 63 = G (16 * 2 + 6) := f0.1
      have f38 : G 40 ≤ G (16 * 2 + 6) := f0.2.1
      cases m2 with
      | zero =>
        have : G 40 < G (16 * 2 + 6) := h2 0 hd.1 (by omega)
        omega
      | succ m2 =>
        have e1 : 0 < F 11 ∧ F 63 = F 6 := ⟨by omega, by omega⟩
        have shift : ∀ n, (∀ i, i < G 8 → n + 1 ≤ i → G 40 < G (16 * (i * 5 + 2) + 6)) → (∀ i, i < cn_ce G 8 → n ≤ i → cn_ce G 40 < cn_ce G (16 * (i * 5 + 2) + 6)) := fun n hn i hi hni => by
          rw [k4]
          rcases k5 i hi with ⟨g1, g2⟩ | g
          · rw [g2]; exact hn (i + 1) g1 (by omega)
          · rw [g]; omega
        rw [← k4] at k3
        obtain ⟨i1, i2, i3, i4⟩ := ih m2 (bd + 1) (rf_cf F) (cn_ce G) (by rw [k4]; rw [k4] at k3; exact k3) (by omega) (shift m h1) (shift m2 h2)
        unfold rf_tlk cn_tlk rf_tl cn_tl
        rw [if_pos e1, if_pos hd]
        refine ⟨⟨by omega, fun _ => by omega, by omega, fun _ => ⟨k1, i1⟩⟩, ⟨by omega, fun _ => by omega, by omega, fun _ => ⟨k2, i2⟩⟩, ?_, by rw [i4, k4]⟩
        rw [k4] at i3
        rw [show bd + (m + 1) = bd + 1 + m by omega]
        exact i3
    · refine stop (m + 1) m2 bd F G h hbd (fun i hi => ?_)
      have b10 := h.2.2.2.2.2.2.2.2.2.1
      have b11 := h.2.2.2.2.2.2.2.2.2.2
      have c0 : G 40 < G (16 * 2 + 6) := by omega
      rcases Nat.eq_zero_or_pos i with e | e
      · subst e; exact c0
      · have : G (16 * 2 + 6) ≤ G (16 * (i * 5 + 2) + 6) := b11 0 i e hi
        omega
/-- a tick -/
theorem rl_tick {t bd : Nat} {N F G : Nat → Nat} (h : rl t (G 40 + 1) bd N F G) (ht : t + 1 ≤ 24) (hbd : bd + 24 < 500000) : rf_tik F t ∧ cn_tik G ∧ rl (t + 1) (cn_tic G 40 + 1) (bd + 24) N (rf_tic F t) (cn_tic G) := by
  have h' := h
  obtain ⟨b1, b2, ⟨s1, s2, s3, s4, s5, s6, s7, s8, s9, s10⟩, b4, b5, b6, b7, b8, b9, b10, b11⟩ := h
  have hS : rr_S N := Nat.le_trans b1 b2
  have f6 : rf_t0 F 6 = F 6 + 1 := xn_ue _ _ _
  have g40 : cn_t0 G 40 = G 40 + 1 := xn_ue _ _ _
  have fo : ∀ j, j ≠ 6 → rf_t0 F j = F j := fun j hj => xn_un _ _ hj
  have go : ∀ j, j ≠ 40 → cn_t0 G j = G j := fun j hj => xn_un _ _ hj
  have er : ∀ x X, 205 ≤ X → rr N G x F X → rr N (cn_t0 G) x (rf_t0 F) X := fun x X hX hr =>
    rr_frame hr (fun k hk => fo _ (by omega)) (fun s hs => ⟨go _ (by omega), go _ (by omega)⟩) (fun u _ _ => go _ (by omega)) (fun _ _ => Nat.le_refl _) (by have := rr_c24 hS b7 hr; omega)
  have h0 : rl (t + 1) (cn_t0 G 40) bd N (rf_t0 F) (cn_t0 G) := by
    refine ⟨by omega, ht, ⟨?_, ?_, ?_, ?_, ?_, ?_, ?_, ?_, ?_, ?_⟩, fun s hs => ?_, fun s q hs hq => ?_, fun s hs => ?_, fun u hu => ?_, fun x hx => er x _ (by omega) (b8 x hx), fun s hs => ?_, fun i hi => ?_, fun i j hij hj => ?_⟩
    · rw [fo 1 (by omega)]; exact s1
    · rw [fo 5 (by omega)]; exact s2
    · rw [f6, g40, s3]
    · rw [fo 7 (by omega), go 56 (by omega)]; exact s4
    · rw [fo 7 (by omega)]; exact s5
    · rw [fo 10 (by omega)]; exact s6
    · rw [go 24 (by omega)]; exact s7
    · rw [fo 11 (by omega), go 8 (by omega)]; exact s8
    · rw [go 8 (by omega)]; omega
    · rw [g40]; omega
    · obtain ⟨c1, c2, c3, c4, c5⟩ := b4 s hs
      unfold rl_m
      rw [fo (12 + s) (by omega), fo (16 + s) (by omega), go (16 * s + 4) (by omega), go (16 * s + 5) (by omega)]
      exact ⟨c1, c2, c3, c4, c5⟩
    · rw [fo _ (by omega), go _ (by omega), go _ (by omega)]
      exact b5 s q hs hq
    · obtain ⟨k, r1, r2, r3⟩ := b6 s hs
      exact ⟨k, r1, r2, by rw [go _ (by omega), go _ (by omega)]; exact r3⟩
    · rw [go _ (by omega)]; exact b7 u hu
    · rw [go _ (by omega)]; exact b9 s hs
    · rw [go 8 (by omega)] at hi
      obtain ⟨f1, f3, f5, ⟨f6', f7, f8⟩, f10', f11', f12⟩ := b10 i hi
      have e6 : ∀ j, cn_t0 G (16 * j + 6) = G (16 * j + 6) := fun j => go _ (by omega)
      unfold rl_f
      rw [fo (61 + 6 * i + 0) (by omega), fo (61 + 6 * i + 1) (by omega), fo (61 + 6 * i + 2) (by omega), fo (61 + 6 * i + 3) (by omega), fo (61 + 6 * i + 4) (by omega), fo (61 + 6 * i + 5) (by omega), e6, e6, e6, e6, e6, g40, go (16 * G (16 * (i * 5 + 1) + 6) + 4) (by omega), go (16 * G (16 * (i * 5) + 6) + 4) (by omega)]
      refine ⟨f1, f3, f5, ⟨f6', by omega, by omega⟩, f10', f11', ?_⟩
      rcases f12 with z | ⟨r1, r2, r3, r4⟩
      · exact Or.inl z
      · exact Or.inr ⟨r1, by omega, r3, er _ _ (by omega) r4⟩
    · rw [go 8 (by omega)] at hj
      rw [go _ (by omega), go _ (by omega)]; exact b11 i j hij hj
  have g8 : cn_t0 G 8 = G 8 := go 8 (by omega)
  obtain ⟨k1, k2, k3, k4⟩ := rl_tl t 24 bd (rf_t0 F) (cn_t0 G) h0 (by omega) (fun i hi ht2 => by rw [g8] at hi; omega) (fun i hi ht2 => by rw [g8] at hi; omega)
  obtain ⟨p1, p2⟩ := rl_npk k3 (by omega)
  have e40 : cn_tic G 40 = cn_t0 G 40 := k4
  refine ⟨⟨k1, p1⟩, ⟨k2, p2⟩, ?_⟩
  rw [e40]
  exact rl_frame k3 (Nat.le_refl _) ht (by omega) (Nat.le_refl _) (fun _ _ => rfl) k3.2.2.1.2.2.2.1 k3.2.2.1.2.2.2.2.1 k3.2.2.1.2.2.2.2.2.1 k3.2.2.1.2.2.2.2.2.2.1 (fun _ _ _ _ _ _ _ => rfl)
theorem rf_mop (F : Nat → Nat) (X q f : Nat) : ∀ (m i n : Nat), 0 < rf_mo F X q f m i n ↔ 0 < n ∨ ∃ k, i ≤ k ∧ k < i + m ∧ rf_is (F (X + 9 + k)) q f ≠ 0
  | 0, i, n => by
    unfold rf_mo
    constructor
    · intro h; exact Or.inl h
    · rintro (h | ⟨k, h1, h2, _⟩)
      · exact h
      · omega
  | m + 1, i, n => by
    unfold rf_mo
    rw [rf_mop F X q f m (i + 1) _]
    constructor
    · rintro (h | ⟨k, h1, h2, h3⟩)
      · by_cases e : rf_is (F (X + 9 + i)) q f = 0
        · exact Or.inl (by omega)
        · exact Or.inr ⟨i, Nat.le_refl _, by omega, e⟩
      · exact Or.inr ⟨k, by omega, by omega, h3⟩
    · rintro (h | ⟨k, h1, h2, h3⟩)
      · exact Or.inl (by omega)
      · rcases Nat.lt_or_ge i k with e | e
        · exact Or.inr ⟨k, by omega, by omega, h3⟩
        · have : k = i := by omega
          subst this
          exact Or.inl (by omega)
theorem cn_mop (G : Nat → Nat) (x q f : Nat) : ∀ (m t n : Nat), 0 < cn_mo G x q f m t n ↔ 0 < n ∨ ∃ u, t ≤ u ∧ u < t + m ∧ cn_he G x u q f ≠ 0
  | 0, t, n => by
    unfold cn_mo
    constructor
    · intro h; exact Or.inl h
    · rintro (h | ⟨k, h1, h2, _⟩)
      · exact h
      · omega
  | m + 1, t, n => by
    unfold cn_mo
    rw [cn_mop G x q f m (t + 1) _]
    constructor
    · rintro (h | ⟨k, h1, h2, h3⟩)
      · by_cases e : cn_he G x t q f = 0
        · exact Or.inl (by omega)
        · exact Or.inr ⟨t, Nat.le_refl _, by omega, e⟩
      · exact Or.inr ⟨k, by omega, by omega, h3⟩
    · rintro (h | ⟨k, h1, h2, h3⟩)
      · exact Or.inl (by omega)
      · rcases Nat.lt_or_ge t k with e | e
        · exact Or.inr ⟨k, by omega, by omega, h3⟩
        · have : k = t := by omega
          subst this
          exact Or.inl (by omega)
theorem rl_mo {N G F : Nat → Nat} {r q : Nat} (hC : rr_C G) (h : rr N G r F (205 + 57 * r)) (hq : q < 4) : 0 < rf_mo F (205 + 57 * r) q 4294967295 (F (205 + 57 * r + 8)) 0 0 ↔ ¬ cn_mo G r q 4294967295 256 0 0 = 0 := by
  rw [rf_mop, show (¬ cn_mo G r q 4294967295 256 0 0 = 0) ↔ 0 < cn_mo G r q 4294967295 256 0 0 by omega, cn_mop]
  constructor
  · rintro (e | ⟨k, h1, h2, h3⟩)
    · omega
    · obtain ⟨u, hu, ua, ue⟩ := h.2.2.2.2.1 k (by omega)
      rw [ue] at h3
      exact Or.inr ⟨u, by omega, by omega, (rr_he hq hu).mpr ⟨ua, (rr_is hC hu).mp h3⟩⟩
  · rintro (e | ⟨u, h1, h2, h3⟩)
    · omega
    · obtain ⟨ua, um⟩ := (rr_he hq (by omega)).mp h3
      obtain ⟨k, hk, ke⟩ := h.2.2.2.2.2.1 u (by omega) ua
      exact Or.inr ⟨k, by omega, by omega, by rw [ke]; exact (rr_is hC (by omega)).mpr um⟩
theorem cn_pg40 (G : Nat → Nat) (r q f : Nat) : cn_pg G r q f 40 = G 40 := by
  unfold cn_pg
  rw [cn_gato _ _ _ _ _ (by omega), cn_ndo _ _ (by omega) (by omega)]
theorem cn_pl40 (G : Nat → Nat) (r q f v n : Nat) : cn_pl G r q f v n 40 = G 40 := by
  unfold cn_pl cn_pm
  rw [cn_wro _ _ _ _ (by omega) (by omega), cn_mgu _ _ _ _ _ _ (by omega)]
  unfold cn_pb cn_be cn_e2 cn_e1
  rw [xn_un _ _ (by omega), xn_un _ _ (by omega), xn_un _ _ (by omega)]
  exact cn_pg40 G r q f
theorem cn_rv40 (G : Nat → Nat) (r q : Nat) : cn_rv G r q 40 = G 40 := by
  unfold cn_rv cn_rg
  rw [cn_wro _ _ _ _ (by omega) (by omega), cn_mgu _ _ _ _ _ _ (by omega)]
  exact cn_pg40 G r q 4294967295
theorem rl_bd {t lo bd bd' t' : Nat} {N F G : Nat → Nat} (h : rl t lo bd N F G) (h1 : bd ≤ bd') (ht : t ≤ t') (ht' : t' ≤ 24) : rl t' lo bd' N F G :=
  rl_frame h ht ht' h1 (Nat.le_refl _) (fun _ _ => rfl) h.2.2.1.2.2.2.1 h.2.2.1.2.2.2.2.1 h.2.2.1.2.2.2.2.2.1 h.2.2.1.2.2.2.2.2.2.1 (fun _ _ _ _ _ _ _ => rfl)
/-- a draw of YEARS -/
theorem rl_draw {t bd : Nat} {N F G : Nat → Nat} (h : rl t (G 40 + 1) bd N F G) (ht : t + 1 ≤ 24) (hbd : bd + 24 < 500000) : ∃ n N', F 7 = G 56 ∧ F 7 < 31139 ∧ rf_hak (rf_an F) (F 7) t ∧ cn_hak (cn_an G) (G 56) n ∧
    rl (t + 1) (cn_hap (cn_an G) (G 56) n 40 + 1) (bd + 24) N' (rf_hap (rf_an F) (F 7) t) (cn_hap (cn_an G) (G 56) n) := by
  have s := h.2.2.1
  have e7 : rf_an F 7 = (F 7 * 773 + 641) % 31139 := xn_ue _ _ _
  have e56 : cn_an G 56 = (G 56 * 773 + 641) % 31139 := xn_ue _ _ _
  have e40 : cn_an G 40 = G 40 := xn_un _ _ (by omega)
  have h1 : rl t (cn_an G 40 + 1) bd N (rf_an F) (cn_an G) := by
    rw [e40]
    refine rl_frame h (Nat.le_refl _) h.2.1 (Nat.le_refl _) (Nat.le_refl _) (fun k hk => xn_un _ _ (by omega)) (by rw [e7, e56, s.2.2.2.1]) (by rw [e7]; exact Nat.mod_lt _ (by omega)) ?_ ?_ (fun j j1 j2 j3 j4 j5 j6 => xn_un _ _ j2)
    · rw [show rf_an F 10 = F 10 from xn_un _ _ (by omega)]; exact s.2.2.2.2.2.1
    · rw [show cn_an G 24 = G 24 from xn_un _ _ (by omega)]; exact s.2.2.2.2.2.2.1
  have hx := s.2.2.2.2.1
  rw [← s.2.2.2.1]
  generalize F 7 = x at hx ⊢
  generalize rf_an F = F1 at h1 ⊢
  generalize cn_an G = G1 at h1 ⊢
  have hr : rf_rep x < 4 := Nat.mod_lt _ (by omega)
  have hq : rf_key x < 4 := Nat.mod_lt _ (by omega)
  have hto : rf_to x < 4 := Nat.mod_lt _ (by omega)
  have hrt := rf_rto x
  have hv := rl_v h1 hr
  have h1' := h1
  obtain ⟨b1, b2, ⟨s1, s2, s3, s4, s5, s6, s7, s8, s9, s10⟩, b4, b5, b6, b7, b8, b9, b10, b11⟩ := h1
  have hS : rr_S N := Nat.le_trans b1 b2
  have hN := rr_NS hS hr
  have hrow := b8 (rf_rep x) (by omega)
  have c24 := rr_c24 hS b7 hrow
  obtain ⟨c1, c2, c3, c4, c5⟩ := b4 (rf_rep x) hr
  obtain ⟨a1, a2⟩ := b5 (rf_rep x) (rf_to x) hr hto
  by_cases w1 : x % 8 < 3
  · obtain ⟨k1, k2, k3⟩ := rl_set (f := x % 3) (v := x % 100) h1' ht (by omega) hr hq (Nat.mod_lt _ (by omega)) (Nat.mod_lt _ (by omega))
    refine ⟨N (rf_rep x), rr_N1 N (rf_rep x), rfl, hx, ⟨fun _ => ⟨k2.1, fun _ => k2⟩, fun e => by omega, fun e => absurd w1 e, fun e => by omega⟩, ⟨fun _ => k1, fun e => by omega, fun e => absurd w1 e, fun e => by omega⟩, ?_⟩
    unfold rf_hap cn_hap
    rw [if_pos w1, if_pos w1, if_pos (by rw [hv]; omega)]
    rw [cn_pl40]
    exact rl_bd k3 (by omega) (Nat.le_refl _) ht
  · by_cases w2 : x % 8 = 3
    · have hmo := rl_mo b7 hrow hq
      obtain ⟨k1, k2, k3⟩ := rl_reset h1' ht (by omega) hr hq
      refine ⟨0, N, rfl, hx, ⟨fun e => absurd e w1, fun _ => ⟨by omega, rr_e24 b7 hrow, fun _ => k1⟩, fun _ e => absurd w2 e, fun e => by omega⟩, ⟨fun e => absurd e w1, fun _ => k2, fun _ e => absurd w2 e, fun e => by omega⟩, ?_⟩
      unfold rf_hap cn_hap
      rw [if_neg w1, if_neg w1, if_pos w2, if_pos w2]
      by_cases w3 : cn_mo G1 (rf_rep x) (rf_key x) 4294967295 256 0 0 = 0
      · rw [if_pos w3, if_neg (fun e => hmo.mp e w3)]
        exact rl_bd h1' (by omega) (by omega) ht
      · rw [if_neg w3, if_pos (hmo.mpr w3), cn_rv40]
        exact rl_bd k3 (by omega) (Nat.le_refl _) ht
    · by_cases w3 : x % 8 < 6
      · refine ⟨0, N, rfl, hx, ⟨fun e => absurd e w1, fun e => absurd e w2, fun _ _ _ => ⟨by omega, by omega, fun _ => (rl_send h1' ht (by omega) (by omega) hr hto hrt).1⟩, fun e => absurd w3 e⟩, ⟨fun e => absurd e w1, fun e => absurd e w2, fun _ _ _ => ⟨a2, by omega, by omega, fun _ => (rl_send h1' ht (by omega) (by omega) hr hto hrt).2.1⟩, fun e => absurd w3 e⟩, ?_⟩
        unfold rf_hap cn_hap
        rw [if_neg w1, if_neg w1, if_neg w2, if_neg w2, if_pos w3, if_pos w3, a1, c1]
        by_cases w4 : G1 (16 * (rf_rep x * 4 + rf_to x) + 3) < G1 (16 * rf_rep x + 4)
        · obtain ⟨k1, k2, k3⟩ := rl_send h1' ht (by omega) (by omega) hr hto hrt
          rw [if_pos w4, if_pos w4, (cn_pof _ _ _ _ _ k2.2.2.1).2.2, (rl_msg h1' (by omega) hr hto).2.2.2 40 (by omega)]
          exact rl_bd k3 (by omega) (Nat.le_refl _) ht
        · rw [if_neg w4, if_neg w4]
          exact rl_bd h1' (by omega) (by omega) ht
      · obtain ⟨k1, k2, k3⟩ := rl_tick h1' ht hbd
        refine ⟨0, N, rfl, hx, ⟨fun e => absurd e w1, fun e => absurd e w2, fun _ _ e => absurd e w3, fun _ => ⟨by omega, fun _ => k1⟩⟩, ⟨fun e => absurd e w1, fun e => absurd e w2, fun _ _ e => absurd e w3, fun _ => ⟨by omega, fun _ => k2⟩⟩, ?_⟩
        unfold rf_hap cn_hap
        rw [if_neg w1, if_neg w1, if_neg w2, if_neg w2, if_neg w3, if_neg w3, if_pos (by omega), if_pos (by omega)]
        exact k3
/-- all draws: what both sides want holds, and CLOCK is the same; n k: up to which number the replica of the k-th draw has set -/
def cn_yr (n : Nat → Nat) : Nat → Nat → (Nat → Nat) → (Nat → Nat)
  | 0, _, G => G
  | m + 1, k, G => cn_yr n m (k + 1) (cn_hap (cn_an G) (G 56) (n k))
def cn_yrk (n : Nat → Nat) : Nat → Nat → (Nat → Nat) → Prop
  | 0, _, _ => True
  | m + 1, k, G => G 56 < 31139 ∧ cn_hak (cn_an G) (G 56) (n k) ∧ cn_yrk n m (k + 1) (cn_hap (cn_an G) (G 56) (n k))
theorem cn_yre (n n' : Nat → Nat) : ∀ (m k : Nat) (G : Nat → Nat), (∀ j, k ≤ j → n j = n' j) → cn_yr n m k G = cn_yr n' m k G ∧ (cn_yrk n m k G ↔ cn_yrk n' m k G)
  | 0, _, _, _ => ⟨rfl, Iff.rfl⟩
  | m + 1, k, G, h => by
    unfold cn_yr cn_yrk
    rw [h k (Nat.le_refl _)]
    obtain ⟨i1, i2⟩ := cn_yre n n' m (k + 1) (cn_hap (cn_an G) (G 56) (n' k)) (fun j hj => h j (by omega))
    exact ⟨i1, by rw [i2]⟩
theorem rl_years : ∀ (m k bd : Nat) (N F G : Nat → Nat), k + m ≤ 24 → rl k (G 40 + 1) bd N F G → bd + 24 * m < 500000 → ∃ n, rf_yrk m k F ∧ cn_yrk n m k G ∧ rf_yr m k F 6 = cn_yr n m k G 40
  | 0, k, bd, N, F, G, hm, h, hbd => ⟨fun _ => 0, trivial, trivial, h.2.2.1.2.2.1⟩
  | m + 1, k, bd, N, F, G, hm, h, hbd => by
    obtain ⟨n, N', e1, e2, e3, e4, e5⟩ := rl_draw h (by omega) (by omega)
    obtain ⟨n', k1, k2, k3⟩ := rl_years m (k + 1) (bd + 24) N' _ _ (by omega) e5 (by omega)
    have e := cn_yre (fun j => if j = k then n else n' j) n' m (k + 1) (cn_hap (cn_an G) (G 56) n) (fun j hj => if_neg (by omega))
    refine ⟨fun j => if j = k then n else n' j, ?_, ?_, ?_⟩
    · unfold rf_yrk; exact ⟨e2, e3, k1⟩
    · unfold cn_yrk
      rw [if_pos rfl]
      exact ⟨by omega, e4, e.2.mpr k2⟩
    · unfold rf_yr cn_yr
      rw [if_pos rfl, e.1]
      exact k3
