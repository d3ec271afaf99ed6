/-! both sides: what is sent -/
theorem cn_mvg (G : Nat → Nat) (x y n z s : Nat) (hz : y ≤ z) (hz2 : z < y + n) (hs : s < 4) : cn_mv G x y n (16 * (z * 4 + s) + 0) = G (16 * ((x + (z - y)) * 4 + s) + 0) ∧ cn_mv G x y n (16 * (z * 4 + s) + 1) = G (16 * ((x + (z - y)) * 4 + s) + 1) := by
  constructor
  · unfold cn_mv
    rw [cn_cpn _ _ _ _ _ (by omega)]
    unfold cn_cp
    rw [if_pos (by omega)]
    congr 1
    omega
  · unfold cn_mv
    have : ∀ H : Nat → Nat, cn_cp 1 H (x * 4) (y * 4) (n * 4) (16 * (z * 4 + s) + 1) = H (16 * ((x + (z - y)) * 4 + s) + 1) := fun H => by
      unfold cn_cp
      rw [if_pos (by omega)]
      congr 1
      omega
    rw [this, cn_cpn _ _ _ _ _ (by omega)]
theorem cn_mvn (G : Nat → Nat) (x y n : Nat) {j : Nat} (h : 1 < j % 16 ∨ j / 16 < y * 4 ∨ (y + n) * 4 ≤ j / 16) : cn_mv G x y n j = G j := by
  unfold cn_mv cn_cp
  rw [if_neg (by omega), if_neg (by omega)]
/-- empty rows -/
theorem rr_zero {N G F : Nat → Nat} {x X : Nat} (h1 : ∀ s, s < 4 → G (16 * (x * 4 + s) + 0) = 0 ∧ G (16 * (x * 4 + s) + 1) = 0) (h2 : ∀ k, k < 57 → F (X + k) = 0) : rr N G x F X := by
  have hk : ∀ u, u < 256 → ¬ rr_k G x u := fun u hu h => by
    unfold rr_k at h
    rw [(h1 (u / 64) (by omega)).1, Nat.zero_testBit] at h
    cases h.2
  have ha : ∀ u, u < 256 → ¬ rr_a G x u := fun u hu h => by
    unfold rr_a at h
    rw [(h1 (u / 64) (by omega)).2, Nat.zero_testBit] at h
    cases h.2
  have e8 : F (X + 8) = 0 := h2 8 (by omega)
  refine ⟨fun w e hw => ?_, fun r hr => ?_, fun r n hr hb => ?_, fun i j _ hj => ?_, fun i hi => ?_, fun u hu ua => absurd ua (ha u hu), fun i _ hi => ?_⟩
  · rw [h2 w (by omega), Nat.zero_testBit]
    constructor
    · intro a; cases a
    · rintro ⟨a, b⟩; exact absurd b (hk _ (by omega))
  · rw [(h1 r hr).1]; exact Nat.two_pow_pos _
  · rw [(h1 r hr).2, Nat.zero_testBit] at hb; cases hb
  · rw [e8] at hj; omega
  · rw [e8] at hi; omega
  · have := h2 (9 + i) (by omega)
    rw [← Nat.add_assoc] at this
    exact this
/-- the deltas behind what is acked, joined -/
theorem rl_lm {t lo bd : Nat} {N F G : Nat → Nat} {r : Nat} (h : rl t lo bd N F G) (hbd : bd < 500000) (hr : r < 4) : ∀ (m n : Nat) (H K : Nat → Nat), 0 < n → n + m ≤ G (16 * r + 4) + 1 → rr N K 52 H 3258 → (∀ j, j < 3201 → H j = F j) → (∀ j, (1 < j % 16 ∨ j / 16 < 208 ∨ 212 ≤ j / 16) → K j = G j) →
    rf_lmk r m n H ∧ rr N (cn_cl r m n K) 52 (rf_lm r m n H) 3258 ∧ (∀ j, j < 3201 → rf_lm r m n H j = F j) ∧ (∀ j, (1 < j % 16 ∨ j / 16 < 208 ∨ 212 ≤ j / 16) → cn_cl r m n K j = G j)
  | 0, n, H, K, hn, hm, hrr, hH, hK => by
    unfold rf_lmk rf_lm cn_cl
    exact ⟨trivial, hrr, hH, hK⟩
  | m + 1, n, H, K, hn, hm, hrr, hH, hK => by
    have hS : rr_S N := Nat.le_trans h.1 h.2.1
    have hC : rr_C K := fun u hu => by rw [hK _ (by omega)]; exact h.2.2.2.2.2.2.1 u hu
    have hm6 : (n - 1) % 6 < 6 := Nat.mod_lt _ (by omega)
    have hx : rr N G (4 + r * 6 + (n - 1) % 6) F (205 + 57 * (4 + r * 6 + (n - 1) % 6)) := h.2.2.2.2.2.2.2.1 _ (by omega)
    have edl : rf_dl r n = 205 + 57 * (4 + r * 6 + (n - 1) % 6) := by unfold rf_dl; omega
    have hc := rr_c24 hS h.2.2.2.2.2.2.1 hx
    have hx2 : rr N K (4 + r * 6 + (n - 1) % 6) H (rf_dl r n) := by
      rw [edl]
      exact rr_frame hx (fun k hk => hH _ (by omega)) (fun s hs => ⟨hK _ (by omega), hK _ (by omega)⟩) (fun u _ _ => hK _ (by omega)) (fun _ _ => Nat.le_refl _) (by omega)
    have hmr := rr_merge hS hC (show 52 ≠ 4 + r * 6 + (n - 1) % 6 by omega) (by omega) (by omega) hrr hx2
    have hl1 : ∀ j, j < 3201 → rf_lm1 H r n j = F j := fun j hj => by
      unfold rf_lm1
      rw [rf_cfar _ _ _ (by omega), rf_mero (by omega) (by omega) (by omega)]
      exact hH j hj
    have hK2 : ∀ j, (1 < j % 16 ∨ j / 16 < 208 ∨ 212 ≤ j / 16) → cn_mg 52 (4 + r * 6 + (n - 1) % 6) 4 0 K j = G j := fun j hj => by
      rw [cn_mgu _ _ _ _ _ _ (by omega)]; exact hK j hj
    have hC2 : rr_C (cn_mg 52 (4 + r * 6 + (n - 1) % 6) 4 0 K) := fun u hu => by rw [hK2 _ (by omega)]; exact h.2.2.2.2.2.2.1 u hu
    have hr2 : rr N (cn_mg 52 (4 + r * 6 + (n - 1) % 6) 4 0 K) 52 (rf_lm1 H r n) 3258 := rr_frame hmr (fun k hk => by
      unfold rf_lm1 rf_c
      rw [if_pos (by omega), Nat.add_sub_cancel_left]) (fun _ _ => ⟨rfl, rfl⟩) (fun _ _ _ => rfl) (fun _ _ => Nat.le_refl _) (by have := rr_c24 hS hC2 hmr; omega)
    obtain ⟨p1, p2, p3, p4⟩ := rl_lm h hbd hr m (n + 1) (rf_lm1 H r n) (cn_mg 52 (4 + r * 6 + (n - 1) % 6) 4 0 K) (by omega) (by omega) hr2 hl1 hK2
    unfold rf_lmk rf_lm cn_cl
    refine ⟨⟨rr_mok hS hC hrr hx2, ?_, p1⟩, p2, p3, p4⟩
    rw [hl1 _ (by omega), hH _ (by omega)]
/-- what would be sent is the same -/
theorem rl_msg {t lo bd : Nat} {N F G : Nat → Nat} {r q : Nat} (h : rl t lo bd N F G) (hbd : bd < 500000) (hr : r < 4) (hq : q < 4) :
    rf_msk F r q ∧ rr N (cn_co G r q) 52 (rf_msg F r q) 3258 ∧ (∀ j, j < 3201 → rf_msg F r q j = F j) ∧ (∀ j, (1 < j % 16 ∨ j / 16 < 208 ∨ 212 ≤ j / 16) → cn_co G r q j = G j) := by
  have hS : rr_S N := Nat.le_trans h.1 h.2.1
  obtain ⟨c1, c2, c3, c4, c5⟩ := h.2.2.2.1 r hr
  obtain ⟨a1, a2⟩ := h.2.2.2.2.1 r q hr hq
  have hrow := h.2.2.2.2.2.2.2.1 r (by omega)
  have hc := rr_c24 hS h.2.2.2.2.2.2.1 hrow
  have w3 : cn_wp G (16 * (r * 4 + q) + 3) = G (16 * (r * 4 + q) + 3) := cn_wzo _ _ _ _ (by omega)
  have w4 : cn_wp G (16 * r + 4) = G (16 * r + 4) := cn_wzo _ _ _ _ (by omega)
  have z0 : rr N (cn_wp G) 52 (rf_z F 3258 0) 3258 := rr_zero (fun s hs => cn_wzv 4 (52 * 4) G (52 * 4 + s) (by omega) (by omega)) (fun k hk => if_pos (by omega))
  have hfr : G (16 * r + 5) ≤ G (16 * (r * 4 + q) + 3) → cn_fr (cn_wp G) r q = G (16 * (r * 4 + q) + 3) := fun e => by unfold cn_fr; rw [w3, w4]; omega
  by_cases e : G (16 * (r * 4 + q) + 3) < G (16 * r + 5)
  · refine ⟨⟨by omega, by omega, by omega, by omega, fun e2 => absurd (by rw [a1, c2]; exact e) e2⟩, ?_, fun j hj => ?_, fun j hj => ?_⟩
    · unfold rf_msg cn_co
      rw [if_pos e, if_pos (by rw [a1, c2]; exact e)]
      refine rr_frame hrow (fun k hk => by unfold rf_c; rw [if_pos (by omega), Nat.add_sub_cancel_left]) (fun s hs => ?_) (fun u _ _ => cn_mvn _ _ _ _ (by omega)) (fun _ _ => Nat.le_refl _) (by omega)
      have := cn_mvg G r 52 1 52 s (by omega) (by omega) hs
      rw [Nat.sub_self, Nat.add_zero] at this
      exact this
    · unfold rf_msg
      rw [if_pos (by rw [a1, c2]; exact e)]
      exact rf_cfar _ _ _ (by omega)
    · unfold cn_co
      rw [if_pos e]
      exact cn_mvn _ _ _ _ (by omega)
  · have hf := hfr (by omega)
    obtain ⟨p1, p2, p3, p4⟩ := rl_lm h hbd hr (G (16 * r + 4) - G (16 * (r * 4 + q) + 3)) (G (16 * (r * 4 + q) + 3) + 1) (rf_z F 3258 0) (cn_wp G) (by omega) (by omega) z0 (fun j hj => rf_zo _ _ _ (by omega)) (fun j hj => cn_wzo _ _ _ _ (by omega))
    have en : ¬ F (20 + 4 * r + q) < F (16 + r) := by rw [a1, c2]; exact e
    refine ⟨⟨by omega, by omega, by omega, by omega, fun _ => by rw [c1, a1]; exact p1⟩, ?_, fun j hj => ?_, fun j hj => ?_⟩
    · unfold rf_msg cn_co
      rw [if_neg e, if_neg en, hf, w4, c1, a1]
      exact p2
    · unfold rf_msg
      rw [if_neg en, c1, a1]
      exact p3 j hj
    · unfold cn_co
      rw [if_neg e, hf, w4]
      exact p4 j hj
/-- what the relation doesn't see -/
theorem rl_frame {t lo lo' bd bd' t' : Nat} {N F G F' G' : Nat → Nat} (h : rl t lo bd N F G) (ht : t ≤ t') (ht' : t' ≤ 24) (hbd : bd ≤ bd') (hlo : lo' ≤ lo)
    (fF : ∀ k, (k = 1 ∨ k = 5 ∨ k = 6 ∨ k = 11 ∨ (12 ≤ k ∧ k < 36) ∨ (61 ≤ k ∧ k < 3169)) → F' k = F k) (f7 : F' 7 = G' 56) (f7b : F' 7 < 31139) (f10 : F' 10 ≤ 25) (g24 : G' 24 ≤ 25)
    (fG : ∀ j, j ≠ 24 → j ≠ 56 → j ≠ 72 → j ≠ 88 → j % 16 ≠ 7 → (1 < j % 16 ∨ j / 16 < 208) → G' j = G j) : rl t' lo' bd' N F' G' := by
  obtain ⟨b1, b2, ⟨s1, s2, s3, s4, s5, s6, s7, s8, s9, s10⟩, b4, b5, b6, b7, b8, b9, b10, b11⟩ := h
  have hS : rr_S N := Nat.le_trans b1 b2
  have e8 : G' 8 = G 8 := fG 8 (by omega) (by omega) (by omega) (by omega) (by omega) (by omega)
  have e40 : G' 40 = G 40 := fG 40 (by omega) (by omega) (by omega) (by omega) (by omega) (by omega)
  have eg : ∀ j u, 2 ≤ u → u < 7 → G' (16 * j + u) = G (16 * j + u) := fun j u h1 h2 => fG _ (by omega) (by omega) (by omega) (by omega) (by omega) (by omega)
  have er : ∀ x X, x < 52 → (61 ≤ X ∧ X + 57 ≤ 3169) → rr N G x F X → rr N G' x F' X := fun x X hx hX hr =>
    rr_frame hr (fun k hk => fF _ (by omega)) (fun s hs => ⟨fG _ (by omega) (by omega) (by omega) (by omega) (by omega) (by omega), fG _ (by omega) (by omega) (by omega) (by omega) (by omega) (by omega)⟩) (fun u _ _ => eg u 2 (by omega) (by omega)) (fun _ _ => Nat.le_refl _) (by have := rr_c24 hS b7 hr; omega)
  refine ⟨by omega, ht', ⟨?_, ?_, ?_, f7, f7b, f10, g24, ?_, by omega, by omega⟩, fun s hs => ?_, fun s q hs hq => ?_, fun s hs => ?_, fun u hu => ?_, fun x hx => er x _ (by omega) (by omega) (b8 x hx), fun s hs => ?_, fun i hi => ?_, fun i j hij hj => ?_⟩
  · rw [fF 1 (by omega)]; exact s1
  · rw [fF 5 (by omega)]; exact s2
  · rw [fF 6 (by omega), e40]; exact s3
  · rw [fF 11 (by omega), e8]; exact s8
  · obtain ⟨c1, c2, c3, c4, c5⟩ := b4 s hs
    unfold rl_m
    rw [fF (12 + s) (by omega), fF (16 + s) (by omega), eg s 4 (by omega) (by omega), eg s 5 (by omega) (by omega)]
    exact ⟨c1, c2, c3, c4, by omega⟩
  · rw [fF (20 + 4 * s + q) (by omega), eg _ 3 (by omega) (by omega), eg _ 4 (by omega) (by omega)]
    exact b5 s q hs hq
  · obtain ⟨q, q1, q2, q3⟩ := b6 s hs
    exact ⟨q, q1, q2, by rw [eg _ 3 (by omega) (by omega), eg _ 5 (by omega) (by omega)]; exact q3⟩
  · rw [eg _ 2 (by omega) (by omega)]; exact b7 u hu
  · rw [fG _ (by omega) (by omega) (by omega) (by omega) (by omega) (by omega)]; exact b9 s hs
  · rw [e8] at hi
    obtain ⟨f1, f3, f5, ⟨f6, f8, f9⟩, f10', f11, f12⟩ := b10 i hi
    have hF : ∀ k, k < 6 → F' (61 + 6 * i + k) = F (61 + 6 * i + k) := fun k hk => fF _ (by omega)
    have e6 : ∀ j, G' (16 * j + 6) = G (16 * j + 6) := fun j => eg j 6 (by omega) (by omega)
    unfold rl_f
    rw [hF 0 (by omega), hF 1 (by omega), hF 2 (by omega), hF 3 (by omega), hF 4 (by omega), hF 5 (by omega), e6, e6, e6, e6, e6, e40, eg _ 4 (by omega) (by omega), eg _ 4 (by omega) (by omega)]
    refine ⟨f1, f3, f5, ⟨f6, by omega, f9⟩, f10', f11, ?_⟩
    rcases f12 with p | ⟨p1, p2, p3, p4⟩
    · exact Or.inl p
    · exact Or.inr ⟨p1, by omega, p3, er _ _ (by omega) (by omega) p4⟩
  · rw [e8] at hj
    rw [eg _ 6 (by omega) (by omega), eg _ 6 (by omega) (by omega)]; exact b11 i j hij hj
/-- one more in flight, behind all -/
theorem rl_app {t lo bd t' : Nat} {N F G F' G' : Nat → Nat} (h : rl t lo bd N F G) (ht : t ≤ t') (ht' : t' ≤ 24) (h8 : G 8 < t')
    (fF : ∀ k, (k = 1 ∨ k = 5 ∨ k = 6 ∨ (12 ≤ k ∧ k < 36) ∨ (61 ≤ k ∧ k < 1801 ∧ (k < 61 + 6 * G 8 ∨ 61 + 6 * G 8 + 6 ≤ k))) → F' k = F k) (f7 : F' 7 = G' 56) (f7b : F' 7 < 31139) (f10 : F' 10 ≤ 25) (g24 : G' 24 ≤ 25) (f11 : F' 11 = G 8 + 1) (g8 : G' 8 = G 8 + 1)
    (fr : ∀ i, i < G 8 → G (16 * (i * 5 + 3) + 6) = 0 → ∀ k, k < 57 → F' (205 + 57 * (28 + F (61 + 6 * i + 5)) + k) = F (205 + 57 * (28 + F (61 + 6 * i + 5)) + k))
    (fG : ∀ j, j ≠ 8 → j ≠ 24 → j ≠ 56 → j ≠ 72 → j ≠ 88 → j % 16 ≠ 7 → (j % 16 ≠ 6 ∨ j / 16 < 5 * G 8) → (1 < j % 16 ∨ j / 16 < 4 * (28 + G 8)) → G' j = G j)
    (new : rl_f t' lo N F' G' (G 8)) (hl : ∀ i, i < G 8 → G (16 * (i * 5 + 2) + 6) ≤ G' (16 * (G 8 * 5 + 2) + 6)) : rl t' lo bd N F' G' := by
  obtain ⟨b1, b2, ⟨s1, s2, s3, s4, s5, s6, s7, s8, s9, s10⟩, b4, b5, b6, b7, b8, b9, b10, b11⟩ := h
  have hS : rr_S N := Nat.le_trans b1 b2
  have e40 : G' 40 = G 40 := fG 40 (by omega) (by omega) (by omega) (by omega) (by omega) (by omega) (by omega) (by omega)
  have eg : ∀ j u, 2 ≤ u → u < 6 → G' (16 * j + u) = G (16 * j + u) := fun j u h1 h2 => fG _ (by omega) (by omega) (by omega) (by omega) (by omega) (by omega) (by omega) (by omega)
  have er : ∀ x X, x < 28 + G 8 → (∀ k, k < 57 → F' (X + k) = F (X + k)) → rr N G x F X → rr N G' x F' X := fun x X hx hF hr =>
    rr_frame hr hF (fun s hs => ⟨fG _ (by omega) (by omega) (by omega) (by omega) (by omega) (by omega) (by omega) (by omega), fG _ (by omega) (by omega) (by omega) (by omega) (by omega) (by omega) (by omega) (by omega)⟩) (fun u _ _ => eg u 2 (by omega) (by omega)) (fun _ _ => Nat.le_refl _) (by have := rr_c24 hS b7 hr; omega)
  have e6 : ∀ j, j < 5 * G 8 → G' (16 * j + 6) = G (16 * j + 6) := fun j hj => fG _ (by omega) (by omega) (by omega) (by omega) (by omega) (by omega) (by omega) (by omega)
  refine ⟨by omega, ht', ⟨?_, ?_, ?_, f7, f7b, f10, g24, by omega, by omega, by omega⟩, fun s hs => ?_, fun s q hs hq => ?_, fun s hs => ?_, fun u hu => ?_, fun x hx => er x _ (by omega) (fun k hk => fF _ (by omega)) (b8 x hx), fun s hs => ?_, fun i hi => ?_, fun i j hij hj => ?_⟩
  · rw [fF 1 (by omega)]; exact s1
  · rw [fF 5 (by omega)]; exact s2
  · rw [fF 6 (by omega), e40]; exact s3
  · obtain ⟨c1, c2, c3, c4, c5⟩ := b4 s hs
    unfold rl_m
    rw [fF (12 + s) (by omega), fF (16 + s) (by omega), eg s 4 (by omega) (by omega), eg s 5 (by omega) (by omega)]
    exact ⟨c1, c2, c3, c4, c5⟩
  · rw [fF (20 + 4 * s + q) (by omega), eg _ 3 (by omega) (by omega), eg _ 4 (by omega) (by omega)]
    exact b5 s q hs hq
  · obtain ⟨q, q1, q2, q3⟩ := b6 s hs
    exact ⟨q, q1, q2, by rw [eg _ 3 (by omega) (by omega), eg _ 5 (by omega) (by omega)]; exact q3⟩
  · rw [eg _ 2 (by omega) (by omega)]; exact b7 u hu
  · rw [fG _ (by omega) (by omega) (by omega) (by omega) (by omega) (by omega) (by omega) (by omega)]; exact b9 s hs
  · rcases Nat.lt_or_ge i (G 8) with e | e
    · obtain ⟨f1, f3, f5, f6, f10', f11', f12⟩ := b10 i e
      have hF : ∀ k, k < 6 → F' (61 + 6 * i + k) = F (61 + 6 * i + k) := fun k hk => fF _ (by omega)
      unfold rl_f
      rw [hF 0 (by omega), hF 1 (by omega), hF 2 (by omega), hF 3 (by omega), hF 4 (by omega), hF 5 (by omega), e6 _ (by omega), e6 _ (by omega), e6 _ (by omega), e6 _ (by omega), e6 _ (by omega), e40, eg _ 4 (by omega) (by omega), eg _ 4 (by omega) (by omega)]
      refine ⟨f1, f3, f5, f6, f10', f11', ?_⟩
      rcases f12 with p | ⟨p1, p2, p3, p4⟩
      · exact Or.inl p
      · exact Or.inr ⟨p1, by omega, p3, er _ _ (by omega) (fr i e p1) p4⟩
    · have : i = G 8 := by omega
      subst this
      exact new
  · rw [g8] at hj
    rcases Nat.lt_or_ge j (G 8) with e | e
    · rw [e6 _ (by omega), e6 _ (by omega)]; exact b11 i j hij e
    · have : j = G 8 := by omega
      subst this
      rw [e6 _ (by omega)]; exact hl i hij
