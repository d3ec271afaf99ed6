/-! what the class does to its rows (out of the proof of p1) -/
def rr_k (G : Nat → Nat) (x u : Nat) : Prop := 0 < u % 64 ∧ (G (16 * (x * 4 + u / 64) + 0)).testBit (u % 64 - 1) = true
def rr_a (G : Nat → Nat) (x u : Nat) : Prop := 0 < u % 64 ∧ (G (16 * (x * 4 + u / 64) + 1)).testBit (u % 64 - 1) = true
theorem cn_mgu (x y : Nat) : ∀ (m k : Nat) (G : Nat → Nat) (j : Nat), (1 < j % 16 ∨ j / 16 < x * 4 + k ∨ x * 4 + k + m ≤ j / 16) → cn_mg x y m k G j = G j
  | 0, _, _, _, _ => rfl
  | m + 1, k, G, j, h => by
    unfold cn_mg
    rw [cn_mgu x y m (k + 1) _ j (by omega)]
    unfold cn_m2 cn_m1
    rw [xn_un _ _ (by omega), xn_un _ _ (by omega)]
theorem cn_mgv (x y : Nat) (hxy : x ≠ y) : ∀ (m k : Nat) (G : Nat → Nat) (r : Nat), k + m ≤ 4 → k ≤ r → r < k + m →
    cn_mg x y m k G (16 * (x * 4 + r) + 0) = G (16 * (x * 4 + r) + 0) ||| G (16 * (y * 4 + r) + 0) ∧
    cn_mg x y m k G (16 * (x * 4 + r) + 1) = (G (16 * (x * 4 + r) + 0) ||| G (16 * (y * 4 + r) + 0)) &&& (cn_go G (x * 4 + r) (y * 4 + r) ^^^ 18446744073709551615)
  | 0, _, _, _, _, h1, h2 => by omega
  | m + 1, k, G, r, h, h1, h2 => by
    unfold cn_mg
    rcases Nat.lt_or_ge k r with e | e
    · have q0 : cn_m2 G (x * 4 + k) (y * 4 + k) (16 * (x * 4 + r) + 0) = G (16 * (x * 4 + r) + 0) := by
        unfold cn_m2 cn_m1; rw [xn_un _ _ (by omega), xn_un _ _ (by omega)]
      have q1 : cn_m2 G (x * 4 + k) (y * 4 + k) (16 * (x * 4 + r) + 1) = G (16 * (x * 4 + r) + 1) := by
        unfold cn_m2 cn_m1; rw [xn_un _ _ (by omega), xn_un _ _ (by omega)]
      have q2 : cn_m2 G (x * 4 + k) (y * 4 + k) (16 * (y * 4 + r) + 0) = G (16 * (y * 4 + r) + 0) := by
        unfold cn_m2 cn_m1; rw [xn_un _ _ (by omega), xn_un _ _ (by omega)]
      have q3 : cn_m2 G (x * 4 + k) (y * 4 + k) (16 * (y * 4 + r) + 1) = G (16 * (y * 4 + r) + 1) := by
        unfold cn_m2 cn_m1; rw [xn_un _ _ (by omega), xn_un _ _ (by omega)]
      have ih := cn_mgv x y hxy m (k + 1) (cn_m2 G (x * 4 + k) (y * 4 + k)) r (by omega) (by omega) (by omega)
      unfold cn_go at ih ⊢
      rw [q0, q1, q2, q3] at ih
      exact ih
    · have e2 : k = r := by omega
      subst e2
      rw [cn_mgu x y m (k + 1) _ _ (by omega), cn_mgu x y m (k + 1) _ _ (by omega)]
      unfold cn_m2
      constructor
      · rw [xn_un _ _ (by omega)]
        unfold cn_m1
        rw [xn_ue]
      · rw [xn_ue]
        unfold cn_m1
        rw [xn_ue]
theorem cn_lk_iff (G : Nat → Nat) (x y : Nat) : ∀ (m k : Nat), cn_lk G x y m k = 1 ↔ ∀ q, k ≤ q → q < k + m → G (16 * (x * 4 + q) + 0) = G (16 * (y * 4 + q) + 0) ∧ G (16 * (x * 4 + q) + 1) = G (16 * (y * 4 + q) + 1)
  | 0, k => by
    unfold cn_lk
    exact ⟨fun _ q h1 h2 => by omega, fun _ => rfl⟩
  | m + 1, k => by
    unfold cn_lk
    by_cases h : G (16 * (x * 4 + k) + 0) = G (16 * (y * 4 + k) + 0) ∧ G (16 * (x * 4 + k) + 1) = G (16 * (y * 4 + k) + 1)
    · rw [if_pos h, cn_lk_iff G x y m (k + 1)]
      constructor
      · intro g q h1 h2
        rcases Nat.lt_or_ge k q with e | e
        · exact g q (by omega) (by omega)
        · have e2 : q = k := by omega
          rw [e2]; exact h
      · intro g q h1 h2
        exact g q (by omega) (by omega)
    · rw [if_neg h]
      constructor
      · intro g; omega
      · intro g; exact absurd (g k (Nat.le_refl _) (by omega)) h
theorem cn_hee (G H : Nat → Nat) (x u q f : Nat) (h : ∀ j, j % 16 = 1 ∨ j % 16 = 2 → G j = H j) : cn_he G x u q f = cn_he H x u q f := by
  unfold cn_he cn_hp
  rw [h (16 * (x * 4 + u / 64) + 1) (by omega), h (16 * u + 2) (by omega)]
theorem cn_ga_spec (y x q f : Nat) : ∀ (m t : Nat) (H : Nat → Nat), t + m = 256 →
    (∀ j, (j % 16 ≠ 0 ∨ j / 16 < y * 4 ∨ y * 4 + 4 ≤ j / 16) → cn_ga y x q f m t H j = H j) ∧
    (∀ r n, r < 4 → ((cn_ga y x q f m t H (16 * (y * 4 + r) + 0)).testBit n = true ↔ (H (16 * (y * 4 + r) + 0)).testBit n = true ∨ ∃ u, t ≤ u ∧ u < 256 ∧ cn_he H x u q f ≠ 0 ∧ u / 64 = r ∧ u % 64 - 1 = n))
  | 0, t, H, hm => by
    unfold cn_ga
    refine ⟨fun _ _ => rfl, fun r n hr => ⟨fun a => Or.inl a, ?_⟩⟩
    rintro (a | ⟨u, h1, h2, _⟩)
    · exact a
    · omega
  | m + 1, t, H, hm => by
    unfold cn_ga
    by_cases h0 : cn_he H x t q f = 0
    · rw [if_pos h0]
      obtain ⟨p1, p2⟩ := cn_ga_spec y x q f m (t + 1) H (by omega)
      refine ⟨p1, fun r n hr => (p2 r n hr).trans ⟨?_, ?_⟩⟩
      · rintro (a | ⟨u, h1, h2, h3⟩)
        · exact Or.inl a
        · exact Or.inr ⟨u, by omega, h2, h3⟩
      · rintro (a | ⟨u, h1, h2, h3⟩)
        · exact Or.inl a
        · rcases Nat.lt_or_ge t u with e1 | e1
          · exact Or.inr ⟨u, by omega, h2, h3⟩
          · have e2 : u = t := by omega
            subst e2
            exact absurd h0 h3.1
    · rw [if_neg h0]
      have hk : ∀ j, (j % 16 ≠ 0 ∨ j / 16 < y * 4 ∨ y * 4 + 4 ≤ j / 16) → cn_k1 H y t j = H j := fun j hj => xn_un _ _ (by omega)
      have hh : ∀ u, cn_he (cn_k1 H y t) x u q f = cn_he H x u q f := fun u => cn_hee _ _ x u q f (fun j hj => hk j (by omega))
      obtain ⟨p1, p2⟩ := cn_ga_spec y x q f m (t + 1) (cn_k1 H y t) (by omega)
      refine ⟨fun j hj => by rw [p1 j hj, hk j hj], fun r n hr => (p2 r n hr).trans ?_⟩
      have hb : (cn_k1 H y t (16 * (y * 4 + r) + 0)).testBit n = true ↔ (H (16 * (y * 4 + r) + 0)).testBit n = true ∨ (t / 64 = r ∧ t % 64 - 1 = n) := by
        unfold cn_k1
        by_cases e : t / 64 = r
        · subst e
          rw [xn_ue, Nat.testBit_or, Bool.or_eq_true, Nat.one_mul, Nat.testBit_two_pow, decide_eq_true_iff]
          constructor
          · rintro (a | a)
            · exact Or.inl a
            · exact Or.inr ⟨rfl, a⟩
          · rintro (a | a)
            · exact Or.inl a
            · exact Or.inr a.2
        · rw [xn_un _ _ (by omega)]
          constructor
          · intro a; exact Or.inl a
          · rintro (a | a)
            · exact a
            · exact absurd a.1 e
      rw [hb]
      constructor
      · rintro ((a | a) | ⟨u, h1, h2, h3, h4⟩)
        · exact Or.inl a
        · exact Or.inr ⟨t, Nat.le_refl _, by omega, h0, a⟩
        · rw [hh u] at h3
          exact Or.inr ⟨u, by omega, h2, h3, h4⟩
      · rintro (a | ⟨u, h1, h2, h3, h4⟩)
        · exact Or.inl (Or.inl a)
        · rcases Nat.lt_or_ge t u with e1 | e1
          · exact Or.inr ⟨u, by omega, h2, by rw [hh u]; exact h3, h4⟩
          · have e2 : u = t := by omega
            subst e2
            exact Or.inl (Or.inr h4)
theorem cn_wzv : ∀ (m k : Nat) (F : Nat → Nat) (j : Nat), k ≤ j → j < k + m → cn_wz m k F (16 * j + 0) = 0 ∧ cn_wz m k F (16 * j + 1) = 0
  | 0, _, _, _, h1, h2 => by omega
  | m + 1, k, F, j, h1, h2 => by
    unfold cn_wz
    rcases Nat.lt_or_ge k j with e | e
    · exact cn_wzv m (k + 1) _ j (by omega) (by omega)
    · have e2 : k = j := by omega
      subst e2
      rw [cn_wzo _ _ _ _ (by omega), cn_wzo _ _ _ _ (by omega)]
      exact ⟨by rw [xn_un _ _ (by omega), xn_ue], xn_ue _ _ _⟩
def rr_m (G : Nat → Nat) (u q f : Nat) : Prop := G (16 * u + 2) / 300 = q ∧ (f = 4294967295 ∨ G (16 * u + 2) / 100 % 3 = f)
theorem rr_he {G : Nat → Nat} {x u q f : Nat} (hq : q < 4) (hl : u < 256) : cn_he G x u q f ≠ 0 ↔ rr_a G x u ∧ rr_m G u q f := by
  have hb : ¬ G (16 * (x * 4 + u / 64) + 1) / 2 ^ (u % 64 - 1) &&& 1 = 0 ↔ (G (16 * (x * 4 + u / 64) + 1)).testBit (u % 64 - 1) = true := by
    rw [Nat.testBit_eq_decide_div_mod_eq, decide_eq_true_iff, Nat.and_one_is_mod]
    have := Nat.mod_lt (G (16 * (x * 4 + u / 64) + 1) / 2 ^ (u % 64 - 1)) (show 0 < 2 by omega)
    omega
  have hp : cn_hp G x u q f ↔ rr_a G x u ∧ rr_m G u q f := by
    unfold cn_hp rr_a rr_m
    rw [hb]
    constructor
    · rintro ⟨a, b, c | c, d⟩
      · omega
      · exact ⟨⟨a, b⟩, c, d⟩
    · rintro ⟨⟨a, b⟩, c, d⟩
      exact ⟨a, b, Or.inr c, d⟩
  unfold cn_he
  by_cases h : cn_hp G x u q f
  · rw [if_pos h]; exact ⟨fun _ => hp.mp h, fun _ => by omega⟩
  · rw [if_neg h]; exact ⟨fun a => absurd rfl a, fun a => absurd (hp.mpr a) h⟩
theorem cn_gatk {G : Nat → Nat} {y x q f u : Nat} (hq : q < 4) (hu : u < 256) (hyx : y ≠ x) : (rr_k (cn_gat G y x q f) y u ↔ rr_a G x u ∧ rr_m G u q f) ∧ ¬ rr_a (cn_gat G y x q f) y u := by
  obtain ⟨p1, p2⟩ := cn_ga_spec y x q f 256 0 (cn_wz 4 (y * 4) G) rfl
  have hz := fun r (hr : r < 4) => cn_wzv 4 (y * 4) G (y * 4 + r) (by omega) (by omega)
  have hhe : ∀ u, u < 256 → (cn_he (cn_wz 4 (y * 4) G) x u q f ≠ 0 ↔ rr_a G x u ∧ rr_m G u q f) := fun u hu => by
    rw [rr_he hq hu]
    unfold rr_a rr_m
    rw [cn_wzo _ _ _ _ (by omega), cn_wzo _ _ _ _ (by omega)]
  constructor
  · have h2 := p2 (u / 64) (u % 64 - 1) (by omega)
    rw [(hz (u / 64) (by omega)).1] at h2
    unfold rr_k cn_gat
    rw [h2]
    constructor
    · rintro ⟨a, b | ⟨v, h1, h3, h4, h5, h6⟩⟩
      · rw [Nat.zero_testBit] at b; cases b
      · have h7 := (hhe v h3).mp h4
        have h8 := h7.1.1
        have : v = u := by omega
        subst this
        exact h7
    · intro a
      exact ⟨a.1.1, Or.inr ⟨u, by omega, hu, (hhe u hu).mpr a, rfl, rfl⟩⟩
  · rintro ⟨a, b⟩
    unfold cn_gat at b
    rw [p1 _ (by omega), (hz (u / 64) (by omega)).2, Nat.zero_testBit] at b
    cases b
theorem cn_gato (G : Nat → Nat) (y x q f : Nat) {j : Nat} (h : 1 < j % 16 ∨ j / 16 < y * 4 ∨ y * 4 + 4 ≤ j / 16) : cn_gat G y x q f j = G j := by
  unfold cn_gat
  rw [(cn_ga_spec y x q f 256 0 _ rfl).1 j (by omega), cn_wzo _ _ _ _ (by omega)]
theorem cn_gata (G : Nat → Nat) (y x q f : Nat) {r : Nat} (hr : r < 4) : cn_gat G y x q f (16 * (y * 4 + r) + 1) = 0 := by
  unfold cn_gat
  rw [(cn_ga_spec y x q f 256 0 _ rfl).1 _ (by omega)]
  exact (cn_wzv 4 (y * 4) G (y * 4 + r) (by omega) (by omega)).2
theorem cn_ndo (G : Nat → Nat) (r : Nat) {j : Nat} (h : j ≠ 16 * r + 4) (h2 : j ≠ 16 * r + 5) : cn_nd G r j = G j := by
  unfold cn_nd cn_n1; rw [xn_un _ _ h2, xn_un _ _ h]
theorem cn_nd5 (G : Nat → Nat) (r : Nat) : cn_nd G r (16 * r + 5) = max (G (16 * r + 5)) (G (16 * r + 4) + 1 - 6) := by
  unfold cn_nd cn_n1; rw [xn_ue, xn_un _ _ (by omega), xn_ue]
theorem cn_nrv (G : Nat → Nat) (r : Nat) : cn_nr G r = 4 + r * 6 + G (16 * r + 4) % 6 := by
  unfold cn_nr; rw [cn_nd4, Nat.add_sub_cancel]
theorem cn_wro (G : Nat → Nat) (a r k : Nat) {j : Nat} (h : j ≠ 24) (h7 : j % 16 ≠ 7) : cn_wr G a r k j = G j := by
  have h3 : ∀ H : Nat → Nat, cn_w3 H a r k j = H j := fun H => by
    unfold cn_w3 cn_w2
    rw [xn_un _ _ h, xn_un _ _ (by omega), xn_un _ _ (by omega), xn_un _ _ (by omega), xn_un _ _ (by omega)]
  unfold cn_wr
  split
  · exact h3 G
  · rw [h3]
    unfold cn_w1
    rw [xn_un _ _ h, cn_cpn _ _ _ _ _ h7]
theorem cn_wrt (G : Nat → Nat) (a r k : Nat) : cn_wr G a r k 24 ≤ 25 := by
  have h3 : ∀ H : Nat → Nat, cn_w3 H a r k 24 = H 24 + 1 := fun H => by
    unfold cn_w3
    rw [xn_ue]
    unfold cn_w2
    rw [xn_un _ _ (by omega), xn_un _ _ (by omega), xn_un _ _ (by omega), xn_un _ _ (by omega)]
  unfold cn_wr
  split
  · rw [h3]; omega
  · rw [h3]
    have : cn_w1 G 24 = 24 := xn_ue _ _ _
    omega
theorem cn_mvg (G : Nat → Nat) (x y n z s : Nat) (hz : y ≤ z) (hz2 : z < y + n) (hs : s < 4) : cn_mv G x y n (16 * (z * 4 + s) + 0) = G (16 * ((x + (z - y)) * 4 + s) + 0) ∧ cn_mv G x y n (16 * (z * 4 + s) + 1) = G (16 * ((x + (z - y)) * 4 + s) + 1) := by
  constructor
  · unfold cn_mv
    rw [cn_cpn _ _ _ _ _ (by omega)]
    unfold cn_cp
    rw [if_pos (by omega)]
    congr 1
    omega
  · unfold cn_mv
    have : ∀ H : Nat → Nat, cn_cp 1 H (x * 4) (y * 4) (n * 4) (16 * (z * 4 + s) + 1) = H (16 * ((x + (z - y)) * 4 + s) + 1) := fun H => by
      unfold cn_cp
      rw [if_pos (by omega)]
      congr 1
      omega
    rw [this, cn_cpn _ _ _ _ _ (by omega)]
theorem cn_mvn (G : Nat → Nat) (x y n : Nat) {j : Nat} (h : 1 < j % 16 ∨ j / 16 < y * 4 ∨ (y + n) * 4 ≤ j / 16) : cn_mv G x y n j = G j := by
  unfold cn_mv cn_cp
  rw [if_neg (by omega), if_neg (by omega)]
theorem cn_rmv (F : Nat → Nat) : cn_rm F 8 = F 8 + 1 ∧ (∀ s, s < 4 → cn_rm F (16 * ((28 + F 8) * 4 + s) + 0) = F (16 * (52 * 4 + s) + 0) ∧ cn_rm F (16 * ((28 + F 8) * 4 + s) + 1) = F (16 * (52 * 4 + s) + 1)) ∧ (∀ j, j ≠ 8 → (1 < j % 16 ∨ j / 16 < (28 + F 8) * 4 ∨ (28 + F 8) * 4 + 4 ≤ j / 16) → cn_rm F j = F j) := by
  refine ⟨?_, fun s hs => ?_, fun j h1 h2 => ?_⟩
  · unfold cn_rm
    rw [xn_ue, cn_mvo _ _ _ _ (by omega)]
  · have := cn_mvg F 52 (28 + F 8) 1 (28 + F 8) s (by omega) (by omega) hs
    rw [Nat.sub_self, Nat.add_zero] at this
    unfold cn_rm
    rw [xn_un _ _ (by omega), xn_un _ _ (by omega)]
    exact this
  · unfold cn_rm
    rw [xn_un _ _ h1]
    exact cn_mvn _ _ _ _ (by omega)
theorem cn_lmx (G : Nat → Nat) (r : Nat) : ∀ (m k v : Nat), cn_lm G r m k v = v ∨ ∃ q, k ≤ q ∧ q < k + m ∧ q ≠ r ∧ cn_lm G r m k v = G (16 * (r * 4 + q) + 3)
  | 0, _, _ => Or.inl rfl
  | m + 1, k, v => by
    unfold cn_lm
    rcases cn_lmx G r m (k + 1) (if k = r then v else min v (G (16 * (r * 4 + k) + 3))) with e | ⟨q, h1, h2, h3, h4⟩
    · rw [e]
      by_cases hk : k = r
      · rw [if_pos hk]; exact Or.inl rfl
      · rw [if_neg hk]
        rcases Nat.le_total v (G (16 * (r * 4 + k) + 3)) with g | g
        · exact Or.inl (Nat.min_eq_left g)
        · exact Or.inr ⟨k, Nat.le_refl _, by omega, hk, Nat.min_eq_right g⟩
    · exact Or.inr ⟨q, by omega, by omega, h3, h4⟩
