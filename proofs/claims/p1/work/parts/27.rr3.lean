/-! CHANGE on both sides -/
theorem kn_bit (H : Nat → Nat) (x t w e : Nat) : (rf_kn H x t (x + w)).testBit e = true ↔ (H (x + w)).testBit e = true ∨ (w = t / 32 ∧ e = t % 32) := by
  unfold rf_kn
  by_cases h : w = t / 32
  · subst h
    rw [xn_ue, Nat.testBit_or, Bool.or_eq_true, Nat.one_mul, Nat.testBit_two_pow, decide_eq_true_iff]
    constructor
    · rintro (a | a)
      · exact Or.inl a
      · exact Or.inr ⟨rfl, a.symm⟩
    · rintro (a | a)
      · exact Or.inl a
      · exact Or.inr a.2.symm
  · rw [xn_un _ _ (by omega)]
    constructor
    · intro a; exact Or.inl a
    · rintro (a | a)
      · exact a
      · exact absurd a.1 h
theorem rf_ll_spec (X q f : Nat) (F : Nat → Nat) (hX : X + 57 ≤ 3201) (c : Nat) (hE : ∀ i, i < c → F (X + 9 + i) < 307200) (hc : c ≤ 48) : ∀ (m i n : Nat) (H : Nat → Nat), i + m = c → (∀ k, k < 57 → H (X + k) = F (X + k)) →
    (∀ j, (j < 3315 ∨ 3323 ≤ j) → (rf_ll X q f m i n H).2 j = H j) ∧
    (∀ w e, w < 8 → (((rf_ll X q f m i n H).2 (3315 + w)).testBit e = true ↔ (H (3315 + w)).testBit e = true ∨ ∃ k, i ≤ k ∧ k < c ∧ rf_is (F (X + 9 + k)) q f ≠ 0 ∧ F (X + 9 + k) / 1200 = 32 * w + e ∧ e < 32))
  | 0, i, n, H, hm, hH => by
    unfold rf_ll
    refine ⟨fun _ _ => rfl, fun w e hw => ⟨fun a => Or.inl a, ?_⟩⟩
    rintro (a | ⟨k, h1, h2, _⟩)
    · exact a
    · omega
  | m + 1, i, n, H, hm, hH => by
    have hEi : H (X + 9 + i) = F (X + 9 + i) := by
      have := hH (9 + i) (by omega)
      rw [← Nat.add_assoc] at this
      exact this
    have hd := hE i (by omega)
    unfold rf_ll
    rw [hEi]
    by_cases h0 : rf_is (F (X + 9 + i)) q f = 0
    · rw [if_pos h0]
      obtain ⟨p1, p2⟩ := rf_ll_spec X q f F hX c hE hc m (i + 1) n H (by omega) hH
      refine ⟨p1, fun w e hw => (p2 w e hw).trans ⟨?_, ?_⟩⟩
      · rintro (a | ⟨k, h1, h2, h3⟩)
        · exact Or.inl a
        · exact Or.inr ⟨k, by omega, h2, h3⟩
      · rintro (a | ⟨k, h1, h2, h3⟩)
        · exact Or.inl a
        · rcases Nat.lt_or_ge i k with e1 | e1
          · exact Or.inr ⟨k, by omega, h2, h3⟩
          · have e2 : k = i := by omega
            subst e2
            exact absurd h0 h3.1
    · rw [if_neg h0]
      have hkn : ∀ j, (j < 3315 ∨ 3323 ≤ j) → rf_kn H 3315 (F (X + 9 + i) / 1200) j = H j := fun j hj => xn_un _ _ (by omega)
      obtain ⟨p1, p2⟩ := rf_ll_spec X q f F hX c hE hc m (i + 1) (n + 1) (rf_kn H 3315 (F (X + 9 + i) / 1200)) (by omega) (fun k hk => by rw [hkn _ (by omega)]; exact hH k hk)
      refine ⟨fun j hj => by rw [p1 j hj, hkn j hj], fun w e hw => (p2 w e hw).trans ?_⟩
      rw [kn_bit]
      constructor
      · rintro ((a | a) | ⟨k, h1, h2, h3⟩)
        · exact Or.inl a
        · exact Or.inr ⟨i, Nat.le_refl _, by omega, h0, by omega, by omega⟩
        · exact Or.inr ⟨k, by omega, h2, h3⟩
      · rintro (a | ⟨k, h1, h2, h3, h4, h5⟩)
        · exact Or.inl (Or.inl a)
        · rcases Nat.lt_or_ge i k with e1 | e1
          · exact Or.inr ⟨k, by omega, h2, h3, h4, h5⟩
          · have e2 : k = i := by omega
            subst e2
            exact Or.inl (Or.inr ⟨by omega, by omega⟩)
theorem cn_hee (G H : Nat → Nat) (x u q f : Nat) (h : ∀ j, j % 16 = 1 ∨ j % 16 = 2 → G j = H j) : cn_he G x u q f = cn_he H x u q f := by
  unfold cn_he cn_hp
  rw [h (16 * (x * 4 + u / 64) + 1) (by omega), h (16 * u + 2) (by omega)]
theorem cn_ga_spec (y x q f : Nat) : ∀ (m t : Nat) (H : Nat → Nat), t + m = 256 →
    (∀ j, (j % 16 ≠ 0 ∨ j / 16 < y * 4 ∨ y * 4 + 4 ≤ j / 16) → cn_ga y x q f m t H j = H j) ∧
    (∀ r n, r < 4 → ((cn_ga y x q f m t H (16 * (y * 4 + r) + 0)).testBit n = true ↔ (H (16 * (y * 4 + r) + 0)).testBit n = true ∨ ∃ u, t ≤ u ∧ u < 256 ∧ cn_he H x u q f ≠ 0 ∧ u / 64 = r ∧ u % 64 - 1 = n))
  | 0, t, H, hm => by
    unfold cn_ga
    refine ⟨fun _ _ => rfl, fun r n hr => ⟨fun a => Or.inl a, ?_⟩⟩
    rintro (a | ⟨u, h1, h2, _⟩)
    · exact a
    · omega
  | m + 1, t, H, hm => by
    unfold cn_ga
    by_cases h0 : cn_he H x t q f = 0
    · rw [if_pos h0]
      obtain ⟨p1, p2⟩ := cn_ga_spec y x q f m (t + 1) H (by omega)
      refine ⟨p1, fun r n hr => (p2 r n hr).trans ⟨?_, ?_⟩⟩
      · rintro (a | ⟨u, h1, h2, h3⟩)
        · exact Or.inl a
        · exact Or.inr ⟨u, by omega, h2, h3⟩
      · rintro (a | ⟨u, h1, h2, h3⟩)
        · exact Or.inl a
        · rcases Nat.lt_or_ge t u with e1 | e1
          · exact Or.inr ⟨u, by omega, h2, h3⟩
          · have e2 : u = t := by omega
            subst e2
            exact absurd h0 h3.1
    · rw [if_neg h0]
      have hk : ∀ j, (j % 16 ≠ 0 ∨ j / 16 < y * 4 ∨ y * 4 + 4 ≤ j / 16) → cn_k1 H y t j = H j := fun j hj => xn_un _ _ (by omega)
      have hh : ∀ u, cn_he (cn_k1 H y t) x u q f = cn_he H x u q f := fun u => cn_hee _ _ x u q f (fun j hj => hk j (by omega))
      obtain ⟨p1, p2⟩ := cn_ga_spec y x q f m (t + 1) (cn_k1 H y t) (by omega)
      refine ⟨fun j hj => by rw [p1 j hj, hk j hj], fun r n hr => (p2 r n hr).trans ?_⟩
      have hb : (cn_k1 H y t (16 * (y * 4 + r) + 0)).testBit n = true ↔ (H (16 * (y * 4 + r) + 0)).testBit n = true ∨ (t / 64 = r ∧ t % 64 - 1 = n) := by
        unfold cn_k1
        by_cases e : t / 64 = r
        · subst e
          rw [xn_ue, Nat.testBit_or, Bool.or_eq_true, Nat.one_mul, Nat.testBit_two_pow, decide_eq_true_iff]
          constructor
          · rintro (a | a)
            · exact Or.inl a
            · exact Or.inr ⟨rfl, a⟩
          · rintro (a | a)
            · exact Or.inl a
            · exact Or.inr a.2
        · rw [xn_un _ _ (by omega)]
          constructor
          · intro a; exact Or.inl a
          · rintro (a | a)
            · exact a
            · exact absurd a.1 e
      rw [hb]
      constructor
      · rintro ((a | a) | ⟨u, h1, h2, h3, h4⟩)
        · exact Or.inl a
        · exact Or.inr ⟨t, Nat.le_refl _, by omega, h0, a⟩
        · rw [hh u] at h3
          exact Or.inr ⟨u, by omega, h2, h3, h4⟩
      · rintro (a | ⟨u, h1, h2, h3, h4⟩)
        · exact Or.inl (Or.inl a)
        · rcases Nat.lt_or_ge t u with e1 | e1
          · exact Or.inr ⟨u, by omega, h2, by rw [hh u]; exact h3, h4⟩
          · have e2 : u = t := by omega
            subst e2
            exact Or.inl (Or.inr h4)
theorem cn_wzv : ∀ (m k : Nat) (F : Nat → Nat) (j : Nat), k ≤ j → j < k + m → cn_wz m k F (16 * j + 0) = 0 ∧ cn_wz m k F (16 * j + 1) = 0
  | 0, _, _, _, h1, h2 => by omega
  | m + 1, k, F, j, h1, h2 => by
    unfold cn_wz
    rcases Nat.lt_or_ge k j with e | e
    · exact cn_wzv m (k + 1) _ j (by omega) (by omega)
    · have e2 : k = j := by omega
      subst e2
      rw [cn_wzo _ _ _ _ (by omega), cn_wzo _ _ _ _ (by omega)]
      exact ⟨by rw [xn_un _ _ (by omega), xn_ue], xn_ue _ _ _⟩
/-- an entry's dot is of a key, of a field (or any) -/
def rr_m (G : Nat → Nat) (u q f : Nat) : Prop := G (16 * u + 2) / 300 = q ∧ (f = 4294967295 ∨ G (16 * u + 2) / 100 % 3 = f)
theorem rr_is {G : Nat → Nat} (hC : rr_C G) {u q f : Nat} (hu : u < 256) : rf_is (rr_e G u) q f ≠ 0 ↔ rr_m G u q f := by
  have h1 := hC u hu
  unfold rf_is rr_m rr_e
  rw [show (u * 1200 + G (16 * u + 2)) % 1200 / 300 = G (16 * u + 2) / 300 by omega, show (u * 1200 + G (16 * u + 2)) / 100 % 3 = G (16 * u + 2) / 100 % 3 by omega]
  by_cases h : G (16 * u + 2) / 300 = q ∧ (f = 4294967295 ∨ G (16 * u + 2) / 100 % 3 = f)
  · rw [if_pos h]; exact ⟨fun _ => h, fun _ => by omega⟩
  · rw [if_neg h]; exact ⟨fun a => absurd rfl a, fun a => absurd a h⟩
theorem rr_he {G : Nat → Nat} {x u q f : Nat} (hq : q < 4) (hl : u < 256) : cn_he G x u q f ≠ 0 ↔ rr_a G x u ∧ rr_m G u q f := by
  have hb : ¬ G (16 * (x * 4 + u / 64) + 1) / 2 ^ (u % 64 - 1) &&& 1 = 0 ↔ (G (16 * (x * 4 + u / 64) + 1)).testBit (u % 64 - 1) = true := by
    rw [Nat.testBit_eq_decide_div_mod_eq, decide_eq_true_iff, Nat.and_one_is_mod]
    have := Nat.mod_lt (G (16 * (x * 4 + u / 64) + 1) / 2 ^ (u % 64 - 1)) (show 0 < 2 by omega)
    omega
  have hp : cn_hp G x u q f ↔ rr_a G x u ∧ rr_m G u q f := by
    unfold cn_hp rr_a rr_m
    rw [hb]
    constructor
    · rintro ⟨a, b, c | c, d⟩
      · omega
      · exact ⟨⟨a, b⟩, c, d⟩
    · rintro ⟨⟨a, b⟩, c, d⟩
      exact ⟨a, b, Or.inr c, d⟩
  unfold cn_he
  by_cases h : cn_hp G x u q f
  · rw [if_pos h]; exact ⟨fun _ => hp.mp h, fun _ => by omega⟩
  · rw [if_neg h]; exact ⟨fun a => absurd rfl a, fun a => absurd (hp.mpr a) h⟩
/-- the class's row y behind 'gather' -/
theorem cn_gatk {G : Nat → Nat} {y x q f u : Nat} (hq : q < 4) (hu : u < 256) (hyx : y ≠ x) : (rr_k (cn_gat G y x q f) y u ↔ rr_a G x u ∧ rr_m G u q f) ∧ ¬ rr_a (cn_gat G y x q f) y u := by
  obtain ⟨p1, p2⟩ := cn_ga_spec y x q f 256 0 (cn_wz 4 (y * 4) G) rfl
  have hz := fun r (hr : r < 4) => cn_wzv 4 (y * 4) G (y * 4 + r) (by omega) (by omega)
  have hhe : ∀ u, u < 256 → (cn_he (cn_wz 4 (y * 4) G) x u q f ≠ 0 ↔ rr_a G x u ∧ rr_m G u q f) := fun u hu => by
    rw [rr_he hq hu]
    unfold rr_a rr_m
    rw [cn_wzo _ _ _ _ (by omega), cn_wzo _ _ _ _ (by omega)]
  constructor
  · have h2 := p2 (u / 64) (u % 64 - 1) (by omega)
    rw [(hz (u / 64) (by omega)).1] at h2
    unfold rr_k cn_gat
    rw [h2]
    constructor
    · rintro ⟨a, b | ⟨v, h1, h3, h4, h5, h6⟩⟩
      · rw [Nat.zero_testBit] at b; cases b
      · have h7 := (hhe v h3).mp h4
        have h8 := h7.1.1
        have : v = u := by omega
        subst this
        exact h7
    · intro a
      exact ⟨a.1.1, Or.inr ⟨u, by omega, hu, (hhe u hu).mpr a, rfl, rfl⟩⟩
  · rintro ⟨a, b⟩
    unfold cn_gat at b
    rw [p1 _ (by omega), (hz (u / 64) (by omega)).2, Nat.zero_testBit] at b
    cases b
theorem cn_gato (G : Nat → Nat) (y x q f : Nat) {j : Nat} (h : 1 < j % 16 ∨ j / 16 < y * 4 ∨ y * 4 + 4 ≤ j / 16) : cn_gat G y x q f j = G j := by
  unfold cn_gat
  rw [(cn_ga_spec y x q f 256 0 _ rfl).1 j (by omega), cn_wzo _ _ _ _ (by omega)]
theorem cn_gata (G : Nat → Nat) (y x q f : Nat) {r : Nat} (hr : r < 4) : cn_gat G y x q f (16 * (y * 4 + r) + 1) = 0 := by
  unfold cn_gat
  rw [(cn_ga_spec y x q f 256 0 _ rfl).1 _ (by omega)]
  exact (cn_wzv 4 (y * 4) G (y * 4 + r) (by omega) (by omega)).2
theorem cn_gatb {N G : Nat → Nat} {F : Nat → Nat} {X y x q f : Nat} (hS : rr_S N) (h : rr N G x F X) (hq : q < 4) (hyx : y ≠ x) {r : Nat} (hr : r < 4) : cn_gat G y x q f (16 * (y * 4 + r) + 0) < 2 ^ N r := by
  apply Nat.lt_pow_two_of_testBit
  intro n hn
  cases hb : (cn_gat G y x q f (16 * (y * 4 + r) + 0)).testBit n with
  | false => rfl
  | true =>
    obtain ⟨p1, p2⟩ := cn_ga_spec y x q f 256 0 (cn_wz 4 (y * 4) G) rfl
    have h2 := (p2 r n hr).mp hb
    rw [(cn_wzv 4 (y * 4) G (y * 4 + r) (by omega) (by omega)).1, Nat.zero_testBit] at h2
    rcases h2 with h2 | ⟨u, h1, h3, h4, h5, h6⟩
    · cases h2
    · rw [rr_he hq h3] at h4
      have ha : rr_a G x u := by
        have := h4.1
        unfold rr_a at this ⊢
        rw [cn_wzo _ _ _ _ (by omega)] at this
        exact this
      have h7 := rr_kN h h3 (rr_ak h h3 ha)
      have h8 := ha.1
      subst h5
      omega
/-- CHANGE behind 'layChange', the class's row behind 'gather' -/
theorem rr_lay {N G : Nat → Nat} {F : Nat → Nat} {y r q f : Nat} (hS : rr_S N) (hC : rr_C G) (hr : r < 4) (h : rr N G r F (205 + 57 * r)) (hq : q < 4) (hyr : y ≠ r) :
    rr N (cn_gat G y r q f) y (rf_s1 F r q f) 3315 ∧ rf_s1 F r q f (3315 + 8) = 0 ∧ (∀ j, j < 3315 ∨ 3372 ≤ j → rf_s1 F r q f j = F j) := by
  have c1 := rr_c24 hS hC h
  have hz8 : rf_z F 3315 0 (205 + 57 * r + 8) = F (205 + 57 * r + 8) := rf_zo _ _ _ (by omega)
  obtain ⟨p1, p2⟩ := rf_ll_spec (205 + 57 * r) q f F (by omega) (F (205 + 57 * r + 8)) (rr_e24 hC h) (by omega) (F (205 + 57 * r + 8)) 0 0 (rf_z F 3315 0) (by omega) (fun k hk => rf_zo _ _ _ (by omega))
  have e1 : rf_s1 F r q f = (rf_ll (205 + 57 * r) q f (F (205 + 57 * r + 8)) 0 0 (rf_z F 3315 0)).2 := rfl
  have z0 : ∀ j, 3315 ≤ j → j < 3372 → rf_z F 3315 0 j = 0 := fun j h1 h2 => if_pos (by omega)
  have t0 : ∀ j, 3323 ≤ j → j < 3372 → rf_s1 F r q f j = 0 := fun j h1 h2 => by rw [e1, p1 j (by omega), z0 j (by omega) h2]
  refine ⟨⟨fun w e hw => ?_, fun s hs => cn_gatb hS h hq hyr hs, fun s n hs hb => ?_, fun i j hij hj => ?_, fun i hi => ?_, fun u hu ua => ?_, fun i hi h48 => ?_⟩, t0 _ (by omega) (by omega), fun j hj => ?_⟩
  · rw [e1, p2 w e hw, z0 _ (by omega) (by omega), Nat.zero_testBit]
    constructor
    · rintro (a | ⟨k, h1, h2, h3, h4, h5⟩)
      · cases a
      · obtain ⟨u, hu, ua, ue⟩ := h.2.2.2.2.1 k h2
        rw [ue] at h3 h4
        rw [(rr_ed hC hu).1] at h4
        subst h4
        exact ⟨h5, (cn_gatk hq hu hyr).1.mpr ⟨ua, (rr_is hC hu).mp h3⟩⟩
    · rintro ⟨h5, hk⟩
      obtain ⟨ua, um⟩ := (cn_gatk hq (show 32 * w + e < 256 by omega) hyr).1.mp hk
      obtain ⟨k, hk1, ke⟩ := h.2.2.2.2.2.1 _ (by omega) ua
      refine Or.inr ⟨k, by omega, hk1, ?_, ?_, h5⟩
      · rw [ke]; exact (rr_is hC (by omega)).mpr um
      · rw [ke]; exact (rr_ed hC (by omega)).1
  · rw [cn_gata G y r q f hs, Nat.zero_testBit] at hb
    cases hb
  · rw [t0 (3315 + 8) (by omega) (by omega)] at hj; omega
  · rw [t0 (3315 + 8) (by omega) (by omega)] at hi; omega
  · exact absurd ua (cn_gatk hq hu hyr).2
  · exact t0 _ (by omega) (by omega)
  · rw [e1, p1 j (by omega)]
    exact rf_zo _ _ _ hj
/-- one more dot of a replica -/
def rr_N1 (N : Nat → Nat) (r : Nat) : Nat → Nat := fun s => if s = r then N r + 1 else N s
theorem rr_N1S {N : Nat → Nat} {r : Nat} (hr : r < 4) : rr_N1 N r 0 + rr_N1 N r 1 + rr_N1 N r 2 + rr_N1 N r 3 = N 0 + N 1 + N 2 + N 3 + 1 := by
  have h1 : r = 0 ∨ r = 1 ∨ r = 2 ∨ r = 3 := by omega
  rcases h1 with rfl | rfl | rfl | rfl <;> simp [rr_N1] <;> omega
theorem rr_N1l (N : Nat → Nat) (r s : Nat) : N s ≤ rr_N1 N r s := by
  unfold rr_N1
  by_cases h : s = r
  · rw [if_pos h, h]; omega
  · rw [if_neg h]; exact Nat.le_refl _
/-- CHANGE with its entry, the class's row behind 'bear' -/
theorem rr_bear {N G : Nat → Nat} {H : Nat → Nat} {y r c : Nat} (hS : rr_S N) (hr : r < 4) (hn : N r + 1 ≤ 24) (h : rr N G y H 3315) (h8 : H (3315 + 8) = 0) (hc : c < 1200) (ha : ∀ s, s < 4 → G (16 * (y * 4 + s) + 1) = 0) :
    rr (rr_N1 N r) (cn_be G y r (N r + 1) c) y (rf_ad (rf_kn H 3315 (64 * r + (N r + 1))) 3315 ((64 * r + (N r + 1)) * 1200 + c)) 3315 := by
  have hk8 : rf_kn H 3315 (64 * r + (N r + 1)) (3315 + 8) = 0 := by unfold rf_kn; rw [xn_un _ _ (by omega)]; exact h8
  have hkt : ∀ i, 8 ≤ i → i < 57 → rf_kn H 3315 (64 * r + (N r + 1)) (3315 + i) = H (3315 + i) := fun i h1 h2 => by unfold rf_kn; rw [xn_un _ _ (by omega)]
  have a8 : rf_ad (rf_kn H 3315 (64 * r + (N r + 1))) 3315 ((64 * r + (N r + 1)) * 1200 + c) (3315 + 8) = 1 := by rw [rf_adt, hk8]
  have a9 : rf_ad (rf_kn H 3315 (64 * r + (N r + 1))) 3315 ((64 * r + (N r + 1)) * 1200 + c) (3315 + 9 + 0) = (64 * r + (N r + 1)) * 1200 + c := by
    unfold rf_ad
    rw [hk8, xn_un _ _ (by omega)]
    exact xn_ue _ _ _
  have aw : ∀ w, w < 8 → rf_ad (rf_kn H 3315 (64 * r + (N r + 1))) 3315 ((64 * r + (N r + 1)) * 1200 + c) (3315 + w) = rf_kn H 3315 (64 * r + (N r + 1)) (3315 + w) := fun w hw => by
    unfold rf_ad
    rw [hk8, xn_un _ _ (by omega), xn_un _ _ (by omega)]
  have at' : ∀ i, 1 ≤ i → i < 48 → rf_ad (rf_kn H 3315 (64 * r + (N r + 1))) 3315 ((64 * r + (N r + 1)) * 1200 + c) (3315 + 9 + i) = 0 := fun i h1 h2 => by
    unfold rf_ad
    rw [hk8, xn_un _ _ (by omega), xn_un _ _ (by omega)]
    have := hkt (9 + i) (by omega) (by omega)
    rw [show 3315 + (9 + i) = 3315 + 9 + i by omega] at this
    rw [this]
    exact h.2.2.2.2.2.2 i (by omega) h2
  have bk : ∀ s, s < 4 → cn_be G y r (N r + 1) c (16 * (y * 4 + s) + 0) = if s = r then G (16 * (y * 4 + s) + 0) ||| 2 ^ (N r) else G (16 * (y * 4 + s) + 0) := fun s hs => by
    unfold cn_be cn_e2 cn_e1
    rw [xn_un _ _ (by omega), xn_un _ _ (by omega)]
    by_cases e : s = r
    · subst e
      rw [if_pos rfl, xn_ue, Nat.one_mul, Nat.add_sub_cancel]
    · rw [if_neg e, xn_un _ _ (by omega)]
  have ba : ∀ s, s < 4 → cn_be G y r (N r + 1) c (16 * (y * 4 + s) + 1) = if s = r then 2 ^ (N r) else 0 := fun s hs => by
    unfold cn_be cn_e2 cn_e1
    rw [xn_un _ _ (by omega)]
    by_cases e : s = r
    · subst e
      rw [if_pos rfl, xn_ue, xn_un _ _ (by omega), ha s hs, Nat.zero_or, Nat.one_mul, Nat.add_sub_cancel]
    · rw [if_neg e, xn_un _ _ (by omega), xn_un _ _ (by omega)]
      exact ha s hs
  have be : rr_e (cn_be G y r (N r + 1) c) (64 * r + (N r + 1)) = (64 * r + (N r + 1)) * 1200 + c := by
    unfold rr_e cn_be
    rw [show r * 64 + (N r + 1) = 64 * r + (N r + 1) by omega, xn_ue]
  have gk : ∀ u, u < 256 → (rr_k (cn_be G y r (N r + 1) c) y u ↔ rr_k G y u ∨ u = 64 * r + (N r + 1)) := fun u hu => by
    unfold rr_k
    rw [bk (u / 64) (by omega)]
    by_cases e : u / 64 = r
    · rw [if_pos e, Nat.testBit_or, Bool.or_eq_true, Nat.testBit_two_pow, decide_eq_true_iff]
      constructor
      · rintro ⟨p, q | q⟩
        · exact Or.inl ⟨p, q⟩
        · exact Or.inr (by omega)
      · rintro (⟨p, q⟩ | q)
        · exact ⟨p, Or.inl q⟩
        · exact ⟨by omega, Or.inr (by omega)⟩
    · rw [if_neg e]
      constructor
      · intro p; exact Or.inl p
      · rintro (p | p)
        · exact p
        · omega
  have ga : ∀ u, u < 256 → (rr_a (cn_be G y r (N r + 1) c) y u ↔ u = 64 * r + (N r + 1)) := fun u hu => by
    unfold rr_a
    rw [ba (u / 64) (by omega)]
    by_cases e : u / 64 = r
    · rw [if_pos e, Nat.testBit_two_pow, decide_eq_true_iff]
      constructor
      · rintro ⟨p, q⟩; omega
      · intro p; exact ⟨by omega, by omega⟩
    · rw [if_neg e, Nat.zero_testBit]
      constructor
      · rintro ⟨_, q⟩; cases q
      · intro p; omega
  refine ⟨fun w e hw => ?_, fun s hs => ?_, fun s n hs hb => ?_, fun i j hij hj => ?_, fun i hi => ?_, fun u hu ua => ?_, fun i hi h48 => ?_⟩
  · rw [aw w hw, kn_bit, h.1 w e hw]
    constructor
    · rintro (⟨p, q⟩ | ⟨p, q⟩)
      · exact ⟨p, (gk _ (by omega)).mpr (Or.inl q)⟩
      · exact ⟨by omega, (gk _ (by omega)).mpr (Or.inr (by omega))⟩
    · rintro ⟨p, q⟩
      rcases (gk _ (by omega)).mp q with q | q
      · exact Or.inl ⟨p, q⟩
      · exact Or.inr ⟨by omega, by omega⟩
  · rw [bk s hs]
    by_cases e : s = r
    · subst e
      rw [if_pos rfl]
      have e1 : rr_N1 N s s = N s + 1 := if_pos rfl
      rw [e1]
      exact Nat.or_lt_two_pow (Nat.lt_of_lt_of_le (h.2.1 s hs) (Nat.pow_le_pow_right (by omega) (by omega))) (Nat.pow_lt_pow_right (by omega) (by omega))
    · rw [if_neg e]
      exact Nat.lt_of_lt_of_le (h.2.1 s hs) (Nat.pow_le_pow_right (by omega) (rr_N1l N r s))
  · rw [ba s hs] at hb
    rw [bk s hs]
    by_cases e : s = r
    · rw [if_pos e] at hb ⊢
      rw [Nat.testBit_or, hb, Bool.or_true]
    · rw [if_neg e, Nat.zero_testBit] at hb
      cases hb
  · rw [a8] at hj; omega
  · rw [a8] at hi
    have : i = 0 := by omega
    subst this
    exact ⟨64 * r + (N r + 1), by omega, (ga _ (by omega)).mpr rfl, by rw [a9, be]⟩
  · have := (ga u hu).mp ua
    subst this
    exact ⟨0, by omega, by rw [a9, be]⟩
  · rw [a8] at hi
    exact at' i hi h48
