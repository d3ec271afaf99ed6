/-! joins, copies, likeness of rows on both sides -/
theorem cn_mgu (x y : Nat) : ∀ (m k : Nat) (G : Nat → Nat) (j : Nat), (1 < j % 16 ∨ j / 16 < x * 4 + k ∨ x * 4 + k + m ≤ j / 16) → cn_mg x y m k G j = G j
  | 0, _, _, _, _ => rfl
  | m + 1, k, G, j, h => by
    unfold cn_mg
    rw [cn_mgu x y m (k + 1) _ j (by omega)]
    unfold cn_m2 cn_m1
    rw [xn_un _ _ (by omega), xn_un _ _ (by omega)]
theorem cn_mgv (x y : Nat) (hxy : x ≠ y) : ∀ (m k : Nat) (G : Nat → Nat) (r : Nat), k + m ≤ 4 → k ≤ r → r < k + m →
    cn_mg x y m k G (16 * (x * 4 + r) + 0) = G (16 * (x * 4 + r) + 0) ||| G (16 * (y * 4 + r) + 0) ∧
    cn_mg x y m k G (16 * (x * 4 + r) + 1) = (G (16 * (x * 4 + r) + 0) ||| G (16 * (y * 4 + r) + 0)) &&& (cn_go G (x * 4 + r) (y * 4 + r) ^^^ 18446744073709551615)
  | 0, _, _, _, _, h1, h2 => by omega
  | m + 1, k, G, r, h, h1, h2 => by
    unfold cn_mg
    rcases Nat.lt_or_ge k r with e | e
    · have q0 : cn_m2 G (x * 4 + k) (y * 4 + k) (16 * (x * 4 + r) + 0) = G (16 * (x * 4 + r) + 0) := by
        unfold cn_m2 cn_m1; rw [xn_un _ _ (by omega), xn_un _ _ (by omega)]
      have q1 : cn_m2 G (x * 4 + k) (y * 4 + k) (16 * (x * 4 + r) + 1) = G (16 * (x * 4 + r) + 1) := by
        unfold cn_m2 cn_m1; rw [xn_un _ _ (by omega), xn_un _ _ (by omega)]
      have q2 : cn_m2 G (x * 4 + k) (y * 4 + k) (16 * (y * 4 + r) + 0) = G (16 * (y * 4 + r) + 0) := by
        unfold cn_m2 cn_m1; rw [xn_un _ _ (by omega), xn_un _ _ (by omega)]
      have q3 : cn_m2 G (x * 4 + k) (y * 4 + k) (16 * (y * 4 + r) + 1) = G (16 * (y * 4 + r) + 1) := by
        unfold cn_m2 cn_m1; rw [xn_un _ _ (by omega), xn_un _ _ (by omega)]
      have ih := cn_mgv x y hxy m (k + 1) (cn_m2 G (x * 4 + k) (y * 4 + k)) r (by omega) (by omega) (by omega)
      unfold cn_go at ih ⊢
      rw [q0, q1, q2, q3] at ih
      exact ih
    · have e2 : k = r := by omega
      subst e2
      rw [cn_mgu x y m (k + 1) _ _ (by omega), cn_mgu x y m (k + 1) _ _ (by omega)]
      unfold cn_m2
      constructor
      · rw [xn_un _ _ (by omega)]
        unfold cn_m1
        rw [xn_ue]
      · rw [xn_ue]
        unfold cn_m1
        rw [xn_ue]
theorem rr_m64 {n : Nat} (hn : n < 64) : (18446744073709551615 : Nat).testBit n = true := by
  have h : ∀ q : Fin 64, (18446744073709551615 : Nat).testBit q.val = true := by decide +kernel
  exact h ⟨n, hn⟩
theorem rr_kg {G : Nat → Nat} {x y u : Nat} (hxy : x ≠ y) (hu : u < 256) : rr_k (cn_mg x y 4 0 G) x u ↔ rr_k G x u ∨ rr_k G y u := by
  have h := (cn_mgv x y hxy 4 0 G (u / 64) (by omega) (by omega) (by omega)).1
  unfold rr_k
  rw [h, Nat.testBit_or, Bool.or_eq_true]
  constructor
  · rintro ⟨a, b | b⟩
    · exact Or.inl ⟨a, b⟩
    · exact Or.inr ⟨a, b⟩
  · rintro (⟨a, b⟩ | ⟨a, b⟩)
    · exact ⟨a, Or.inl b⟩
    · exact ⟨a, Or.inr b⟩
theorem rr_ag {G : Nat → Nat} {x y u : Nat} (hxy : x ≠ y) (hu : u < 256) : rr_a (cn_mg x y 4 0 G) x u ↔ (rr_k G x u ∨ rr_k G y u) ∧ (rr_k G x u → rr_a G x u) ∧ (rr_k G y u → rr_a G y u) := by
  have h := (cn_mgv x y hxy 4 0 G (u / 64) (by omega) (by omega) (by omega)).2
  unfold rr_a rr_k
  rw [h]
  unfold cn_go
  simp only [Nat.testBit_and, Nat.testBit_or, Nat.testBit_xor, rr_m64 (show u % 64 - 1 < 64 by omega)]
  by_cases h0 : 0 < u % 64
  · simp only [h0, true_and]
    cases (G (16 * (x * 4 + u / 64) + 0)).testBit (u % 64 - 1) <;> cases (G (16 * (x * 4 + u / 64) + 1)).testBit (u % 64 - 1) <;> cases (G (16 * (y * 4 + u / 64) + 0)).testBit (u % 64 - 1) <;> cases (G (16 * (y * 4 + u / 64) + 1)).testBit (u % 64 - 1) <;> simp
  · simp only [h0, false_and, or_self]
theorem rr_bb (F : Nat → Nat) (X u : Nat) : rf_b F X u = 0 ↔ ¬ (F (X + u / 32)).testBit (u % 32) = true := by
  unfold rf_b
  rw [Nat.testBit_eq_decide_div_mod_eq, decide_eq_true_iff]
  have := Nat.mod_lt (F (X + u / 32) / 2 ^ (u % 32)) (show 0 < 2 by omega)
  omega
theorem rr_b {N G : Nat → Nat} {x : Nat} {F : Nat → Nat} {X u : Nat} (h : rr N G x F X) (hu : u < 256) : rf_b F X u = 0 ↔ ¬ rr_k G x u := by
  rw [rr_bb, h.1 (u / 32) (u % 32) (by omega)]
  rw [show 32 * (u / 32) + u % 32 = u by omega]
  constructor
  · intro a b; exact a ⟨by omega, b⟩
  · intro a b; exact a b.2
theorem rf_orv (X Y : Nat) (hX : X + 8 ≤ 3201 ∨ 3258 ≤ X) (hY : Y + 8 ≤ 3201 ∨ 3258 ≤ Y) : ∀ (m k : Nat) (F : Nat → Nat) (w : Nat), k + m = 8 → k ≤ w → w < 8 → rf_or X Y m k F (3201 + w) = F (X + w) ||| F (Y + w)
  | 0, _, _, _, h, h1, h2 => by omega
  | m + 1, k, F, w, h, h1, h2 => by
    unfold rf_or
    rcases Nat.lt_or_ge k w with e | e
    · rw [rf_orv X Y hX hY m (k + 1) _ w (by omega) (by omega) h2, xn_un _ _ (by omega), xn_un _ _ (by omega)]
    · have e2 : k = w := by omega
      subst e2
      have : ∀ (m k : Nat) (F : Nat → Nat) (j : Nat), j < 3201 + k → rf_or X Y m k F j = F j := by
        intro m
        induction m with
        | zero => intros; rfl
        | succ m ih =>
          intro k F j hj
          unfold rf_or
          rw [ih (k + 1) _ j (by omega), xn_un _ _ (by omega)]
      rw [this m (k + 1) _ _ (by omega), xn_ue]
/-- rows and states that stand as they were, or were copied -/
theorem rr_frame {N N' G G' : Nat → Nat} {x x' : Nat} {F F' : Nat → Nat} {X X' : Nat} (h : rr N G x F X) (hF : ∀ k, k < 57 → F' (X' + k) = F (X + k)) (hG : ∀ r, r < 4 → G' (16 * (x' * 4 + r) + 0) = G (16 * (x * 4 + r) + 0) ∧ G' (16 * (x' * 4 + r) + 1) = G (16 * (x * 4 + r) + 1)) (hc : ∀ u, u < 256 → rr_a G x u → G' (16 * u + 2) = G (16 * u + 2)) (hN : ∀ r, r < 4 → N r ≤ N' r) (h48 : F (X + 8) ≤ 48) : rr N' G' x' F' X' := by
  have k8 : F' (X' + 8) = F (X + 8) := hF 8 (by omega)
  have k9 : ∀ i, i < 48 → F' (X' + 9 + i) = F (X + 9 + i) := fun i hi => by
    have := hF (9 + i) (by omega)
    rw [← Nat.add_assoc, ← Nat.add_assoc] at this
    exact this
  have kk : ∀ u, u < 256 → (rr_k G' x' u ↔ rr_k G x u) := fun u hu => by unfold rr_k; rw [(hG (u / 64) (by omega)).1]
  have ka : ∀ u, u < 256 → (rr_a G' x' u ↔ rr_a G x u) := fun u hu => by unfold rr_a; rw [(hG (u / 64) (by omega)).2]
  have ke : ∀ u, u < 256 → rr_a G x u → rr_e G' u = rr_e G u := fun u hu ha => by unfold rr_e; rw [hc u hu ha]
  obtain ⟨a1, a2, a3, a4, a5, a6, a7⟩ := h
  refine ⟨fun w e hw => ?_, fun r hr => ?_, fun r n hr => ?_, fun i j hij hj => ?_, fun i hi => ?_, fun u hu ha => ?_, fun i hi h48 => ?_⟩
  · rw [hF w (by omega), a1 w e hw]
    constructor
    · rintro ⟨p, q⟩; exact ⟨p, (kk _ (by omega)).mpr q⟩
    · rintro ⟨p, q⟩; exact ⟨p, (kk _ (by omega)).mp q⟩
  · rw [(hG r hr).1]
    exact Nat.lt_of_lt_of_le (a2 r hr) (Nat.pow_le_pow_right (by omega) (hN r hr))
  · rw [(hG r hr).1, (hG r hr).2]; exact a3 r n hr
  · rw [k8] at hj
    rw [k9 i (by omega), k9 j (by omega)]; exact a4 i j hij hj
  · rw [k8] at hi
    obtain ⟨u, hu, ua, ue⟩ := a5 i hi
    exact ⟨u, hu, (ka u hu).mpr ua, by rw [k9 i (by omega), ke u hu ua]; exact ue⟩
  · have ua := (ka u hu).mp ha
    obtain ⟨i, hi, e⟩ := a6 u hu ua
    exact ⟨i, by rw [k8]; exact hi, by rw [k9 i (by omega), ke u hu ua]; exact e⟩
  · rw [k8] at hi
    rw [k9 i h48]; exact a7 i hi h48
/-- what a row of few dots keeps to -/
def rr_S (N : Nat → Nat) : Prop := N 0 + N 1 + N 2 + N 3 ≤ 24
theorem rr_NS {N : Nat → Nat} (h : rr_S N) {r : Nat} (hr : r < 4) : N r ≤ 24 := by
  unfold rr_S at h
  have h1 : r = 0 ∨ r = 1 ∨ r = 2 ∨ r = 3 := by omega
  rcases h1 with rfl | rfl | rfl | rfl <;> omega
theorem rr_c24 {N G : Nat → Nat} {x : Nat} {F : Nat → Nat} {X : Nat} (hS : rr_S N) (hC : rr_C G) (h : rr N G x F X) : F (X + 8) ≤ 24 := Nat.le_trans (rr_cnt hC h) hS
theorem rr_e24 {N G : Nat → Nat} {x : Nat} {F : Nat → Nat} {X : Nat} (hC : rr_C G) (h : rr N G x F X) : ∀ i, i < F (X + 8) → F (X + 9 + i) < 307200 := fun i hi => by
  obtain ⟨u, hu, _, e⟩ := h.2.2.2.2.1 i hi
  rw [e]
  exact (rr_ed hC hu).2
theorem rr_w24 {N G : Nat → Nat} {x : Nat} {F : Nat → Nat} {X : Nat} (hS : rr_S N) (h : rr N G x F X) : ∀ w, w < 8 → F (X + w) < 33554432 := fun w hw => by
  apply Nat.lt_pow_two_of_testBit (n := 25)
  intro e he
  cases hb : (F (X + w)).testBit e with
  | false => rfl
  | true =>
    have h1 := (h.1 w e hw).mp hb
    have h2 := rr_kN h (show 32 * w + e < 256 by omega) h1.2
    have h3 := rr_NS hS (show (32 * w + e) / 64 < 4 by omega)
    have h4 := h1.2.1
    omega
theorem rr_mok {N G : Nat → Nat} {x y : Nat} {F : Nat → Nat} {X Y : Nat} (hS : rr_S N) (hC : rr_C G) (h1 : rr N G x F X) (h2 : rr N G y F Y) : rf_mok F X Y :=
  ⟨by have := rr_c24 hS hC h1; have := rr_c24 hS hC h2; omega, rr_e24 hC h1, rr_e24 hC h2, fun t ht => Nat.lt_trans (rr_w24 hS h1 t ht) (by omega), fun t ht => Nat.lt_trans (rr_w24 hS h2 t ht) (by omega)⟩
theorem rf_mero {F : Nat → Nat} {X Y k : Nat} (hX : X + 57 ≤ 3201 ∨ 3258 ≤ X) (hY : Y + 57 ≤ 3201 ∨ 3258 ≤ Y) (hk : k < 3201 ∨ 3258 ≤ k) : rf_mer F X Y k = F k := by
  unfold rf_mer
  have h0 : rf_or X Y 8 0 (rf_z F 3201 0) (3201 + 8) = 0 := by
    rw [rf_oro X Y 8 0 _ _ rfl (by omega)]
    exact if_pos (by omega)
  rw [rf_mgo X Y 48 0 0 _ k (by omega) (by omega), rf_oro X Y 8 0 _ _ rfl (by omega), rf_zo _ _ _ hk]
/-- the joins of both sides are the same -/
theorem rr_merge {N G : Nat → Nat} {x y : Nat} {F : Nat → Nat} {X Y : Nat} (hS : rr_S N) (hC : rr_C G) (hxy : x ≠ y) (hX1 : X + 57 ≤ 3201 ∨ 3258 ≤ X) (hY1 : Y + 57 ≤ 3201 ∨ 3258 ≤ Y) (h1 : rr N G x F X) (h2 : rr N G y F Y) : rr N (cn_mg x y 4 0 G) x (rf_mer F X Y) 3201 := by
  have c1 := rr_c24 hS hC h1
  have c2 := rr_c24 hS hC h2
  have hb0 : ∀ a, a < 49 → rf_or X Y 8 0 (rf_z F 3201 0) (3201 + 8 + a) = 0 := fun a ha => by
    rw [rf_oro X Y 8 0 _ _ rfl (by omega)]
    exact if_pos (by omega)
  have hb1 : ∀ k, k < 3201 ∨ 3258 ≤ k → rf_or X Y 8 0 (rf_z F 3201 0) k = F k := fun k hk => by
    rw [rf_oro X Y 8 0 _ _ rfl (by omega), rf_zo _ _ _ hk]
  have h0 : rf_or X Y 8 0 (rf_z F 3201 0) (3201 + 8) = 0 := hb0 0 (by omega)
  have hI : mg_I X Y F (rf_or X Y 8 0 (rf_z F 3201 0)) 0 0 := by
    refine ⟨fun k hk => hb1 _ (by omega), fun k hk => hb1 _ (by omega), by omega, by omega, by omega, fun a b hab hb => by omega, fun a ha => by omega, fun k hk => by omega, fun k hk => by omega, fun k l hk => by omega, fun k l hk => by omega, fun a ha ha2 => ?_⟩
    have := hb0 (1 + a) (by omega)
    rw [show 3201 + 8 + (1 + a) = 3201 + 9 + a by omega] at this
    exact this
  have hR := mg_run hX1 hY1 h1.2.2.2.1 h2.2.2.2.1 (by omega) (rr_e24 hC h1) (rr_e24 hC h2) 48 0 0 _ hI (by omega)
  have hw : ∀ w, w < 8 → rf_mer F X Y (3201 + w) = F (X + w) ||| F (Y + w) := fun w hw => by
    unfold rf_mer
    rw [rf_mgo X Y 48 0 0 _ _ (by omega) (by omega), rf_orv X Y (by omega) (by omega) 8 0 _ w rfl (by omega) hw, rf_zo _ _ _ (by omega), rf_zo _ _ _ (by omega)]
  have hc2 : ∀ u, rr_e (cn_mg x y 4 0 G) u = rr_e G u := fun u => by unfold rr_e; rw [cn_mgo _ _ _ _ _ _ (by omega)]
  obtain ⟨_, _, _, _, _, g6, g7, g8, g9, _, _, g12⟩ := hR
  refine ⟨fun w e hw8 => ?_, fun r hr => ?_, fun r n hr hb => ?_, g6, fun a ha => ?_, fun u hu ua => ?_, g12⟩
  · rw [hw w hw8, Nat.testBit_or, Bool.or_eq_true, h1.1 w e hw8, h2.1 w e hw8]
    constructor
    · rintro (⟨p, q⟩ | ⟨p, q⟩)
      · exact ⟨p, (rr_kg hxy (by omega)).mpr (Or.inl q)⟩
      · exact ⟨p, (rr_kg hxy (by omega)).mpr (Or.inr q)⟩
    · rintro ⟨p, q⟩
      rcases (rr_kg hxy (by omega)).mp q with q | q
      · exact Or.inl ⟨p, q⟩
      · exact Or.inr ⟨p, q⟩
  · rw [(cn_mgv x y hxy 4 0 G r (by omega) (by omega) (by omega)).1]
    exact Nat.or_lt_two_pow (h1.2.1 r hr) (h2.2.1 r hr)
  · rw [(cn_mgv x y hxy 4 0 G r (by omega) (by omega) (by omega)).2, Nat.testBit_and, Bool.and_eq_true] at hb
    rw [(cn_mgv x y hxy 4 0 G r (by omega) (by omega) (by omega)).1]
    exact hb.1
  · rcases g7 a ha with ⟨k, hk, e, hm⟩ | ⟨k, hk, e, hm⟩
    · obtain ⟨u, hu, ua, ue⟩ := h1.2.2.2.2.1 k hk
      refine ⟨u, hu, (rr_ag hxy hu).mpr ⟨Or.inl (rr_ak h1 hu ua), fun _ => ua, fun uk => ?_⟩, by rw [hc2]; exact e.trans ue⟩
      rcases hm with ⟨l, hl, el⟩ | hm
      · obtain ⟨v, hv, va, ve⟩ := h2.2.2.2.2.1 l hl
        have : u = v := rr_inj hC hu hv (by rw [← ue, ← el, ve])
        subst this
        exact va
      · rw [ue, (rr_ed hC hu).1] at hm
        exact absurd uk ((rr_b h2 hu).mp hm)
    · obtain ⟨u, hu, ua, ue⟩ := h2.2.2.2.2.1 k hk
      refine ⟨u, hu, (rr_ag hxy hu).mpr ⟨Or.inr (rr_ak h2 hu ua), fun uk => ?_, fun _ => ua⟩, by rw [hc2]; exact e.trans ue⟩
      rcases hm with ⟨l, hl, el⟩ | hm
      · obtain ⟨v, hv, va, ve⟩ := h1.2.2.2.2.1 l hl
        have : u = v := rr_inj hC hu hv (by rw [← ue, ← el, ve])
        subst this
        exact va
      · rw [ue, (rr_ed hC hu).1] at hm
        exact absurd uk ((rr_b h1 hu).mp hm)
  · obtain ⟨p, qx, qy⟩ := (rr_ag hxy hu).mp ua
    by_cases ax : rr_a G x u
    · obtain ⟨k, hk, ek⟩ := h1.2.2.2.2.2.1 u hu ax
      obtain ⟨a, ha, ea⟩ := g8 k hk (by
        by_cases ay : rr_a G y u
        · obtain ⟨l, hl, el⟩ := h2.2.2.2.2.2.1 u hu ay
          exact Or.inl ⟨l, hl, by rw [el, ek]⟩
        · refine Or.inr ?_
          rw [ek, (rr_ed hC hu).1]
          exact (rr_b h2 hu).mpr (fun q => ay (qy q)))
      exact ⟨a, ha, by rw [hc2]; exact ea.trans ek⟩
    · have nk : ¬ rr_k G x u := fun q => ax (qx q)
      have ay : rr_a G y u := qy (p.resolve_left nk)
      obtain ⟨k, hk, ek⟩ := h2.2.2.2.2.2.1 u hu ay
      obtain ⟨a, ha, ea⟩ := g9 k hk (by
        refine Or.inr ?_
        rw [ek, (rr_ed hC hu).1]
        exact (rr_b h1 hu).mpr nk)
      exact ⟨a, ha, by rw [hc2]; exact ea.trans ek⟩
/-! likeness -/
theorem rf_al_iff (F : Nat → Nat) (X Y : Nat) : ∀ (m k : Nat), rf_al F X Y m k = 1 ↔ ∀ q, k ≤ q → q < k + m → F (X + q) = F (Y + q)
  | 0, k => by
    unfold rf_al
    exact ⟨fun _ q h1 h2 => by omega, fun _ => rfl⟩
  | m + 1, k => by
    unfold rf_al
    by_cases h : F (X + k) = F (Y + k)
    · rw [if_pos h, rf_al_iff F X Y m (k + 1)]
      constructor
      · intro g q h1 h2
        rcases Nat.lt_or_ge k q with e | e
        · exact g q (by omega) (by omega)
        · have e2 : q = k := by omega
          rw [e2]; exact h
      · intro g q h1 h2
        exact g q (by omega) (by omega)
    · rw [if_neg h]
      constructor
      · intro g; omega
      · intro g; exact absurd (g k (Nat.le_refl _) (by omega)) h
theorem cn_lk_iff (G : Nat → Nat) (x y : Nat) : ∀ (m k : Nat), cn_lk G x y m k = 1 ↔ ∀ q, k ≤ q → q < k + m → G (16 * (x * 4 + q) + 0) = G (16 * (y * 4 + q) + 0) ∧ G (16 * (x * 4 + q) + 1) = G (16 * (y * 4 + q) + 1)
  | 0, k => by
    unfold cn_lk
    exact ⟨fun _ q h1 h2 => by omega, fun _ => rfl⟩
  | m + 1, k => by
    unfold cn_lk
    by_cases h : G (16 * (x * 4 + k) + 0) = G (16 * (y * 4 + k) + 0) ∧ G (16 * (x * 4 + k) + 1) = G (16 * (y * 4 + k) + 1)
    · rw [if_pos h, cn_lk_iff G x y m (k + 1)]
      constructor
      · intro g q h1 h2
        rcases Nat.lt_or_ge k q with e | e
        · exact g q (by omega) (by omega)
        · have e2 : q = k := by omega
          rw [e2]; exact h
      · intro g q h1 h2
        exact g q (by omega) (by omega)
    · rw [if_neg h]
      constructor
      · intro g; omega
      · intro g; exact absurd (g k (Nat.le_refl _) (by omega)) h
theorem rr_alike {N G : Nat → Nat} {x y : Nat} {F : Nat → Nat} {X Y : Nat} (hS : rr_S N) (hC : rr_C G) (h1 : rr N G x F X) (h2 : rr N G y F Y) : rf_al F X Y 57 0 = cn_lk G x y 4 0 := by
  have c1 := rr_c24 hS hC h1
  have c2 := rr_c24 hS hC h2
  have key : rf_al F X Y 57 0 = 1 ↔ cn_lk G x y 4 0 = 1 := by
    rw [rf_al_iff, cn_lk_iff]
    constructor
    · intro g r hr0 hr
      have gk : ∀ u, u < 256 → (rr_k G x u ↔ rr_k G y u) := fun u hu => by
        have q1 := h1.1 (u / 32) (u % 32) (by omega)
        have q2 := h2.1 (u / 32) (u % 32) (by omega)
        rw [g (u / 32) (by omega) (by omega), q2, show 32 * (u / 32) + u % 32 = u by omega] at q1
        have h32 : u % 32 < 32 := by omega
        constructor
        · intro a; exact (q1.mpr ⟨h32, a⟩).2
        · intro a; exact (q1.mp ⟨h32, a⟩).2
      have ga : ∀ u, u < 256 → (rr_a G x u ↔ rr_a G y u) := fun u hu => by
        constructor
        · intro a
          obtain ⟨i, hi, e⟩ := h1.2.2.2.2.2.1 u hu a
          have e8 := g 8 (by omega) (by omega)
          have e9 := g (9 + i) (by omega) (by omega)
          rw [← Nat.add_assoc, ← Nat.add_assoc] at e9
          obtain ⟨v, hv, va, ve⟩ := h2.2.2.2.2.1 i (by omega)
          have : u = v := rr_inj hC hu hv (by rw [← e, e9, ve])
          subst this; exact va
        · intro a
          obtain ⟨i, hi, e⟩ := h2.2.2.2.2.2.1 u hu a
          have e8 := g 8 (by omega) (by omega)
          have e9 := g (9 + i) (by omega) (by omega)
          rw [← Nat.add_assoc, ← Nat.add_assoc] at e9
          obtain ⟨v, hv, va, ve⟩ := h1.2.2.2.2.1 i (by omega)
          have : u = v := rr_inj hC hu hv (by rw [← e, ← e9, ve])
          subst this; exact va
      have hN := rr_NS hS (show r < 4 by omega)
      have bits : ∀ n, n < 63 → (64 * r + n + 1) % 64 - 1 = n ∧ (64 * r + n + 1) / 64 = r ∧ 0 < (64 * r + n + 1) % 64 ∧ 64 * r + n + 1 < 256 := fun n hn => by omega
      constructor
      · apply Nat.eq_of_testBit_eq
        intro n
        rcases Nat.lt_or_ge n 63 with hn | hn
        · obtain ⟨b1, b2, b3, b4⟩ := bits n hn
          have q := gk _ b4
          unfold rr_k at q
          rw [b1, b2] at q
          simp only [b3, true_and] at q
          exact Bool.eq_iff_iff.mpr q
        · have z1 : (G (16 * (x * 4 + r) + 0)).testBit n = false := by
            cases hb : (G (16 * (x * 4 + r) + 0)).testBit n with
            | false => rfl
            | true => have := rr_bit (h1.2.1 r (by omega)) hb; omega
          have z2 : (G (16 * (y * 4 + r) + 0)).testBit n = false := by
            cases hb : (G (16 * (y * 4 + r) + 0)).testBit n with
            | false => rfl
            | true => have := rr_bit (h2.2.1 r (by omega)) hb; omega
          rw [z1, z2]
      · apply Nat.eq_of_testBit_eq
        intro n
        rcases Nat.lt_or_ge n 63 with hn | hn
        · obtain ⟨b1, b2, b3, b4⟩ := bits n hn
          have q := ga _ b4
          unfold rr_a at q
          rw [b1, b2] at q
          simp only [b3, true_and] at q
          exact Bool.eq_iff_iff.mpr q
        · have z1 : (G (16 * (x * 4 + r) + 1)).testBit n = false := by
            cases hb : (G (16 * (x * 4 + r) + 1)).testBit n with
            | false => rfl
            | true => have := rr_bit (h1.2.1 r (by omega)) (h1.2.2.1 r n (by omega) hb); omega
          have z2 : (G (16 * (y * 4 + r) + 1)).testBit n = false := by
            cases hb : (G (16 * (y * 4 + r) + 1)).testBit n with
            | false => rfl
            | true => have := rr_bit (h2.2.1 r (by omega)) (h2.2.2.1 r n (by omega) hb); omega
          rw [z1, z2]
    · intro g
      have gk : ∀ u, u < 256 → (rr_k G x u ↔ rr_k G y u) := fun u hu => by unfold rr_k; rw [(g (u / 64) (by omega) (by omega)).1]
      have ga : ∀ u, u < 256 → (rr_a G x u ↔ rr_a G y u) := fun u hu => by unfold rr_a; rw [(g (u / 64) (by omega) (by omega)).2]
      obtain ⟨e8, e9⟩ := sq_eq (s := fun i => F (X + 9 + i)) (t := fun i => F (Y + 9 + i)) h1.2.2.2.1 h2.2.2.2.1 (fun i hi => by
        obtain ⟨u, hu, ua, ue⟩ := h1.2.2.2.2.1 i hi
        obtain ⟨j, hj, je⟩ := h2.2.2.2.2.2.1 u hu ((ga u hu).mp ua)
        exact ⟨j, hj, je.trans ue.symm⟩) (fun i hi => by
        obtain ⟨u, hu, ua, ue⟩ := h2.2.2.2.2.1 i hi
        obtain ⟨j, hj, je⟩ := h1.2.2.2.2.2.1 u hu ((ga u hu).mpr ua)
        exact ⟨j, hj, je.trans ue.symm⟩)
      intro q hq0 hq
      rcases Nat.lt_or_ge q 8 with e | e
      · apply Nat.eq_of_testBit_eq
        intro n
        apply Bool.eq_iff_iff.mpr
        rw [h1.1 q n e, h2.1 q n e]
        constructor
        · rintro ⟨a, b⟩; exact ⟨a, (gk _ (by omega)).mp b⟩
        · rintro ⟨a, b⟩; exact ⟨a, (gk _ (by omega)).mpr b⟩
      · rcases Nat.lt_or_ge 8 q with f | f
        · have e3 : q = 9 + (q - 9) := by omega
          rw [e3, ← Nat.add_assoc, ← Nat.add_assoc]
          rcases Nat.lt_or_ge (q - 9) (F (X + 8)) with l | l
          · exact e9 _ l
          · rw [h1.2.2.2.2.2.2 _ l (by omega), h2.2.2.2.2.2.2 _ (by omega) (by omega)]
        · have e4 : q = 8 := by omega
          subst e4; exact e8
  have u1 := rf_al1 F X Y 57 0
  have u2 := cn_lk1 G x y 4 0
  omega
