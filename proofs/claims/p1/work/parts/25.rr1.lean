/-! both sides' rows: what they say of the same dots -/
def rr_k (G : Nat → Nat) (x u : Nat) : Prop := 0 < u % 64 ∧ (G (16 * (x * 4 + u / 64) + 0)).testBit (u % 64 - 1) = true
def rr_a (G : Nat → Nat) (x u : Nat) : Prop := 0 < u % 64 ∧ (G (16 * (x * 4 + u / 64) + 1)).testBit (u % 64 - 1) = true
def rr_e (G : Nat → Nat) (u : Nat) : Nat := u * 1200 + G (16 * u + 2)
/-- the class's row x (numbers G) and the reference's state at X (numbers F) are the same; N r: up to which number dots of r are -/
def rr (N : Nat → Nat) (G : Nat → Nat) (x : Nat) (F : Nat → Nat) (X : Nat) : Prop :=
  (∀ w e, w < 8 → ((F (X + w)).testBit e = true ↔ e < 32 ∧ rr_k G x (32 * w + e))) ∧
  (∀ r, r < 4 → G (16 * (x * 4 + r) + 0) < 2 ^ N r) ∧
  (∀ r n, r < 4 → (G (16 * (x * 4 + r) + 1)).testBit n = true → (G (16 * (x * 4 + r) + 0)).testBit n = true) ∧
  (∀ i j, i < j → j < F (X + 8) → F (X + 9 + i) < F (X + 9 + j)) ∧
  (∀ i, i < F (X + 8) → ∃ u, u < 256 ∧ rr_a G x u ∧ F (X + 9 + i) = rr_e G u) ∧
  (∀ u, u < 256 → rr_a G x u → ∃ i, i < F (X + 8) ∧ F (X + 9 + i) = rr_e G u) ∧
  (∀ i, F (X + 8) ≤ i → i < 48 → F (X + 9 + i) = 0)
def rr_C (G : Nat → Nat) : Prop := ∀ u, u < 256 → G (16 * u + 2) < 1200
theorem rr_inj {G : Nat → Nat} (hC : rr_C G) {u v : Nat} (hu : u < 256) (hv : v < 256) (h : rr_e G u = rr_e G v) : u = v := by
  have h1 := hC u hu
  have h2 := hC v hv
  unfold rr_e at h
  omega
theorem rr_elt {G : Nat → Nat} (hC : rr_C G) {u v : Nat} (hu : u < 256) (hv : v < 256) (h : rr_e G u < rr_e G v) : u < v := by
  have h1 := hC u hu
  have h2 := hC v hv
  unfold rr_e at h
  rcases Nat.lt_trichotomy u v with e | e | e
  · exact e
  · subst e; omega
  · omega
theorem rr_ed {G : Nat → Nat} (hC : rr_C G) {u : Nat} (hu : u < 256) : rr_e G u / 1200 = u ∧ rr_e G u < 307200 := by
  have h1 := hC u hu
  unfold rr_e
  omega
theorem rr_bit {x n k : Nat} (h : x < 2 ^ n) (hb : x.testBit k = true) : k < n := by
  rcases Nat.lt_or_ge k n with e | e
  · exact e
  · have h2 : x < 2 ^ k := Nat.lt_of_lt_of_le h (Nat.pow_le_pow_right (by omega) e)
    rw [Nat.testBit_lt_two_pow h2] at hb
    cases hb
theorem rr_ak {N G : Nat → Nat} {x : Nat} {F : Nat → Nat} {X u : Nat} (h : rr N G x F X) (hu : u < 256) (ha : rr_a G x u) : rr_k G x u := ⟨ha.1, h.2.2.1 (u / 64) _ (by omega) ha.2⟩
theorem rr_kN {N G : Nat → Nat} {x : Nat} {F : Nat → Nat} {X u : Nat} (h : rr N G x F X) (hu : u < 256) (hk : rr_k G x u) : u % 64 ≤ N (u / 64) := by
  have h1 := rr_bit (h.2.1 (u / 64) (by omega)) hk.2
  have h2 := hk.1
  omega
/-- the number of dots ahead of a replica's -/
def rr_off (N : Nat → Nat) : Nat → Nat
  | 0 => 0
  | 1 => N 0
  | 2 => N 0 + N 1
  | _ => N 0 + N 1 + N 2
theorem rr_offm (N : Nat → Nat) {r s : Nat} (h : r < s) (hs : s < 4) : rr_off N r + N r ≤ rr_off N s := by
  have h1 : r = 0 ∨ r = 1 ∨ r = 2 := by omega
  have h2 : s = 1 ∨ s = 2 ∨ s = 3 := by omega
  rcases h1 with rfl | rfl | rfl <;> rcases h2 with rfl | rfl | rfl <;> simp only [rr_off] <;> omega
theorem rr_offt (N : Nat → Nat) {r : Nat} (hr : r < 4) : rr_off N r + N r ≤ N 0 + N 1 + N 2 + N 3 := by
  have h1 : r = 0 ∨ r = 1 ∨ r = 2 ∨ r = 3 := by omega
  rcases h1 with rfl | rfl | rfl | rfl <;> simp only [rr_off] <;> omega
theorem rr_pos {N : Nat → Nat} {u v : Nat} (hv : v < 256) (h : u < v) (h1 : 0 < u % 64) (h2 : u % 64 ≤ N (u / 64)) (h3 : 0 < v % 64) : rr_off N (u / 64) + u % 64 < rr_off N (v / 64) + v % 64 := by
  rcases Nat.lt_or_ge (u / 64) (v / 64) with e | e
  · have := rr_offm N e (by omega)
    omega
  · have e2 : u / 64 = v / 64 := by omega
    rw [e2]; omega
theorem rr_idx {N G : Nat → Nat} {x : Nat} {F : Nat → Nat} {X : Nat} (hC : rr_C G) (h : rr N G x F X) : ∀ i, i < F (X + 8) → ∀ u, u < 256 → rr_a G x u → F (X + 9 + i) = rr_e G u → i + 1 ≤ rr_off N (u / 64) + u % 64
  | 0, hi, u, hu, ha, he => by have := ha.1; omega
  | i + 1, hi, u, hu, ha, he => by
    obtain ⟨v, hv, va, ve⟩ := h.2.2.2.2.1 i (by omega)
    have h1 := rr_idx hC h i (by omega) v hv va ve
    have h2 := h.2.2.2.1 i (i + 1) (by omega) hi
    rw [ve, he] at h2
    have h3 := rr_elt hC hv hu h2
    have h4 := rr_pos (N := N) hu h3 va.1 (rr_kN h hv (rr_ak h hv va)) ha.1
    omega
theorem rr_cnt {N G : Nat → Nat} {x : Nat} {F : Nat → Nat} {X : Nat} (hC : rr_C G) (h : rr N G x F X) : F (X + 8) ≤ N 0 + N 1 + N 2 + N 3 := by
  rcases Nat.eq_zero_or_pos (F (X + 8)) with e | e
  · omega
  · obtain ⟨u, hu, ua, ue⟩ := h.2.2.2.2.1 (F (X + 8) - 1) (by omega)
    have h1 := rr_idx hC h (F (X + 8) - 1) (by omega) u hu ua ue
    have h2 := rr_kN h hu (rr_ak h hu ua)
    have h3 := rr_offt N (r := u / 64) (by omega)
    omega
/-- two rows of numbers that grow and have the same ones -/
theorem sq_eq {s t : Nat → Nat} {c e : Nat} (hs : ∀ i j, i < j → j < c → s i < s j) (ht : ∀ i j, i < j → j < e → t i < t j) (h1 : ∀ i, i < c → ∃ j, j < e ∧ t j = s i) (h2 : ∀ j, j < e → ∃ i, i < c ∧ s i = t j) : c = e ∧ ∀ i, i < c → s i = t i := by
  have key : ∀ i, i < c → i < e → s i = t i := by
    intro i
    induction i using Nat.strongRecOn with
    | _ i ih =>
      intro hi he
      rcases Nat.lt_trichotomy (s i) (t i) with h | h | h
      · obtain ⟨k, hk, ek⟩ := h1 i hi
        rcases Nat.lt_trichotomy k i with g | g | g
        · have := ih k g (by omega) hk
          have := hs k i g hi
          omega
        · subst g; omega
        · have := ht i k g hk
          omega
      · exact h
      · obtain ⟨k, hk, ek⟩ := h2 i he
        rcases Nat.lt_trichotomy k i with g | g | g
        · have := ih k g hk (by omega)
          have := ht k i g he
          omega
        · subst g; omega
        · have := hs i k g hk
          omega
  have hce : c = e := by
    rcases Nat.lt_trichotomy c e with h | h | h
    · obtain ⟨k, hk, ek⟩ := h2 c h
      have := key k hk (by omega)
      have := ht k c hk h
      omega
    · exact h
    · obtain ⟨k, hk, ek⟩ := h1 e h
      have := key k (by omega) hk
      have := hs k e hk h
      omega
  exact ⟨hce, fun i hi => key i hi (by omega)⟩
/-! the reference's join -/
theorem rf_mgo (X Y : Nat) : ∀ (m i j : Nat) (F : Nat → Nat) (k : Nat), F (3201 + 8) + m ≤ 48 → (k < 3209 ∨ 3258 ≤ k) → rf_mg X Y m i j F k = F k
  | 0, _, _, _, _, _, _ => rfl
  | m + 1, i, j, F, k, h, hk => by
    have ad : ∀ p, rf_ad F 3201 p (3201 + 8) + m ≤ 48 := fun p => by rw [rf_adt]; omega
    have ado : ∀ p, rf_ad F 3201 p k = F k := fun p => by unfold rf_ad; rw [xn_un _ _ (by omega), xn_un _ _ (by omega)]
    unfold rf_mg
    split
    · split
      · rw [rf_mgo X Y m _ _ _ k (ad _) hk, ado]
      · split
        · split
          · rw [rf_mgo X Y m _ _ _ k (ad _) hk, ado]
          · exact rf_mgo X Y m _ _ _ k (by omega) hk
        · split
          · rw [rf_mgo X Y m _ _ _ k (ad _) hk, ado]
          · exact rf_mgo X Y m _ _ _ k (by omega) hk
    · rfl
def mg_k (F : Nat → Nat) (X Y i : Nat) : Prop := (∃ j, j < F (Y + 8) ∧ F (Y + 9 + j) = F (X + 9 + i)) ∨ rf_b F Y (F (X + 9 + i) / 1200) = 0
/-- the join, i of X's and j of Y's entries done -/
def mg_I (X Y : Nat) (F H : Nat → Nat) (i j : Nat) : Prop :=
  (∀ k, k < 57 → H (X + k) = F (X + k)) ∧ (∀ k, k < 57 → H (Y + k) = F (Y + k)) ∧ i ≤ F (X + 8) ∧ j ≤ F (Y + 8) ∧ H (3201 + 8) ≤ i + j ∧
  (∀ a b, a < b → b < H (3201 + 8) → H (3201 + 9 + a) < H (3201 + 9 + b)) ∧
  (∀ a, a < H (3201 + 8) → (∃ k, k < i ∧ H (3201 + 9 + a) = F (X + 9 + k) ∧ mg_k F X Y k) ∨ (∃ k, k < j ∧ H (3201 + 9 + a) = F (Y + 9 + k) ∧ mg_k F Y X k)) ∧
  (∀ k, k < i → mg_k F X Y k → ∃ a, a < H (3201 + 8) ∧ H (3201 + 9 + a) = F (X + 9 + k)) ∧
  (∀ k, k < j → mg_k F Y X k → ∃ a, a < H (3201 + 8) ∧ H (3201 + 9 + a) = F (Y + 9 + k)) ∧
  (∀ k l, k < i → j ≤ l → l < F (Y + 8) → F (X + 9 + k) < F (Y + 9 + l)) ∧
  (∀ k l, k < j → i ≤ l → l < F (X + 8) → F (Y + 9 + k) < F (X + 9 + l)) ∧
  (∀ a, H (3201 + 8) ≤ a → a < 48 → H (3201 + 9 + a) = 0)
theorem mg_sym {X Y : Nat} {F H : Nat → Nat} {i j : Nat} (h : mg_I X Y F H i j) : mg_I Y X F H j i := by
  obtain ⟨a1, a2, a3, a4, a5, a6, a7, a8, a9, b1, b2, b3⟩ := h
  exact ⟨a2, a1, a4, a3, by omega, a6, fun a ha => (a7 a ha).symm, a9, a8, b2, b1, b3⟩
/-- the next one of X isn't kept -/
theorem mg_skip {X Y : Nat} {F H : Nat → Nat} {i j : Nat} (h : mg_I X Y F H i j) (hi : i < F (X + 8)) (hlt : ∀ l, j ≤ l → l < F (Y + 8) → F (X + 9 + i) < F (Y + 9 + l)) (hn : ¬ mg_k F X Y i) : mg_I X Y F H (i + 1) j := by
  obtain ⟨a1, a2, a3, a4, a5, a6, a7, a8, a9, b1, b2, b3⟩ := h
  refine ⟨a1, a2, hi, a4, by omega, a6, fun a ha => ?_, fun k hk hm => ?_, a9, fun k l hk hl hy => ?_, fun k l hk hl hx => b2 k l hk (by omega) hx, b3⟩
  · rcases a7 a ha with ⟨k, hk, e⟩ | e
    · exact Or.inl ⟨k, by omega, e⟩
    · exact Or.inr e
  · rcases Nat.lt_or_ge k i with e | e
    · exact a8 k e hm
    · have e2 : k = i := by omega
      subst e2
      exact absurd hm hn
  · rcases Nat.lt_or_ge k i with e | e
    · exact b1 k l e hl hy
    · have e2 : k = i := by omega
      subst e2
      exact hlt l hl hy
theorem ad_t (H : Nat → Nat) (p : Nat) : rf_ad H 3201 p (3201 + 8) = H (3201 + 8) + 1 := rf_adt H 3201 p
theorem ad_e (H : Nat → Nat) (p : Nat) : rf_ad H 3201 p (3201 + 9 + H (3201 + 8)) = p := by
  unfold rf_ad; rw [xn_un _ _ (by omega), xn_ue]
theorem ad_o (H : Nat → Nat) (p : Nat) {a : Nat} (h : a ≠ H (3201 + 8)) : rf_ad H 3201 p (3201 + 9 + a) = H (3201 + 9 + a) := by
  unfold rf_ad; rw [xn_un _ _ (by omega), xn_un _ _ (by omega)]
/-- what is added to the join: greater than all -/
theorem mg_old {X Y : Nat} {F H : Nat → Nat} {i j a : Nat} (h : mg_I X Y F H i j) (hX : ∀ k l, k < l → l < F (X + 8) → F (X + 9 + k) < F (X + 9 + l)) (hi : i < F (X + 8)) (ha : a < H (3201 + 8)) : H (3201 + 9 + a) < F (X + 9 + i) := by
  obtain ⟨a1, a2, a3, a4, a5, a6, a7, a8, a9, b1, b2, b3⟩ := h
  rcases a7 a ha with ⟨k, hk, e, _⟩ | ⟨k, hk, e, _⟩
  · rw [e]; exact hX k i hk hi
  · rw [e]; exact b2 k i hk (Nat.le_refl _) hi
theorem mg_add {X Y : Nat} {F H : Nat → Nat} {i j i2 j2 : Nat} (hX1 : X + 57 ≤ 3201 ∨ 3258 ≤ X) (hY1 : Y + 57 ≤ 3201 ∨ 3258 ≤ Y) (hX : ∀ k l, k < l → l < F (X + 8) → F (X + 9 + k) < F (X + 9 + l)) (h : mg_I X Y F H i j) (hc : H (3201 + 8) ≤ 47) (hi : i < F (X + 8)) (hk : mg_k F X Y i) (hi2 : i2 = i + 1) (hj2 : j2 = j ∨ (j2 = j + 1 ∧ j < F (Y + 8) ∧ F (Y + 9 + j) = F (X + 9 + i))) (hlt : ∀ l, j2 ≤ l → l < F (Y + 8) → F (X + 9 + i) < F (Y + 9 + l)) : mg_I X Y F (rf_ad H 3201 (F (X + 9 + i))) i2 j2 := by
  have hold := fun a ha => mg_old (a := a) h hX hi ha
  obtain ⟨a1, a2, a3, a4, a5, a6, a7, a8, a9, b1, b2, b3⟩ := h
  subst hi2
  have up : ∀ a v, a < H (3201 + 8) → H (3201 + 9 + a) = v → ∃ a, a < rf_ad H 3201 (F (X + 9 + i)) (3201 + 8) ∧ rf_ad H 3201 (F (X + 9 + i)) (3201 + 9 + a) = v := fun a v ha e => ⟨a, by rw [ad_t]; omega, by rw [ad_o _ _ (by omega)]; exact e⟩
  refine ⟨fun k hk => ?_, fun k hk => ?_, hi, by omega, ?_, fun a b hab hb => ?_, fun a ha => ?_, fun k hk2 hm => ?_, fun k hk2 hm => ?_, fun k l hk2 hl hy => ?_, fun k l hk2 hl hx => ?_, fun a ha ha2 => ?_⟩
  · rw [rf_ado _ _ _ _ hc (by omega)]; exact a1 k hk
  · rw [rf_ado _ _ _ _ hc (by omega)]; exact a2 k hk
  · rw [ad_t]; omega
  · rw [ad_t] at hb
    rw [ad_o _ _ (show a ≠ H (3201 + 8) by omega)]
    by_cases e : b = H (3201 + 8)
    · subst e
      rw [ad_e]
      exact hold a hab
    · rw [ad_o _ _ e]
      exact a6 a b hab (by omega)
  · rw [ad_t] at ha
    by_cases e : a = H (3201 + 8)
    · subst e
      rw [ad_e]
      exact Or.inl ⟨i, by omega, rfl, hk⟩
    · rw [ad_o _ _ e]
      rcases a7 a (by omega) with ⟨k, hk1, e1⟩ | ⟨k, hk1, e1⟩
      · exact Or.inl ⟨k, by omega, e1⟩
      · exact Or.inr ⟨k, by omega, e1⟩
  · rcases Nat.lt_or_ge k i with e | e
    · obtain ⟨a, ha, ea⟩ := a8 k e hm
      exact up a _ ha ea
    · have e2 : k = i := by omega
      subst e2
      exact ⟨H (3201 + 8), by rw [ad_t]; omega, ad_e _ _⟩
  · rcases Nat.lt_or_ge k j with e | e
    · obtain ⟨a, ha, ea⟩ := a9 k e hm
      exact up a _ ha ea
    · have e2 : j2 = j + 1 ∧ j < F (Y + 8) ∧ F (Y + 9 + j) = F (X + 9 + i) := by
        rcases hj2 with e3 | e3
        · omega
        · exact e3
      have e4 : k = j := by omega
      subst e4
      exact ⟨H (3201 + 8), by rw [ad_t]; omega, by rw [ad_e]; exact e2.2.2.symm⟩
  · rcases Nat.lt_or_ge k i with e | e
    · exact b1 k l e (by omega) hy
    · have e2 : k = i := by omega
      subst e2
      exact hlt l hl hy
  · rcases Nat.lt_or_ge k j with e | e
    · exact b2 k l e (by omega) hx
    · have e2 : j2 = j + 1 ∧ j < F (Y + 8) ∧ F (Y + 9 + j) = F (X + 9 + i) := by
        rcases hj2 with e3 | e3
        · omega
        · exact e3
      have e4 : k = j := by omega
      subst e4
      rw [e2.2.2]
      exact hX i l (by omega) hx
  · rw [ad_t] at ha
    rw [ad_o _ _ (by omega)]
    exact b3 a (by omega) ha2
theorem mg_run {X Y : Nat} {F : Nat → Nat} (hX1 : X + 57 ≤ 3201 ∨ 3258 ≤ X) (hY1 : Y + 57 ≤ 3201 ∨ 3258 ≤ Y) (hX : ∀ k l, k < l → l < F (X + 8) → F (X + 9 + k) < F (X + 9 + l)) (hY : ∀ k l, k < l → l < F (Y + 8) → F (Y + 9 + k) < F (Y + 9 + l)) (hn : F (X + 8) + F (Y + 8) ≤ 48) (pX : ∀ k, k < F (X + 8) → F (X + 9 + k) < 307200) (pY : ∀ k, k < F (Y + 8) → F (Y + 9 + k) < 307200) : ∀ (m i j : Nat) (H : Nat → Nat), mg_I X Y F H i j → (F (X + 8) - i) + (F (Y + 8) - j) ≤ m → mg_I X Y F (rf_mg X Y m i j H) (F (X + 8)) (F (Y + 8))
  | 0, i, j, H, h, hm => by
    have e1 : i = F (X + 8) := by have := h.2.2.1; omega
    have e2 : j = F (Y + 8) := by have := h.2.2.2.1; omega
    unfold rf_mg
    rw [← e1, ← e2]
    exact h
  | m + 1, i, j, H, h, hm => by
    have x8 : H (X + 8) = F (X + 8) := h.1 8 (by omega)
    have y8 : H (Y + 8) = F (Y + 8) := h.2.1 8 (by omega)
    have li := h.2.2.1
    have lj := h.2.2.2.1
    have lc := h.2.2.2.2.1
    have px : i < F (X + 8) → rf_p H X i = F (X + 9 + i) := fun hi => by
      unfold rf_p
      rw [x8, if_pos hi]
      have := h.1 (9 + i) (by omega)
      rw [← Nat.add_assoc] at this
      exact this
    have py : j < F (Y + 8) → rf_p H Y j = F (Y + 9 + j) := fun hj => by
      unfold rf_p
      rw [y8, if_pos hj]
      have := h.2.1 (9 + j) (by omega)
      rw [← Nat.add_assoc] at this
      exact this
    have fx : ¬ i < F (X + 8) → rf_p H X i = 1000000 := fun hi => by unfold rf_p; rw [x8, if_neg hi]
    have fy : ¬ j < F (Y + 8) → rf_p H Y j = 1000000 := fun hj => by unfold rf_p; rw [y8, if_neg hj]
    have bx : ∀ v, v < 307200 → rf_b H X (v / 1200) = rf_b F X (v / 1200) := fun v hv => by unfold rf_b; rw [h.1 _ (by omega)]
    have bY : ∀ v, v < 307200 → rf_b H Y (v / 1200) = rf_b F Y (v / 1200) := fun v hv => by unfold rf_b; rw [h.2.1 _ (by omega)]
    unfold rf_mg
    rw [x8, y8]
    split
    · rename_i hij
      split
      · rename_i hpq
        have hi : i < F (X + 8) := by
          rcases Nat.lt_or_ge i (F (X + 8)) with e | e
          · exact e
          · have e1 := fx (by omega)
            rcases Nat.lt_or_ge j (F (Y + 8)) with g | g
            · have := py g; have := pY j g; omega
            · omega
        have hj : j < F (Y + 8) := by
          rcases Nat.lt_or_ge j (F (Y + 8)) with e | e
          · exact e
          · have e1 := fy (by omega)
            have := px hi; have := pX i hi; omega
        rw [px hi] at hpq ⊢
        rw [py hj] at hpq
        exact mg_run hX1 hY1 hX hY hn pX pY m (i + 1) (j + 1) _ (mg_add hX1 hY1 hX h (by omega) hi (Or.inl ⟨j, hj, hpq.symm⟩) rfl (Or.inr ⟨rfl, hj, hpq.symm⟩) (fun l hl hy => by rw [hpq]; exact hY j l (by omega) hy)) (by omega)
      · rename_i hpq
        split
        · rename_i hlt
          have hi : i < F (X + 8) := by
            rcases Nat.lt_or_ge i (F (X + 8)) with e | e
            · exact e
            · have e1 := fx (by omega)
              rcases Nat.lt_or_ge j (F (Y + 8)) with g | g
              · have := py g; have := pY j g; omega
              · have := fy (by omega); omega
          rw [px hi] at hlt hpq ⊢
          have hl2 : ∀ l, j ≤ l → l < F (Y + 8) → F (X + 9 + i) < F (Y + 9 + l) := fun l hl hy => by
            have hj : j < F (Y + 8) := by omega
            rw [py hj] at hlt
            rcases Nat.lt_or_ge j l with e | e
            · have := hY j l e hy; omega
            · have e2 : l = j := by omega
              subst e2; exact hlt
          rw [bY _ (pX i hi)]
          split
          · rename_i hb
            exact mg_run hX1 hY1 hX hY hn pX pY m (i + 1) j _ (mg_add hX1 hY1 hX h (by omega) hi (Or.inr hb) rfl (Or.inl rfl) hl2) (by omega)
          · rename_i hb
            refine mg_run hX1 hY1 hX hY hn pX pY m (i + 1) j _ (mg_skip h hi hl2 ?_) (by omega)
            rintro (⟨l, hl, e⟩ | e)
            · rcases Nat.lt_or_ge l j with g | g
              · have := h.2.2.2.2.2.2.2.2.2.2.1 l i g (Nat.le_refl _) hi; omega
              · have := hl2 l g hl; omega
            · exact hb e
        · rename_i hlt
          have hj : j < F (Y + 8) := by
            rcases Nat.lt_or_ge j (F (Y + 8)) with e | e
            · exact e
            · have e1 := fy (by omega)
              have hi : i < F (X + 8) := by omega
              have := px hi; have := pX i hi; omega
          rw [py hj] at hlt hpq ⊢
          have hl2 : ∀ l, i ≤ l → l < F (X + 8) → F (Y + 9 + j) < F (X + 9 + l) := fun l hl hx => by
            have hi : i < F (X + 8) := by omega
            rw [px hi] at hlt hpq
            rcases Nat.lt_or_ge i l with e | e
            · have := hX i l e hx; omega
            · have e2 : l = i := by omega
              subst e2; omega
          rw [bx _ (pY j hj)]
          split
          · rename_i hb
            exact mg_run hX1 hY1 hX hY hn pX pY m i (j + 1) _ (mg_sym (mg_add hY1 hX1 hY (mg_sym h) (by omega) hj (Or.inr hb) rfl (Or.inl rfl) hl2)) (by omega)
          · rename_i hb
            refine mg_run hX1 hY1 hX hY hn pX pY m i (j + 1) _ (mg_sym (mg_skip (mg_sym h) hj hl2 ?_)) (by omega)
            rintro (⟨l, hl, e⟩ | e)
            · rcases Nat.lt_or_ge l i with g | g
              · have := h.2.2.2.2.2.2.2.2.2.1 l j g (Nat.le_refl _) hj; omega
              · have := hl2 l g hl; omega
            · exact hb e
    · rename_i hij
      have e1 : i = F (X + 8) := by omega
      have e2 : j = F (Y + 8) := by omega
      rw [← e1, ← e2]
      exact h
