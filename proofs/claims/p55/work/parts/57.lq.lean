/-! the law: what its methods make of its numbers, place by place -/
theorem lw_of_tb (G : Nat → Nat) (b q f : Nat) : ∀ (m k x i : Nat), (lw_of G b q f m k x).testBit i = true ↔ x.testBit i = true ∨ (k ≤ i ∧ i < k + m ∧ b.testBit i = true ∧ G (12 + 5 * i) = q ∧ (f = 4294967295 ∨ G (13 + 5 * i) = f))
  | 0, k, x, i => by
    unfold lw_of
    exact ⟨fun h => Or.inl h, fun h => h.elim id (fun z => absurd z.2.1 (by omega))⟩
  | m + 1, k, x, i => by
    unfold lw_of
    rw [lw_of_tb G b q f m (k + 1)]
    have e : b.testBit k = true ↔ b / 2 ^ k % 2 = 1 := by rw [Nat.testBit_eq_decide_div_mod_eq, decide_eq_true_iff]
    by_cases c : b / 2 ^ k % 2 = 1 ∧ G (12 + 5 * k) = q ∧ (f = 4294967295 ∨ G (13 + 5 * k) = f)
    · rw [if_pos c, Nat.one_mul, Nat.testBit_or, Nat.testBit_two_pow, Bool.or_eq_true, decide_eq_true_iff]
      constructor
      · rintro ((h | h) | ⟨h1, h2, h3⟩)
        · exact Or.inl h
        · subst h; exact Or.inr ⟨Nat.le_refl _, by omega, e.mpr c.1, c.2⟩
        · exact Or.inr ⟨by omega, by omega, h3⟩
      · rintro (h | ⟨h1, h2, h3⟩)
        · exact Or.inl (Or.inl h)
        · by_cases z : k = i
          · exact Or.inl (Or.inr z)
          · exact Or.inr ⟨by omega, by omega, h3⟩
    · rw [if_neg c]
      constructor
      · rintro (h | ⟨h1, h2, h3⟩)
        · exact Or.inl h
        · exact Or.inr ⟨by omega, by omega, h3⟩
      · rintro (h | ⟨h1, h2, h3⟩)
        · exact Or.inl h
        · by_cases z : k = i
          · subst z
            exact absurd ⟨e.mp h3.1, h3.2⟩ c
          · exact Or.inr ⟨by omega, by omega, h3⟩
theorem lw_cx_tb (G : Nat → Nat) (b q f i : Nat) : (lw_of G b q f (G 4) 0 0).testBit i = true ↔ i < G 4 ∧ b.testBit i = true ∧ G (12 + 5 * i) = q ∧ (f = 4294967295 ∨ G (13 + 5 * i) = f) := by
  rw [lw_of_tb, Nat.zero_testBit]
  constructor
  · rintro (h | ⟨h1, h2, h3⟩)
    · exact absurd h (by decide)
    · exact ⟨by omega, h3⟩
  · rintro ⟨h1, h2⟩
    exact Or.inr ⟨by omega, by omega, h2⟩
theorem lw_nx_ce (G : Nat → Nat) (t : Nat) : ∀ (m k x : Nat), (∀ i, k ≤ i → i < k + m → G (10 + 5 * i) = t → (G (331 + 2 * t)).testBit i = true) → lw_nx G t m k x + ce G t k = x + ce G t (k + m)
  | 0, k, x, _ => rfl
  | m + 1, k, x, h => by
    unfold lw_nx
    have ih := lw_nx_ce G t m (k + 1) (x + if G (10 + 5 * k) = t ∧ G (331 + 2 * t) / 2 ^ k % 2 = 1 then 1 else 0) (fun i h1 h2 => h i (by omega) (by omega))
    have e : (G (331 + 2 * t)).testBit k = true ↔ G (331 + 2 * t) / 2 ^ k % 2 = 1 := by rw [Nat.testBit_eq_decide_div_mod_eq, decide_eq_true_iff]
    have c1 : ce G t (k + 1) = ce G t k + (if G (10 + 5 * k) = t then 1 else 0) := rfl
    rw [show k + (m + 1) = k + 1 + m by omega]
    by_cases z : G (10 + 5 * k) = t
    · rw [if_pos z] at c1
      rw [if_pos ⟨z, e.mp (h k (by omega) (by omega) z)⟩] at ih ⊢
      omega
    · rw [if_neg z] at c1
      rw [if_neg (fun y => z y.1)] at ih ⊢
      omega
theorem lw_dcv (a : Nat) : ∀ (m k : Nat) (G : Nat → Nat) (j : Nat), lw_dc a m k G j = if a + k ≤ j ∧ j < a + k + m then G (j + 2) else G j
  | 0, k, G, j => by rw [if_neg (by omega)]; rfl
  | m + 1, k, G, j => by
    unfold lw_dc
    rw [lw_dcv a m (k + 1)]
    by_cases h : j = a + k
    · subst h
      rw [if_neg (by omega), if_pos (by omega), xn_ue]
    · by_cases h2 : a + k ≤ j ∧ j < a + k + (m + 1)
      · rw [if_pos (by omega), if_pos h2, xn_un _ _ (by omega)]
      · rw [if_neg (by omega), if_neg h2, xn_un _ _ (by omega)]
theorem lw_tcv : ∀ (m k : Nat) (G : Nat → Nat) (j : Nat), k + m ≤ 400 → lw_tc m k G j = if 604 + k ≤ j ∧ j < 604 + k + m then G (j + 800) else G j
  | 0, k, G, j, _ => by rw [if_neg (by omega)]; rfl
  | m + 1, k, G, j, hk => by
    unfold lw_tc
    rw [lw_tcv m (k + 1) _ j (by omega)]
    by_cases h : j = 604 + k
    · subst h
      rw [if_neg (by omega), if_pos (by omega), xn_ue]
      exact congrArg G (by omega)
    · by_cases h2 : 604 + k ≤ j ∧ j < 604 + k + (m + 1)
      · rw [if_pos (by omega), if_pos h2, xn_un _ _ (by omega)]
      · rw [if_neg (by omega), if_neg h2, xn_un _ _ (by omega)]
/-- a kept delta's numbers -/
def dq (G : Nat → Nat) (t n p : Nat) : Nat := G (362 + 12 * t + 2 * (n - 1 - G (342 + t)) + p)
theorem lw_dpF {G : Nat → Nat} {t : Nat} (h0 : G (342 + t) < G (338 + t)) (h6 : G (338 + t) ≤ G (342 + t) + 6) (ht : t < 4) : (∀ j, j ≠ 342 + t → (j < 362 + 12 * t ∨ 362 + 12 * t + 12 ≤ j) → lw_dp G t j = G j) ∧ lw_dp G t (342 + t) = G (342 + t) + 1 ∧ (∀ n p, G (342 + t) + 1 < n → n ≤ G (338 + t) → p < 2 → dq (lw_dp G t) t n p = dq G t n p) := by
  have e2 := lw_dp2 G t
  refine ⟨fun j h1 h2 => ?_, e2, fun n p h1 h2 h3 => ?_⟩
  · unfold lw_dp
    rw [xn_un _ _ h1]
    unfold lw_d1
    rw [lw_dcv, if_neg (by omega)]
  · unfold dq
    rw [e2]
    unfold lw_dp
    rw [xn_un _ _ (by omega)]
    unfold lw_d1
    rw [lw_dcv, if_pos (by omega)]
    exact congrArg G (by omega)
theorem lw_dnF {t : Nat} (ht : t < 4) (l : Nat) : ∀ (m : Nat) (G : Nat → Nat), G (342 + t) ≤ G (338 + t) → G (338 + t) ≤ G (342 + t) + 6 → l ≤ G (338 + t) → m = l - G (342 + t) → (∀ j, j ≠ 342 + t → (j < 362 + 12 * t ∨ 362 + 12 * t + 12 ≤ j) → lw_dn t m G j = G j) ∧ lw_dn t m G (342 + t) = max (G (342 + t)) l ∧ (∀ n p, max (G (342 + t)) l < n → n ≤ G (338 + t) → p < 2 → dq (lw_dn t m G) t n p = dq G t n p)
  | 0, G, h0, h6, hl, hm => by
    unfold lw_dn
    exact ⟨fun _ _ _ => rfl, by omega, fun _ _ _ _ _ => rfl⟩
  | m + 1, G, h0, h6, hl, hm => by
    obtain ⟨a1, a2, a3⟩ := lw_dpF (G := G) (t := t) (by omega) h6 ht
    have a4 := a1 (338 + t) (by omega) (by omega)
    obtain ⟨b1, b2, b3⟩ := lw_dnF ht l m (lw_dp G t) (by omega) (by omega) (by omega) (by omega)
    unfold lw_dn
    refine ⟨fun j h1 h2 => by rw [b1 j h1 h2, a1 j h1 h2], by omega, fun n p h1 h2 h3 => ?_⟩
    rw [b3 n p (by omega) (by omega) h3, a3 n p (by omega) h2 h3]
theorem lw_tkF {G : Nat → Nat} {t : Nat} (hh kn : Nat) (ht : t < 4) (h0 : G (342 + t) ≤ G (338 + t)) (h6 : G (338 + t) ≤ G (342 + t) + 6) : (∀ j, j ≠ 330 + 2 * t → j ≠ 331 + 2 * t → j ≠ 338 + t → j ≠ 342 + t → (j < 362 + 12 * t ∨ 362 + 12 * t + 12 ≤ j) → lw_tk G t hh kn j = G j) ∧ lw_tk G t hh kn (331 + 2 * t) = G (331 + 2 * t) ||| kn ∧ lw_tk G t hh kn (330 + 2 * t) = lw_j (G (330 + 2 * t)) (G (331 + 2 * t)) hh kn ∧ lw_tk G t hh kn (338 + t) = G (338 + t) + 1 ∧ lw_tk G t hh kn (342 + t) = max (G (342 + t)) (G (338 + t) + 1 - 6) ∧ (∀ n p, max (G (342 + t)) (G (338 + t) + 1 - 6) < n → n ≤ G (338 + t) → p < 2 → dq (lw_tk G t hh kn) t n p = dq G t n p) ∧ dq (lw_tk G t hh kn) t (G (338 + t) + 1) 0 = hh ∧ dq (lw_tk G t hh kn) t (G (338 + t) + 1) 1 = kn := by
  have K : ∃ E : Nat → Nat, lw_k0 G t = E ∧ (∀ j, j ≠ 342 + t → (j < 362 + 12 * t ∨ 362 + 12 * t + 12 ≤ j) → E j = G j) ∧ E (342 + t) = max (G (342 + t)) (G (338 + t) + 1 - 6) ∧ (∀ n p, max (G (342 + t)) (G (338 + t) + 1 - 6) < n → n ≤ G (338 + t) → p < 2 → dq E t n p = dq G t n p) := by
    refine ⟨lw_k0 G t, rfl, ?_⟩
    unfold lw_k0
    by_cases z : G (338 + t) - G (342 + t) = 6
    · rw [if_pos z]
      obtain ⟨a1, a2, a3⟩ := lw_dpF (G := G) (t := t) (by omega) h6 ht
      exact ⟨a1, by omega, fun n p h1 h2 h3 => a3 n p (by omega) h2 h3⟩
    · rw [if_neg z]
      exact ⟨fun _ _ _ => rfl, by omega, fun _ _ _ _ _ => rfl⟩
  obtain ⟨E, eE, b1, b2, b3⟩ := K
  have b8 := b1 (338 + t) (by omega) (by omega)
  have s0 := b1 (330 + 2 * t) (by omega) (by omega)
  have s1 := b1 (331 + 2 * t) (by omega) (by omega)
  unfold lw_tk
  rw [eE]
  have k1 : ∀ j, lw_k1 E t hh kn j = if j = 362 + 12 * t + 2 * (E (338 + t) - E (342 + t)) + 1 then kn else if j = 362 + 12 * t + 2 * (E (338 + t) - E (342 + t)) then hh else E j := fun j => rfl
  have k2 : ∀ j, lw_k2 E t hh kn j = if j = 338 + t then E (338 + t) + 1 else lw_k1 E t hh kn j := fun j => by
    unfold lw_k2 xn_u
    split
    · rw [k1, if_neg (by omega), if_neg (by omega)]
    · rfl
  have v0 : lw_k2 E t hh kn (330 + 2 * t) = G (330 + 2 * t) := by rw [k2, k1, if_neg (by omega), if_neg (by omega), if_neg (by omega), s0]
  have v1 : lw_k2 E t hh kn (331 + 2 * t) = G (331 + 2 * t) := by rw [k2, k1, if_neg (by omega), if_neg (by omega), if_neg (by omega), s1]
  have k3 : ∀ j, lw_k3 (lw_k2 E t hh kn) t hh kn j = if j = 330 + 2 * t then lw_j (G (330 + 2 * t)) (G (331 + 2 * t)) hh kn else if j = 331 + 2 * t then G (331 + 2 * t) ||| kn else lw_k2 E t hh kn j := fun j => by
    unfold lw_k3
    rw [v0, v1]
    rfl
  have m2 : lw_k3 (lw_k2 E t hh kn) t hh kn (342 + t) = max (G (342 + t)) (G (338 + t) + 1 - 6) := by
    rw [k3, if_neg (by omega), if_neg (by omega), k2, if_neg (by omega), k1, if_neg (by omega), if_neg (by omega), b2]
  refine ⟨fun j h1 h2 h3 h4 h5 => ?_, ?_, ?_, ?_, m2, fun n p h1 h2 h3 => ?_, ?_, ?_⟩
  · rw [k3, if_neg h1, if_neg h2, k2, if_neg h3, k1, if_neg (by omega), if_neg (by omega), b1 j h4 h5]
  · rw [k3, if_neg (by omega), if_pos rfl]
  · rw [k3, if_pos rfl]
  · rw [k3, if_neg (by omega), if_neg (by omega), k2, if_pos rfl, b8]
  · rw [← b3 n p h1 h2 h3]
    unfold dq
    rw [m2, k3, if_neg (by omega), if_neg (by omega), k2, if_neg (by omega), k1, if_neg (by omega), if_neg (by omega), b2]
  · unfold dq
    rw [m2, k3, if_neg (by omega), if_neg (by omega), k2, if_neg (by omega), k1, if_neg (by omega), if_pos (by omega)]
  · unfold dq
    rw [m2, k3, if_neg (by omega), if_neg (by omega), k2, if_neg (by omega), k1, if_pos (by omega)]
/-- messages stand in the order of their coming -/
def fo (G : Nat → Nat) : Prop := ∀ i j, i < j → j < G 410 → G (411 + 8 * i + 2) ≤ G (411 + 8 * j + 2) ∧ G (411 + 8 * i + 3) < G (411 + 8 * j + 3)
theorem lw_fi0 {G : Nat → Nat} (h : fo G) : ∀ (m i : Nat), 0 < i → i + m ≤ G 410 → lw_fi G m i 0 = 0
  | 0, _, _, _ => rfl
  | m + 1, i, h1, h2 => by
    unfold lw_fi
    have z := h 0 i h1 (by omega)
    rw [if_neg (by omega)]
    exact lw_fi0 h m (i + 1) (by omega) (by omega)
theorem lw_ft0 {G : Nat → Nat} (h : fo G) (h0 : 0 < G 410) : lw_ft G = 0 := by
  unfold lw_ft
  obtain ⟨m, e⟩ : ∃ m, G 410 = m + 1 := ⟨G 410 - 1, by omega⟩
  rw [e]
  unfold lw_fi
  rw [if_pos (Or.inl rfl)]
  exact lw_fi0 h m 1 (by omega) (by omega)
theorem lw_ftN {G : Nat → Nat} (h0 : G 410 = 0) : lw_ft G = 4294967295 := by
  unfold lw_ft
  rw [h0]
  rfl
theorem lw_pk2v (G F : Nat → Nat) : lw_pk2 G F 410 = G 410 + 1 ∧ ∀ j, j ≠ 410 → lw_pk2 G F j = if 411 + 8 * G 410 ≤ j ∧ j < 411 + 8 * G 410 + 8 then F (j - (411 + 8 * G 410)) else G j := by
  have e : ∀ j, lw_pk1 G F j = if 411 + 8 * G 410 ≤ j ∧ j < 411 + 8 * G 410 + 8 then F (j - (411 + 8 * G 410)) else G j := fun j => lw_rcv F _ 8 0 G j
  refine ⟨?_, fun j hj => ?_⟩
  · unfold lw_pk2
    rw [xn_ue, e, if_neg (by omega)]
  · unfold lw_pk2
    rw [xn_un _ _ hj, e]
/-- the book: how many lines go at the front -/
def bz (G : Nat → Nat) : Nat := if G 603 = 300 then 200 else 0
theorem lw_tsF {G : Nat → Nat} (q a b : Nat) (h : G 603 ≤ 300) : lw_ts G q a b 603 = G 603 - bz G + 1 ∧ (∀ i k, i < G 603 - bz G → k < 4 → lw_ts G q a b (604 + 4 * i + k) = G (604 + 4 * (i + bz G) + k)) ∧ lw_ts G q a b (604 + 4 * (G 603 - bz G) + 0) = G 0 ∧ lw_ts G q a b (604 + 4 * (G 603 - bz G) + 1) = q ∧ lw_ts G q a b (604 + 4 * (G 603 - bz G) + 2) = a ∧ lw_ts G q a b (604 + 4 * (G 603 - bz G) + 3) = b := by
  have K : ∃ E : Nat → Nat, lw_t1 G = E ∧ E 603 = G 603 - bz G ∧ E 0 = G 0 ∧ (∀ i k, i < G 603 - bz G → k < 4 → E (604 + 4 * i + k) = G (604 + 4 * (i + bz G) + k)) := by
    refine ⟨lw_t1 G, rfl, ?_⟩
    unfold lw_t1 bz
    by_cases z : G 603 = 300
    · rw [if_pos z, if_pos z]
      refine ⟨by rw [xn_ue]; omega, by rw [xn_un _ _ (by omega), lw_tcv 400 0 G _ (by omega), if_neg (by omega)], fun i k h1 h2 => ?_⟩
      rw [xn_un _ _ (by omega), lw_tcv 400 0 G _ (by omega), if_pos (by omega)]
      exact congrArg G (by omega)
    · rw [if_neg z, if_neg z]
      exact ⟨by omega, rfl, fun i k h1 h2 => rfl⟩
  obtain ⟨E, e1, e2, e3, e4⟩ := K
  have hlt : G 603 - bz G < 300 := by unfold bz; split <;> omega
  unfold lw_ts
  rw [e1]
  have t2 : ∀ j, lw_t2 E q a b j = if j = 604 + 4 * E 603 + 3 then b else if j = 604 + 4 * E 603 + 2 then a else if j = 604 + 4 * E 603 + 1 then q else if j = 604 + 4 * E 603 then E 0 else E j := fun j => rfl
  have t3 : ∀ j, lw_t3 E q a b j = if j = 603 then E 603 + 1 else lw_t2 E q a b j := fun j => by
    unfold lw_t3 xn_u
    split
    · rw [t2, if_neg (by omega), if_neg (by omega), if_neg (by omega), if_neg (by omega)]
    · rfl
  refine ⟨by rw [t3, if_pos rfl, e2], fun i k h1 h2 => ?_, ?_, ?_, ?_, ?_⟩
  · rw [t3, if_neg (by omega), t2, if_neg (by omega), if_neg (by omega), if_neg (by omega), if_neg (by omega), e4 i k h1 h2]
  · rw [t3, if_neg (by omega), t2, if_neg (by omega), if_neg (by omega), if_neg (by omega), if_pos (by omega), e3]
  · rw [t3, if_neg (by omega), t2, if_neg (by omega), if_neg (by omega), if_pos (by omega)]
  · rw [t3, if_neg (by omega), t2, if_neg (by omega), if_pos (by omega)]
  · rw [t3, if_neg (by omega), t2, if_pos (by omega)]
