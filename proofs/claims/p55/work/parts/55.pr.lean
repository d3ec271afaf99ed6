/-! the law's places of entries and the class's bits by dots -/
/-- how many of the first m entries are a replica's -/
def ce (G : Nat → Nat) (r : Nat) : Nat → Nat
  | 0 => 0
  | m + 1 => ce G r m + (if G (10 + 5 * m) = r then 1 else 0)
/-- .. and among some of them -/
def ct (G : Nat → Nat) (r : Nat) : Nat → Nat → Nat
  | 0, _ => 0
  | m + 1, x => ct G r m x + (if G (10 + 5 * m) = r ∧ x.testBit m = true then 1 else 0)
/-- a replica's numbers (bits) of some entries -/
def pr (G : Nat → Nat) (r : Nat) : Nat → Nat → Nat
  | 0, _ => 0
  | m + 1, x => pr G r m x ||| (if G (10 + 5 * m) = r ∧ x.testBit m = true then 2 ^ (G (11 + 5 * m) - 1) else 0)
/-- entries are right -/
def en (G : Nat → Nat) (m : Nat) : Prop := ∀ i, i < m → G (10 + 5 * i) < 4 ∧ G (11 + 5 * i) = ce G (G (10 + 5 * i)) i + 1 ∧ G (12 + 5 * i) < 4 ∧ G (13 + 5 * i) < 3 ∧ G (14 + 5 * i) < 100
theorem ce_le (G : Nat → Nat) (r : Nat) : ∀ m, ce G r m ≤ m
  | 0 => Nat.le_refl _
  | m + 1 => by
    unfold ce
    have := ce_le G r m
    split <;> omega
theorem ce_mono (G : Nat → Nat) (r : Nat) {i j : Nat} (h : i ≤ j) : ce G r i ≤ ce G r j := by
  induction j with
  | zero => rw [show i = 0 by omega]; exact Nat.le_refl _
  | succ j ih =>
    by_cases e : i = j + 1
    · rw [e]; exact Nat.le_refl _
    · have := ih (by omega)
      show ce G r i ≤ ce G r j + (if G (10 + 5 * j) = r then 1 else 0)
      omega
theorem ce_lt (G : Nat → Nat) (r : Nat) {i j : Nat} (h : i < j) (hr : G (10 + 5 * i) = r) : ce G r i + 1 ≤ ce G r j := by
  have h1 := ce_mono G r (i := i + 1) (j := j) h
  have h2 : ce G r (i + 1) = ce G r i + 1 := by
    show ce G r i + (if G (10 + 5 * i) = r then 1 else 0) = _
    rw [if_pos hr]
  omega
theorem en.inj {G : Nat → Nat} {m : Nat} (h : en G m) {i j : Nat} (hi : i < m) (hj : j < m) (e1 : G (10 + 5 * i) = G (10 + 5 * j)) (e2 : G (11 + 5 * i) = G (11 + 5 * j)) : i = j := by
  have a := (h i hi).2.1
  have b := (h j hj).2.1
  rw [← e1] at b
  rcases Nat.lt_trichotomy i j with z | z | z
  · have := ce_lt G (G (10 + 5 * i)) z rfl; omega
  · exact z
  · have := ce_lt G (G (10 + 5 * i)) z e1.symm; omega
theorem en.num {G : Nat → Nat} {m : Nat} (h : en G m) {i : Nat} (hi : i < m) : 1 ≤ G (11 + 5 * i) ∧ G (11 + 5 * i) ≤ i + 1 := by
  have a := (h i hi).2.1
  have b := ce_le G (G (10 + 5 * i)) i
  omega
theorem pr_bit (G : Nat → Nat) (r x b : Nat) : ∀ m, (pr G r m x).testBit b = true ↔ ∃ i, i < m ∧ G (10 + 5 * i) = r ∧ x.testBit i = true ∧ G (11 + 5 * i) - 1 = b
  | 0 => by
    show (0 : Nat).testBit b = true ↔ _
    rw [Nat.zero_testBit]
    exact ⟨fun h => absurd h (by decide), fun ⟨i, h, _⟩ => absurd h (by omega)⟩
  | m + 1 => by
    show (pr G r m x ||| (if G (10 + 5 * m) = r ∧ x.testBit m = true then 2 ^ (G (11 + 5 * m) - 1) else 0)).testBit b = true ↔ _
    rw [Nat.testBit_or, Bool.or_eq_true, pr_bit G r x b m]
    constructor
    · rintro (⟨i, h1, h2⟩ | h)
      · exact ⟨i, by omega, h2⟩
      · by_cases e : G (10 + 5 * m) = r ∧ x.testBit m = true
        · rw [if_pos e, Nat.testBit_two_pow] at h
          exact ⟨m, by omega, e.1, e.2, of_decide_eq_true h⟩
        · rw [if_neg e, Nat.zero_testBit] at h
          exact absurd h (by decide)
    · rintro ⟨i, h1, h2, h3, h4⟩
      by_cases e : i = m
      · subst e
        refine Or.inr ?_
        rw [if_pos ⟨h2, h3⟩, Nat.testBit_two_pow]
        exact decide_eq_true h4
      · exact Or.inl ⟨i, by omega, h2, h3, h4⟩
theorem pr_at {G : Nat → Nat} {m : Nat} (h : en G m) (r b : Nat) : (∃ i, i < m ∧ G (10 + 5 * i) = r ∧ G (11 + 5 * i) = b + 1 ∧ ∀ x, (pr G r m x).testBit b = x.testBit i) ∨ ((∀ i, i < m → G (10 + 5 * i) = r → G (11 + 5 * i) ≠ b + 1) ∧ ∀ x, (pr G r m x).testBit b = false) := by
  by_cases e : ∃ i, i < m ∧ G (10 + 5 * i) = r ∧ G (11 + 5 * i) = b + 1
  · obtain ⟨i, h1, h2, h3⟩ := e
    refine Or.inl ⟨i, h1, h2, h3, fun x => ?_⟩
    rw [Bool.eq_iff_iff, pr_bit]
    constructor
    · rintro ⟨j, k1, k2, k3, k4⟩
      have hj := h.num k1
      have : j = i := h.inj k1 h1 (k2.trans h2.symm) (by omega)
      rw [← this]; exact k3
    · exact fun hx => ⟨i, h1, h2, hx, by omega⟩
  · refine Or.inr ⟨fun i h1 h2 h3 => e ⟨i, h1, h2, h3⟩, fun x => ?_⟩
    rw [Bool.eq_false_iff]
    intro hx
    obtain ⟨j, k1, k2, k3, k4⟩ := (pr_bit G r x b m).mp hx
    have hj := h.num k1
    exact e ⟨j, k1, k2, by omega⟩
theorem pr_lt {G : Nat → Nat} {m : Nat} (h : en G m) (r x : Nat) : pr G r m x < 2 ^ m := by
  apply Nat.lt_pow_two_of_testBit
  intro b hb
  rw [Bool.eq_false_iff]
  intro hx
  obtain ⟨j, k1, k2, k3, k4⟩ := (pr_bit G r x b m).mp hx
  have hj := h.num k1
  omega
theorem pr_lt62 {G : Nat → Nat} {m : Nat} (h : en G m) (hm : m ≤ 62) (r x : Nat) : pr G r m x < 4611686018427387904 := Nat.lt_of_lt_of_le (pr_lt h r x) (Nat.pow_le_pow_right (n := 2) (by omega) hm)
theorem pr_congr {G G' : Nat → Nat} (r x : Nat) : ∀ m, (∀ j, 10 ≤ j → j < 10 + 5 * m → G' j = G j) → pr G' r m x = pr G r m x
  | 0, _ => rfl
  | m + 1, h => by
    unfold pr
    rw [pr_congr r x m (fun j h1 h2 => h j h1 (by omega)), h (10 + 5 * m) (by omega) (by omega), h (11 + 5 * m) (by omega) (by omega)]
theorem ce_congr {G G' : Nat → Nat} (r : Nat) : ∀ m, (∀ j, 10 ≤ j → j < 10 + 5 * m → G' j = G j) → ce G' r m = ce G r m
  | 0, _ => rfl
  | m + 1, h => by
    unfold ce
    rw [ce_congr r m (fun j h1 h2 => h j h1 (by omega)), h (10 + 5 * m) (by omega) (by omega)]
theorem en.congr {G G' : Nat → Nat} {m : Nat} (h : en G m) (e : ∀ j, 10 ≤ j → j < 10 + 5 * m → G' j = G j) : en G' m := fun i hi => by
  have a := h i hi
  rw [e (10 + 5 * i) (by omega) (by omega), e (11 + 5 * i) (by omega) (by omega), e (12 + 5 * i) (by omega) (by omega), e (13 + 5 * i) (by omega) (by omega), e (14 + 5 * i) (by omega) (by omega), ce_congr _ i (fun j h1 h2 => e j h1 (by omega))]
  exact a
theorem pr_top (G : Nat → Nat) (r x m : Nat) (h : x.testBit m = false) : pr G r (m + 1) x = pr G r m x := by
  show pr G r m x ||| (if G (10 + 5 * m) = r ∧ x.testBit m = true then 2 ^ (G (11 + 5 * m) - 1) else 0) = _
  rw [if_neg (fun z => by rw [h] at z; exact absurd z.2 (by decide)), Nat.or_zero]
theorem tb_ge {x n k : Nat} (h : x < 2 ^ n) (hk : n ≤ k) : x.testBit k = false := Nat.testBit_lt_two_pow (Nat.lt_of_lt_of_le h (Nat.pow_le_pow_right (n := 2) (by omega) hk))
theorem pr_zero (G : Nat → Nat) (r : Nat) : ∀ m, pr G r m 0 = 0
  | 0 => rfl
  | m + 1 => by
    rw [pr_top G r 0 m (Nat.zero_testBit m), pr_zero G r m]
theorem pr_or (G : Nat → Nat) (r m x y : Nat) : pr G r m (x ||| y) = pr G r m x ||| pr G r m y := by
  apply Nat.eq_of_testBit_eq
  intro b
  rw [Nat.testBit_or, Bool.eq_iff_iff, Bool.or_eq_true, pr_bit, pr_bit, pr_bit]
  constructor
  · rintro ⟨i, h1, h2, h3, h4⟩
    rw [Nat.testBit_or, Bool.or_eq_true] at h3
    rcases h3 with h3 | h3
    · exact Or.inl ⟨i, h1, h2, h3, h4⟩
    · exact Or.inr ⟨i, h1, h2, h3, h4⟩
  · rintro (⟨i, h1, h2, h3, h4⟩ | ⟨i, h1, h2, h3, h4⟩)
    · exact ⟨i, h1, h2, by rw [Nat.testBit_or, h3, Bool.true_or], h4⟩
    · exact ⟨i, h1, h2, by rw [Nat.testBit_or, h3, Bool.or_true], h4⟩
theorem tb_m64 {n : Nat} (hn : n < 64) : (18446744073709551615 : Nat).testBit n = true := by
  rw [show (18446744073709551615 : Nat) = 2 ^ 64 - 1 from rfl, Nat.testBit_two_pow_sub_one]
  exact decide_eq_true hn
/-- the join, both ways -/
theorem pr_join {G : Nat → Nat} {m : Nat} (h : en G m) (hm : m ≤ 62) (r : Nat) {a ka b kb : Nat} (ha : ∀ i, a.testBit i = true → ka.testBit i = true) (hb : ∀ i, b.testBit i = true → kb.testBit i = true) : pr G r m (lw_j a ka b kb) = (pr G r m ka ||| pr G r m kb) &&& (((pr G r m ka &&& (pr G r m a ^^^ 18446744073709551615)) ||| (pr G r m kb &&& (pr G r m b ^^^ 18446744073709551615))) ^^^ 18446744073709551615) := by
  apply Nat.eq_of_testBit_eq
  intro n
  simp only [Nat.testBit_and, Nat.testBit_or, Nat.testBit_xor]
  rcases pr_at h r n with ⟨i, h1, h2, h3, h4⟩ | ⟨_, h4⟩
  · have hn := h.num h1
    simp only [h4, tb_m64 (show n < 64 by omega)]
    unfold lw_j
    simp only [Nat.testBit_and, Nat.testBit_or, Nat.testBit_xor, tb_m64 (show i < 64 by omega)]
    have qa := ha i
    have qb := hb i
    revert qa qb
    cases a.testBit i <;> cases ka.testBit i <;> cases b.testBit i <;> cases kb.testBit i <;> simp
  · simp only [h4, Bool.or_false, Bool.false_and]
/-- all of a replica that are known are its first ones -/
def clo (G : Nat → Nat) (m x : Nat) : Prop := ∀ i j, i < j → j < m → G (10 + 5 * i) = G (10 + 5 * j) → x.testBit j = true → x.testBit i = true
theorem ct_le (G : Nat → Nat) (r x : Nat) : ∀ m, ct G r m x ≤ ce G r m
  | 0 => Nat.le_refl _
  | m + 1 => by
    unfold ct ce
    have := ct_le G r x m
    by_cases e : G (10 + 5 * m) = r ∧ x.testBit m = true
    · rw [if_pos e, if_pos e.1]; omega
    · rw [if_neg e]; omega
theorem ct_all (G : Nat → Nat) (r x : Nat) : ∀ m, (∀ i, i < m → G (10 + 5 * i) = r → x.testBit i = true) → ct G r m x = ce G r m
  | 0, _ => rfl
  | m + 1, h => by
    unfold ct ce
    rw [ct_all G r x m (fun i hi => h i (by omega))]
    by_cases e : G (10 + 5 * m) = r
    · rw [if_pos e, if_pos ⟨e, h m (by omega) e⟩]
    · rw [if_neg e, if_neg (fun z => e z.1)]
theorem pr_clo {G : Nat → Nat} (r x : Nat) : ∀ m, en G m → clo G m x → pr G r m x = 2 ^ (ct G r m x) - 1
  | 0, _, _ => rfl
  | m + 1, h, hc => by
    have ih := pr_clo r x m (fun i hi => h i (by omega)) (fun i j h1 h2 h3 h4 => hc i j h1 (by omega) h3 h4)
    unfold pr ct
    by_cases e : G (10 + 5 * m) = r ∧ x.testBit m = true
    · have en1 := (h m (by omega)).2.1
      have e2 : ct G r m x = ce G r m := ct_all G r x m (fun i hi hr => hc i m hi (by omega) (hr.trans e.1.symm) e.2)
      rw [if_pos e, if_pos e, ih, e2]
      rw [e.1] at en1
      rw [show G (11 + 5 * m) - 1 = ce G r m by omega]
      apply Nat.eq_of_testBit_eq
      intro b
      rw [Nat.testBit_or, Nat.testBit_two_pow_sub_one, Nat.testBit_two_pow, Nat.testBit_two_pow_sub_one, Bool.eq_iff_iff, Bool.or_eq_true, decide_eq_true_iff, decide_eq_true_iff, decide_eq_true_iff]
      omega
    · rw [if_neg e, if_neg e, ih, Nat.or_zero, Nat.add_zero]
theorem bc_or : ∀ (n y k : Nat), k < n → y.testBit k = false → bc n (y ||| 2 ^ k) = bc n y + 1
  | 0, _, _, h, _ => by omega
  | n + 1, y, 0, _, hy => by
    unfold bc
    rw [Nat.testBit_zero] at hy
    have h0 : y % 2 = 0 := by
      have : ¬ y % 2 = 1 := of_decide_eq_false hy
      omega
    have h1 : (y ||| 2 ^ 0) % 2 = 1 := by rw [Nat.pow_zero, Nat.or_mod_two_eq_one]; omega
    have h2 : (y ||| 2 ^ 0) / 2 = y / 2 := by rw [Nat.pow_zero, Nat.or_div_two]; simp
    rw [h1, h2, h0]
    omega
  | n + 1, y, k + 1, hk, hy => by
    unfold bc
    rw [Nat.testBit_succ] at hy
    have h1 : (y ||| 2 ^ (k + 1)) % 2 = y % 2 := by
      have e : (2 ^ (k + 1)) % 2 = 0 := by rw [Nat.pow_succ]; omega
      have a := Nat.or_mod_two_eq_one (a := y) (b := 2 ^ (k + 1))
      have b1 := Nat.mod_two_eq_zero_or_one (y ||| 2 ^ (k + 1))
      have b2 := Nat.mod_two_eq_zero_or_one y
      omega
    have h2 : (y ||| 2 ^ (k + 1)) / 2 = y / 2 ||| 2 ^ k := by rw [Nat.or_div_two, Nat.pow_succ, Nat.mul_div_cancel _ (by omega)]
    rw [h1, h2, bc_or n (y / 2) k (by omega) hy]
    omega
theorem pr_bc {G : Nat → Nat} (r x : Nat) : ∀ m, en G m → m ≤ 62 → bc 63 (pr G r m x) = ct G r m x
  | 0, _, _ => bc0 63
  | m + 1, h, hm => by
    have he : en G m := fun i hi => h i (by omega)
    have ih := pr_bc r x m he (by omega)
    unfold pr ct
    by_cases e : G (10 + 5 * m) = r ∧ x.testBit m = true
    · have hn := h.num (i := m) (by omega)
      rw [if_pos e, if_pos e, bc_or 63 _ _ (by omega), ih]
      rw [Bool.eq_false_iff]
      intro hx
      obtain ⟨j, k1, k2, k3, k4⟩ := (pr_bit G r x _ m).mp hx
      have hj := h.num (i := j) (by omega)
      have := h.inj (i := j) (j := m) (by omega) (by omega) (k2.trans e.1.symm) (by omega)
      omega
    · rw [if_neg e, if_neg e, Nat.or_zero, ih, Nat.add_zero]
theorem bc_tb (n x : Nat) : bc (n + 1) x = bc n x + (if x.testBit n = true then 1 else 0) := by
  rw [bc_add n 1 x]
  show bc n x + (x / 2 ^ n % 2 + 0) = _
  have e : x.testBit n = decide (x / 2 ^ n % 2 = 1) := Nat.testBit_eq_decide_div_mod_eq
  rw [e]
  rcases Nat.mod_two_eq_zero_or_one (x / 2 ^ n) with z | z
  · rw [z]; rfl
  · rw [z]; rfl
theorem bc_le {n m x : Nat} (h : x < 2 ^ m) (hm : m ≤ n) : bc n x = bc m x := by
  obtain ⟨k, rfl⟩ : ∃ k, n = m + k := ⟨n - m, by omega⟩
  rw [bc_add, Nat.div_eq_of_lt h, bc0, Nat.add_zero]
theorem ct_sum {G : Nat → Nat} (x : Nat) : ∀ m, (∀ i, i < m → G (10 + 5 * i) < 4) → ct G 0 m x + ct G 1 m x + ct G 2 m x + ct G 3 m x = bc m x
  | 0, _ => rfl
  | m + 1, h => by
    have ih := ct_sum x m (fun i hi => h i (by omega))
    have hr := h m (by omega)
    rw [bc_tb]
    unfold ct
    by_cases e : x.testBit m = true
    · simp only [e, and_true, if_true]
      have : G (10 + 5 * m) = 0 ∨ G (10 + 5 * m) = 1 ∨ G (10 + 5 * m) = 2 ∨ G (10 + 5 * m) = 3 := by omega
      rcases this with z | z | z | z <;> simp only [z] <;> simp <;> omega
    · simp only [e, and_false, if_false]
      simp
      omega
theorem pr_sum {G : Nat → Nat} {m x : Nat} (h : en G m) (hm : m ≤ 62) (hx : x < 2 ^ m) : bc 63 (pr G 0 m x) + bc 63 (pr G 1 m x) + bc 63 (pr G 2 m x) + bc 63 (pr G 3 m x) = bc 63 x := by
  rw [pr_bc 0 x m h hm, pr_bc 1 x m h hm, pr_bc 2 x m h hm, pr_bc 3 x m h hm, ct_sum x m (fun i hi => (h i hi).1)]
  exact (bc_le hx (by omega)).symm
