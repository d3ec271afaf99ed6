/-! sorted rows of entries, and the class's walks over all dots -/
def dt (G : Nat → Nat) (i : Nat) : Nat := 64 * G (10 + 5 * i) + G (11 + 5 * i)
theorem lw_inP (G : Nat → Nat) (i : Nat) (hn : ∀ k, G (11 + 5 * k) < 64 ∨ 62 ≤ k) (hi : i < 62) : ∀ (k : Nat) (F : Nat → Nat), (∀ j, j < k → F j < 62) → (∀ a b, a < b → b < k → dt G (F a) < dt G (F b)) → ∃ p, p ≤ k ∧ (∀ j, j < p → lw_in G i k F j = F j ∧ dt G (F j) ≤ dt G i) ∧ lw_in G i k F p = i ∧ (∀ j, p < j → j ≤ k → lw_in G i k F j = F (j - 1) ∧ dt G i < dt G (F (j - 1)))
  | 0, F, hF, hs => ⟨0, Nat.le_refl _, fun j h => by omega, by unfold lw_in; rw [xn_ue], fun j h1 h2 => by omega⟩
  | k + 1, F, hF, hs => by
    unfold lw_in
    have a1 := hn i
    have a2 := hn (F k)
    have a3 := hF k (by omega)
    have e : (G (10 + 5 * i) < G (10 + 5 * F k) ∨ (G (10 + 5 * F k) = G (10 + 5 * i) ∧ G (11 + 5 * i) < G (11 + 5 * F k))) ↔ dt G i < dt G (F k) := by
      unfold dt
      omega
    by_cases c : dt G i < dt G (F k)
    · rw [if_pos (e.mpr c)]
      have o : ∀ j, j ≤ k → xn_u F (k + 1) (F k) j = F j := fun j hj => xn_un _ _ (by omega)
      obtain ⟨p, h1, h2, h3, h4⟩ := lw_inP G i hn hi k (xn_u F (k + 1) (F k)) (fun j hj => by rw [o j (by omega)]; exact hF j (by omega)) (fun a b h1 h2 => by rw [o a (by omega), o b (by omega)]; exact hs a b h1 (by omega))
      refine ⟨p, by omega, fun j hj => ?_, h3, fun j hj1 hj2 => ?_⟩
      · have := h2 j hj
        rw [o j (by omega)] at this
        exact this
      · by_cases z : j ≤ k
        · have := h4 j hj1 z
          rw [o (j - 1) (by omega)] at this
          exact this
        · obtain rfl : j = k + 1 := by omega
          have : ∀ (m : Nat) (X : Nat → Nat) (q : Nat), m < q → lw_in G i m X q = X q := fun m => by
            induction m with
            | zero => intro X q hq; unfold lw_in; rw [xn_un _ _ (by omega)]
            | succ m ih =>
              intro X q hq
              unfold lw_in
              split
              · rw [ih _ _ (by omega), xn_un _ _ (by omega)]
              · rw [xn_un _ _ (by omega)]
          rw [this k _ (k + 1) (by omega), xn_ue, Nat.add_sub_cancel]
          exact ⟨rfl, c⟩
    · rw [if_neg (fun z => c (e.mp z))]
      refine ⟨k + 1, Nat.le_refl _, fun j hj => ?_, xn_ue _ _ _, fun j h1 h2 => by omega⟩
      rw [xn_un _ _ (by omega)]
      refine ⟨rfl, ?_⟩
      by_cases z : j = k
      · subst z; omega
      · have := hs j k (by omega) (by omega)
        omega
/-- the first n of F are the entries of b below i, by their dots -/
def sI (G : Nat → Nat) (b i n : Nat) (F : Nat → Nat) : Prop := (∀ k, k < n → F k < i ∧ b.testBit (F k) = true) ∧ (∀ k l, k < l → l < n → dt G (F k) < dt G (F l)) ∧ (∀ e, e < i → b.testBit e = true → ∃ k, k < n ∧ F k = e) ∧ n = bc i b
theorem sI_run {G : Nat → Nat} {b M : Nat} (he : en G M) (hM : M ≤ 62) : ∀ (m i n : Nat) (F : Nat → Nat), i + m = M → sI G b i n F → sI G b M (bc M b) (lw_sF G b m i n F)
  | 0, i, n, F, hm, h => by
    obtain rfl : i = M := by omega
    have := h.2.2.2
    unfold lw_sF
    rw [← this]
    exact h
  | m + 1, i, n, F, hm, h => by
    unfold lw_sF
    obtain ⟨h1, h2, h3, h4⟩ := h
    have eb : b.testBit i = true ↔ b / 2 ^ i % 2 = 1 := by rw [Nat.testBit_eq_decide_div_mod_eq, decide_eq_true_iff]
    have ec := bc_tb i b
    by_cases c : b / 2 ^ i % 2 = 1
    · rw [if_pos c]
      have hb := eb.mpr c
      rw [if_pos hb] at ec
      have H : ∃ F', lw_in G i n F = F' ∧ ∃ p, p ≤ n ∧ (∀ j, j < p → F' j = F j ∧ dt G (F j) ≤ dt G i) ∧ F' p = i ∧ (∀ j, p < j → j ≤ n → F' j = F (j - 1) ∧ dt G i < dt G (F (j - 1))) := by
        refine ⟨_, rfl, ?_⟩
        -- numbers of the entries below i + 1 alone matter
        let G2 : Nat → Nat := fun j => if j < 10 + 5 * (i + 1) then G j else 0
        have g2 : ∀ e, e ≤ i → G2 (10 + 5 * e) = G (10 + 5 * e) ∧ G2 (11 + 5 * e) = G (11 + 5 * e) := fun e hee => ⟨if_pos (by omega), if_pos (by omega)⟩
        have d2 : ∀ e, e ≤ i → dt G2 e = dt G e := fun e hee => by unfold dt; rw [(g2 e hee).1, (g2 e hee).2]
        have n2 : ∀ k, G2 (11 + 5 * k) < 64 ∨ 62 ≤ k := fun k => by
          by_cases z : k ≤ i
          · rw [(g2 k z).2]
            have := he.num (i := k) (by omega)
            omega
          · refine Or.inl ?_
            show (if 11 + 5 * k < 10 + 5 * (i + 1) then G (11 + 5 * k) else 0) < 64
            rw [if_neg (by omega)]
            omega
        have eqI : ∀ (k : Nat) (X : Nat → Nat), (∀ j, j < k → X j < i) → lw_in G2 i k X = lw_in G i k X := fun k => by
          induction k with
          | zero => intro X _; rfl
          | succ k ih =>
            intro X hX
            unfold lw_in
            have hk := hX k (by omega)
            rw [(g2 i (Nat.le_refl _)).1, (g2 i (Nat.le_refl _)).2, (g2 (X k) (by omega)).1, (g2 (X k) (by omega)).2]
            split
            · exact ih _ (fun j hj => by rw [xn_un _ _ (by omega)]; exact hX j (by omega))
            · rfl
        obtain ⟨p, p1, p2, p3, p4⟩ := lw_inP G2 i n2 (by omega) n F (fun j hj => by have := (h1 j hj).1; omega) (fun x y hx hy => by
          rw [d2 _ (Nat.le_of_lt (h1 x (by omega)).1), d2 _ (Nat.le_of_lt (h1 y hy).1)]; exact h2 x y hx hy)
        rw [eqI n F (fun j hj => (h1 j hj).1)] at p2 p3 p4
        refine ⟨p, p1, fun j hj => ?_, p3, fun j hj1 hj2 => ?_⟩
        · have := p2 j hj
          rw [d2 _ (Nat.le_of_lt (h1 j (by omega)).1), d2 i (Nat.le_refl _)] at this
          exact this
        · have := p4 j hj1 hj2
          rw [d2 _ (Nat.le_of_lt (h1 (j - 1) (by omega)).1), d2 i (Nat.le_refl _)] at this
          exact this
      obtain ⟨F', eF, p, p1, p2, p3, p4⟩ := H
      rw [eF]
      have hne : ∀ j, j < n → dt G (F j) ≠ dt G i := fun j hj z => by
        have q := (h1 j hj).1
        have nu1 := he.num (i := F j) (by omega)
        have nu2 := he.num (i := i) (by omega)
        unfold dt at z
        have := he.inj (i := F j) (j := i) (by omega) (by omega) (by omega) (by omega)
        omega
      refine sI_run he hM m (i + 1) (n + 1) F' (by omega) ⟨fun k hk => ?_, fun k l hk hl => ?_, fun e hee hbe => ?_, by omega⟩
      · rcases Nat.lt_trichotomy k p with z | z | z
        · rw [(p2 k z).1]
          have := h1 k (by omega)
          exact ⟨by omega, this.2⟩
        · rw [z, p3]; exact ⟨by omega, hb⟩
        · rw [(p4 k z (by omega)).1]
          have := h1 (k - 1) (by omega)
          exact ⟨by omega, this.2⟩
      · rcases Nat.lt_trichotomy k p with z | z | z
        · rw [(p2 k z).1]
          rcases Nat.lt_trichotomy l p with y | y | y
          · rw [(p2 l y).1]; exact h2 k l hk (by omega)
          · rw [y, p3]
            have := (p2 k z).2
            have := hne k (by omega)
            omega
          · rw [(p4 l y (by omega)).1]
            have := (p2 k z).2
            have := (p4 l y (by omega)).2
            omega
        · rw [z, p3, (p4 l (by omega) (by omega)).1]
          exact (p4 l (by omega) (by omega)).2
        · rw [(p4 k z (by omega)).1, (p4 l (by omega) (by omega)).1]
          exact h2 (k - 1) (l - 1) (by omega) (by omega)
      · by_cases z : e = i
        · exact ⟨p, by omega, by rw [p3, z]⟩
        · obtain ⟨k, k1, k2⟩ := h3 e (by omega) hbe
          by_cases y : k < p
          · exact ⟨k, by omega, by rw [(p2 k y).1, k2]⟩
          · exact ⟨k + 1, by omega, by rw [(p4 (k + 1) (by omega) (by omega)).1, Nat.add_sub_cancel, k2]⟩
    · rw [if_neg c]
      have hb : ¬ b.testBit i = true := fun z => c (eb.mp z)
      rw [if_neg hb] at ec
      refine sI_run he hM m (i + 1) n F (by omega) ⟨fun k hk => ?_, h2, fun e hee hbe => ?_, by omega⟩
      · have := h1 k hk
        exact ⟨by omega, this.2⟩
      · exact h3 e (by
          by_cases z : e = i
          · subst z; exact absurd hbe hb
          · omega) hbe
/-- a row of entries by their dots -/
theorem lw_rowE {G : Nat → Nat} (he : en G (G 4)) (hM : G 4 ≤ 62) {b : Nat} (hb : b < 2 ^ G 4) : (∀ k, k < bc 63 b → lw_row G b k < G 4 ∧ b.testBit (lw_row G b k) = true) ∧ (∀ k l, k < l → l < bc 63 b → dt G (lw_row G b k) < dt G (lw_row G b l)) ∧ (∀ e, e < G 4 → b.testBit e = true → ∃ k, k < bc 63 b ∧ lw_row G b k = e) := by
  have h := sI_run (b := b) he hM (G 4) 0 0 (fun _ => 0) (by omega) ⟨fun k hk => by omega, fun k l _ hl => by omega, fun e h => by omega, rfl⟩
  rw [bc_le hb (show G 4 ≤ 63 by omega)]
  exact ⟨h.1, h.2.1, h.2.2.1⟩
def fd (P : Nat → Nat) (g : Nat → Nat → Nat) : Nat → Nat → Nat → Nat
  | 0, _, a => a
  | m + 1, t, a => fd P g m (t + 1) (if P t = 0 then a else g a t)
def fk (s : Nat → Nat) (g : Nat → Nat → Nat) : Nat → Nat → Nat → Nat
  | 0, _, a => a
  | m + 1, k, a => fk s g m (k + 1) (g a (s k))
/-- the n-th of them, counted from j on -/
def fn (P : Nat → Nat) (n : Nat) : Nat → Nat → Nat → Nat
  | 0, _, _ => 4294967295
  | m + 1, t, j => if P t = 0 then fn P n m (t + 1) j else if j = n then t else fn P n m (t + 1) (j + 1)
/-- s goes through the places of P below T -/
def go (P s : Nat → Nat) (c T : Nat) : Prop := (∀ k, k < c → s k < T) ∧ (∀ k l, k < l → l < c → s k < s l) ∧ (∀ t, t < T → (P t ≠ 0 ↔ ∃ k, k < c ∧ s k = t))
theorem go.hit {P s : Nat → Nat} {c T : Nat} (h : go P s c T) {t k : Nat} (ht : t < T) (hp : P t ≠ 0) (h1 : ∀ j, j < k → s j < t) (h2 : ∀ j, k ≤ j → j < c → t ≤ s j) : k < c ∧ s k = t := by
  obtain ⟨j, j1, j2⟩ := (h.2.2 t ht).mp hp
  have hk : k ≤ j := by
    rcases Nat.lt_or_ge j k with z | z
    · have := h1 j z; omega
    · exact z
  by_cases z : j = k
  · subst z; exact ⟨j1, j2⟩
  · have a := h.2.1 k j (by omega) j1
    have b := h2 k (Nat.le_refl _) (by omega)
    omega
theorem fd_fk {P s : Nat → Nat} {c T : Nat} (g : Nat → Nat → Nat) (h : go P s c T) : ∀ (m t k a : Nat), t + m = T → k ≤ c → (∀ j, j < k → s j < t) → (∀ j, k ≤ j → j < c → t ≤ s j) → fd P g m t a = fk s g (c - k) k a
  | 0, t, k, a, hm, hk, h1, h2 => by
    have : k = c := by
      by_cases z : k = c
      · exact z
      · have a := h.1 k (by omega)
        have b := h2 k (Nat.le_refl _) (by omega)
        omega
    subst this
    rw [Nat.sub_self]
    rfl
  | m + 1, t, k, a, hm, hk, h1, h2 => by
    unfold fd
    by_cases hp : P t = 0
    · rw [if_pos hp]
      refine fd_fk g h m (t + 1) k a (by omega) hk (fun j hj => by have := h1 j hj; omega) (fun j hj1 hj2 => ?_)
      have q := h2 j hj1 hj2
      by_cases z : s j = t
      · exact absurd ((h.2.2 t (by omega)).mpr ⟨j, hj2, z⟩) (fun y => y hp)
      · omega
    · rw [if_neg hp]
      obtain ⟨k1, k2⟩ := h.hit (by omega) hp h1 h2
      rw [fd_fk g h m (t + 1) (k + 1) (g a t) (by omega) (by omega) (fun j hj => by
        by_cases z : j = k
        · subst z; omega
        · have := h1 j (by omega); omega) (fun j hj1 hj2 => by have := h.2.1 k j (by omega) hj2; omega)]
      obtain ⟨w, e⟩ : ∃ w, c - k = w + 1 := ⟨c - k - 1, by omega⟩
      rw [e, show c - (k + 1) = w by omega]
      show _ = fk s g w (k + 1) (g a (s k))
      rw [k2]
theorem fd_all {P s : Nat → Nat} {c T : Nat} (g : Nat → Nat → Nat) (h : go P s c T) (a : Nat) : fd P g T 0 a = fk s g c 0 a := fd_fk g h T 0 0 a (by omega) (by omega) (fun j hj => by omega) (fun j _ _ => by omega)
theorem fk_cnt (s : Nat → Nat) : ∀ (m k a : Nat), fk s (fun a _ => a + 1) m k a = a + m
  | 0, _, _ => rfl
  | m + 1, k, a => by
    show fk s (fun a _ => a + 1) m (k + 1) (a + 1) = _
    rw [fk_cnt s m (k + 1) (a + 1)]
    omega
theorem fn_s {P s : Nat → Nat} {c T : Nat} (n : Nat) (h : go P s c T) : ∀ (m t k : Nat), t + m = T → k ≤ c → k ≤ n → (∀ j, j < k → s j < t) → (∀ j, k ≤ j → j < c → t ≤ s j) → fn P n m t k = if n < c then s n else 4294967295
  | 0, t, k, hm, hk, hn, h1, h2 => by
    have : k = c := by
      by_cases z : k = c
      · exact z
      · have a := h.1 k (by omega)
        have b := h2 k (Nat.le_refl _) (by omega)
        omega
    rw [if_neg (by omega)]
    rfl
  | m + 1, t, k, hm, hk, hn, h1, h2 => by
    unfold fn
    by_cases hp : P t = 0
    · rw [if_pos hp]
      refine fn_s n h m (t + 1) k (by omega) hk hn (fun j hj => by have := h1 j hj; omega) (fun j hj1 hj2 => ?_)
      have q := h2 j hj1 hj2
      by_cases z : s j = t
      · exact absurd ((h.2.2 t (by omega)).mpr ⟨j, hj2, z⟩) (fun y => y hp)
      · omega
    · rw [if_neg hp]
      obtain ⟨k1, k2⟩ := h.hit (by omega) hp h1 h2
      by_cases e : k = n
      · subst e
        rw [if_pos rfl, if_pos k1, k2]
      · rw [if_neg e]
        exact fn_s n h m (t + 1) (k + 1) (by omega) (by omega) (by omega) (fun j hj => by
          by_cases z : j = k
          · subst z; omega
          · have := h1 j (by omega); omega) (fun j hj1 hj2 => by have := h.2.1 k j (by omega) hj2; omega)
