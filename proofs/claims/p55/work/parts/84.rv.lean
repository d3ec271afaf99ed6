/-! sums, keys, the winner -/
def vS (G R : Nat → Nat) : Nat → Nat → Nat → Nat
  | 0, _, a => a
  | m + 1, k, a => vS G R m (k + 1) (a + G (14 + 5 * R k))
theorem vS_add (G R : Nat → Nat) : ∀ (m k a : Nat), vS G R m k a = a + vS G R m k 0
  | 0, _, _ => rfl
  | m + 1, k, a => by
    unfold vS
    rw [vS_add G R m (k + 1) (a + G (14 + 5 * R k)), vS_add G R m (k + 1) (0 + G (14 + 5 * R k))]
    omega
def fv (P v : Nat → Nat) (m t : Nat) : Nat := fd P (fun a u => a + v u) m t 0
theorem fd_add (P v : Nat → Nat) : ∀ (m t a : Nat), fd P (fun a u => a + v u) m t a = a + fd P (fun a u => a + v u) m t 0
  | 0, _, _ => rfl
  | m + 1, t, a => by
    unfold fd
    by_cases z : P t = 0
    · rw [if_pos z, if_pos z]
      exact fd_add P v m (t + 1) a
    · rw [if_neg z, if_neg z, fd_add P v m (t + 1) (a + v t), fd_add P v m (t + 1) (0 + v t)]
      omega
theorem fd_three {P P0 P1 P2 v : Nat → Nat} : ∀ (m t : Nat), (∀ u, t ≤ u → u < t + m → (P u ≠ 0 ↔ P0 u ≠ 0 ∨ P1 u ≠ 0 ∨ P2 u ≠ 0) ∧ (P0 u = 0 ∨ P1 u = 0) ∧ (P0 u = 0 ∨ P2 u = 0) ∧ (P1 u = 0 ∨ P2 u = 0)) → fd P (fun a u => a + v u) m t 0 = fd P0 (fun a u => a + v u) m t 0 + fd P1 (fun a u => a + v u) m t 0 + fd P2 (fun a u => a + v u) m t 0
  | 0, _, _ => rfl
  | m + 1, t, h => by
    have hh := h t (Nat.le_refl _) (by omega)
    have ih := fd_three (P := P) (P0 := P0) (P1 := P1) (P2 := P2) (v := v) m (t + 1) (fun u h1 h2 => h u (by omega) (by omega))
    unfold fd
    rw [fd_add P v, fd_add P0 v, fd_add P1 v, fd_add P2 v, ih]
    by_cases a0 : P0 t = 0 <;> by_cases a1 : P1 t = 0 <;> by_cases a2 : P2 t = 0 <;> by_cases a : P t = 0 <;> simp only [a0, a1, a2, a, if_true, if_false] <;> omega
theorem fk_vS {G F : Nat → Nat} (he : en G (G 4)) (hm : G 4 ≤ 62) (hE : RE G F) (R : Nat → Nat) (n : Nat) (hR : ∀ k, k < n → R k < G 4) : ∀ (m k x : Nat), k + m = n → fk (fun k => dt G (R k)) (fun a u => a + F (16 * u + 2) % 100) m k x = vS G R m k x
  | 0, _, _, _ => rfl
  | m + 1, k, x, h => by
    unfold fk vS
    show fk _ _ m (k + 1) (x + F (16 * dt G (R k) + 2) % 100) = _
    rw [(en.cell he hm hE (hR k (by omega))).2.2.2.2]
    exact fk_vS he hm hE R n hR m (k + 1) _ (by omega)
/-- the values of a key's entries -/
def vK (G : Nat → Nat) (h q f : Nat) : Nat := vS G (lw_row G (lw_of G h q f (G 4) 0 0)) (bc 63 (lw_of G h q f (G 4) 0 0)) 0 0
theorem rq_tot (d c s b : Nat) (W : xi_W) (F G : Nat → Nat) (L : List Value) (hw : kw W b F) (hb : wb b) (hl : 687 ≤ W.length) (hR : W[355]? = some (.inr (2, L))) {X h k : Nat} (x : rx G F X h k) (q : Nat) (hq : q < 4) (r : xi_R → Prop) (K : r (some (.int (Int32.ofNat (vK G h q 0 + vK G h q 1 + vK G h q 2))), W, c, s)) : xr (d + 2) 19 0 [(0, .ref (b + 1)), (1, .int (Int32.ofNat X)), (2, .int (Int32.ofNat q))] [] W c s r := by
  refine n_tot d c s b W F L hw hb hl hR X q x.2.2.2.1 (by omega) x.ok x.2.2.1.2 r ?_
  rw [fd_three (P0 := fun u => cn_he F X u q 0) (P1 := fun u => cn_he F X u q 1) (P2 := fun u => cn_he F X u q 2) 256 0 (fun u _ hu => by
    have e0 := rr_he (G := F) (x := X) (u := u) (q := q) (f := 0) hq (by omega)
    have e1 := rr_he (G := F) (x := X) (u := u) (q := q) (f := 1) hq (by omega)
    have e2 := rr_he (G := F) (x := X) (u := u) (q := q) (f := 2) hq (by omega)
    have e3 := rr_he (G := F) (x := X) (u := u) (q := q) (f := 4294967295) hq (by omega)
    show (cn_he F X u q 4294967295 ≠ 0 ↔ cn_he F X u q 0 ≠ 0 ∨ cn_he F X u q 1 ≠ 0 ∨ cn_he F X u q 2 ≠ 0) ∧ (cn_he F X u q 0 = 0 ∨ cn_he F X u q 1 = 0) ∧ (cn_he F X u q 0 = 0 ∨ cn_he F X u q 2 = 0) ∧ (cn_he F X u q 1 = 0 ∨ cn_he F X u q 2 = 0)
    unfold rr_m at e0 e1 e2 e3
    generalize cn_he F X u q 0 = y0 at *
    generalize cn_he F X u q 1 = y1 at *
    generalize cn_he F X u q 2 = y2 at *
    generalize cn_he F X u q 4294967295 = y3 at *
    have hf : F (16 * u + 2) / 100 % 3 < 3 := Nat.mod_lt _ (by omega)
    generalize F (16 * u + 2) / 100 % 3 = z at *
    by_cases ra : rr_a F X u
    · have f0 : y0 ≠ 0 ↔ F (16 * u + 2) / 300 = q ∧ (0 = 4294967295 ∨ z = 0) := ⟨fun t => (e0.mp t).2, fun t => e0.mpr ⟨ra, t⟩⟩
      have f1 : y1 ≠ 0 ↔ F (16 * u + 2) / 300 = q ∧ (1 = 4294967295 ∨ z = 1) := ⟨fun t => (e1.mp t).2, fun t => e1.mpr ⟨ra, t⟩⟩
      have f2 : y2 ≠ 0 ↔ F (16 * u + 2) / 300 = q ∧ (2 = 4294967295 ∨ z = 2) := ⟨fun t => (e2.mp t).2, fun t => e2.mpr ⟨ra, t⟩⟩
      have f3 : y3 ≠ 0 ↔ F (16 * u + 2) / 300 = q := ⟨fun t => (e3.mp t).2.1, fun t => e3.mpr ⟨ra, t, Or.inl rfl⟩⟩
      clear e0 e1 e2 e3
      generalize F (16 * u + 2) / 300 = y at *
      omega
    · have f0 : ¬ y0 ≠ 0 := fun t => ra (e0.mp t).1
      have f1 : ¬ y1 ≠ 0 := fun t => ra (e1.mp t).1
      have f2 : ¬ y2 ≠ 0 := fun t => ra (e2.mp t).1
      have f3 : ¬ y3 ≠ 0 := fun t => ra (e3.mp t).1
      clear e0 e1 e2 e3
      omega)]
  have w : ∀ f, fd (fun u => cn_he F X u q f) (fun a u => a + F (16 * u + 2) % 100) 256 0 0 = vK G h q f := fun f => by
    rw [fd_all _ (he_of q f x.1 x.2.1 x.2.2.2.2.1 x.2.2.1.1 hq), fk_vS x.1 x.2.1 x.2.2.1 (lw_row G (lw_of G h q f (G 4) 0 0)) (bc 63 (lw_of G h q f (G 4) 0 0)) (fun k hk => ((lw_rowE x.1 x.2.1 (lw_of_lt G h q f)).1 k hk).1) _ 0 0 (by omega)]
    rfl
  rw [w 0, w 1, w 2]
  exact K
/-- keys that have entries -/
def kY (G : Nat → Nat) (h : Nat) : Nat → Nat → Nat → Nat
  | 0, _, a => a
  | m + 1, q, a => kY G h m (q + 1) (a ||| (if lw_of G h q 4294967295 (G 4) 0 0 = 0 then 0 else 1 * 2 ^ q))
theorem kY_tb (G : Nat → Nat) (h i : Nat) : ∀ (m q a : Nat), (kY G h m q a).testBit i = true ↔ a.testBit i = true ∨ (q ≤ i ∧ i < q + m ∧ lw_of G h i 4294967295 (G 4) 0 0 ≠ 0)
  | 0, q, a => by
    unfold kY
    exact ⟨Or.inl, fun z => z.elim id (fun z => by omega)⟩
  | m + 1, q, a => by
    unfold kY
    rw [kY_tb G h i m (q + 1), Nat.testBit_or, Bool.or_eq_true]
    have e : (if lw_of G h q 4294967295 (G 4) 0 0 = 0 then 0 else 1 * 2 ^ q).testBit i = true ↔ i = q ∧ lw_of G h q 4294967295 (G 4) 0 0 ≠ 0 := by
      by_cases z : lw_of G h q 4294967295 (G 4) 0 0 = 0
      · rw [if_pos z, Nat.zero_testBit]
        exact ⟨fun y => absurd y (by decide), fun y => absurd z y.2⟩
      · rw [if_neg z, Nat.one_mul, Nat.testBit_two_pow, decide_eq_true_iff]
        exact ⟨fun y => ⟨y.symm, z⟩, fun y => y.1.symm⟩
    rw [e]
    constructor
    · rintro ((y | ⟨rfl, y⟩) | ⟨y1, y2, y3⟩)
      · exact Or.inl y
      · exact Or.inr ⟨Nat.le_refl _, by omega, y⟩
      · exact Or.inr ⟨by omega, by omega, y3⟩
    · rintro (y | ⟨y1, y2, y3⟩)
      · exact Or.inl (Or.inl y)
      · by_cases z : i = q
        · subst z; exact Or.inl (Or.inr ⟨rfl, y3⟩)
        · exact Or.inr ⟨by omega, by omega, y3⟩
theorem fk_tb {G F : Nat → Nat} (he : en G (G 4)) (hm : G 4 ≤ 62) (hE : RE G F) (R : Nat → Nat) (n i : Nat) (hR : ∀ k, k < n → R k < G 4) : ∀ (m k x : Nat), k + m = n → ((fk (fun k => dt G (R k)) (fun a u => a ||| 1 * 2 ^ (F (16 * u + 2) / 300)) m k x).testBit i = true ↔ x.testBit i = true ∨ ∃ j, k ≤ j ∧ j < n ∧ G (12 + 5 * R j) = i)
  | 0, k, x, h => by
    unfold fk
    exact ⟨Or.inl, fun z => z.elim id (fun ⟨j, a, b, _⟩ => by omega)⟩
  | m + 1, k, x, h => by
    unfold fk
    rw [fk_tb he hm hE R n i hR m (k + 1) _ (by omega)]
    show (x ||| 1 * 2 ^ (F (16 * dt G (R k) + 2) / 300)).testBit i = true ∨ _ ↔ _
    rw [(en.cell he hm hE (hR k (by omega))).2.2.1, Nat.testBit_or, Bool.or_eq_true, Nat.one_mul, Nat.testBit_two_pow, decide_eq_true_iff]
    constructor
    · rintro ((y | y) | ⟨j, y1, y2, y3⟩)
      · exact Or.inl y
      · exact Or.inr ⟨k, Nat.le_refl _, by omega, y⟩
      · exact Or.inr ⟨j, by omega, y2, y3⟩
    · rintro (y | ⟨j, y1, y2, y3⟩)
      · exact Or.inl (Or.inl y)
      · by_cases z : j = k
        · subst z; exact Or.inl (Or.inr y3)
        · exact Or.inr ⟨j, by omega, y2, y3⟩
theorem of_ne0 (G : Nat → Nat) (h q : Nat) : lw_of G h q 4294967295 (G 4) 0 0 ≠ 0 ↔ ∃ i, i < G 4 ∧ h.testBit i = true ∧ G (12 + 5 * i) = q := by
  constructor
  · intro z
    obtain ⟨i, hi⟩ := Nat.exists_testBit_of_ne_zero z
    obtain ⟨a, b, e, _⟩ := (lw_cx_tb G h q _ i).mp hi
    exact ⟨i, a, b, e⟩
  · rintro ⟨i, a, b, e⟩ z
    have := (lw_cx_tb G h q 4294967295 i).mpr ⟨a, b, e, Or.inl rfl⟩
    rw [z, Nat.zero_testBit] at this
    exact absurd this (by decide)
theorem rq_kb (d c s b : Nat) (W : xi_W) (F G : Nat → Nat) (L : List Value) (hw : kw W b F) (hb : wb b) (hl : 687 ≤ W.length) (hR : W[355]? = some (.inr (2, L))) {X h k : Nat} (x : rx G F X h k) (r : xi_R → Prop) (K : r (some (.int (Int32.ofNat (kY G h 4 0 0))), W, c, s)) : xr (d + 2) 20 0 [(0, .ref (b + 1)), (1, .int (Int32.ofNat X))] [] W c s r := by
  refine n_kb d c s b W F L hw hb hl hR X x.2.2.2.1 x.ok x.2.2.1.2 r ?_
  obtain ⟨w1, w2, w3⟩ := lw_rowE x.1 x.2.1 x.hk.1
  have e : fd (fun u => cn_he F X u 4294967295 4294967295) (fun a u => a ||| 1 * 2 ^ (F (16 * u + 2) / 300)) 256 0 0 = kY G h 4 0 0 := by
    rw [fd_all _ (he_all x.1 x.2.1 x.2.2.2.2.1 x.hk.1)]
    refine Nat.eq_of_testBit_eq (fun i => Bool.eq_iff_iff.mpr ?_)
    rw [fk_tb x.1 x.2.1 x.2.2.1 (lw_row G h) (bc 63 h) i (fun k hk => (w1 k hk).1) _ 0 0 (by omega), kY_tb, of_ne0]
    refine or_congr Iff.rfl ⟨?_, ?_⟩
    · rintro ⟨j, _, h1, h2⟩
      have := (x.1 _ (w1 j h1).1).2.2.1
      exact ⟨by omega, by omega, _, (w1 j h1).1, (w1 j h1).2, h2⟩
    · rintro ⟨_, _, j, h1, h2, h3⟩
      obtain ⟨k, k1, k2⟩ := w3 j h1 h2
      exact ⟨k, by omega, k1, by rw [k2]; exact h3⟩
  rw [e]
  exact K
/-- the winner -/
def sc (G : Nat → Nat) (i : Nat) : Nat := G (11 + 5 * i) * 10 + G (10 + 5 * i)
def wF (G R : Nat → Nat) : Nat → Nat → Nat → Nat → Nat
  | 0, _, _, w => w
  | m + 1, k, b, w => if b < sc G (R k) then wF G R m (k + 1) (sc G (R k)) (G (14 + 5 * R k)) else wF G R m (k + 1) b w
def wn (G : Nat → Nat) (h q f : Nat) : Nat := if bc 63 (lw_of G h q f (G 4) 0 0) = 0 then 4294967295 else wF G (lw_row G (lw_of G h q f (G 4) 0 0)) (bc 63 (lw_of G h q f (G 4) 0 0) - 1) 1 (sc G (lw_row G (lw_of G h q f (G 4) 0 0) 0)) (G (14 + 5 * lw_row G (lw_of G h q f (G 4) 0 0) 0))
theorem wF_spec (G R : Nat → Nat) : ∀ (m k b w : Nat), (∃ j, j < k ∧ w = G (14 + 5 * R j) ∧ b = sc G (R j) ∧ ∀ i, i < k → sc G (R i) ≤ b) → ∃ j, j < k + m ∧ wF G R m k b w = G (14 + 5 * R j) ∧ ∀ i, i < k + m → sc G (R i) ≤ sc G (R j)
  | 0, k, b, w, ⟨j, h1, h2, h3, h4⟩ => ⟨j, h1, h2, fun i hi => by rw [← h3]; exact h4 i hi⟩
  | m + 1, k, b, w, ⟨j, h1, h2, h3, h4⟩ => by
    unfold wF
    by_cases z : b < sc G (R k)
    · rw [if_pos z]
      obtain ⟨j', a1, a2, a3⟩ := wF_spec G R m (k + 1) (sc G (R k)) (G (14 + 5 * R k)) ⟨k, by omega, rfl, rfl, fun i hi => by
        by_cases y : i = k
        · rw [y]; exact Nat.le_refl _
        · have := h4 i (by omega); omega⟩
      exact ⟨j', by omega, a2, fun i hi => a3 i (by omega)⟩
    · rw [if_neg z]
      obtain ⟨j', a1, a2, a3⟩ := wF_spec G R m (k + 1) b w ⟨j, by omega, h2, h3, fun i hi => by
        by_cases y : i = k
        · rw [y]; omega
        · exact h4 i (by omega)⟩
      exact ⟨j', by omega, a2, fun i hi => a3 i (by omega)⟩
theorem lI_spec {P V : Nat → Nat} {n z : Nat} (hn : n < 64) : ∀ k, (lI P V n z k = z ∧ ∀ j, j < k → P (j * 64 + n) = 0) ∨ (∃ j, j < k ∧ P (j * 64 + n) ≠ 0 ∧ lI P V n z k = V (j * 64 + n) ∧ ∀ i, j < i → i < k → P (i * 64 + n) = 0)
  | 0 => Or.inl ⟨rfl, fun j hj => by omega⟩
  | k + 1 => by
    unfold lI
    by_cases e : P (k * 64 + n) = 0
    · rw [if_pos e]
      rcases lI_spec (P := P) (V := V) (z := z) hn k with ⟨a, b⟩ | ⟨j, a, b, c, d⟩
      · exact Or.inl ⟨a, fun j hj => by
          by_cases y : j = k
          · rw [y]; exact e
          · exact b j (by omega)⟩
      · exact Or.inr ⟨j, by omega, b, c, fun i h1 h2 => by
          by_cases y : i = k
          · rw [y]; exact e
          · exact d i h1 (by omega)⟩
    · rw [if_neg e]
      exact Or.inr ⟨k, by omega, e, rfl, fun i h1 h2 => by omega⟩
theorem lO_spec {P V : Nat → Nat} : ∀ n, n < 64 → (lO P V n = 4294967295 ∧ ∀ u, u < 256 → 0 < u % 64 → u % 64 ≤ n → P u = 0) ∨ (∃ u, u < 256 ∧ 0 < u % 64 ∧ u % 64 ≤ n ∧ P u ≠ 0 ∧ lO P V n = V u ∧ ∀ t, t < 256 → 0 < t % 64 → t % 64 ≤ n → P t ≠ 0 → (t % 64) * 10 + t / 64 ≤ (u % 64) * 10 + u / 64)
  | 0, _ => Or.inl ⟨rfl, fun u a b c => by omega⟩
  | n + 1, hn => by
    unfold lO
    rcases lI_spec (P := P) (V := V) (z := lO P V n) hn 4 with ⟨a, b⟩ | ⟨j, a, b, c, e⟩
    · have hz : ∀ u, u < 256 → u % 64 = n + 1 → P u = 0 := fun u h1 h2 => by
        have := b (u / 64) (by omega)
        rwa [show u / 64 * 64 + (n + 1) = u by omega] at this
      rw [a]
      rcases lO_spec (P := P) (V := V) n (by omega) with ⟨x, y⟩ | ⟨u, x1, x2, x3, x4, x5, x6⟩
      · exact Or.inl ⟨x, fun u h1 h2 h3 => by
          by_cases g : u % 64 = n + 1
          · exact hz u h1 g
          · exact y u h1 h2 (by omega)⟩
      · exact Or.inr ⟨u, x1, x2, by omega, x4, x5, fun t h1 h2 h3 h4 => by
          by_cases g : t % 64 = n + 1
          · exact absurd (hz t h1 g) h4
          · exact x6 t h1 h2 (by omega) h4⟩
    · refine Or.inr ⟨j * 64 + (n + 1), by omega, by omega, by omega, b, c, fun t h1 h2 h3 h4 => ?_⟩
      by_cases g : t % 64 = n + 1
      · by_cases y : j < t / 64
        · have := e (t / 64) y (by omega)
          rw [show t / 64 * 64 + (n + 1) = t by omega] at this
          exact absurd this h4
        · omega
      · omega
theorem rq_lat (d c s b : Nat) (W : xi_W) (F G : Nat → Nat) (L : List Value) (hw : kw W b F) (hb : wb b) (hl : 687 ≤ W.length) (hR : W[355]? = some (.inr (2, L))) {X h k : Nat} (x : rx G F X h k) (q f : Nat) (hq : q < 4) (hf : f < 4294967296) (r : xi_R → Prop) (K : r (some (.int (Int32.ofNat (wn G h q f))), W, c, s)) : xr (d + 2) 18 0 [(0, .ref (b + 1)), (1, .int (Int32.ofNat X)), (2, .int (Int32.ofNat q)), (3, .int (Int32.ofNat f))] [] W c s r := by
  refine n_lat d c s b W F L hw hb hl hR X q f x.2.2.2.1 (by omega) hf x.ok x.2.2.1.2 r ?_
  have e : lO (fun u => cn_he F X u q f) (fun u => F (16 * u + 2) % 100) 63 = wn G h q f := by
    have g := he_of q f x.1 x.2.1 x.2.2.2.2.1 x.2.2.1.1 hq
    have w1 := (lw_rowE x.1 x.2.1 (lw_of_lt G h q f)).1
    unfold wn
    generalize hO : lw_of G h q f (G 4) 0 0 = O at *
    have pos : ∀ k, k < bc 63 O → 0 < dt G (lw_row G O k) % 64 ∧ dt G (lw_row G O k) % 64 * 10 + dt G (lw_row G O k) / 64 = sc G (lw_row G O k) := fun k hk => by
      have a := dt_lt x.1 x.2.1 (w1 k hk).1
      have n := x.1.num (w1 k hk).1
      unfold sc
      omega
    rcases lO_spec (P := fun u => cn_he F X u q f) (V := fun u => F (16 * u + 2) % 100) 63 (by omega) with ⟨a, b⟩ | ⟨u, a1, a2, a3, a4, a5, a6⟩
    · by_cases z : bc 63 O = 0
      · rw [a, if_pos z]
      · have h0 := g.1 0 (by omega)
        exact absurd (b _ h0 (pos 0 (by omega)).1 (by omega)) ((g.2.2 _ h0).mpr ⟨0, by omega, rfl⟩)
    · obtain ⟨k, k1, k2⟩ := (g.2.2 u a1).mp a4
      have k2 : dt G (lw_row G O k) = u := k2
      rw [a5, if_neg (by omega)]
      obtain ⟨j, j1, j2, j3⟩ := wF_spec G (lw_row G O) (bc 63 O - 1) 1 _ _ ⟨0, by omega, rfl, rfl, fun i hi => by rw [show i = 0 by omega]; exact Nat.le_refl _⟩
      rw [j2]
      have hj : j < bc 63 O := by omega
      have s1 := j3 k (by omega)
      have s2 := a6 _ (g.1 j hj) (pos j hj).1 (by omega) ((g.2.2 _ (g.1 j hj)).mpr ⟨j, hj, rfl⟩)
      have s3 := (pos j hj).2
      have s4 := (pos k k1).2
      rw [k2] at s4
      have hlt := g.1 j hj
      have s5 : dt G (lw_row G O j) = u := by
        have h2 : dt G (lw_row G O j) < 256 := hlt
        have s2 : dt G (lw_row G O j) % 64 * 10 + dt G (lw_row G O j) / 64 ≤ u % 64 * 10 + u / 64 := s2
        omega
      have v := (en.cell x.1 x.2.1 x.2.2.1 (w1 j hj).1).2.2.2.2
      rw [s5] at v
      exact v
  rw [e]
  exact K
