/-! the law: what always holds of its numbers -/
theorem lw_ub {G : Nat → Nat} {k v B : Nat} (h : ∀ j, G j < B) (hv : v < B) : ∀ j, xn_u G k v j < B := fun j => by
  unfold xn_u
  split
  · exact hv
  · exact h j
theorem lw_tcb {B : Nat} : ∀ (m k : Nat) (G : Nat → Nat), (∀ j, G j < B) → ∀ j, lw_tc m k G j < B
  | 0, _, _, h => h
  | m + 1, k, G, h => lw_tcb m (k + 1) _ (lw_ub h (h _))
theorem lw_dcb {a B : Nat} : ∀ (m k : Nat) (G : Nat → Nat), (∀ j, G j < B) → ∀ j, lw_dc a m k G j < B
  | 0, _, _, h => h
  | m + 1, k, G, h => lw_dcb m (k + 1) _ (lw_ub h (h _))
theorem lw_sfb {B : Nat} : ∀ (m k : Nat) (G : Nat → Nat), (∀ j, G j < B) → ∀ j, lw_sf m k G j < B
  | 0, _, _, h => h
  | m + 1, k, G, h => lw_sfb m (k + 1) _ (lw_ub h (h _))
theorem lw_sfv : ∀ (m k : Nat) (G : Nat → Nat) (j : Nat), lw_sf m k G j = if 411 + k ≤ j ∧ j < 411 + k + m then G (j + 8) else G j
  | 0, k, G, j => by rw [if_neg (by omega)]; rfl
  | m + 1, k, G, j => by
    unfold lw_sf
    rw [lw_sfv m (k + 1)]
    by_cases h : j = 411 + k
    · subst h
      rw [if_neg (by omega), if_pos (by omega), xn_ue]
      congr 1
      omega
    · by_cases h2 : 411 + k ≤ j ∧ j < 411 + k + (m + 1)
      · rw [if_pos (by omega), if_pos h2, xn_un _ _ (by omega)]
      · rw [if_neg (by omega), if_neg h2, xn_un _ _ (by omega)]
theorem lw_rcv (F : Nat → Nat) (a : Nat) : ∀ (m k : Nat) (G : Nat → Nat) (j : Nat), lw_rc F a m k G j = if a + k ≤ j ∧ j < a + k + m then F (j - a) else G j
  | 0, k, G, j => by rw [if_neg (by omega)]; rfl
  | m + 1, k, G, j => by
    unfold lw_rc
    rw [lw_rcv F a m (k + 1)]
    by_cases h : j = a + k
    · subst h
      rw [if_neg (by omega), if_pos (by omega), xn_ue]
      congr 1
      omega
    · by_cases h2 : a + k ≤ j ∧ j < a + k + (m + 1)
      · rw [if_pos (by omega), if_pos h2]
      · rw [if_neg (by omega), if_neg h2, xn_un _ _ (by omega)]
/-- a message's numbers are right -/
def lw_fm (G : Nat → Nat) (b : Nat) : Prop := G b < 4 ∧ G (b + 1) < 4 ∧ G (b + 5) < 2 ∧ G (b + 4) ≤ G (338 + (if G (b + 5) = 0 then G b else G (b + 1)))
theorem lw_fm.of {G G' : Nat → Nat} {b b' : Nat} (h : lw_fm G b) (e : ∀ x, x < 8 → G' (b' + x) = G (b + x)) (hc : ∀ t, t < 4 → G (338 + t) ≤ G' (338 + t)) : lw_fm G' b' := by
  obtain ⟨h0, h1, h5, h4⟩ := h
  have e0 : G' b' = G b := e 0 (by omega)
  have e1 := e 1 (by omega)
  have e4 := e 4 (by omega)
  have e5 := e 5 (by omega)
  refine ⟨by rw [e0]; exact h0, by rw [e1]; exact h1, by rw [e5]; exact h5, ?_⟩
  rw [e0, e1, e4, e5]
  refine Nat.le_trans h4 (hc _ ?_)
  split
  · exact h0
  · exact h1
def lw_J (N : Nat) (G : Nat → Nat) : Prop := (∀ j, G j < 4611686018427387904) ∧ (G 1 < 31139) ∧ (G 4 ≤ 62) ∧ (1 ≤ G 5) ∧ (G 5 ≤ 4) ∧ (G 0 ≤ N) ∧ (G 2 ≤ N) ∧ (G 3 ≤ N) ∧ (G 410 ≤ 24) ∧ (G 603 ≤ 300) ∧ (∀ t, t < 4 → G (342 + t) ≤ G (338 + t) ∧ G (338 + t) ≤ G (342 + t) + 6 ∧ G (338 + t) ≤ N) ∧ (∀ u t, u < 4 → t < 4 → G (346 + 4 * u + t) ≤ G (338 + u)) ∧ (∀ i, i < G 410 → lw_fm G (411 + 8 * i))
theorem lw_J.b {N : Nat} {G : Nat → Nat} (h : lw_J N G) : ∀ j, G j < 4611686018427387904 := h.1
theorem lw_J.x {N : Nat} {G : Nat → Nat} (h : lw_J N G) : G 1 < 31139 := h.2.1
theorem lw_J.e {N : Nat} {G : Nat → Nat} (h : lw_J N G) : G 4 ≤ 62 := h.2.2.1
theorem lw_J.d0 {N : Nat} {G : Nat → Nat} (h : lw_J N G) : 1 ≤ G 5 := h.2.2.2.1
theorem lw_J.d1 {N : Nat} {G : Nat → Nat} (h : lw_J N G) : G 5 ≤ 4 := h.2.2.2.2.1
theorem lw_J.n0 {N : Nat} {G : Nat → Nat} (h : lw_J N G) : G 0 ≤ N := h.2.2.2.2.2.1
theorem lw_J.n2 {N : Nat} {G : Nat → Nat} (h : lw_J N G) : G 2 ≤ N := h.2.2.2.2.2.2.1
theorem lw_J.n3 {N : Nat} {G : Nat → Nat} (h : lw_J N G) : G 3 ≤ N := h.2.2.2.2.2.2.2.1
theorem lw_J.m {N : Nat} {G : Nat → Nat} (h : lw_J N G) : G 410 ≤ 24 := h.2.2.2.2.2.2.2.2.1
theorem lw_J.k {N : Nat} {G : Nat → Nat} (h : lw_J N G) : G 603 ≤ 300 := h.2.2.2.2.2.2.2.2.2.1
theorem lw_J.c {N : Nat} {G : Nat → Nat} (h : lw_J N G) : ∀ t, t < 4 → G (342 + t) ≤ G (338 + t) ∧ G (338 + t) ≤ G (342 + t) + 6 ∧ G (338 + t) ≤ N := h.2.2.2.2.2.2.2.2.2.2.1
theorem lw_J.a {N : Nat} {G : Nat → Nat} (h : lw_J N G) : ∀ u t, u < 4 → t < 4 → G (346 + 4 * u + t) ≤ G (338 + u) := h.2.2.2.2.2.2.2.2.2.2.2.1
theorem lw_J.f {N : Nat} {G : Nat → Nat} (h : lw_J N G) : ∀ i, i < G 410 → lw_fm G (411 + 8 * i) := h.2.2.2.2.2.2.2.2.2.2.2.2
theorem lw_J.b63 {N : Nat} {G : Nat → Nat} (h : lw_J N G) : ∀ j, G j < 9223372036854775808 := fun j => Nat.lt_of_lt_of_le (h.b j) (by decide)
theorem lw_J.mono {N N' : Nat} {G : Nat → Nat} (h : lw_J N G) (hn : N ≤ N') : lw_J N' G := by
  unfold lw_J
  exact ⟨h.b, h.x, h.e, h.d0, h.d1, Nat.le_trans h.n0 hn, Nat.le_trans h.n2 hn, Nat.le_trans h.n3 hn, h.m, h.k, fun t ht => ⟨(h.c t ht).1, (h.c t ht).2.1, Nat.le_trans (h.c t ht).2.2 hn⟩, h.a, h.f⟩
/-- only the book changed -/
theorem lw_J.book {N : Nat} {G G' : Nat → Nat} (h : lw_J N G) (o : ∀ j, j < 603 → G' j = G j) (hb : ∀ j, G' j < 4611686018427387904) (hk : G' 603 ≤ 300) : lw_J N G' := by
  have hm := h.m
  unfold lw_J
  refine ⟨hb, by rw [o _ (by omega)]; exact h.x, by rw [o _ (by omega)]; exact h.e, by rw [o _ (by omega)]; exact h.d0, by rw [o _ (by omega)]; exact h.d1, by rw [o _ (by omega)]; exact h.n0, by rw [o _ (by omega)]; exact h.n2, by rw [o _ (by omega)]; exact h.n3, by rw [o _ (by omega)]; exact h.m, hk, fun t ht => by rw [o _ (by omega), o _ (by omega)]; exact h.c t ht, fun u t hu ht => by rw [o _ (by omega), o _ (by omega)]; exact h.a u t hu ht, fun i hi => ?_⟩
  rw [o _ (by omega)] at hi
  exact (h.f i hi).of (fun x hx => o _ (by omega)) (fun t ht => by rw [o _ (by omega)]; exact Nat.le_refl _)
theorem lw_t1k {G : Nat → Nat} (h : G 603 ≤ 300) : lw_t1 G 603 < 300 := by
  unfold lw_t1
  split
  · rw [xn_ue]; omega
  · omega
theorem lw_tsk {G : Nat → Nat} (q a b : Nat) (h : G 603 ≤ 300) : lw_ts G q a b 603 ≤ 300 := by
  have := lw_t1k h
  unfold lw_ts lw_t3 lw_t2
  rw [xn_ue, xn_un _ _ (by omega), xn_un _ _ (by omega), xn_un _ _ (by omega), xn_un _ _ (by omega)]
  omega
theorem lw_tsb {G : Nat → Nat} (q a b : Nat) (h : G 603 ≤ 300) {B : Nat} (hB : 1000 ≤ B) (hG : ∀ j, G j < B) (hq : q < B) (ha : a < B) (hb : b < B) : ∀ j, lw_ts G q a b j < B := by
  have e1 := lw_t1k h
  have b1 : ∀ j, lw_t1 G j < B := by
    unfold lw_t1
    split
    · exact lw_ub (lw_tcb _ _ _ hG) (by omega)
    · exact hG
  have b2 : ∀ j, lw_t2 (lw_t1 G) q a b j < B := lw_ub (lw_ub (lw_ub (lw_ub b1 (b1 0)) hq) ha) hb
  have e2 : lw_t2 (lw_t1 G) q a b 603 = lw_t1 G 603 := by
    unfold lw_t2
    rw [xn_un _ _ (by omega), xn_un _ _ (by omega), xn_un _ _ (by omega), xn_un _ _ (by omega)]
  exact lw_ub b2 (by rw [e2]; omega)
theorem lw_J.ts {N : Nat} {G : Nat → Nat} (h : lw_J N G) (q a b : Nat) (hq : q < 1000) (ha : a < 1000) (hb : b < 1000) : lw_J N (lw_ts G q a b) :=
  h.book (fun j hj => lw_tso G q a b hj) (lw_tsb q a b h.k (by omega) h.b (by omega) (by omega) (by omega)) (lw_tsk q a b h.k)
/-- only one number changed, which no rule looks at -/
theorem lw_J.up {N : Nat} {G : Nat → Nat} (h : lw_J N G) (k v : Nat) (hv : v < 4611686018427387904) (hk : (5 < k ∧ k < 338) ∨ (361 < k ∧ k < 410)) : lw_J N (xn_u G k v) := by
  have o : ∀ j, j ≠ k → xn_u G k v j = G j := fun j hj => xn_un _ _ (by omega)
  have hm := h.m
  unfold lw_J
  refine ⟨lw_ub h.b hv, by rw [o _ (by omega)]; exact h.x, by rw [o _ (by omega)]; exact h.e, by rw [o _ (by omega)]; exact h.d0, by rw [o _ (by omega)]; exact h.d1, by rw [o _ (by omega)]; exact h.n0, by rw [o _ (by omega)]; exact h.n2, by rw [o _ (by omega)]; exact h.n3, by rw [o _ (by omega)]; exact h.m, by rw [o _ (by omega)]; exact h.k, fun t ht => by rw [o _ (by omega), o _ (by omega)]; exact h.c t ht, fun u t hu ht => by rw [o _ (by omega), o _ (by omega)]; exact h.a u t hu ht, fun i hi => ?_⟩
  rw [o _ (by omega)] at hi
  exact (h.f i hi).of (fun x hx => o _ (by omega)) (fun t ht => by rw [o _ (by omega)]; exact Nat.le_refl _)
/-- the deltas' numbers changed -/
theorem lw_J.row {N : Nat} {G G' : Nat → Nat} (h : lw_J N G) (o : ∀ j, j < 330 ∨ (337 < j ∧ j < 362) ∨ 409 < j → G' j = G j) (hb : ∀ j, G' j < 4611686018427387904) : lw_J N G' := by
  have hm := h.m
  unfold lw_J
  refine ⟨hb, by rw [o _ (by omega)]; exact h.x, by rw [o _ (by omega)]; exact h.e, by rw [o _ (by omega)]; exact h.d0, by rw [o _ (by omega)]; exact h.d1, by rw [o _ (by omega)]; exact h.n0, by rw [o _ (by omega)]; exact h.n2, by rw [o _ (by omega)]; exact h.n3, by rw [o _ (by omega)]; exact h.m, by rw [o _ (by omega)]; exact h.k, fun t ht => by rw [o _ (by omega), o _ (by omega)]; exact h.c t ht, fun u t hu ht => by rw [o _ (by omega), o _ (by omega)]; exact h.a u t hu ht, fun i hi => ?_⟩
  rw [o _ (by omega)] at hi
  exact (h.f i hi).of (fun x hx => o _ (by omega)) (fun t ht => by rw [o _ (by omega)]; exact Nat.le_refl _)
/-- a replica's counts changed -/
theorem lw_J.cnt {N N' : Nat} {G : Nat → Nat} (h : lw_J N G) (t a b : Nat) (ht : t < 4) (hN : N ≤ N') (ha : G (338 + t) ≤ a) (hb : b ≤ a) (hb6 : a ≤ b + 6) (haN : a ≤ N') (hN2 : N' < 1000000) : lw_J N' (xn_u (xn_u G (338 + t) a) (342 + t) b) := by
  have o : ∀ j, j ≠ 338 + t → j ≠ 342 + t → xn_u (xn_u G (338 + t) a) (342 + t) b j = G j := fun j h1 h2 => by rw [xn_un _ _ (by omega), xn_un _ _ (by omega)]
  have o1 : xn_u (xn_u G (338 + t) a) (342 + t) b (338 + t) = a := by rw [xn_un _ _ (by omega), xn_ue]
  have o2 : xn_u (xn_u G (338 + t) a) (342 + t) b (342 + t) = b := xn_ue _ _ _
  have hm := h.m
  have hc : ∀ u, u < 4 → G (338 + u) ≤ xn_u (xn_u G (338 + t) a) (342 + t) b (338 + u) := fun u hu => by
    by_cases e : u = t
    · subst e; rw [o1]; exact ha
    · rw [o _ (by omega) (by omega)]; exact Nat.le_refl _
  unfold lw_J
  refine ⟨lw_ub (lw_ub h.b (by omega)) (by omega), by rw [o _ (by omega) (by omega)]; exact h.x, by rw [o _ (by omega) (by omega)]; exact h.e, by rw [o _ (by omega) (by omega)]; exact h.d0, by rw [o _ (by omega) (by omega)]; exact h.d1, by rw [o _ (by omega) (by omega)]; exact Nat.le_trans h.n0 hN, by rw [o _ (by omega) (by omega)]; exact Nat.le_trans h.n2 hN, by rw [o _ (by omega) (by omega)]; exact Nat.le_trans h.n3 hN, by rw [o _ (by omega) (by omega)]; exact h.m, by rw [o _ (by omega) (by omega)]; exact h.k, fun u hu => ?_, fun u v hu hv => ?_, fun i hi => ?_⟩
  · by_cases e : u = t
    · subst e; rw [o1, o2]; exact ⟨hb, hb6, haN⟩
    · rw [o _ (by omega) (by omega), o _ (by omega) (by omega)]
      have := h.c u hu
      exact ⟨this.1, this.2.1, Nat.le_trans this.2.2 hN⟩
  · rw [o _ (by omega) (by omega)]
    exact Nat.le_trans (h.a u v hu hv) (hc u hu)
  · rw [o _ (by omega) (by omega)] at hi
    exact (h.f i hi).of (fun x hx => o _ (by omega) (by omega)) hc
