/-! clouds -/
def fs (Q s : Nat → Nat) (n : Nat) : Nat → Nat → Nat → Nat
  | 0, _, _ => 4294967295
  | m + 1, k, j => if Q (s k) = 0 then fs Q s n m (k + 1) j else if j = n then s k else fs Q s n m (k + 1) (j + 1)
def cN (Q s : Nat → Nat) : Nat → Nat → Nat
  | 0, _ => 0
  | m + 1, k => (if Q (s k) = 0 then 0 else 1) + cN Q s m (k + 1)
theorem cN_top (Q s : Nat → Nat) : ∀ (m k : Nat), cN Q s (m + 1) k = cN Q s m k + (if Q (s (k + m)) = 0 then 0 else 1)
  | 0, k => by
    show (if Q (s k) = 0 then 0 else 1) + 0 = 0 + _
    rw [Nat.add_zero, Nat.add_zero, Nat.zero_add]
  | m + 1, k => by
    have ih := cN_top Q s m (k + 1)
    show (if Q (s k) = 0 then 0 else 1) + cN Q s (m + 1) (k + 1) = (if Q (s k) = 0 then 0 else 1) + cN Q s m (k + 1) + _
    rw [ih, show k + 1 + m = k + (m + 1) by omega]
    omega
theorem fn_fs {P Q s : Nat → Nat} {c T : Nat} (n : Nat) (h : go P s c T) (hQ : ∀ u, u < T → Q u ≠ 0 → P u ≠ 0) : ∀ (m t k j : Nat), t + m = T → k ≤ c → (∀ i, i < k → s i < t) → (∀ i, k ≤ i → i < c → t ≤ s i) → fn Q n m t j = fs Q s n (c - k) k j
  | 0, t, k, j, hm, hk, h1, h2 => by
    have : k = c := by
      by_cases z : k = c
      · exact z
      · have a := h.1 k (by omega)
        have b := h2 k (Nat.le_refl _) (by omega)
        omega
    rw [this, Nat.sub_self]
    rfl
  | m + 1, t, k, j, hm, hk, h1, h2 => by
    unfold fn
    by_cases hp : P t = 0
    · have hq : Q t = 0 := by
        by_cases z : Q t = 0
        · exact z
        · exact absurd hp (hQ t (by omega) z)
      rw [if_pos hq]
      refine fn_fs n h hQ m (t + 1) k j (by omega) hk (fun i hi => by have := h1 i hi; omega) (fun i hj1 hj2 => ?_)
      have q := h2 i hj1 hj2
      by_cases z : s i = t
      · exact absurd ((h.2.2 t (by omega)).mpr ⟨i, hj2, z⟩) (fun y => y hp)
      · omega
    · obtain ⟨k1, k2⟩ := h.hit (by omega) hp h1 h2
      obtain ⟨w, hw⟩ : ∃ w, c - k = w + 1 := ⟨c - k - 1, by omega⟩
      have ih := fun j => fn_fs n h hQ m (t + 1) (k + 1) j (by omega) (by omega) (fun i hi => by
          by_cases z : i = k
          · subst z; omega
          · have := h1 i (by omega); omega) (fun i hj1 hj2 => by have := h.2.1 k i (by omega) hj2; omega)
      rw [hw]
      unfold fs
      rw [k2, ih, ih, show c - (k + 1) = w by omega]
theorem fs_hit (Q s : Nat → Nat) (n : Nat) : ∀ (m k j i : Nat), k ≤ i → i < k + m → Q (s i) ≠ 0 → n = j + cN Q s (i - k) k → fs Q s n m k j = s i
  | 0, k, j, i, h1, h2, _, _ => by omega
  | m + 1, k, j, i, h1, h2, h3, h4 => by
    unfold fs
    by_cases e : i = k
    · subst e
      rw [Nat.sub_self] at h4
      rw [if_neg h3, if_pos (by rw [h4]; rfl)]
    · obtain ⟨w, hw⟩ : ∃ w, i - k = w + 1 := ⟨i - k - 1, by omega⟩
      rw [hw] at h4
      unfold cN at h4
      by_cases z : Q (s k) = 0
      · rw [if_pos z] at h4 ⊢
        exact fs_hit Q s n m (k + 1) j i (by omega) (by omega) h3 (by rw [show i - (k + 1) = w by omega]; omega)
      · rw [if_neg z] at h4 ⊢
        rw [if_neg (by omega)]
        exact fs_hit Q s n m (k + 1) (j + 1) i (by omega) (by omega) h3 (by rw [show i - (k + 1) = w by omega]; omega)
theorem fs_end (Q s : Nat → Nat) (n : Nat) : ∀ (m k j : Nat), j + cN Q s m k ≤ n → fs Q s n m k j = 4294967295
  | 0, _, _, _ => rfl
  | m + 1, k, j, h => by
    unfold fs
    unfold cN at h
    by_cases z : Q (s k) = 0
    · rw [if_pos z] at h ⊢
      exact fs_end Q s n m (k + 1) j (by omega)
    · rw [if_neg z] at h ⊢
      rw [if_neg (by omega)]
      exact fs_end Q s n m (k + 1) (j + 1) (by omega)
theorem fd_q {P Q : Nat → Nat} {T : Nat} (hQ : ∀ u, u < T → Q u ≠ 0 → P u ≠ 0) : ∀ (m t a : Nat), t + m = T → fd Q (fun a _ => a + 1) m t a = fd P (fun a u => if Q u = 0 then a else a + 1) m t a
  | 0, _, _, _ => rfl
  | m + 1, t, a, h => by
    unfold fd
    rw [fd_q hQ m (t + 1) _ (by omega)]
    by_cases z : Q t = 0
    · rw [if_pos z]
      by_cases y : P t = 0
      · rw [if_pos y]
      · rw [if_neg y]
    · rw [if_neg z, if_neg (hQ t (by omega) z)]
theorem fk_cN (Q s : Nat → Nat) : ∀ (m k a : Nat), fk s (fun a u => if Q u = 0 then a else a + 1) m k a = a + cN Q s m k
  | 0, _, _ => rfl
  | m + 1, k, a => by
    unfold fk cN
    show fk s _ m (k + 1) (if Q (s k) = 0 then a else a + 1) = _
    rw [fk_cN Q s m (k + 1)]
    by_cases z : Q (s k) = 0
    · rw [if_pos z, if_pos z]; omega
    · rw [if_neg z, if_neg z]; omega
/-- one replica's part of a cloud -/
theorem tr_bit : ∀ (n x i : Nat), i < tr n x → x.testBit i = true
  | 0, _, _, h => by unfold tr at h; omega
  | n + 1, x, i, h => by
    unfold tr at h
    by_cases z : x % 2 = 1
    · rw [if_pos z] at h
      cases i with
      | zero => rw [Nat.testBit_zero, decide_eq_true_iff]; exact z
      | succ i => rw [Nat.testBit_succ]; exact tr_bit n (x / 2) i (by omega)
    · rw [if_neg z] at h; omega
theorem bc_low : ∀ (n x : Nat), (∀ i, i < n → x.testBit i = true) → bc n x = n
  | 0, _, _ => rfl
  | n + 1, x, h => by rw [bc_tb, if_pos (h n (by omega)), bc_low n x (fun i hi => h i (by omega))]
theorem fd_blk (F : Nat → Nat) (X r : Nat) (hr : r < 4) : ∀ (m u a : Nat), 0 < u → u + m = 64 → fd (Pc F X) (fun a _ => a + 1) m (64 * r + u) a = a + (bc 63 (F (16 * (X * 4 + r) + 0)) - bc (max (tr 62 (F (16 * (X * 4 + r) + 0))) (u - 1)) (F (16 * (X * 4 + r) + 0)))
  | 0, u, a, h0, h => by
    have := tr_le 62 (F (16 * (X * 4 + r) + 0))
    rw [show max (tr 62 (F (16 * (X * 4 + r) + 0))) (u - 1) = 63 by omega, Nat.sub_self]
    rfl
  | m + 1, u, a, h0, h => by
    unfold fd
    have e1 : (64 * r + u) % 64 = u := by omega
    have e2 : (64 * r + u) / 64 = r := by omega
    have ih := fun a => fd_blk F X r hr m (u + 1) a (by omega) (by omega)
    rw [show 64 * r + u + 1 = 64 * r + (u + 1) by omega, ih]
    unfold Pc
    rw [e1, e2]
    generalize F (16 * (X * 4 + r) + 0) = x at *
    obtain ⟨v, rfl⟩ : ∃ v, u = v + 1 := ⟨u - 1, by omega⟩
    rw [Nat.add_sub_cancel, Nat.add_sub_cancel]
    have hb : bc (v + 1) x ≤ bc 63 x := by
      have := bc_add (v + 1) (63 - (v + 1)) x
      rw [show v + 1 + (63 - (v + 1)) = 63 by omega] at this
      omega
    rcases Nat.lt_or_ge (tr 62 x) (v + 1) with z | z
    · rw [show max (tr 62 x) v = v by omega, show max (tr 62 x) (v + 1) = v + 1 by omega]
      have := bc_tb v x
      by_cases y : x.testBit v = true
      · rw [if_pos y] at this
        rw [if_pos (show 0 < v + 1 ∧ tr 62 x < v + 1 ∧ x.testBit v = true from ⟨by omega, z, y⟩), if_neg (show ¬ (1 : Nat) = 0 by omega)]
        omega
      · rw [if_neg y] at this
        rw [if_neg (show ¬ (0 < v + 1 ∧ tr 62 x < v + 1 ∧ x.testBit v = true) from fun w => y w.2.2), if_pos rfl]
        omega
    · rw [show max (tr 62 x) v = tr 62 x by omega, show max (tr 62 x) (v + 1) = tr 62 x by omega, if_neg (show ¬ (0 < v + 1 ∧ tr 62 x < v + 1 ∧ x.testBit v = true) from fun w => by omega), if_pos rfl]
theorem fd_app (P : Nat → Nat) (g : Nat → Nat → Nat) : ∀ (m k t a : Nat), fd P g (m + k) t a = fd P g k (t + m) (fd P g m t a)
  | 0, k, t, a => by rw [Nat.zero_add]; rfl
  | m + 1, k, t, a => by
    rw [show m + 1 + k = (m + k) + 1 by omega]
    unfold fd
    rw [fd_app P g m k (t + 1), show t + 1 + m = t + (m + 1) by omega]
    cases k <;> rfl
theorem fd_blk0 (F : Nat → Nat) (X r a : Nat) (hr : r < 4) : fd (Pc F X) (fun a _ => a + 1) 64 (64 * r) a = a + (bc 63 (F (16 * (X * 4 + r) + 0)) - tr 62 (F (16 * (X * 4 + r) + 0))) := by
  show fd (Pc F X) (fun a _ => a + 1) (63 + 1) (64 * r) a = _
  unfold fd
  have e : Pc F X (64 * r) = 0 := by
    unfold Pc
    rw [if_neg (fun w => by omega)]
  rw [if_pos e, fd_blk F X r hr 63 1 a (by omega) rfl, show max (tr 62 (F (16 * (X * 4 + r) + 0))) (1 - 1) = tr 62 (F (16 * (X * 4 + r) + 0)) by omega, bc_low _ _ (fun i hi => tr_bit 62 _ i hi)]
theorem cy_fd (F : Nat → Nat) (X : Nat) : cy F X 4 0 = fd (Pc F X) (fun a _ => a + 1) 256 0 0 := by
  rw [show (256 : Nat) = 64 + (64 + (64 + 64)) from rfl, fd_app, fd_app, fd_app]
  rw [show (0 : Nat) + 64 + 64 + 64 = 64 * 3 from rfl, show (0 : Nat) + 64 + 64 = 64 * 2 from rfl, show (0 : Nat) + 64 = 64 * 1 from rfl]
  rw [fd_blk0 F X 3 _ (by omega), fd_blk0 F X 2 _ (by omega), fd_blk0 F X 1 _ (by omega)]
  have := fd_blk0 F X 0 0 (by omega)
  rw [show 64 * 0 = 0 from rfl] at this
  rw [this]
  show (bc 63 (F (16 * (X * 4 + 0) + 0)) - tr 62 (F (16 * (X * 4 + 0) + 0))) + ((bc 63 (F (16 * (X * 4 + 1) + 0)) - tr 62 (F (16 * (X * 4 + 1) + 0))) + ((bc 63 (F (16 * (X * 4 + 2) + 0)) - tr 62 (F (16 * (X * 4 + 2) + 0))) + ((bc 63 (F (16 * (X * 4 + 3) + 0)) - tr 62 (F (16 * (X * 4 + 3) + 0))) + 0))) = _
  omega
/-- the law's cloud: of the sorted places of some bits k, those above what is reached -/
def cT (G : Nat → Nat) (k i : Nat) : Nat := tr 62 (pr G (G (10 + 5 * i)) (G 4) k)
def cP (G : Nat → Nat) (k i : Nat) : Nat := if cT G k i < G (11 + 5 * i) then 1 else 0
def cQ (G : Nat → Nat) (k n : Nat) : Nat := cN (cP G k) (lw_row G k) n 0
theorem cN_cg {Q Q' s s' : Nat → Nat} : ∀ (m k n : Nat), k + m ≤ n → (∀ i, i < n → (Q (s i) = 0 ↔ Q' (s' i) = 0)) → cN Q s m k = cN Q' s' m k
  | 0, _, _, _, _ => rfl
  | m + 1, k, n, h, e => by
    unfold cN
    rw [cN_cg m (k + 1) n (by omega) e]
    by_cases z : Q (s k) = 0
    · rw [if_pos z, if_pos ((e k (by omega)).mp z)]
    · rw [if_neg z, if_neg (fun y => z ((e k (by omega)).mpr y))]
def rK (F : Nat → Nat) (X u : Nat) : Nat := if 0 < u % 64 ∧ (F (16 * (X * 4 + u / 64) + 0)).testBit (u % 64 - 1) = true then 1 else 0
theorem rx.kgo {G F : Nat → Nat} {X h k : Nat} (x : rx G F X h k) : go (rK F X) (fun j => dt G (lw_row G k j)) (bc 63 k) 256 :=
  he_go x.1 x.2.1 x.hk.2 (fun u hu => by
    have e : rK F X u ≠ 0 ↔ (0 < u % 64 ∧ (F (16 * (X * 4 + u / 64) + 0)).testBit (u % 64 - 1) = true) := by
      unfold rK
      by_cases z : 0 < u % 64 ∧ (F (16 * (X * 4 + u / 64) + 0)).testBit (u % 64 - 1) = true
      · rw [if_pos z]; exact ⟨fun _ => z, fun _ => by omega⟩
      · rw [if_neg z]; exact ⟨fun y => absurd rfl y, fun y => absurd y z⟩
    rw [e]
    unfold dt
    rw [(x.2.2.2.2.1 (u / 64) (by omega)).1, pr_bit]
    constructor
    · rintro ⟨h1, i, h2, h3, h4, h5⟩
      have hn := x.1.num h2
      exact ⟨i, h2, h4, by omega⟩
    · rintro ⟨i, h2, h4, h5⟩
      have hn := x.1.num h2
      have ei := x.1 i h2
      have hm := x.2.1
      exact ⟨by omega, i, h2, by omega, h4, by omega⟩)
theorem rx.pc {G F : Nat → Nat} {X h k : Nat} (x : rx G F X h k) : (∀ u, u < 256 → Pc F X u ≠ 0 → rK F X u ≠ 0) ∧ (∀ j, j < bc 63 k → (Pc F X (dt G (lw_row G k j)) = 0 ↔ cP G k (lw_row G k j) = 0)) := by
  refine ⟨fun u hu z => ?_, fun j hj => ?_⟩
  · unfold Pc at z
    by_cases y : 0 < u % 64 ∧ tr 62 (F (16 * (X * 4 + u / 64) + 0)) < u % 64 ∧ (F (16 * (X * 4 + u / 64) + 0)).testBit (u % 64 - 1) = true
    · unfold rK; rw [if_pos ⟨y.1, y.2.2⟩]; omega
    · rw [if_neg y] at z; exact absurd rfl z
  · have w := (lw_rowE x.1 x.2.1 x.hk.2).1 j hj
    have a := dt_lt x.1 x.2.1 w.1
    have n := x.1.num w.1
    have e := x.1 _ w.1
    unfold Pc cP cT
    rw [a.2.1, a.2.2, (x.2.2.2.2.1 _ e.1).1]
    have hb : (pr G (G (10 + 5 * lw_row G k j)) (G 4) k).testBit (G (11 + 5 * lw_row G k j) - 1) = true := (pr_bit G _ k _ _).mpr ⟨_, w.1, rfl, w.2, rfl⟩
    by_cases z : tr 62 (pr G (G (10 + 5 * lw_row G k j)) (G 4) k) < G (11 + 5 * lw_row G k j)
    · rw [if_pos z, if_pos ⟨by omega, z, hb⟩]
    · rw [if_neg z, if_neg (fun y => z y.2.1)]
theorem rq_cld (d c s b : Nat) (W : xi_W) (F G : Nat → Nat) (L : List Value) (hw : kw W b F) (hb : wb b) (hl : 687 ≤ W.length) (hR : W[355]? = some (.inr (2, L))) {X h k : Nat} (x : rx G F X h k) (r : xi_R → Prop) (K : r (some (.int (Int32.ofNat (cQ G k (bc 63 k)))), W, c, s)) : xr (d + 2) 25 0 [(0, .ref (b + 1)), (1, .int (Int32.ofNat X))] [] W c s r := by
  refine n_cld d c s b W F L hw hb hl hR X h k G x.2.2.2.1 x.1 x.2.1 x.2.2.2.2.1 x.hk.2 r ?_
  rw [cy_fd, fd_q x.pc.1 256 0 0 rfl, fd_all _ x.kgo, fk_cN, Nat.zero_add, cN_cg (Q' := cP G k) (s' := lw_row G k) (bc 63 k) 0 (bc 63 k) (by omega) x.pc.2]
  exact K
theorem rq_ncl (d c s b : Nat) (W : xi_W) (F G : Nat → Nat) (L : List Value) (hw : kw W b F) (hb : wb b) (hl : 687 ≤ W.length) (hR : W[355]? = some (.inr (2, L))) {X h k : Nat} (x : rx G F X h k) (n : Nat) (hn : n < 2147483648) (r : xi_R → Prop) (v : Nat) (hv : (∃ j, j < bc 63 k ∧ cP G k (lw_row G k j) ≠ 0 ∧ n = cQ G k j ∧ v = dt G (lw_row G k j)) ∨ (cQ G k (bc 63 k) ≤ n ∧ v = 4294967295)) (K : r (some (.int (Int32.ofNat v)), W, c, s)) : xr (d + 2) 26 0 [(0, .ref (b + 1)), (1, .int (Int32.ofNat X)), (2, .int (Int32.ofNat n))] [] W c s r := by
  refine n_ncl d c s b W F L hw hb hl hR X n x.2.2.2.1 hn (fun t ht => (x.lt t ht).1) r ?_
  have e : fn (Pc F X) n 256 0 0 = v := by
    rw [fn_fs n x.kgo x.pc.1 256 0 0 0 rfl (by omega) (fun i hi => by omega) (fun i _ _ => by omega), Nat.sub_zero]
    rcases hv with ⟨j, h1, h2, h3, h4⟩ | ⟨h1, h2⟩
    · rw [h4]
      refine fs_hit _ _ n _ 0 0 j (by omega) (by omega) (fun z => h2 ((x.pc.2 j h1).mp z)) ?_
      rw [h3, Nat.zero_add, Nat.sub_zero]
      exact (cN_cg (Q' := cP G k) (s' := lw_row G k) j 0 (bc 63 k) (by omega) x.pc.2).symm
    · rw [h2]
      refine fs_end _ _ n _ 0 0 ?_
      rw [Nat.zero_add, cN_cg (Q' := cP G k) (s' := lw_row G k) (bc 63 k) 0 (bc 63 k) (by omega) x.pc.2]
      exact h1
  rw [e]
  exact K
/-- what is reached ahead of the j-th place -/
theorem cl_in {G : Nat → Nat} (he : en G (G 4)) (hm : G 4 ≤ 62) {k : Nat} (hk : k < 2 ^ G 4) {r n : Nat} (h : n < tr 62 (pr G r (G 4) k)) : ∃ j, j < bc 63 k ∧ G (10 + 5 * lw_row G k j) = r ∧ G (11 + 5 * lw_row G k j) = n + 1 := by
  obtain ⟨i, h1, h2, h3, h4⟩ := (pr_bit G r k n (G 4)).mp (tr_bit 62 _ n h)
  obtain ⟨j, j1, j2⟩ := (lw_rowE he hm hk).2.2 i h1 h3
  have := he.num h1
  exact ⟨j, j1, by rw [j2]; exact h2, by rw [j2]; omega⟩
theorem cl_st {G : Nat → Nat} (he : en G (G 4)) (hm : G 4 ≤ 62) {k : Nat} (hk : k < 2 ^ G 4) {j : Nat} (hj : j < bc 63 k) : (if 0 < j ∧ G (10 + 5 * lw_row G k (j - 1)) = G (10 + 5 * lw_row G k j) then min (cT G k (lw_row G k (j - 1))) (G (11 + 5 * lw_row G k (j - 1))) else 0) = min (cT G k (lw_row G k j)) (G (11 + 5 * lw_row G k j) - 1) := by
  obtain ⟨w1, w2, w3⟩ := lw_rowE he hm hk
  have a := fun j hj => dt_lt he hm (w1 j hj).1
  have n := fun j hj => he.num (w1 j hj).1
  have aj := a j hj
  have nj := n j hj
  by_cases z : 0 < j ∧ G (10 + 5 * lw_row G k (j - 1)) = G (10 + 5 * lw_row G k j)
  · rw [if_pos z]
    have ai := a (j - 1) (by omega)
    have ni := n (j - 1) (by omega)
    have o := w2 (j - 1) j (by omega) hj
    unfold cT
    rw [z.2]
    rcases Nat.lt_or_ge (G (11 + 5 * lw_row G k (j - 1))) (tr 62 (pr G (G (10 + 5 * lw_row G k j)) (G 4) k)) with y | y
    · obtain ⟨i, i1, i2, i3⟩ := cl_in he hm hk y
      have ai2 := a i i1
      have : j ≤ i := by
        rcases Nat.lt_or_ge i j with g | g
        · have : dt G (lw_row G k i) ≤ dt G (lw_row G k (j - 1)) := by
            by_cases e : i = j - 1
            · rw [e]; exact Nat.le_refl _
            · exact Nat.le_of_lt (w2 i (j - 1) (by omega) (by omega))
          omega
        · exact g
      have : dt G (lw_row G k j) ≤ dt G (lw_row G k i) := by
        by_cases e : i = j
        · rw [e]; exact Nat.le_refl _
        · exact Nat.le_of_lt (w2 j i (by omega) i1)
      omega
    · omega
  · rw [if_neg z]
    unfold cT
    rcases Nat.lt_or_ge 0 (tr 62 (pr G (G (10 + 5 * lw_row G k j)) (G 4) k)) with y | y
    · obtain ⟨i, i1, i2, i3⟩ := cl_in he hm hk y
      have ai2 := a i i1
      have : j ≤ i := by
        rcases Nat.lt_or_ge i j with g | g
        · have ai3 := a (j - 1) (by omega)
          have o := w2 (j - 1) j (by omega) hj
          have : dt G (lw_row G k i) ≤ dt G (lw_row G k (j - 1)) := by
            by_cases e : i = j - 1
            · rw [e]; exact Nat.le_refl _
            · exact Nat.le_of_lt (w2 i (j - 1) (by omega) (by omega))
          have : G (10 + 5 * lw_row G k (j - 1)) ≠ G (10 + 5 * lw_row G k j) := fun e => z ⟨by omega, e⟩
          omega
        · exact g
      have : dt G (lw_row G k j) ≤ dt G (lw_row G k i) := by
        by_cases e : i = j
        · rw [e]; exact Nat.le_refl _
        · exact Nat.le_of_lt (w2 j i (by omega) i1)
      omega
    · omega
