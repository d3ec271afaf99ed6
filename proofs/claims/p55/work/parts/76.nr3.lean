/-! the class: clouds, quiet -/
theorem tr_bc : ∀ (n m x : Nat), n ≤ m → tr n x ≤ bc m x
  | 0, _, _, _ => Nat.zero_le _
  | n + 1, 0, _, h => by omega
  | n + 1, m + 1, x, h => by
    unfold tr bc
    have := tr_bc n m (x / 2) (by omega)
    split <;> omega
def cz (F : Nat → Nat) (X : Nat) : Nat → Nat → Nat
  | 0, _ => 0
  | m + 1, k => bc 63 (F (16 * (X * 4 + k) + 0)) + cz F X m (k + 1)
def cy (F : Nat → Nat) (X : Nat) : Nat → Nat → Nat
  | 0, _ => 0
  | m + 1, k => (bc 63 (F (16 * (X * 4 + k) + 0)) - tr 62 (F (16 * (X * 4 + k) + 0))) + cy F X m (k + 1)
theorem n_cldL (d c s b : Nat) (W : xi_W) (F : Nat → Nat) (L : List Value) (hw : kw W b F) (hb : wb b) (hl : 687 ≤ W.length) (hR : W[355]? = some (.inr (2, L))) (X : Nat) (hX : X < 55) (hf : ∀ t, t < 4 → F (16 * (X * 4 + t) + 0) < 4611686018427387904) (r : xi_R → Prop) : ∀ (m k s0 v : Nat), k + m = 4 → v = s0 + cz F X m k → r (some (.int (Int32.ofNat (s0 + cy F X m k))), W, c, s) → xr (d + 2) 25 8 [(3, .int (Int32.ofNat k)), (2, .int (Int32.ofNat v)), (0, .ref (b + 1)), (1, .int (Int32.ofNat X))] [] W c s r
  | 0, k, s0, v, hk, hv, K => by
    obtain rfl : k = 4 := by omega
    have hv : v = s0 := hv
    subst hv
    refine xr_stp rfl rfl rfl rfl ?_
    refine xr_stp (st' := .int (Int32.ofNat 4) :: _) rfl rfl rfl rfl ?_
    refine xr_j2 rfl rfl rfl rfl rfl (fun h10 => ?_) (fun h10 => ?_)
    · refine xr_stp rfl rfl rfl rfl ?_
      exact xr_ret rfl rfl K
    · exact absurd (nf_ge (by omega) (by omega) h10) (by omega)
  | m + 1, k, s0, v, hk, hv, K => by
    unfold cy at K
    unfold cz at hv
    have q := tr_bc 62 63 (F (16 * (X * 4 + k) + 0)) (by omega)
    refine xr_stp rfl rfl rfl rfl ?_
    refine xr_stp (st' := .int (Int32.ofNat 4) :: _) rfl rfl rfl rfl ?_
    refine xr_j2 rfl rfl rfl rfl rfl (fun h10 => ?_) (fun h10 => ?_)
    · exact absurd (nt_ge (by omega) (by omega) h10) (by omega)
    · refine xr_stp rfl rfl rfl rfl ?_
      refine xr_stp rfl rfl rfl rfl ?_
      refine xr_stp rfl rfl rfl rfl ?_
      refine xr_stp rfl rfl rfl rfl ?_
      refine xr_vcps hw.2 rfl rfl rfl rfl rfl rfl (fun r1 K2 => n_vec _ _ _ b W F L hw hb hl hR X k hX (by omega) (hf _ (by omega)) r1 (K2 _ _ _ _ ?_))
      refine xs_sub (by omega) rfl ?_
      refine xr_stp rfl rfl rfl rfl ?_
      refine xs_inc (e := 1) rfl rfl rfl rfl ?_
      refine xr_stp rfl rfl rfl rfl ?_
      exact n_cldL d c s b W F L hw hb hl hR X hX hf r m (k + 1) (s0 + (bc 63 (F (16 * (X * 4 + k) + 0)) - tr 62 (F (16 * (X * 4 + k) + 0)))) _ (by omega) (by omega) (by rw [Nat.add_assoc]; exact K)
/-- 'clouded' -/
theorem n_cld (d c s b : Nat) (W : xi_W) (F : Nat → Nat) (L : List Value) (hw : kw W b F) (hb : wb b) (hl : 687 ≤ W.length) (hR : W[355]? = some (.inr (2, L))) (X h kn : Nat) (G : Nat → Nat) (hX : X < 55) (he : en G (G 4)) (hm : G 4 ≤ 62) (hx : ro G F X h kn) (hkn : kn < 2 ^ G 4) (r : xi_R → Prop) (K : r (some (.int (Int32.ofNat (cy F X 4 0))), W, c, s)) : xr (d + 2) 25 0 [(0, .ref (b + 1)), (1, .int (Int32.ofNat X))] [] W c s r := by
  have hf : ∀ t, t < 4 → F (16 * (X * 4 + t) + 0) < 4611686018427387904 := fun t ht => by
    rw [(hx t ht).1]
    exact pr_lt62 he hm t kn
  have ez : bc 63 kn = 0 + cz F X 4 0 := by
    have e : cz F X 4 0 = bc 63 (F (16 * (X * 4 + 0) + 0)) + (bc 63 (F (16 * (X * 4 + 1) + 0)) + (bc 63 (F (16 * (X * 4 + 2) + 0)) + (bc 63 (F (16 * (X * 4 + 3) + 0)) + 0))) := rfl
    have := pr_sum he hm hkn
    rw [e, (hx 0 (by omega)).1, (hx 1 (by omega)).1, (hx 2 (by omega)).1, (hx 3 (by omega)).1]
    omega
  refine xr_stp rfl rfl rfl rfl ?_
  refine xr_stp rfl rfl rfl rfl ?_
  refine xr_vcps hw.2 rfl rfl rfl rfl rfl rfl (fun r1 K2 => n_dots _ _ _ b W F L hw hb hl hR X h kn G hX he hm hx hkn r1 (K2 _ _ _ _ ?_))
  refine xr_stp rfl rfl rfl rfl ?_
  refine xr_stp (st' := .int (Int32.ofNat 0) :: _) rfl rfl rfl rfl ?_
  refine xr_stp rfl rfl rfl rfl ?_
  exact n_cldL d _ _ b W F L hw hb hl hR X hX hf r 4 0 0 _ rfl ez (by rw [Nat.zero_add]; exact K)
/-- the cloud's dots of a row -/
def Pc (F : Nat → Nat) (X u : Nat) : Nat := if 0 < u % 64 ∧ tr 62 (F (16 * (X * 4 + u / 64) + 0)) < u % 64 ∧ (F (16 * (X * 4 + u / 64) + 0)).testBit (u % 64 - 1) = true then 1 else 0
theorem fn_skip {P : Nat → Nat} (n : Nat) : ∀ (k m t j : Nat), (∀ u, t ≤ u → u < t + k → P u = 0) → fn P n (k + m) t j = fn P n m (t + k) j
  | 0, m, t, j, _ => by rw [Nat.zero_add, Nat.add_zero]
  | k + 1, m, t, j, h => by
    have e : fn P n (k + 1 + m) t j = fn P n (k + m) (t + 1) j := by
      rw [show k + 1 + m = k + m + 1 by omega]
      show (if P t = 0 then fn P n (k + m) (t + 1) j else _) = _
      rw [if_pos (h t (by omega) (by omega))]
    rw [e, fn_skip n k m (t + 1) j (fun u h1 h2 => h u (by omega) (by omega)), show t + 1 + k = t + (k + 1) by omega]
theorem n_nclI (d c s b : Nat) (W : xi_W) (F : Nat → Nat) (L : List Value) (hw : kw W b F) (hb : wb b) (hl : 687 ≤ W.length) (hR : W[355]? = some (.inr (2, L))) (X n t : Nat) (hX : X < 55) (hn : n < 2147483648) (ht : t < 4) (hf : ∀ t, t < 4 → F (16 * (X * 4 + t) + 0) < 4611686018427387904) (r : xi_R → Prop) : ∀ (m u j : Nat) (L1 : xi_L), u + m = 64 → tr 62 (F (16 * (X * 4 + t) + 0)) < u → j ≤ 64 * t + u → (L1 = [(5, .int (Int32.ofNat u)), (4, .int (Int32.ofNat t)), (3, .int (Int32.ofNat j)), (0, .ref (b + 1)), (1, .int (Int32.ofNat X)), (2, .int (Int32.ofNat n))] ∨ L1 = [(5, .int (Int32.ofNat u)), (3, .int (Int32.ofNat j)), (4, .int (Int32.ofNat t)), (0, .ref (b + 1)), (1, .int (Int32.ofNat X)), (2, .int (Int32.ofNat n))]) → (∀ j' L2, j' ≤ 64 * t + 64 → L2 = [(5, .int (Int32.ofNat 64)), (4, .int (Int32.ofNat t)), (3, .int (Int32.ofNat j')), (0, .ref (b + 1)), (1, .int (Int32.ofNat X)), (2, .int (Int32.ofNat n))] ∨ L2 = [(5, .int (Int32.ofNat 64)), (3, .int (Int32.ofNat j')), (4, .int (Int32.ofNat t)), (0, .ref (b + 1)), (1, .int (Int32.ofNat X)), (2, .int (Int32.ofNat n))] → r (some (.int (Int32.ofNat (fn (Pc F X) n (256 - 64 * (t + 1)) (64 * (t + 1)) j'))), W, c, s) → xr (d + 2) 26 64 L2 [] W c s r) → r (some (.int (Int32.ofNat (fn (Pc F X) n (256 - (64 * t + u)) (64 * t + u) j))), W, c, s) → xr (d + 2) 26 22 L1 [] W c s r
  | 0, u, j, L1, hu, hu2, hj, hL1, KE, K => by
    obtain rfl : u = 64 := by omega
    rw [show 64 * t + 64 = 64 * (t + 1) by omega] at K
    rcases hL1 with rfl | rfl
    all_goals
      refine xr_stp rfl rfl rfl rfl ?_
      refine xr_stp (st' := .int (Int32.ofNat 63) :: _) rfl rfl rfl rfl ?_
      refine xr_j2 rfl rfl rfl rfl rfl (fun h26 => ?_) (fun h26 => ?_)
      · exact KE j _ hj (by first | exact Or.inl rfl | exact Or.inr rfl) K
      · exact absurd (nf_gt (by omega) (by omega) h26) (by omega)
  | m + 1, u, j, L1, hu, hu2, hj, hL1, KE, K => by
    have eP : Pc F X (64 * t + u) = if (F (16 * (X * 4 + t) + 0)).testBit (u - 1) = true then 1 else 0 := by
      unfold Pc
      rw [show (64 * t + u) % 64 = u by omega, show (64 * t + u) / 64 = t by omega]
      by_cases z : (F (16 * (X * 4 + t) + 0)).testBit (u - 1) = true
      · rw [if_pos ⟨by omega, hu2, z⟩, if_pos z]
      · rw [if_neg (fun y => z y.2.2), if_neg z]
    rw [show 256 - (64 * t + u) = (256 - (64 * t + (u + 1))) + 1 by omega] at K
    unfold fn at K
    rw [eP] at K
    rcases hL1 with rfl | rfl
    all_goals
      refine xr_stp rfl rfl rfl rfl ?_
      refine xr_stp (st' := .int (Int32.ofNat 63) :: _) rfl rfl rfl rfl ?_
      refine xr_j2 rfl rfl rfl rfl rfl (fun h26 => ?_) (fun h26 => ?_)
      · exact absurd (nt_gt (by omega) (by omega) h26) (by omega)
      · refine xr_stp rfl rfl rfl rfl ?_
        refine xr_stp rfl rfl rfl rfl ?_
        refine xr_stp rfl rfl rfl rfl ?_
        refine xr_stp rfl rfl rfl rfl ?_
        refine xr_vcps hw.2 rfl rfl rfl rfl rfl rfl (fun r1 K2 => n_kn _ _ _ b W F L hw hb hl hR X t u hX ht (by omega) (by omega) (hf _ ht) r1 (K2 _ _ _ _ ?_))
        refine xr_j1 rfl rfl rfl rfl rfl (fun h38 => ?_) (fun h38 => ?_)
        · have e38 : ¬ (F (16 * (X * 4 + t) + 0)).testBit (u - 1) = true := fun z => by rw [if_pos z] at h38; exact absurd (nt1_eq (by omega) h38) (by omega)
          rw [if_neg e38, if_pos rfl] at K
          refine xs_inc (e := 1) rfl rfl rfl rfl ?_
          refine xr_stp rfl rfl rfl rfl ?_
          first
            | exact n_nclI d c s b W F L hw hb hl hR X n t hX hn ht hf r m (u + 1) j _ (by omega) (by omega) (by omega) (by first | exact Or.inl rfl | exact Or.inr rfl) KE (by rw [show 64 * t + (u + 1) = 64 * t + u + 1 by omega] at K ⊢; exact K)
            | exact n_nclI d c s b W F L hw hb hl hR X n t hX hn ht hf r m (u + 1) (j + 1) _ (by omega) (by omega) (by omega) (by first | exact Or.inl rfl | exact Or.inr rfl) KE (by rw [show 64 * t + (u + 1) = 64 * t + u + 1 by omega] at K ⊢; exact K)
        · have e38 : (F (16 * (X * 4 + t) + 0)).testBit (u - 1) = true := by
            by_cases z : (F (16 * (X * 4 + t) + 0)).testBit (u - 1) = true
            · exact z
            · rw [if_neg z] at h38; exact absurd rfl (nf1_eq h38)
          rw [if_pos e38, if_neg (by omega)] at K
          refine xr_stp rfl rfl rfl rfl ?_
          refine xr_stp rfl rfl rfl rfl ?_
          refine xr_j2 rfl rfl rfl rfl rfl (fun h43 => ?_) (fun h43 => ?_)
          · rw [if_neg (nt_ne h43)] at K
            refine xs_inc (e := 1) rfl rfl rfl rfl ?_
            refine xs_inc (e := 1) rfl rfl rfl rfl ?_
            refine xr_stp rfl rfl rfl rfl ?_
            first
              | exact n_nclI d c s b W F L hw hb hl hR X n t hX hn ht hf r m (u + 1) j _ (by omega) (by omega) (by omega) (by first | exact Or.inl rfl | exact Or.inr rfl) KE (by rw [show 64 * t + (u + 1) = 64 * t + u + 1 by omega] at K ⊢; exact K)
              | exact n_nclI d c s b W F L hw hb hl hR X n t hX hn ht hf r m (u + 1) (j + 1) _ (by omega) (by omega) (by omega) (by first | exact Or.inl rfl | exact Or.inr rfl) KE (by rw [show 64 * t + (u + 1) = 64 * t + u + 1 by omega] at K ⊢; exact K)
          · rw [if_pos (nf_ne (by omega) (by omega) h43)] at K
            refine xr_stp rfl rfl rfl rfl ?_
            refine xr_stp (st' := .int (Int32.ofNat 64) :: _) rfl rfl rfl rfl ?_
            refine xs_mul rfl ?_
            refine xr_stp rfl rfl rfl rfl ?_
            refine xs_add rfl ?_
            rw [show t * 64 + u = 64 * t + u by omega]
            exact xr_ret rfl rfl K
theorem n_nclL (d c s b : Nat) (W : xi_W) (F : Nat → Nat) (L : List Value) (hw : kw W b F) (hb : wb b) (hl : 687 ≤ W.length) (hR : W[355]? = some (.inr (2, L))) (X n : Nat) (hX : X < 55) (hn : n < 2147483648) (hf : ∀ t, t < 4 → F (16 * (X * 4 + t) + 0) < 4611686018427387904) (r : xi_R → Prop) : ∀ (m t j : Nat) (L1 : xi_L), t + m = 4 → j ≤ 64 * t → (L1 = [(4, .int (Int32.ofNat t)), (3, .int (Int32.ofNat j)), (0, .ref (b + 1)), (1, .int (Int32.ofNat X)), (2, .int (Int32.ofNat n))] ∨ ∃ e1, L1 = [(4, .int (Int32.ofNat t)), (5, .int e1), (3, .int (Int32.ofNat j)), (0, .ref (b + 1)), (1, .int (Int32.ofNat X)), (2, .int (Int32.ofNat n))]) → r (some (.int (Int32.ofNat (fn (Pc F X) n (256 - 64 * t) (64 * t) j))), W, c, s) → xr (d + 2) 26 5 L1 [] W c s r
  | 0, t, j, L1, ht, hj, hL1, K => by
    obtain rfl : t = 4 := by omega
    rcases hL1 with rfl | ⟨_, rfl⟩
    all_goals
      refine xr_stp rfl rfl rfl rfl ?_
      refine xr_stp (st' := .int (Int32.ofNat 4) :: _) rfl rfl rfl rfl ?_
      refine xr_j2 rfl rfl rfl rfl rfl (fun h8 => ?_) (fun h8 => ?_)
      · refine xr_stp (st' := .int (Int32.ofNat 4294967295) :: _) rfl rfl rfl rfl ?_
        exact xr_ret rfl rfl K
      · exact absurd (nf_ge (by omega) (by omega) h8) (by omega)
  | m + 1, t, j, L1, ht, hj, hL1, K => by
    have ht4 : t < 4 := by omega
    have q := tr_le 62 (F (16 * (X * 4 + t) + 0))
    have e : fn (Pc F X) n (256 - 64 * t) (64 * t) j = fn (Pc F X) n (256 - (64 * t + (tr 62 (F (16 * (X * 4 + t) + 0)) + 1))) (64 * t + (tr 62 (F (16 * (X * 4 + t) + 0)) + 1)) j := by
      rw [show 256 - 64 * t = (tr 62 (F (16 * (X * 4 + t) + 0)) + 1) + (256 - (64 * t + (tr 62 (F (16 * (X * 4 + t) + 0)) + 1))) by omega]
      refine fn_skip n _ _ _ _ (fun u h1 h2 => ?_)
      unfold Pc
      rw [show u / 64 = t by omega, if_neg (by omega)]
    rw [e] at K
    rcases hL1 with rfl | ⟨_, rfl⟩
    all_goals
      refine xr_stp rfl rfl rfl rfl ?_
      refine xr_stp (st' := .int (Int32.ofNat 4) :: _) rfl rfl rfl rfl ?_
      refine xr_j2 rfl rfl rfl rfl rfl (fun h8 => ?_) (fun h8 => ?_)
      · exact absurd (nt_ge (by omega) (by omega) h8) (by omega)
      · refine xr_stp rfl rfl rfl rfl ?_
        refine xr_stp rfl rfl rfl rfl ?_
        refine xr_stp rfl rfl rfl rfl ?_
        refine xr_vcps hw.2 rfl rfl rfl rfl rfl rfl (fun r1 K2 => n_vec _ _ _ b W F L hw hb hl hR X t hX (by omega) (hf _ (by omega)) r1 (K2 _ _ _ _ ?_))
        refine xr_stp (st' := .int (Int32.ofNat 1) :: _) rfl rfl rfl rfl ?_
        refine xs_add rfl ?_
        refine xr_stp rfl rfl rfl rfl ?_
        refine n_nclI d c s b W F L hw hb hl hR X n t hX hn ht4 hf r (63 - tr 62 (F (16 * (X * 4 + t) + 0))) _ j _ (by omega) (by omega) (by omega) (Or.inl rfl) (fun j2 L2 hj2 hL2 K3 => ?_) K
        rcases hL2 with rfl | rfl
        all_goals
          refine xs_inc (e := 1) rfl rfl rfl rfl ?_
          refine xr_stp rfl rfl rfl rfl ?_
          exact n_nclL d c s b W F L hw hb hl hR X n hX hn hf r m (t + 1) j2 _ (by omega) (by omega) (Or.inr ⟨_, rfl⟩) K3
/-- 'nthClouded' -/
theorem n_ncl (d c s b : Nat) (W : xi_W) (F : Nat → Nat) (L : List Value) (hw : kw W b F) (hb : wb b) (hl : 687 ≤ W.length) (hR : W[355]? = some (.inr (2, L))) (X n : Nat) (hX : X < 55) (hn : n < 2147483648) (hf : ∀ t, t < 4 → F (16 * (X * 4 + t) + 0) < 4611686018427387904) (r : xi_R → Prop) (K : r (some (.int (Int32.ofNat (fn (Pc F X) n 256 0 0))), W, c, s)) : xr (d + 2) 26 0 [(0, .ref (b + 1)), (1, .int (Int32.ofNat X)), (2, .int (Int32.ofNat n))] [] W c s r := by
  refine xr_stp (st' := .int (Int32.ofNat 0) :: _) rfl rfl rfl rfl ?_
  refine xr_stp rfl rfl rfl rfl ?_
  refine xr_stp (st' := .int (Int32.ofNat 0) :: _) rfl rfl rfl rfl ?_
  refine xr_stp rfl rfl rfl rfl ?_
  exact n_nclL d c s b W F L hw hb hl hR X n hX hn hf r 4 0 0 _ rfl (by omega) (Or.inl rfl) K
/-- whether nobody has anything to send -/
def qz (G : Nat → Nat) : Nat → Nat → Nat
  | 0, _ => 1
  | m + 1, k => if k / 4 ≠ k % 4 ∧ lw_be G (k / 4) (k % 4) ≠ 0 then 0 else qz G m (k + 1)
def qu (G : Nat → Nat) : Nat := if G 410 = 0 then qz G 16 0 else 0
theorem qz_iff (G : Nat → Nat) : ∀ (m k : Nat), k + m = 16 → (qz G m k = 1 ∨ qz G m k = 0) ∧ (qz G m k = 1 ↔ ∀ i, k ≤ i → i < 16 → i / 4 ≠ i % 4 → lw_be G (i / 4) (i % 4) = 0)
  | 0, k, hk => ⟨Or.inl rfl, ⟨fun _ i h1 h2 => by omega, fun _ => rfl⟩⟩
  | m + 1, k, hk => by
    unfold qz
    obtain ⟨i1, i2⟩ := qz_iff G m (k + 1) (by omega)
    by_cases z : k / 4 ≠ k % 4 ∧ lw_be G (k / 4) (k % 4) ≠ 0
    · rw [if_pos z]
      exact ⟨Or.inr rfl, ⟨fun h => by omega, fun h => absurd (h k (by omega) (by omega) z.1) z.2⟩⟩
    · rw [if_neg z]
      refine ⟨i1, i2.trans ⟨fun h i h1 h2 h3 => ?_, fun h i h1 h2 h3 => h i (by omega) h2 h3⟩⟩
      by_cases y : i = k
      · subst y
        by_cases x : lw_be G (i / 4) (i % 4) = 0
        · exact x
        · exact absurd ⟨h3, x⟩ z
      · exact h i (by omega) h2 h3
theorem qu_iff (G : Nat → Nat) : (qu G = 1 ∨ qu G = 0) ∧ (qu G = 1 ↔ G 410 = 0 ∧ ∀ u t, u < 4 → t < 4 → u ≠ t → lw_be G u t = 0) := by
  obtain ⟨i1, i2⟩ := qz_iff G 16 0 rfl
  unfold qu
  by_cases z : G 410 = 0
  · rw [if_pos z]
    refine ⟨i1, i2.trans ⟨fun h => ⟨z, fun u t hu ht hut => ?_⟩, fun h i _ h2 h3 => h.2 _ _ (by omega) (by omega) h3⟩⟩
    have := h (4 * u + t) (by omega) (by omega)
    rw [show (4 * u + t) / 4 = u by omega, show (4 * u + t) % 4 = t by omega] at this
    exact this hut
  · rw [if_neg z]
    exact ⟨Or.inr rfl, ⟨fun h => by omega, fun h => absurd h.1 z⟩⟩
theorem kl_qzL (d c s b : Nat) (W : xi_W) (F : Nat → Nat) (L : List Value) (hw : kw W b F) (hb : wb b) (hl : 687 ≤ W.length) (hR : W[355]? = some (.inr (2, L))) (lo N : Nat) (G : Nat → Nat) (h : RL lo N G F) (hN : N < 1000000) (r : xi_R → Prop) : ∀ (m k : Nat) (L1 : xi_L), k + m = 16 → (L1 = [(1, .int (Int32.ofNat k)), (0, .ref b)] ∨ ∃ e1 e2, L1 = [(1, .int (Int32.ofNat k)), (3, .int e1), (2, .int e2), (0, .ref b)]) → r (some (.int (Int32.ofNat (qz G m k))), W, c, s) → xr (d + 2) 85 11 L1 [] W c s r
  | 0, k, L1, hk, hL1, K => by
    obtain rfl : k = 16 := by omega
    rcases hL1 with rfl | ⟨_, _, rfl⟩
    all_goals
      refine xr_stp rfl rfl rfl rfl ?_
      refine xr_stp rfl rfl rfl rfl ?_
      refine xr_getfield (hw.w hb hl hR) rfl rfl rfl rfl ?_
      refine xs_iln (hw.q hb hl hR) rfl ?_
      refine xr_j2 rfl rfl rfl rfl rfl (fun h17 => ?_) (fun h17 => ?_)
      · refine xr_stp (st' := .int (Int32.ofNat 1) :: _) rfl rfl rfl rfl ?_
        exact xr_retb (by omega) rfl rfl K
      · exact absurd (nf_ge (by omega) (by omega) h17) (by omega)
  | m + 1, k, L1, hk, hL1, K => by
    unfold qz at K
    have hu : k / 4 < 4 := by omega
    have hC := h.1.2.2.2.2.1 _ hu
    have hct := h.j.c _ hu
    have hA := h.j.a _ (k % 4) hu (by omega)
    have hq3 := hC.2.2 (k % 4) (by omega)
    have hbe : (if F (16 * (k / 4 * 4 + k % 4) + 3) < F (16 * (k / 4) + 4) then 1 else 0) = if lw_be G (k / 4) (k % 4) = 0 then 0 else 1 := by
      rw [hq3, hC.1]
      unfold lw_be
      by_cases z : G (346 + 4 * (k / 4) + k % 4) < G (338 + k / 4)
      · rw [if_pos z, if_neg (by omega)]
      · rw [if_neg z, if_pos (by omega)]
    rcases hL1 with rfl | ⟨_, _, rfl⟩
    all_goals
      refine xr_stp rfl rfl rfl rfl ?_
      refine xr_stp rfl rfl rfl rfl ?_
      refine xr_getfield (hw.w hb hl hR) rfl rfl rfl rfl ?_
      refine xs_iln (hw.q hb hl hR) rfl ?_
      refine xr_j2 rfl rfl rfl rfl rfl (fun h17 => ?_) (fun h17 => ?_)
      · exact absurd (nt_ge (by omega) (by omega) h17) (by omega)
      · refine xr_stp rfl rfl rfl rfl ?_
        refine xr_stp (st' := .int (Int32.ofNat 4) :: _) rfl rfl rfl rfl ?_
        refine xs_div (by omega) (by omega) (by omega) rfl ?_
        refine xr_stp rfl rfl rfl rfl ?_
        refine xr_stp rfl rfl rfl rfl ?_
        refine xr_stp (st' := .int (Int32.ofNat 4) :: _) rfl rfl rfl rfl ?_
        refine xs_mod (by omega) (by omega) (by omega) rfl ?_
        refine xr_stp rfl rfl rfl rfl ?_
        refine xr_stp rfl rfl rfl rfl ?_
        refine xr_stp rfl rfl rfl rfl ?_
        refine xr_j2 rfl rfl rfl rfl rfl (fun h30 => ?_) (fun h30 => ?_)
        · have e30 := nt_eq (by omega) (by omega) h30
          rw [if_neg (fun z => z.1 e30)] at K
          refine xs_inc (e := 1) rfl rfl rfl rfl ?_
          refine xr_stp rfl rfl rfl rfl ?_
          exact kl_qzL d c s b W F L hw hb hl hR lo N G h hN r m (k + 1) _ (by omega) (by first | exact Or.inl rfl | exact Or.inr ⟨_, _, rfl⟩) K
        · have e30 := nf_eq h30
          refine xr_stp rfl rfl rfl rfl ?_
          refine xr_stp rfl rfl rfl rfl ?_
          refine xr_stp rfl rfl rfl rfl ?_
          refine xr_vcps (hw.w hb hl hR) rfl rfl rfl rfl rfl rfl (fun r1 K2 => xr_kw0 hw (cn_hasNews (hw.B hb hl hR) d F _ _ (k / 4) (k % 4) hu (by omega) (by omega) (by omega)) (K2 _ _ _ _ ?_))
          rw [hbe]
          refine xr_j1 rfl rfl rfl rfl rfl (fun h39 => ?_) (fun h39 => ?_)
          · have e39 : lw_be G (k / 4) (k % 4) = 0 := by
              by_cases z : lw_be G (k / 4) (k % 4) = 0
              · exact z
              · rw [if_neg z] at h39; exact absurd (nt1_eq (by omega) h39) (by omega)
            rw [if_neg (fun z => z.2 e39)] at K
            refine xs_inc (e := 1) rfl rfl rfl rfl ?_
            refine xr_stp rfl rfl rfl rfl ?_
            exact kl_qzL d c s b W F L hw hb hl hR lo N G h hN r m (k + 1) _ (by omega) (by first | exact Or.inl rfl | exact Or.inr ⟨_, _, rfl⟩) K
          · have e39 : lw_be G (k / 4) (k % 4) ≠ 0 := fun z => by rw [if_pos z] at h39; exact absurd rfl (nf1_eq h39)
            rw [if_pos ⟨e30, e39⟩] at K
            refine xr_stp (st' := .int (Int32.ofNat 0) :: _) rfl rfl rfl rfl ?_
            exact xr_retb (by omega) rfl rfl K
/-- 'isQuiet' -/
theorem kl_quiet (d c s b : Nat) (W : xi_W) (F : Nat → Nat) (L : List Value) (hw : kw W b F) (hb : wb b) (hl : 687 ≤ W.length) (hR : W[355]? = some (.inr (2, L))) (lo N : Nat) (G : Nat → Nat) (h : RL lo N G F) (hN : N < 1000000) (r : xi_R → Prop) (K : r (some (.int (Int32.ofNat (qu G))), W, c, s)) : xr (d + 2) 85 0 [(0, .ref b)] [] W c s r := by
  have F8 := h.1.2.2.2.2.2.2.2.1.1
  have m24 := h.j.m
  unfold qu at K
  refine xr_stp rfl rfl rfl rfl ?_
  refine xr_getfield (hw.w hb hl hR) rfl rfl rfl rfl ?_
  refine xr_j1 rfl rfl rfl rfl rfl (fun h4 => ?_) (fun h4 => ?_)
  · have e4 := nt1_le (by omega) h4
    rw [if_pos (by omega)] at K
    refine xr_stp (st' := .int (Int32.ofNat 0) :: _) rfl rfl rfl rfl ?_
    refine xr_stp rfl rfl rfl rfl ?_
    exact kl_qzL d c s b W F L hw hb hl hR lo N G h hN r 16 0 _ rfl (Or.inl rfl) K
  · have e4 := nf1_le (by omega) h4
    rw [if_neg (by omega)] at K
    refine xr_stp (st' := .int (Int32.ofNat 0) :: _) rfl rfl rfl rfl ?_
    exact xr_retb (by omega) rfl rfl K
