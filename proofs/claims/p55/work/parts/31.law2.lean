/-! the law's methods over its world's numbers -/
theorem n_lt0 {off : Int} {a : Nat} (h : xg_t1 (.ifCond .lt off) (Int32.ofNat a) = true) : ¬ a < 2147483648 := fun ha => by
  have h2 : Int32.ofNat a < 0 := of_decide_eq_true h
  have := (n_lt (a := a) (b := 0) ha (by omega)).mp h2
  omega
/-- the book's eldest go -/
def lw_tc : Nat → Nat → (Nat → Nat) → (Nat → Nat)
  | 0, _, G => G
  | m + 1, k, G => lw_tc m (k + 1) (xn_u G (604 + k) (G (1404 + k)))
def lw_t1 (G : Nat → Nat) : Nat → Nat := if G 603 = 300 then xn_u (lw_tc 400 0 G) 603 100 else G
def lw_t2 (G : Nat → Nat) (q a b : Nat) : Nat → Nat := xn_u (xn_u (xn_u (xn_u G (604 + 4 * G 603) (G 0)) (604 + 4 * G 603 + 1) q) (604 + 4 * G 603 + 2) a) (604 + 4 * G 603 + 3) b
def lw_t3 (G : Nat → Nat) (q a b : Nat) : Nat → Nat := xn_u (lw_t2 G q a b) 603 (lw_t2 G q a b 603 + 1)
/-- a line of the book -/
def lw_ts (G : Nat → Nat) (q a b : Nat) : Nat → Nat := lw_t3 (lw_t1 G) q a b
theorem lw_tcL (d c s A : Nat) (hg : 17 ≤ A) (q a b : Nat) (r : xi_R → Prop) : ∀ (m k : Nat) (G : Nat → Nat) (W : xi_W), k + m = 400 → W[A]? = some (lw_a 1804 G) → (∀ W', W'[A]? = some (lw_a 1804 (lw_tc m k G)) → fr (· = A) W W' → xr d 184 45 [(4, .int (Int32.ofNat 400)), (0, .ref A), (1, .int (Int32.ofNat q)), (2, .int (Int32.ofNat a)), (3, .int (Int32.ofNat b))] [] W' c s r) → xr d 184 15 [(4, .int (Int32.ofNat k)), (0, .ref A), (1, .int (Int32.ofNat q)), (2, .int (Int32.ofNat a)), (3, .int (Int32.ofNat b))] [] W c s r
  | 0, k, G, W, hm, hw, K => by
    obtain rfl : k = 400 := by omega
    refine xr_stp rfl rfl rfl rfl ?_
    refine xr_stp (st' := .int (Int32.ofNat 400) :: _) rfl rfl rfl rfl ?_
    refine xr_j2 rfl rfl rfl rfl rfl (fun h20 => ?_) (fun h20 => ?_)
    · exact K _ hw fr.rf
    · exact absurd (nf_ge (by omega) (by omega) h20) (by omega)
  | m + 1, k, G, W, hm, hw, K => by
    have hF : fr (· = A) W W := fr.rf
    refine xr_stp rfl rfl rfl rfl ?_
    refine xr_stp (st' := .int (Int32.ofNat 400) :: _) rfl rfl rfl rfl ?_
    refine xr_j2 rfl rfl rfl rfl rfl (fun h20 => ?_) (fun h20 => ?_)
    · exact absurd (nt_ge (by omega) (by omega) h20) (by omega)
    · refine xr_stp rfl rfl rfl rfl ?_
      refine xr_stp (st' := .int (Int32.ofNat 604) :: _) rfl rfl rfl rfl ?_
      refine xr_stp rfl rfl rfl rfl ?_
      refine xs_add rfl ?_
      refine xr_stp rfl rfl rfl rfl ?_
      refine xr_stp (st' := .int (Int32.ofNat 1404) :: _) rfl rfl rfl rfl ?_
      refine xr_stp rfl rfl rfl rfl ?_
      refine xs_add rfl ?_
      refine xs_ald hw hg (by omega) (by omega) rfl ?_
      refine xs_astk hw hg (by omega) (by omega) rfl (fun W hw hf1 => ?_)
      have hF := hF.tr2 hf1 (fun _ e => Or.inl e)
      refine xs_inc (e := 1) rfl rfl rfl rfl ?_
      refine xr_stp rfl rfl rfl rfl ?_
      exact lw_tcL d c s A hg q a b r m (k + 1) _ _ (by omega) hw (fun W2 h1 h2 => K W2 h1 (hF.tr h2))
theorem lw_tells2 (d c s A : Nat) (W : xi_W) (G : Nat → Nat) (hw : W[A]? = some (lw_a 1804 G)) (hg : 17 ≤ A) (q a b : Nat) (hq : q < 2147483648) (ha : a < 2147483648) (hb : b < 2147483648) (h6 : G 603 < 300) (L : xi_L) (hL : L = [(0, .ref A), (1, .int (Int32.ofNat q)), (2, .int (Int32.ofNat a)), (3, .int (Int32.ofNat b))] ∨ L = [(4, .int (Int32.ofNat 400)), (0, .ref A), (1, .int (Int32.ofNat q)), (2, .int (Int32.ofNat a)), (3, .int (Int32.ofNat b))]) (r : xi_R → Prop) (k : ∀ W', W'[A]? = some (lw_a 1804 (lw_t3 G q a b)) → fr (· = A) W W' → r (none, W', c, s)) : xr d 184 53 L [] W c s r := by
  have hF : fr (· = A) W W := fr.rf
  have e6 : lw_t2 G q a b 603 = G 603 := by
    unfold lw_t2
    rw [xn_un _ _ (by omega), xn_un _ _ (by omega), xn_un _ _ (by omega), xn_un _ _ (by omega)]
  rcases hL with rfl | rfl
  all_goals
    refine xr_stp (st' := .int (Int32.ofNat 604) :: _) rfl rfl rfl rfl ?_
    refine xr_stp (st' := .int (Int32.ofNat 4) :: _) rfl rfl rfl rfl ?_
    refine xr_stp rfl rfl rfl rfl ?_
    refine xr_stp (st' := .int (Int32.ofNat 603) :: _) rfl rfl rfl rfl ?_
    refine xs_ald hw hg (by omega) (by omega) rfl ?_
    refine xs_l2i rfl ?_
    refine xs_mul rfl ?_
    refine xs_add rfl ?_
    refine xr_stp rfl rfl rfl rfl ?_
    refine xr_stp rfl rfl rfl rfl ?_
    refine xr_stp rfl rfl rfl rfl ?_
    refine xr_stp rfl rfl rfl rfl ?_
    refine xr_stp (st' := .int (Int32.ofNat 0) :: _) rfl rfl rfl rfl ?_
    refine xs_ald hw hg (by omega) (by omega) rfl ?_
    refine xs_astk hw hg (by omega) (by omega) rfl (fun W hw hf1 => ?_)
    have hF := hF.tr2 hf1 (fun _ e => Or.inl e)
    refine xr_stp rfl rfl rfl rfl ?_
    refine xr_stp rfl rfl rfl rfl ?_
    refine xr_stp (st' := .int (Int32.ofNat 1) :: _) rfl rfl rfl rfl ?_
    refine xs_add rfl ?_
    refine xr_stp rfl rfl rfl rfl ?_
    refine xs_i2l (by omega) rfl ?_
    refine xs_astk hw hg (by omega) (by omega) rfl (fun W hw hf1 => ?_)
    have hF := hF.tr2 hf1 (fun _ e => Or.inl e)
    refine xr_stp rfl rfl rfl rfl ?_
    refine xr_stp rfl rfl rfl rfl ?_
    refine xr_stp (st' := .int (Int32.ofNat 2) :: _) rfl rfl rfl rfl ?_
    refine xs_add rfl ?_
    refine xr_stp rfl rfl rfl rfl ?_
    refine xs_i2l (by omega) rfl ?_
    refine xs_astk hw hg (by omega) (by omega) rfl (fun W hw hf1 => ?_)
    have hF := hF.tr2 hf1 (fun _ e => Or.inl e)
    refine xr_stp rfl rfl rfl rfl ?_
    refine xr_stp rfl rfl rfl rfl ?_
    refine xr_stp (st' := .int (Int32.ofNat 3) :: _) rfl rfl rfl rfl ?_
    refine xs_add rfl ?_
    refine xr_stp rfl rfl rfl rfl ?_
    refine xs_i2l (by omega) rfl ?_
    refine xs_astk hw hg (by omega) (by omega) rfl (fun W hw hf1 => ?_)
    have hF := hF.tr2 hf1 (fun _ e => Or.inl e)
    refine xr_stp rfl rfl rfl rfl ?_
    refine xr_stp (st' := .int (Int32.ofNat 603) :: _) rfl rfl rfl rfl ?_
    refine xr_stp rfl rfl rfl rfl ?_
    refine xs_ald hw hg (by omega) (by omega) rfl ?_
    refine xr_stp (st' := .long (Int64.ofNat 1) :: _) rfl rfl rfl rfl ?_
    refine xs_ladd rfl ?_
    refine xs_astk hw hg (by omega) (by omega) rfl (fun W hw hf1 => ?_)
    have hF := hF.tr2 hf1 (fun _ e => Or.inl e)
    exact xr_ret rfl rfl (k _ hw hF)
theorem lw_tells (d c s A : Nat) (W : xi_W) (G : Nat → Nat) (hw : W[A]? = some (lw_a 1804 G)) (hg : 17 ≤ A) (q a b : Nat) (hq : q < 2147483648) (ha : a < 2147483648) (hb : b < 2147483648) (h6 : G 603 ≤ 300) (r : xi_R → Prop) (k : ∀ W', W'[A]? = some (lw_a 1804 (lw_ts G q a b)) → fr (· = A) W W' → r (none, W', c, s)) : xr d 184 0 [(0, .ref A), (1, .int (Int32.ofNat q)), (2, .int (Int32.ofNat a)), (3, .int (Int32.ofNat b))] [] W c s r := by
  unfold lw_ts at k
  refine xr_stp rfl rfl rfl rfl ?_
  refine xr_stp (st' := .int (Int32.ofNat 603) :: _) rfl rfl rfl rfl ?_
  refine xs_ald hw hg (by omega) (by omega) rfl ?_
  refine xr_stp (st' := .long (Int64.ofNat 300) :: _) rfl rfl rfl rfl ?_
  refine xs_lc (by omega) (by omega) rfl ?_
  refine xr_j1 rfl rfl rfl rfl rfl (fun h9 => ?_) (fun h9 => ?_)
  · have e9 := lt_ne h9
    unfold lw_t1 at k
    rw [if_neg e9] at k
    exact lw_tells2 d c s A W G hw hg q a b hq ha hb (by omega) _ (Or.inl rfl) r k
  · have e9 := lf_ne h9
    unfold lw_t1 at k
    rw [if_pos e9] at k
    refine xr_stp (st' := .int (Int32.ofNat 0) :: _) rfl rfl rfl rfl ?_
    refine xr_stp rfl rfl rfl rfl ?_
    refine lw_tcL d c s A hg q a b r 400 0 G W rfl hw (fun W hw hF => ?_)
    refine xr_stp rfl rfl rfl rfl ?_
    refine xr_stp (st' := .int (Int32.ofNat 603) :: _) rfl rfl rfl rfl ?_
    refine xr_stp (st' := .long (Int64.ofNat 100) :: _) rfl rfl rfl rfl ?_
    refine xs_astk hw hg (by omega) (by omega) rfl (fun W hw hf1 => ?_)
    have hF := hF.tr2 hf1 (fun _ e => Or.inl e)
    exact lw_tells2 d c s A W _ hw hg q a b hq ha hb (by rw [xn_ue]; omega) _ (Or.inr rfl) r (fun W2 h1 h2 => k W2 h1 (hF.tr h2))
def lw_dc (a : Nat) : Nat → Nat → (Nat → Nat) → (Nat → Nat)
  | 0, _, G => G
  | m + 1, k, G => lw_dc a m (k + 1) (xn_u G (a + k) (G (a + k + 2)))
def lw_d1 (G : Nat → Nat) (t : Nat) : Nat → Nat := lw_dc (362 + 12 * t) (2 * (G (338 + t) - G (342 + t)) - 2) 0 G
/-- the eldest delta goes -/
def lw_dp (G : Nat → Nat) (t : Nat) : Nat → Nat := xn_u (lw_d1 G t) (342 + t) (lw_d1 G t (342 + t) + 1)
theorem lw_dcL (d c s A : Nat) (hg : 17 ≤ A) (t p : Nat) (ht : t < 4) (hp : 1 ≤ p) (hp6 : p ≤ 6) (r : xi_R → Prop) : ∀ (m k : Nat) (G : Nat → Nat) (W : xi_W), k + m = 2 * p - 2 → W[A]? = some (lw_a 1804 G) → (∀ W', W'[A]? = some (lw_a 1804 (lw_dc (362 + 12 * t) m k G)) → fr (· = A) W W' → xr d 186 59 [(4, .int (Int32.ofNat (2 * p - 2))), (3, .int (Int32.ofNat p)), (2, .int (Int32.ofNat (362 + 12 * t))), (0, .ref A), (1, .int (Int32.ofNat t))] [] W' c s r) → xr d 186 29 [(4, .int (Int32.ofNat k)), (3, .int (Int32.ofNat p)), (2, .int (Int32.ofNat (362 + 12 * t))), (0, .ref A), (1, .int (Int32.ofNat t))] [] W c s r
  | 0, k, G, W, hm, hw, K => by
    obtain rfl : k = 2 * p - 2 := by omega
    refine xr_stp rfl rfl rfl rfl ?_
    refine xr_stp (st' := .int (Int32.ofNat 2) :: _) rfl rfl rfl rfl ?_
    refine xr_stp rfl rfl rfl rfl ?_
    refine xs_mul rfl ?_
    refine xr_stp (st' := .int (Int32.ofNat 2) :: _) rfl rfl rfl rfl ?_
    refine xs_sub (by omega) rfl ?_
    refine xr_j2 rfl rfl rfl rfl rfl (fun h36 => ?_) (fun h36 => ?_)
    · exact K _ hw fr.rf
    · exact absurd (nf_ge (by omega) (by omega) h36) (by omega)
  | m + 1, k, G, W, hm, hw, K => by
    have hF : fr (· = A) W W := fr.rf
    refine xr_stp rfl rfl rfl rfl ?_
    refine xr_stp (st' := .int (Int32.ofNat 2) :: _) rfl rfl rfl rfl ?_
    refine xr_stp rfl rfl rfl rfl ?_
    refine xs_mul rfl ?_
    refine xr_stp (st' := .int (Int32.ofNat 2) :: _) rfl rfl rfl rfl ?_
    refine xs_sub (by omega) rfl ?_
    refine xr_j2 rfl rfl rfl rfl rfl (fun h36 => ?_) (fun h36 => ?_)
    · exact absurd (nt_ge (by omega) (by omega) h36) (by omega)
    · refine xr_stp rfl rfl rfl rfl ?_
      refine xr_stp rfl rfl rfl rfl ?_
      refine xr_stp rfl rfl rfl rfl ?_
      refine xs_add rfl ?_
      refine xr_stp rfl rfl rfl rfl ?_
      refine xr_stp rfl rfl rfl rfl ?_
      refine xr_stp rfl rfl rfl rfl ?_
      refine xs_add rfl ?_
      refine xr_stp (st' := .int (Int32.ofNat 2) :: _) rfl rfl rfl rfl ?_
      refine xs_add rfl ?_
      refine xs_ald hw hg (by omega) (by omega) rfl ?_
      refine xs_astk hw hg (by omega) (by omega) rfl (fun W hw hf1 => ?_)
      have hF := hF.tr2 hf1 (fun _ e => Or.inl e)
      refine xs_inc (e := 1) rfl rfl rfl rfl ?_
      refine xr_stp rfl rfl rfl rfl ?_
      exact lw_dcL d c s A hg t p ht hp hp6 r m (k + 1) _ _ (by omega) hw (fun W2 h1 h2 => K W2 h1 (hF.tr h2))
theorem lw_drops (d c s A : Nat) (W : xi_W) (G : Nat → Nat) (hw : W[A]? = some (lw_a 1804 G)) (hg : 17 ≤ A) (t : Nat) (ht : t < 4) (hp : G (342 + t) < G (338 + t)) (hp6 : G (338 + t) ≤ G (342 + t) + 6) (hb : G (338 + t) < 1000000) (r : xi_R → Prop) (k : ∀ W', W'[A]? = some (lw_a 1804 (lw_dp G t)) → fr (· = A) W W' → r (none, W', c, s)) : xr d 186 0 [(0, .ref A), (1, .int (Int32.ofNat t))] [] W c s r := by
  refine xr_stp (st' := .int (Int32.ofNat 362) :: _) rfl rfl rfl rfl ?_
  refine xr_stp (st' := .int (Int32.ofNat 12) :: _) rfl rfl rfl rfl ?_
  refine xr_stp rfl rfl rfl rfl ?_
  refine xs_mul rfl ?_
  refine xs_add rfl ?_
  refine xr_stp rfl rfl rfl rfl ?_
  refine xr_stp rfl rfl rfl rfl ?_
  refine xr_stp (st' := .int (Int32.ofNat 338) :: _) rfl rfl rfl rfl ?_
  refine xr_stp rfl rfl rfl rfl ?_
  refine xs_add rfl ?_
  refine xs_ald hw hg (by omega) (by omega) rfl ?_
  refine xr_stp rfl rfl rfl rfl ?_
  refine xr_stp (st' := .int (Int32.ofNat 342) :: _) rfl rfl rfl rfl ?_
  refine xr_stp rfl rfl rfl rfl ?_
  refine xs_add rfl ?_
  refine xs_ald hw hg (by omega) (by omega) rfl ?_
  refine xs_lsub (by omega) rfl ?_
  refine xs_l2i rfl ?_
  refine xr_stp rfl rfl rfl rfl ?_
  refine xr_stp (st' := .int (Int32.ofNat 0) :: _) rfl rfl rfl rfl ?_
  refine xr_stp rfl rfl rfl rfl ?_
  refine lw_dcL d c s A hg t (G (338 + t) - G (342 + t)) ht (by omega) (by omega) r (2 * (G (338 + t) - G (342 + t)) - 2) 0 G W (by omega) hw (fun W hw hF => ?_)
  change W[A]? = some (lw_a 1804 (lw_d1 G t)) at hw
  refine xr_stp rfl rfl rfl rfl ?_
  refine xr_stp (st' := .int (Int32.ofNat 342) :: _) rfl rfl rfl rfl ?_
  refine xr_stp rfl rfl rfl rfl ?_
  refine xs_add rfl ?_
  refine xr_stp rfl rfl rfl rfl ?_
  refine xs_ald hw hg (by omega) (by omega) rfl ?_
  refine xr_stp (st' := .long (Int64.ofNat 1) :: _) rfl rfl rfl rfl ?_
  refine xs_ladd rfl ?_
  refine xs_astk hw hg (by omega) (by omega) rfl (fun W hw hf1 => ?_)
  have hF := hF.tr2 hf1 (fun _ e => Or.inl e)
  exact xr_ret rfl rfl (k _ hw hF)
def lw_k0 (G : Nat → Nat) (t : Nat) : Nat → Nat := if G (338 + t) - G (342 + t) = 6 then lw_dp G t else G
def lw_k1 (G : Nat → Nat) (t h n : Nat) : Nat → Nat := xn_u (xn_u G (362 + 12 * t + 2 * (G (338 + t) - G (342 + t))) h) (362 + 12 * t + 2 * (G (338 + t) - G (342 + t)) + 1) n
def lw_k2 (G : Nat → Nat) (t h n : Nat) : Nat → Nat := xn_u (lw_k1 G t h n) (338 + t) (lw_k1 G t h n (338 + t) + 1)
def lw_k3 (G : Nat → Nat) (t h n : Nat) : Nat → Nat := xn_u (xn_u G (331 + 2 * t) (G (331 + 2 * t) ||| n)) (330 + 2 * t) (lw_j (G (330 + 2 * t)) (G (331 + 2 * t)) h n)
/-- a delta is taken, joined -/
def lw_tk (G : Nat → Nat) (t h n : Nat) : Nat → Nat := lw_k3 (lw_k2 (lw_k0 G t) t h n) t h n
theorem lw_takes2 (d c s A : Nat) (W : xi_W) (G : Nat → Nat) (hw : W[A]? = some (lw_a 1804 G)) (hg : 17 ≤ A) (t h n : Nat) (ht : t < 4) (hp : G (342 + t) ≤ G (338 + t)) (hp5 : G (338 + t) ≤ G (342 + t) + 5) (hb : G (338 + t) < 1000000) (r : xi_R → Prop) (k : ∀ W', W'[A]? = some (lw_a 1804 (lw_k3 (lw_k2 G t h n) t h n)) → fr (· = A) W W' → r (none, W', c, s)) : xr (d + 1) 187 27 [(0, .ref A), (1, .int (Int32.ofNat t)), (2, .long (Int64.ofNat h)), (4, .long (Int64.ofNat n))] [] W c s r := by
  have hF : fr (· = A) W W := fr.rf
  refine xr_stp (st' := .int (Int32.ofNat 362) :: _) rfl rfl rfl rfl ?_
  refine xr_stp (st' := .int (Int32.ofNat 12) :: _) rfl rfl rfl rfl ?_
  refine xr_stp rfl rfl rfl rfl ?_
  refine xs_mul rfl ?_
  refine xs_add rfl ?_
  refine xr_stp (st' := .int (Int32.ofNat 2) :: _) rfl rfl rfl rfl ?_
  refine xr_stp rfl rfl rfl rfl ?_
  refine xr_stp (st' := .int (Int32.ofNat 338) :: _) rfl rfl rfl rfl ?_
  refine xr_stp rfl rfl rfl rfl ?_
  refine xs_add rfl ?_
  refine xs_ald hw hg (by omega) (by omega) rfl ?_
  refine xr_stp rfl rfl rfl rfl ?_
  refine xr_stp (st' := .int (Int32.ofNat 342) :: _) rfl rfl rfl rfl ?_
  refine xr_stp rfl rfl rfl rfl ?_
  refine xs_add rfl ?_
  refine xs_ald hw hg (by omega) (by omega) rfl ?_
  refine xs_lsub (by omega) rfl ?_
  refine xs_l2i rfl ?_
  refine xs_mul rfl ?_
  refine xs_add rfl ?_
  refine xr_stp rfl rfl rfl rfl ?_
  refine xr_stp rfl rfl rfl rfl ?_
  refine xr_stp rfl rfl rfl rfl ?_
  refine xr_stp rfl rfl rfl rfl ?_
  refine xs_astk hw hg (by omega) (by omega) rfl (fun W hw hf1 => ?_)
  have hF := hF.tr2 hf1 (fun _ e => Or.inl e)
  refine xr_stp rfl rfl rfl rfl ?_
  refine xr_stp rfl rfl rfl rfl ?_
  refine xr_stp (st' := .int (Int32.ofNat 1) :: _) rfl rfl rfl rfl ?_
  refine xs_add rfl ?_
  refine xr_stp rfl rfl rfl rfl ?_
  refine xs_astk hw hg (by omega) (by omega) rfl (fun W hw hf1 => ?_)
  have hF := hF.tr2 hf1 (fun _ e => Or.inl e)
  refine xr_stp rfl rfl rfl rfl ?_
  refine xr_stp (st' := .int (Int32.ofNat 338) :: _) rfl rfl rfl rfl ?_
  refine xr_stp rfl rfl rfl rfl ?_
  refine xs_add rfl ?_
  refine xr_stp rfl rfl rfl rfl ?_
  refine xs_ald hw hg (by omega) (by omega) rfl ?_
  refine xr_stp (st' := .long (Int64.ofNat 1) :: _) rfl rfl rfl rfl ?_
  refine xs_ladd rfl ?_
  refine xs_astk hw hg (by omega) (by omega) rfl (fun W hw hf1 => ?_)
  have hF := hF.tr2 hf1 (fun _ e => Or.inl e)
  refine xr_stp rfl rfl rfl rfl ?_
  refine xr_stp (st' := .int (Int32.ofNat 330) :: _) rfl rfl rfl rfl ?_
  refine xr_stp (st' := .int (Int32.ofNat 2) :: _) rfl rfl rfl rfl ?_
  refine xr_stp rfl rfl rfl rfl ?_
  refine xs_mul rfl ?_
  refine xs_add rfl ?_
  refine xs_ald hw hg (by omega) (by omega) rfl ?_
  refine xr_stp rfl rfl rfl rfl ?_
  refine xr_stp (st' := .int (Int32.ofNat 331) :: _) rfl rfl rfl rfl ?_
  refine xr_stp (st' := .int (Int32.ofNat 2) :: _) rfl rfl rfl rfl ?_
  refine xr_stp rfl rfl rfl rfl ?_
  refine xs_mul rfl ?_
  refine xs_add rfl ?_
  refine xs_ald hw hg (by omega) (by omega) rfl ?_
  refine xr_stp rfl rfl rfl rfl ?_
  refine xr_stp rfl rfl rfl rfl ?_
  refine xr_cps rfl rfl rfl (fun r1 K => lw_joins _ _ _ _ _ _ _ _ r1 (K _ _ _ _ ?_))
  refine xr_stp rfl rfl rfl rfl ?_
  refine xr_stp rfl rfl rfl rfl ?_
  refine xr_stp (st' := .int (Int32.ofNat 331) :: _) rfl rfl rfl rfl ?_
  refine xr_stp (st' := .int (Int32.ofNat 2) :: _) rfl rfl rfl rfl ?_
  refine xr_stp rfl rfl rfl rfl ?_
  refine xs_mul rfl ?_
  refine xs_add rfl ?_
  refine xr_stp rfl rfl rfl rfl ?_
  refine xs_ald hw hg (by omega) (by omega) rfl ?_
  refine xr_stp rfl rfl rfl rfl ?_
  refine xs_lor rfl ?_
  refine xs_astk hw hg (by omega) (by omega) rfl (fun W hw hf1 => ?_)
  have hF := hF.tr2 hf1 (fun _ e => Or.inl e)
  refine xr_stp rfl rfl rfl rfl ?_
  refine xr_stp (st' := .int (Int32.ofNat 330) :: _) rfl rfl rfl rfl ?_
  refine xr_stp (st' := .int (Int32.ofNat 2) :: _) rfl rfl rfl rfl ?_
  refine xr_stp rfl rfl rfl rfl ?_
  refine xs_mul rfl ?_
  refine xs_add rfl ?_
  refine xr_stp rfl rfl rfl rfl ?_
  refine xs_astk hw hg (by omega) (by omega) rfl (fun W hw hf1 => ?_)
  have hF := hF.tr2 hf1 (fun _ e => Or.inl e)
  exact xr_ret rfl rfl (k _ hw hF)
theorem lw_dco (a : Nat) : ∀ (m k : Nat) (G : Nat → Nat) (j : Nat), (j < a + k ∨ a + k + m ≤ j) → lw_dc a m k G j = G j
  | 0, _, _, _, _ => rfl
  | m + 1, k, G, j, h => by
    unfold lw_dc
    rw [lw_dco a m (k + 1) _ j (by omega), xn_un _ _ (by omega)]
theorem lw_d1o (G : Nat → Nat) (t : Nat) {j : Nat} (h : j < 362 + 12 * t) : lw_d1 G t j = G j := lw_dco _ _ _ _ _ (by omega)
theorem lw_dp2 (G : Nat → Nat) (t : Nat) : lw_dp G t (342 + t) = G (342 + t) + 1 := by unfold lw_dp; rw [xn_ue, lw_d1o G t (by omega)]
theorem lw_dp8 (G : Nat → Nat) (t : Nat) : lw_dp G t (338 + t) = G (338 + t) := by unfold lw_dp; rw [xn_un _ _ (by omega), lw_d1o G t (by omega)]
theorem lw_takes (d c s A : Nat) (W : xi_W) (G : Nat → Nat) (hw : W[A]? = some (lw_a 1804 G)) (hg : 17 ≤ A) (t h n : Nat) (ht : t < 4) (hp : G (342 + t) ≤ G (338 + t)) (hp6 : G (338 + t) ≤ G (342 + t) + 6) (hb : G (338 + t) < 1000000) (r : xi_R → Prop) (k : ∀ W', W'[A]? = some (lw_a 1804 (lw_tk G t h n)) → fr (· = A) W W' → r (none, W', c, s)) : xr (d + 1) 187 0 [(0, .ref A), (1, .int (Int32.ofNat t)), (2, .long (Int64.ofNat h)), (4, .long (Int64.ofNat n))] [] W c s r := by
  unfold lw_tk lw_k0 at k
  refine xr_stp rfl rfl rfl rfl ?_
  refine xr_stp (st' := .int (Int32.ofNat 338) :: _) rfl rfl rfl rfl ?_
  refine xr_stp rfl rfl rfl rfl ?_
  refine xs_add rfl ?_
  refine xs_ald hw hg (by omega) (by omega) rfl ?_
  refine xr_stp rfl rfl rfl rfl ?_
  refine xr_stp (st' := .int (Int32.ofNat 342) :: _) rfl rfl rfl rfl ?_
  refine xr_stp rfl rfl rfl rfl ?_
  refine xs_add rfl ?_
  refine xs_ald hw hg (by omega) (by omega) rfl ?_
  refine xs_lsub (by omega) rfl ?_
  refine xr_stp (st' := .long (Int64.ofNat 6) :: _) rfl rfl rfl rfl ?_
  refine xs_lc (by omega) (by omega) rfl ?_
  refine xr_j1 rfl rfl rfl rfl rfl (fun h19 => ?_) (fun h19 => ?_)
  · have e := lt_ne h19
    rw [if_neg e] at k
    exact lw_takes2 d c s A W G hw hg t h n ht (by omega) (by omega) (by omega) r k
  · have e := lf_ne h19
    rw [if_pos e] at k
    refine xr_stp rfl rfl rfl rfl ?_
    refine xr_stp rfl rfl rfl rfl ?_
    refine xr_cps rfl rfl rfl (fun r1 K => lw_drops _ _ _ A W G hw hg t ht (by omega) (by omega) (by omega) r1 (fun W hw hF => K _ _ _ _ ?_))
    exact lw_takes2 d c s A W _ hw hg t h n ht (by rw [lw_dp2, lw_dp8]; omega) (by rw [lw_dp2, lw_dp8]; omega) (by rw [lw_dp8]; omega) r (fun W2 h1 h2 => k W2 h1 (hF.tr h2))
/-- which of some entries have a key and a field (4294967295: any) -/
def lw_of (G : Nat → Nat) (b q f : Nat) : Nat → Nat → Nat → Nat
  | 0, _, x => x
  | m + 1, k, x => lw_of G b q f m (k + 1) (if b / 2 ^ k % 2 = 1 ∧ G (12 + 5 * k) = q ∧ (f = 4294967295 ∨ G (13 + 5 * k) = f) then x ||| 1 * 2 ^ k else x)
theorem lw_ofL (d c s A : Nat) (W : xi_W) (G : Nat → Nat) (hw : W[A]? = some (lw_a 1804 G)) (hg : 17 ≤ A) (hG : ∀ j, G j < 9223372036854775808) (h4 : G 4 ≤ 64) (b q f : Nat) (hb : b < 9223372036854775808) (hq : q < 4) (hf : f < 3 ∨ f = 4294967295) (r : xi_R → Prop) : ∀ (m k x : Nat), k + m = G 4 → r (some (.long (Int64.ofNat (lw_of G b q f m k x))), W, c, s) → xr (d + 1) 188 6 [(7, .int (Int32.ofNat k)), (5, .long (Int64.ofNat x)), (0, .ref A), (1, .long (Int64.ofNat b)), (3, .int (Int32.ofNat q)), (4, .int (Int32.ofNat f))] [] W c s r
  | 0, k, x, hm, K => by
    refine xr_stp rfl rfl rfl rfl ?_
    refine xs_i2l (by omega) rfl ?_
    refine xr_stp rfl rfl rfl rfl ?_
    refine xr_stp (st' := .int (Int32.ofNat 4) :: _) rfl rfl rfl rfl ?_
    refine xs_ald hw hg (by omega) (by omega) rfl ?_
    refine xs_lc (by omega) (by omega) rfl ?_
    refine xr_j1 rfl rfl rfl rfl rfl (fun h13 => ?_) (fun h13 => ?_)
    · refine xr_stp rfl rfl rfl rfl ?_
      exact xr_ret rfl rfl K
    · exact absurd (lf_ge h13) (by omega)
  | m + 1, k, x, hm, K => by
    unfold lw_of at K
    refine xr_stp rfl rfl rfl rfl ?_
    refine xs_i2l (by omega) rfl ?_
    refine xr_stp rfl rfl rfl rfl ?_
    refine xr_stp (st' := .int (Int32.ofNat 4) :: _) rfl rfl rfl rfl ?_
    refine xs_ald hw hg (by omega) (by omega) rfl ?_
    refine xs_lc (by omega) (by omega) rfl ?_
    refine xr_j1 rfl rfl rfl rfl rfl (fun h13 => ?_) (fun h13 => ?_)
    · exact absurd (lt_ge h13) (by omega)
    · refine xr_stp rfl rfl rfl rfl ?_
      refine xr_stp rfl rfl rfl rfl ?_
      refine xr_cps rfl rfl rfl (fun r1 K2 => lw_bit _ _ _ b k W hb (by omega) r1 (K2 _ _ _ _ ?_))
      refine xr_j1 rfl rfl rfl rfl rfl (fun h22 => ?_) (fun h22 => ?_)
      · have e22 := nt1_eq (by omega) h22
        refine xs_inc (e := 1) rfl rfl rfl rfl ?_
        refine xr_stp rfl rfl rfl rfl ?_
        first
          | exact lw_ofL d c s A W G hw hg hG h4 b q f hb hq hf r m (k + 1) _ (by omega) (by rw [if_neg (by omega)] at K; exact K)
          | exact lw_ofL d c s A W G hw hg hG h4 b q f hb hq hf r m (k + 1) _ (by omega) (by rw [if_pos (by omega)] at K; exact K)
      · have e22 := nf1_eq h22
        refine xr_stp rfl rfl rfl rfl ?_
        refine xr_stp (st' := .int (Int32.ofNat 12) :: _) rfl rfl rfl rfl ?_
        refine xr_stp (st' := .int (Int32.ofNat 5) :: _) rfl rfl rfl rfl ?_
        refine xr_stp rfl rfl rfl rfl ?_
        refine xs_mul rfl ?_
        refine xs_add rfl ?_
        refine xs_ald hw hg (by omega) (by omega) rfl ?_
        refine xr_stp rfl rfl rfl rfl ?_
        refine xs_i2l (by omega) rfl ?_
        refine xs_lc (by exact hG _) (by omega) rfl ?_
        refine xr_j1 rfl rfl rfl rfl rfl (fun h37 => ?_) (fun h37 => ?_)
        · have e37 := lt_ne h37
          refine xs_inc (e := 1) rfl rfl rfl rfl ?_
          refine xr_stp rfl rfl rfl rfl ?_
          first
            | exact lw_ofL d c s A W G hw hg hG h4 b q f hb hq hf r m (k + 1) _ (by omega) (by rw [if_neg (by omega)] at K; exact K)
            | exact lw_ofL d c s A W G hw hg hG h4 b q f hb hq hf r m (k + 1) _ (by omega) (by rw [if_pos (by omega)] at K; exact K)
        · have e37 := lf_ne h37
          refine xr_stp rfl rfl rfl rfl ?_
          refine xr_j1 rfl rfl rfl rfl rfl (fun h42 => ?_) (fun h42 => ?_)
          · have e42 : f = 4294967295 := hf.resolve_left (fun hf => n_lt0 h42 (by omega))
            refine xr_stp rfl rfl rfl rfl ?_
            refine xr_stp (st' := .long (Int64.ofNat 1) :: _) rfl rfl rfl rfl ?_
            refine xr_stp rfl rfl rfl rfl ?_
            refine xs_lshl (by omega) rfl ?_
            refine xs_lor rfl ?_
            refine xr_stp rfl rfl rfl rfl ?_
            refine xs_inc (e := 1) rfl rfl rfl rfl ?_
            refine xr_stp rfl rfl rfl rfl ?_
            first
              | exact lw_ofL d c s A W G hw hg hG h4 b q f hb hq hf r m (k + 1) _ (by omega) (by rw [if_neg (by omega)] at K; exact K)
              | exact lw_ofL d c s A W G hw hg hG h4 b q f hb hq hf r m (k + 1) _ (by omega) (by rw [if_pos (by omega)] at K; exact K)
          · have e42 : f < 3 := hf.resolve_right (fun hf => by rw [hf] at h42; exact absurd h42 (by decide +kernel))
            refine xr_stp rfl rfl rfl rfl ?_
            refine xr_stp (st' := .int (Int32.ofNat 13) :: _) rfl rfl rfl rfl ?_
            refine xr_stp (st' := .int (Int32.ofNat 5) :: _) rfl rfl rfl rfl ?_
            refine xr_stp rfl rfl rfl rfl ?_
            refine xs_mul rfl ?_
            refine xs_add rfl ?_
            refine xs_ald hw hg (by omega) (by omega) rfl ?_
            refine xr_stp rfl rfl rfl rfl ?_
            refine xs_i2l (by omega) rfl ?_
            refine xs_lc (by exact hG _) (by omega) rfl ?_
            refine xr_j1 rfl rfl rfl rfl rfl (fun h58 => ?_) (fun h58 => ?_)
            · have e58 := lt_ne h58
              refine xs_inc (e := 1) rfl rfl rfl rfl ?_
              refine xr_stp rfl rfl rfl rfl ?_
              first
                | exact lw_ofL d c s A W G hw hg hG h4 b q f hb hq hf r m (k + 1) _ (by omega) (by rw [if_neg (by omega)] at K; exact K)
                | exact lw_ofL d c s A W G hw hg hG h4 b q f hb hq hf r m (k + 1) _ (by omega) (by rw [if_pos (by omega)] at K; exact K)
            · have e58 := lf_ne h58
              refine xr_stp rfl rfl rfl rfl ?_
              refine xr_stp (st' := .long (Int64.ofNat 1) :: _) rfl rfl rfl rfl ?_
              refine xr_stp rfl rfl rfl rfl ?_
              refine xs_lshl (by omega) rfl ?_
              refine xs_lor rfl ?_
              refine xr_stp rfl rfl rfl rfl ?_
              refine xs_inc (e := 1) rfl rfl rfl rfl ?_
              refine xr_stp rfl rfl rfl rfl ?_
              first
                | exact lw_ofL d c s A W G hw hg hG h4 b q f hb hq hf r m (k + 1) _ (by omega) (by rw [if_neg (by omega)] at K; exact K)
                | exact lw_ofL d c s A W G hw hg hG h4 b q f hb hq hf r m (k + 1) _ (by omega) (by rw [if_pos (by omega)] at K; exact K)
theorem lw_ofm (d c s A : Nat) (W : xi_W) (G : Nat → Nat) (hw : W[A]? = some (lw_a 1804 G)) (hg : 17 ≤ A) (hG : ∀ j, G j < 9223372036854775808) (h4 : G 4 ≤ 64) (b q f : Nat) (hb : b < 9223372036854775808) (hq : q < 4) (hf : f < 3 ∨ f = 4294967295) (r : xi_R → Prop) (k : r (some (.long (Int64.ofNat (lw_of G b q f (G 4) 0 0))), W, c, s)) : xr (d + 1) 188 0 [(0, .ref A), (1, .long (Int64.ofNat b)), (3, .int (Int32.ofNat q)), (4, .int (Int32.ofNat f))] [] W c s r := by
  refine xr_stp (st' := .long (Int64.ofNat 0) :: _) rfl rfl rfl rfl ?_
  refine xr_stp rfl rfl rfl rfl ?_
  refine xr_stp (st' := .int (Int32.ofNat 0) :: _) rfl rfl rfl rfl ?_
  refine xr_stp rfl rfl rfl rfl ?_
  exact lw_ofL d c s A W G hw hg hG h4 b q f hb hq hf r (G 4) 0 0 (by omega) k
/-- a replica's next number -/
def lw_nx (G : Nat → Nat) (t : Nat) : Nat → Nat → Nat → Nat
  | 0, _, x => x
  | m + 1, k, x => lw_nx G t m (k + 1) (x + if G (10 + 5 * k) = t ∧ G (331 + 2 * t) / 2 ^ k % 2 = 1 then 1 else 0)
theorem lw_nxL (d c s A : Nat) (W : xi_W) (G : Nat → Nat) (hw : W[A]? = some (lw_a 1804 G)) (hg : 17 ≤ A) (hG : ∀ j, G j < 9223372036854775808) (h4 : G 4 ≤ 64) (t : Nat) (ht : t < 4) (r : xi_R → Prop) : ∀ (m k x : Nat), k + m = G 4 → r (some (.int (Int32.ofNat (lw_nx G t m k x))), W, c, s) → xr (d + 1) 189 4 [(3, .int (Int32.ofNat k)), (2, .int (Int32.ofNat x)), (0, .ref A), (1, .int (Int32.ofNat t))] [] W c s r
  | 0, k, x, hm, K => by
    refine xr_stp rfl rfl rfl rfl ?_
    refine xs_i2l (by omega) rfl ?_
    refine xr_stp rfl rfl rfl rfl ?_
    refine xr_stp (st' := .int (Int32.ofNat 4) :: _) rfl rfl rfl rfl ?_
    refine xs_ald hw hg (by omega) (by omega) rfl ?_
    refine xs_lc (by omega) (by omega) rfl ?_
    refine xr_j1 rfl rfl rfl rfl rfl (fun h10 => ?_) (fun h10 => ?_)
    · refine xr_stp rfl rfl rfl rfl ?_
      exact xr_ret rfl rfl K
    · exact absurd (lf_ge h10) (by omega)
  | m + 1, k, x, hm, K => by
    unfold lw_nx at K
    refine xr_stp rfl rfl rfl rfl ?_
    refine xs_i2l (by omega) rfl ?_
    refine xr_stp rfl rfl rfl rfl ?_
    refine xr_stp (st' := .int (Int32.ofNat 4) :: _) rfl rfl rfl rfl ?_
    refine xs_ald hw hg (by omega) (by omega) rfl ?_
    refine xs_lc (by omega) (by omega) rfl ?_
    refine xr_j1 rfl rfl rfl rfl rfl (fun h10 => ?_) (fun h10 => ?_)
    · exact absurd (lt_ge h10) (by omega)
    · refine xr_stp rfl rfl rfl rfl ?_
      refine xr_stp rfl rfl rfl rfl ?_
      refine xr_stp (st' := .int (Int32.ofNat 10) :: _) rfl rfl rfl rfl ?_
      refine xr_stp (st' := .int (Int32.ofNat 5) :: _) rfl rfl rfl rfl ?_
      refine xr_stp rfl rfl rfl rfl ?_
      refine xs_mul rfl ?_
      refine xs_add rfl ?_
      refine xs_ald hw hg (by omega) (by omega) rfl ?_
      refine xr_stp rfl rfl rfl rfl ?_
      refine xs_i2l (by omega) rfl ?_
      refine xs_lc (by exact hG _) (by omega) rfl ?_
      refine xr_j1 rfl rfl rfl rfl rfl (fun h25 => ?_) (fun h25 => ?_)
      · have e25 := lt_ne h25
        refine xr_stp (st' := .int (Int32.ofNat 0) :: _) rfl rfl rfl rfl ?_
        refine xs_add rfl ?_
        refine xr_stp rfl rfl rfl rfl ?_
        refine xs_inc (e := 1) rfl rfl rfl rfl ?_
        refine xr_stp rfl rfl rfl rfl ?_
        first
          | exact lw_nxL d c s A W G hw hg hG h4 t ht r m (k + 1) _ (by omega) (by rw [if_neg (by omega)] at K; exact K)
          | exact lw_nxL d c s A W G hw hg hG h4 t ht r m (k + 1) _ (by omega) (by rw [if_pos (by omega)] at K; exact K)
      · have e25 := lf_ne h25
        refine xr_stp rfl rfl rfl rfl ?_
        refine xr_stp (st' := .int (Int32.ofNat 331) :: _) rfl rfl rfl rfl ?_
        refine xr_stp (st' := .int (Int32.ofNat 2) :: _) rfl rfl rfl rfl ?_
        refine xr_stp rfl rfl rfl rfl ?_
        refine xs_mul rfl ?_
        refine xs_add rfl ?_
        refine xs_ald hw hg (by omega) (by omega) rfl ?_
        refine xr_stp rfl rfl rfl rfl ?_
        refine xr_cps rfl rfl rfl (fun r1 K2 => lw_bit _ _ _ _ k W (hG _) (by omega) r1 (K2 _ _ _ _ ?_))
        refine xr_j1 rfl rfl rfl rfl rfl (fun h41 => ?_) (fun h41 => ?_)
        · have e41 := nt1_eq (by omega) h41
          refine xr_stp (st' := .int (Int32.ofNat 0) :: _) rfl rfl rfl rfl ?_
          refine xs_add rfl ?_
          refine xr_stp rfl rfl rfl rfl ?_
          refine xs_inc (e := 1) rfl rfl rfl rfl ?_
          refine xr_stp rfl rfl rfl rfl ?_
          first
            | exact lw_nxL d c s A W G hw hg hG h4 t ht r m (k + 1) _ (by omega) (by rw [if_neg (by omega)] at K; exact K)
            | exact lw_nxL d c s A W G hw hg hG h4 t ht r m (k + 1) _ (by omega) (by rw [if_pos (by omega)] at K; exact K)
        · have e41 := nf1_eq h41
          refine xr_stp (st' := .int (Int32.ofNat 1) :: _) rfl rfl rfl rfl ?_
          refine xr_stp rfl rfl rfl rfl ?_
          refine xs_add rfl ?_
          refine xr_stp rfl rfl rfl rfl ?_
          refine xs_inc (e := 1) rfl rfl rfl rfl ?_
          refine xr_stp rfl rfl rfl rfl ?_
          first
            | exact lw_nxL d c s A W G hw hg hG h4 t ht r m (k + 1) _ (by omega) (by rw [if_neg (by omega)] at K; exact K)
            | exact lw_nxL d c s A W G hw hg hG h4 t ht r m (k + 1) _ (by omega) (by rw [if_pos (by omega)] at K; exact K)
theorem lw_next (d c s A : Nat) (W : xi_W) (G : Nat → Nat) (hw : W[A]? = some (lw_a 1804 G)) (hg : 17 ≤ A) (hG : ∀ j, G j < 9223372036854775808) (h4 : G 4 ≤ 64) (t : Nat) (ht : t < 4) (r : xi_R → Prop) (k : r (some (.int (Int32.ofNat (lw_nx G t (G 4) 0 1))), W, c, s)) : xr (d + 1) 189 0 [(0, .ref A), (1, .int (Int32.ofNat t))] [] W c s r := by
  refine xr_stp (st' := .int (Int32.ofNat 1) :: _) rfl rfl rfl rfl ?_
  refine xr_stp rfl rfl rfl rfl ?_
  refine xr_stp (st' := .int (Int32.ofNat 0) :: _) rfl rfl rfl rfl ?_
  refine xr_stp rfl rfl rfl rfl ?_
  exact lw_nxL d c s A W G hw hg hG h4 t ht r (G 4) 0 1 (by omega) k
