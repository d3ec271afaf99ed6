/-! the law: adds, feeds -/
def ach (nn : Nat) (f : Nat → Int32) (k j : Nat) : Nat := if 65 ≤ kb k j ∧ kb k j ≤ 73 then 48 + lw_dg nn f (kb k j - 65) else kb k j
def adt (nn : Nat) (f : Nat → Int32) (k n : Nat) (t : Nat → Nat) (i : Nat) : Nat → Nat := fun j => if n ≤ j ∧ j < n + i then ach nn f k (j - n) else t j
theorem adt_0 (nn : Nat) (f : Nat → Int32) (k n : Nat) (t : Nat → Nat) : adt nn f k n t 0 = t := by
  funext j
  unfold adt
  rw [if_neg (by omega)]
theorem adt_s (nn : Nat) (f : Nat → Int32) (k n : Nat) (t : Nat → Nat) (i : Nat) : xn_u (adt nn f k n t i) (n + i) (ach nn f k i) = adt nn f k n t (i + 1) := by
  funext j
  unfold xn_u adt
  by_cases e : j = n + i
  · rw [if_pos e, if_pos (by omega), e, Nat.add_sub_cancel_left]
  · rw [if_neg e]
    by_cases e2 : n ≤ j ∧ j < n + i
    · rw [if_pos e2, if_pos (by omega)]
    · rw [if_neg e2, if_neg (by omega)]
theorem lw_adL (d c s : Nat) (nn : Nat) (f : Nat → Int32) (hnn : nn < 2147483648) (k n X : Nat) (t : Nat → Nat) (hk8 : k < 8) (hg : 17 ≤ X) (hn : n + xt_sl.getD k 0 ≤ 300) (r : xi_R → Prop) : ∀ (m i : Nat) (W0 : xi_W), i + m = xt_sl.getD k 0 → kc W0 → W0[16]? = some (lw_s nn f) → W0[X]? = some (lw_i 300 (adt nn f k n t i)) → (∀ W', W'[X]? = some (lw_i 300 (adt nn f k n t (xt_sl.getD k 0))) → fr (fun i => i = X) W0 W' → r (some (.int (Int32.ofNat (n + xt_sl.getD k 0))), W', c, s)) → xr (d + 4) 175 3 [(0, .ref 16), (1, .ref X), (2, .int (Int32.ofNat n)), (3, .ref k), (4, .int (Int32.ofNat i))] [] W0 c s r
  | 0, i, W0, hi, hk, hS, hX, K => by
    have hkl := klE k hk8
    have hi : i = xt_sl.getD k 0 := by omega
    refine xr_stp rfl rfl rfl rfl ?_
    refine xr_stp rfl rfl rfl rfl ?_
    refine xr_vcps (hk k hk8).1 rfl rfl rfl rfl rfl rfl (fun r1 K2 => sc_len _ _ _ k _ hk hk8 r1 (K2 _ _ _ _ ?_))
    refine xr_j2 rfl rfl rfl rfl rfl (fun h9 => ?_) (fun h9 => ?_)
    · refine xr_stp rfl rfl rfl rfl ?_
      refine xr_stp rfl rfl rfl rfl ?_
      refine xr_vcps (hk k hk8).1 rfl rfl rfl rfl rfl rfl (fun r1 K2 => sc_len _ _ _ k _ hk hk8 r1 (K2 _ _ _ _ ?_))
      refine xs_add rfl ?_
      rw [hi] at hX
      exact xr_ret rfl rfl (K W0 hX fr.rf)
    · have z9 := nf_ge (by omega) (by omega) h9
      exact (by omega)
  | m + 1, i, W0, hi, hk, hS, hX, K => by
    have hkl := klE k hk8
    have hi2 : i < xt_sl.getD k 0 := by omega
    have hkb := (kbE k hk8 i hi2).2
    refine xr_stp rfl rfl rfl rfl ?_
    refine xr_stp rfl rfl rfl rfl ?_
    refine xr_vcps (hk k hk8).1 rfl rfl rfl rfl rfl rfl (fun r1 K2 => sc_len _ _ _ k _ hk hk8 r1 (K2 _ _ _ _ ?_))
    refine xr_j2 rfl rfl rfl rfl rfl (fun h9 => ?_) (fun h9 => ?_)
    · have z9 := nt_ge (by omega) (by omega) h9
      exact (by omega)
    · refine xr_stp rfl rfl rfl rfl ?_
      refine xr_stp rfl rfl rfl rfl ?_
      refine xr_vcps (hk k hk8).1 rfl rfl rfl rfl rfl rfl (fun r1 K2 => sc_at _ _ _ i k _ hk hk8 hi2 r1 (K2 _ _ _ _ ?_))
      refine xr_stp rfl rfl rfl rfl ?_
      refine xr_stp rfl rfl rfl rfl ?_
      refine xr_stp rfl rfl rfl rfl ?_
      refine xr_stp rfl rfl rfl rfl ?_
      refine xs_add rfl ?_
      refine xr_stp rfl rfl rfl rfl ?_
      refine xr_stp (st' := .int (Int32.ofNat 65) :: _) rfl rfl rfl rfl ?_
      refine xr_j2 rfl rfl rfl rfl rfl (fun h29 => ?_) (fun h29 => ?_)
      · have z29 := nt_lt (by omega) (by omega) h29
        refine xr_stp rfl rfl rfl rfl ?_
        refine xs_istk hX hg (by omega) (by omega) rfl (fun W hX hf1 => ?_)
        rw [show kb k i = ach nn f k i from (if_neg (by omega)).symm, adt_s] at hX
        refine xs_inc (e := 1) rfl rfl rfl rfl ?_
        refine xr_stp rfl rfl rfl rfl ?_
        refine xr_loc [(0, .ref 16), (1, .ref X), (2, .int (Int32.ofNat n)), (3, .ref k), (4, .int (Int32.ofNat ((i + 1))))] ⟨rfl, rfl, rfl, rfl, rfl, trivial⟩ rfl ?_
        exact lw_adL d c s nn f hnn k n X t hk8 hg hn r m (i + 1) W (by omega) (hk.keep hf1 (fun i hi z => by have z : i = X := z; omega)) (hf1.at hS (fun z => by have z : 16 = X := z; omega)) hX (fun W5 k1 k2 => K W5 k1 ((hf1.weak (P2 := fun i => i = X) (fun i _ z => z)).tr k2))
      · have z29 := nf_lt (by omega) (by omega) h29
        refine xr_stp rfl rfl rfl rfl ?_
        refine xr_stp (st' := .int (Int32.ofNat 73) :: _) rfl rfl rfl rfl ?_
        refine xr_j2 rfl rfl rfl rfl rfl (fun h36 => ?_) (fun h36 => ?_)
        · have z36 := nt_gt (by omega) (by omega) h36
          refine xr_stp rfl rfl rfl rfl ?_
          refine xs_istk hX hg (by omega) (by omega) rfl (fun W hX hf1 => ?_)
          rw [show kb k i = ach nn f k i from (if_neg (by omega)).symm, adt_s] at hX
          refine xs_inc (e := 1) rfl rfl rfl rfl ?_
          refine xr_stp rfl rfl rfl rfl ?_
          refine xr_loc [(0, .ref 16), (1, .ref X), (2, .int (Int32.ofNat n)), (3, .ref k), (4, .int (Int32.ofNat ((i + 1))))] ⟨rfl, rfl, rfl, rfl, rfl, trivial⟩ rfl ?_
          exact lw_adL d c s nn f hnn k n X t hk8 hg hn r m (i + 1) W (by omega) (hk.keep hf1 (fun i hi z => by have z : i = X := z; omega)) (hf1.at hS (fun z => by have z : 16 = X := z; omega)) hX (fun W5 k1 k2 => K W5 k1 ((hf1.weak (P2 := fun i => i = X) (fun i _ z => z)).tr k2))
        · have z36 := nf_gt (by omega) (by omega) h36
          refine xr_stp (st' := .int (Int32.ofNat 48) :: _) rfl rfl rfl rfl ?_
          refine xr_stp rfl rfl rfl rfl ?_
          refine xr_stp rfl rfl rfl rfl ?_
          refine xr_stp (st' := .int (Int32.ofNat 65) :: _) rfl rfl rfl rfl ?_
          refine xs_sub (by omega) rfl ?_
          refine xr_cps rfl rfl rfl (fun r1 K2 => lw_digit _ _ _ 16 nn _ f hS hnn _ (by omega) r1 (K2 _ _ _ _ ?_))
          refine xs_add rfl ?_
          refine xr_stp rfl rfl rfl rfl ?_
          refine xs_istk hX hg (by omega) (by omega) rfl (fun W hX hf1 => ?_)
          rw [show 48 + lw_dg nn f (kb k i - 65) = ach nn f k i from (if_pos ⟨z29, z36⟩).symm, adt_s] at hX
          refine xs_inc (e := 1) rfl rfl rfl rfl ?_
          refine xr_stp rfl rfl rfl rfl ?_
          refine xr_loc [(0, .ref 16), (1, .ref X), (2, .int (Int32.ofNat n)), (3, .ref k), (4, .int (Int32.ofNat ((i + 1))))] ⟨rfl, rfl, rfl, rfl, rfl, trivial⟩ rfl ?_
          exact lw_adL d c s nn f hnn k n X t hk8 hg hn r m (i + 1) W (by omega) (hk.keep hf1 (fun i hi z => by have z : i = X := z; omega)) (hf1.at hS (fun z => by have z : 16 = X := z; omega)) hX (fun W5 k1 k2 => K W5 k1 ((hf1.weak (P2 := fun i => i = X) (fun i _ z => z)).tr k2))
theorem lw_adds (d c s : Nat) (nn : Nat) (f : Nat → Int32) (hnn : nn < 2147483648) (k n X : Nat) (t : Nat → Nat) (hk8 : k < 8) (hg : 17 ≤ X) (hn : n + xt_sl.getD k 0 ≤ 300) (W0 : xi_W) (hk : kc W0) (hS : W0[16]? = some (lw_s nn f)) (hX : W0[X]? = some (lw_i 300 t)) (r : xi_R → Prop) (K : ∀ W', W'[X]? = some (lw_i 300 (adt nn f k n t (xt_sl.getD k 0))) → fr (fun i => i = X) W0 W' → r (some (.int (Int32.ofNat (n + xt_sl.getD k 0))), W', c, s)) : xr (d + 4) 175 0 [(0, .ref 16), (1, .ref X), (2, .int (Int32.ofNat n)), (3, .ref k)] [] W0 c s r := by
  refine xr_stp (st' := .int (Int32.ofNat 0) :: _) rfl rfl rfl rfl ?_
  refine xr_stp rfl rfl rfl rfl ?_
  refine xr_loc [(0, .ref 16), (1, .ref X), (2, .int (Int32.ofNat n)), (3, .ref k), (4, .int (Int32.ofNat 0))] ⟨rfl, rfl, rfl, rfl, rfl, trivial⟩ rfl ?_
  exact lw_adL d c s nn f hnn k n X t hk8 hg hn r _ 0 W0 (Nat.zero_add _) hk hS (by rw [adt_0]; exact hX) K
/-! four bytes in an int -/
def pkn (T : Nat → Nat) (q : Nat) : Nat → Nat
  | 0 => 0
  | p + 1 => pkn T q p + T (4 * q + p) * 2 ^ (24 - 8 * p)
def pkv (T : Nat → Nat) (i : Nat) : Nat → Nat := fun q => pkn T q (min 4 (i - 4 * q))
theorem pkn_or (T : Nat → Nat) (q p : Nat) (hp : p < 4) (hT : T (4 * q + p) < 128) : pkn T q p ||| T (4 * q + p) * 2 ^ (24 - 8 * p) = pkn T q (p + 1) := by
  show _ = pkn T q p + T (4 * q + p) * 2 ^ (24 - 8 * p)
  obtain ⟨a, ha⟩ : ∃ a, pkn T q p = 2 ^ (32 - 8 * p) * a := by
    have e : p = 0 ∨ p = 1 ∨ p = 2 ∨ p = 3 := by omega
    rcases e with rfl | rfl | rfl | rfl
    · exact ⟨0, rfl⟩
    · exact ⟨T (4 * q + 0), by unfold pkn pkn; omega⟩
    · exact ⟨T (4 * q + 0) * 256 + T (4 * q + 1), by unfold pkn pkn pkn; omega⟩
    · exact ⟨T (4 * q + 0) * 65536 + T (4 * q + 1) * 256 + T (4 * q + 2), by unfold pkn pkn pkn pkn; omega⟩
  rw [ha]
  refine (Nat.two_pow_add_eq_or_of_lt ?_ a).symm
  have e : p = 0 ∨ p = 1 ∨ p = 2 ∨ p = 3 := by omega
  rcases e with rfl | rfl | rfl | rfl <;> omega
theorem pkv_s (T : Nat → Nat) (i : Nat) (hi : i < 20) (hT : T i < 128) : xn_u (pkv T i) (i / 4) (pkv T i (i / 4) ||| T i * 2 ^ (24 - 8 * (i % 4))) = pkv T (i + 1) := by
  funext q
  unfold xn_u pkv
  by_cases e : q = i / 4
  · subst e
    rw [if_pos rfl, show min 4 (i - 4 * (i / 4)) = i % 4 by omega, show min 4 (i + 1 - 4 * (i / 4)) = i % 4 + 1 by omega]
    have h := pkn_or T (i / 4) (i % 4) (by omega) (by rw [show 4 * (i / 4) + i % 4 = i by omega]; exact hT)
    rw [show 4 * (i / 4) + i % 4 = i by omega] at h
    exact h
  · rw [if_neg e, show min 4 (i - 4 * q) = min 4 (i + 1 - 4 * q) by omega]
theorem pkv_e (T : Nat → Nat) (i : Nat) (hi : i ≤ 20) (hT : ∀ j, i ≤ j → T j = 0) : pkv T i = pk4 T := by
  funext q
  unfold pkv pk4
  have z := fun p (h : i ≤ 4 * q + p) => hT (4 * q + p) h
  have h0 : T (4 * q + 0) = T (4 * q) := rfl
  have e : min 4 (i - 4 * q) = 0 ∨ min 4 (i - 4 * q) = 1 ∨ min 4 (i - 4 * q) = 2 ∨ min 4 (i - 4 * q) = 3 ∨ min 4 (i - 4 * q) = 4 := by omega
  rcases e with e | e | e | e | e <;> rw [e]
  · have := z 0 (by omega)
    have := z 1 (by omega)
    have := z 2 (by omega)
    have := z 3 (by omega)
    unfold pkn
    omega
  · have := z 1 (by omega)
    have := z 2 (by omega)
    have := z 3 (by omega)
    unfold pkn pkn
    omega
  · have := z 2 (by omega)
    have := z 3 (by omega)
    unfold pkn pkn pkn
    omega
  · have := z 3 (by omega)
    unfold pkn pkn pkn pkn
    omega
  · unfold pkn pkn pkn pkn pkn
    omega
/-- the block at k of a text of n -/
def blk (t : Nat → Nat) (n k : Nat) : Nat → Nat := fun j => if j < 20 ∧ k + j < n then t (k + j) else 0
theorem lw_feI (d c s n k X R : Nat) (t : Nat → Nat) (hn : n ≤ 300) (ht : ∀ j, j < n → t j < 128) (hR : 17 ≤ R) (hXR : X ≠ R) (r : xi_R → Prop) : ∀ (m i : Nat) (W0 : xi_W), i + m = 20 → k ≤ 300 → W0[X]? = some (lw_i 300 t) → W0[R]? = some (lw_i 5 (pkv (blk t n k) i)) → (∀ W', W'[R]? = some (lw_i 5 (pk4 (blk t n k))) → fr (fun i => i = R) W0 W' → xr d 176 73 [(0, .ref 17), (1, .ref X), (2, .int (Int32.ofNat n)), (3, .int (Int32.ofNat k)), (4, .ref R)] [] W' c s r) → xr d 176 25 [(0, .ref 17), (1, .ref X), (2, .int (Int32.ofNat n)), (3, .int (Int32.ofNat k)), (4, .ref R), (5, .int (Int32.ofNat i))] [] W0 c s r
  | 0, i, W0, hi, hk3, hX, hV, K => by
    obtain rfl : i = 20 := by omega
    rw [pkv_e (blk t n k) 20 (by omega) (fun j hj => if_neg (by omega))] at hV
    refine xr_stp rfl rfl rfl rfl ?_
    refine xr_stp (st' := .int (Int32.ofNat 20) :: _) rfl rfl rfl rfl ?_
    refine xr_j2 rfl rfl rfl rfl rfl (fun h29 => ?_) (fun h29 => ?_)
    · refine xr_loc [(0, .ref 17), (1, .ref X), (2, .int (Int32.ofNat n)), (3, .int (Int32.ofNat k)), (4, .ref R)] ⟨rfl, rfl, rfl, rfl, rfl, trivial⟩ rfl ?_
      exact K W0 hV fr.rf
    · have z29 := nf_ge (by omega) (by omega) h29
      exact (by omega)
  | m + 1, i, W0, hi, hk3, hX, hV, K => by
    have hF : fr (fun i => i = R) W0 W0 := fr.rf
    by_cases hkn : k + i < n
    · have htk := ht (k + i) hkn
      have hbl : blk t n k i = t (k + i) := if_pos ⟨by omega, hkn⟩
      refine xr_stp rfl rfl rfl rfl ?_
      refine xr_stp (st' := .int (Int32.ofNat 20) :: _) rfl rfl rfl rfl ?_
      refine xr_j2 rfl rfl rfl rfl rfl (fun h29 => ?_) (fun h29 => ?_)
      · have z29 := nt_ge (by omega) (by omega) h29
        exact (by omega)
      · refine xr_stp rfl rfl rfl rfl ?_
        refine xr_stp rfl rfl rfl rfl ?_
        refine xs_add rfl ?_
        refine xr_stp rfl rfl rfl rfl ?_
        refine xr_j2 rfl rfl rfl rfl rfl (fun h37 => ?_) (fun h37 => ?_)
        · have z37 := nt_ge (by omega) (by omega) h37
          exact (by omega)
        · refine xr_stp rfl rfl rfl rfl ?_
          refine xr_stp rfl rfl rfl rfl ?_
          refine xr_stp (st' := .int (Int32.ofNat 4) :: _) rfl rfl rfl rfl ?_
          refine xs_div (by omega) (by omega) (by omega) rfl ?_
          refine xr_stp rfl rfl rfl rfl ?_
          refine xs_ild hV (by omega) (by omega) rfl ?_
          refine xr_stp rfl rfl rfl rfl ?_
          refine xr_stp rfl rfl rfl rfl ?_
          refine xr_stp rfl rfl rfl rfl ?_
          refine xs_add rfl ?_
          refine xs_ild hX (by omega) (by omega) rfl ?_
          refine xr_stp (st' := .int (Int32.ofNat 24) :: _) rfl rfl rfl rfl ?_
          refine xr_stp (st' := .int (Int32.ofNat 8) :: _) rfl rfl rfl rfl ?_
          refine xr_stp rfl rfl rfl rfl ?_
          refine xr_stp (st' := .int (Int32.ofNat 4) :: _) rfl rfl rfl rfl ?_
          refine xs_mod (by omega) (by omega) (by omega) rfl ?_
          refine xs_mul rfl ?_
          refine xs_sub (by omega) rfl ?_
          refine xs_shl (by omega) rfl ?_
          refine xs_or rfl ?_
          rw [← hbl]
          refine xs_istk hV hR (by omega) (by omega) rfl (fun W hV hf1 => ?_)
          rw [pkv_s _ _ (by omega) (by omega)] at hV
          refine xs_inc (e := 1) rfl rfl rfl rfl ?_
          refine xr_stp rfl rfl rfl rfl ?_
          refine xr_loc [(0, .ref 17), (1, .ref X), (2, .int (Int32.ofNat n)), (3, .int (Int32.ofNat k)), (4, .ref R), (5, .int (Int32.ofNat ((i + 1))))] ⟨rfl, rfl, rfl, rfl, rfl, rfl, trivial⟩ rfl ?_
          exact lw_feI d c s n k X R t hn ht hR hXR r m (i + 1) W (by omega) hk3 (hf1.at hX hXR) hV (fun W5 k1 k2 => K W5 k1 ((hf1.weak (P2 := fun i => i = R) (fun i _ z => z)).tr k2))
    · rw [pkv_e (blk t n k) i (by omega) (fun j hj => if_neg (by omega))] at hV
      refine xr_stp rfl rfl rfl rfl ?_
      refine xr_stp (st' := .int (Int32.ofNat 20) :: _) rfl rfl rfl rfl ?_
      refine xr_j2 rfl rfl rfl rfl rfl (fun h29 => ?_) (fun h29 => ?_)
      · have z29 := nt_ge (by omega) (by omega) h29
        exact (by omega)
      · refine xr_stp rfl rfl rfl rfl ?_
        refine xr_stp rfl rfl rfl rfl ?_
        refine xs_add rfl ?_
        refine xr_stp rfl rfl rfl rfl ?_
        refine xr_j2 rfl rfl rfl rfl rfl (fun h37 => ?_) (fun h37 => ?_)
        · refine xr_loc [(0, .ref 17), (1, .ref X), (2, .int (Int32.ofNat n)), (3, .int (Int32.ofNat k)), (4, .ref R)] ⟨rfl, rfl, rfl, rfl, rfl, trivial⟩ rfl ?_
          exact K W0 hV fr.rf
        · have z37 := nf_ge (by omega) (by omega) h37
          exact (by omega)
theorem lw_feO (d n X : Nat) (t : Nat → Nat) (lf lp : Int32) (hn : n ≤ 300) (ht : ∀ j, j < n → t j < 128) (hX23 : 23 ≤ X) (r : xi_R → Prop) : ∀ (m k : Nat) (W0 : xi_W) (tp : Nat → Nat) (c s : Nat), 20 * m + k = (n + 19) / 20 * 20 → k % 20 = 0 → W0[17]? = some (.inr (6, [.ref 18, .int lf, .int lp, .ref 23, .ref 33, .ref 43, .ref 355, .ref 360, .ref 370, .ref 682])) → RDW k tp W0 → W0[X]? = some (lw_i 300 t) → (∀ j, j < k → j < n → tp j = t j) → (∀ W' tp' c' s', c' = c + m → s' = s + 5 * m → RDW n tp' W' → (∀ j, j < n → tp' j = t j) → fr rdp W0 W' → r (some (.int (Int32.ofNat 1)), W', c', s')) → xr (d + 2) 176 12 [(0, .ref 17), (1, .ref X), (2, .int (Int32.ofNat n)), (3, .int (Int32.ofNat k))] [] W0 c s r
  | 0, k, W0, tp, c, s, hk, hk2, hO, hR, hX, htp, K => by
    refine xr_stp rfl rfl rfl rfl ?_
    refine xr_stp rfl rfl rfl rfl ?_
    refine xr_j2 rfl rfl rfl rfl rfl (fun h14 => ?_) (fun h14 => ?_)
    · refine xr_stp rfl rfl rfl rfl ?_
      refine xr_stp rfl rfl rfl rfl ?_
      refine xr_vcps hO rfl rfl rfl rfl rfl rfl (fun r1 K2 => cl_end _ _ _ W0 tp k n lf lp hO hR (by omega) (by omega) r1 (fun W3 hR3 hf3 => K2 _ _ _ _ ?_))
      refine xr_stp rfl rfl rfl rfl ?_
      refine xr_j2 rfl rfl rfl rfl rfl (fun h118 => ?_) (fun h118 => ?_)
      · have z118 := nt_ne h118
        exact (by omega)
      · refine xr_stp (st' := .int (Int32.ofNat 1) :: _) rfl rfl rfl rfl ?_
        refine xr_stp rfl rfl rfl rfl ?_
        exact xr_retb (by omega) rfl rfl (K W3 tp _ _ rfl rfl hR3 (fun j hj => htp j (by omega) hj) hf3)
    · have z14 := nf_ge (by omega) (by omega) h14
      exact (by omega)
  | m + 1, k, W0, tp, c, s, hk, hk2, hO, hR, hX, htp, K => by
    refine xr_stp rfl rfl rfl rfl ?_
    refine xr_stp rfl rfl rfl rfl ?_
    refine xr_j2 rfl rfl rfl rfl rfl (fun h14 => ?_) (fun h14 => ?_)
    · have z14 := nt_ge (by omega) (by omega) h14
      exact (by omega)
    · refine xr_stp (st' := .int (Int32.ofNat 5) :: _) rfl rfl rfl rfl ?_
      refine xs_newi (by omega) rfl (fun R W1 eR hV hf1 => ?_)
      have lX := (List.getElem?_eq_some_iff.mp hX).1
      have hXR : X ≠ R := by omega
      have hX1 := hf1.at hX (fun z => z)
      refine xr_stp rfl rfl rfl rfl ?_
      refine xr_stp (st' := .int (Int32.ofNat 0) :: _) rfl rfl rfl rfl ?_
      refine xr_stp rfl rfl rfl rfl ?_
      refine xr_loc [(0, .ref 17), (1, .ref X), (2, .int (Int32.ofNat n)), (3, .int (Int32.ofNat k)), (4, .ref R), (5, .int (Int32.ofNat 0))] ⟨rfl, rfl, rfl, rfl, rfl, rfl, trivial⟩ rfl ?_
      refine lw_feI _ _ _ n k X R t hn ht (by omega) hXR r 20 0 W1 rfl (by omega) hX1 (by rw [show pkv (blk t n k) 0 = fun _ => 0 from by funext q; unfold pkv; rw [Nat.zero_sub]; rfl]; exact hV) (fun W2 hV2 hf2 => ?_)
      have hX2 := hf2.at hX1 hXR
      have hO2 := hf2.at (hf1.at hO (fun z => z)) (fun z => by have z : 17 = R := z; omega)
      have hR2 : RDW k tp W2 := (hR.keep hf1 (fun i _ _ z => z) (Or.inr trivial)).keep hf2 (fun i h1 _ z => by have z : i = R := z; omega) (Or.inr trivial)
      refine xr_stp rfl rfl rfl rfl ?_
      refine xr_stp rfl rfl rfl rfl ?_
      refine xr_stp (st' := .int (Int32.ofNat 0) :: _) rfl rfl rfl rfl ?_
      refine xs_ild hV2 (by omega) (by omega) rfl ?_
      refine xr_stp rfl rfl rfl rfl ?_
      refine xr_stp (st' := .int (Int32.ofNat 1) :: _) rfl rfl rfl rfl ?_
      refine xs_ild hV2 (by omega) (by omega) rfl ?_
      refine xr_stp rfl rfl rfl rfl ?_
      refine xr_stp (st' := .int (Int32.ofNat 2) :: _) rfl rfl rfl rfl ?_
      refine xs_ild hV2 (by omega) (by omega) rfl ?_
      refine xr_stp rfl rfl rfl rfl ?_
      refine xr_stp (st' := .int (Int32.ofNat 3) :: _) rfl rfl rfl rfl ?_
      refine xs_ild hV2 (by omega) (by omega) rfl ?_
      refine xr_stp rfl rfl rfl rfl ?_
      refine xr_stp (st' := .int (Int32.ofNat 4) :: _) rfl rfl rfl rfl ?_
      refine xs_ild hV2 (by omega) (by omega) rfl ?_
      refine xr_vcps hO2 rfl rfl rfl rfl rfl rfl (fun r1 K2 => cl_feed _ _ _ W2 tp k lf lp hO2 hR2 (blk t n k) (fun j hj => by unfold blk; split; exact ht _ (by omega); omega) (by omega) r1 (fun W3 hR3 hf3 => K2 _ _ _ _ ?_))
      refine xr_stp rfl rfl rfl rfl ?_
      refine xr_stp (st' := .int (Int32.ofNat 20) :: _) rfl rfl rfl rfl ?_
      refine xs_add rfl ?_
      refine xr_j2 rfl rfl rfl rfl rfl (fun h101 => ?_) (fun h101 => ?_)
      · refine xs_inc (e := 20) rfl rfl rfl rfl ?_
        refine xr_stp rfl rfl rfl rfl ?_
        refine xr_loc [(0, .ref 17), (1, .ref X), (2, .int (Int32.ofNat n)), (3, .int (Int32.ofNat ((k + 20))))] ⟨rfl, rfl, rfl, rfl, trivial⟩ rfl ?_
        refine lw_feO d n X t lf lp hn ht hX23 r m (k + 20) W3 (fd5 tp k (blk t n k)) _ _ (by omega) (by omega) (hf3.at hO2 (by unfold rdp; omega)) hR3 (hf3.at hX2 (by unfold rdp; omega)) (fun j h1 h2 => by
          unfold fd5 blk
          by_cases e : k ≤ j
          · rw [if_pos (by omega), if_pos (by omega), show k + (j - k) = j by omega]
          · rw [if_neg (by omega)]
            exact htp j (by omega) h2) (fun W5 tp5 c5 s5 q1 q2 q3 q4 q5 => K W5 tp5 c5 s5 (by omega) (by omega) q3 q4 ?_)
        exact ⟨by have := hf1.1; have := hf2.1; have := hf3.1; have := q5.1; omega, fun i hi hp => (q5.2 i (by have := hf1.1; have := hf2.1; have := hf3.1; omega) hp).trans ((hf3.2 i (by have := hf1.1; have := hf2.1; omega) hp).trans ((hf2.2 i (by have := hf1.1; omega) (fun (z : i = R) => by omega)).trans (hf1.2 i hi (fun z => z))))⟩
      · have z101 := nf_eq h101
        exact (by omega)
theorem lw_feeds (d c s n X : Nat) (t : Nat → Nat) (lf lp : Int32) (hn : n ≤ 300) (ht : ∀ j, j < n → t j < 128) (hX23 : 23 ≤ X) (W0 : xi_W) (hO : W0[17]? = some (.inr (6, [.ref 18, .int lf, .int lp, .ref 23, .ref 33, .ref 43, .ref 355, .ref 360, .ref 370, .ref 682]))) (n0 : Nat) (tp : Nat → Nat) (hn0 : n0 ≤ 300) (hR : RDW n0 tp W0) (hX : W0[X]? = some (lw_i 300 t)) (r : xi_R → Prop) (K : ∀ W' tp' c' s', c' = c + (n + 19) / 20 → s' = s + 5 * ((n + 19) / 20) → RDW n tp' W' → (∀ j, j < n → tp' j = t j) → fr rdp W0 W' → r (some (.int (Int32.ofNat 1)), W', c', s')) : xr (d + 2) 176 0 [(0, .ref 17), (1, .ref X), (2, .int (Int32.ofNat n))] [] W0 c s r := by
  refine xr_stp rfl rfl rfl rfl ?_
  refine xr_stp (st' := .int (Int32.ofNat 0) :: _) rfl rfl rfl rfl ?_
  refine xr_vcps hO rfl rfl rfl rfl rfl rfl (fun r1 K2 => cl_end _ _ _ W0 tp n0 0 lf lp hO hR (by omega) hn0 r1 (fun W3 hR3 hf3 => K2 _ _ _ _ ?_))
  refine xr_j1 rfl rfl rfl rfl rfl (fun h5 => ?_) (fun h5 => ?_)
  · refine xr_stp (st' := .int (Int32.ofNat 0) :: _) rfl rfl rfl rfl ?_
    refine xr_stp rfl rfl rfl rfl ?_
    refine xr_loc [(0, .ref 17), (1, .ref X), (2, .int (Int32.ofNat n)), (3, .int (Int32.ofNat 0))] ⟨rfl, rfl, rfl, rfl, trivial⟩ rfl ?_
    exact lw_feO d n X t lf lp hn ht hX23 r ((n + 19) / 20) 0 W3 tp _ _ (by omega) rfl (hf3.at hO (by unfold rdp; omega)) hR3 (hf3.at hX (by unfold rdp; omega)) (fun j h1 => by omega) (fun W5 tp5 c5 s5 q1 q2 q3 q4 q5 => K W5 tp5 c5 s5 (by omega) (by omega) q3 q4 (hf3.tr q5))
  · have z5 := nf1_eq h5
    exact (by omega)
