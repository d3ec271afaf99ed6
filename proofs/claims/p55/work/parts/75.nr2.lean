/-! the class: digest, winner, difference, cloud of a row -/
theorem n_digL (d c s b : Nat) (W : xi_W) (F : Nat → Nat) (L : List Value) (hw : kw W b F) (hb : wb b) (hl : 687 ≤ W.length) (hR : W[355]? = some (.inr (2, L))) (X : Nat) (hX : X < 55) (hk : cn_ok F X) (hC : ∀ u, u < 256 → F (16 * u + 2) < 1200) (r : xi_R → Prop) : ∀ (m t x : Nat) (L1 : xi_L), t + m = 256 → x < 9973 → (L1 = [(3, .int (Int32.ofNat t)), (2, .int (Int32.ofNat x)), (0, .ref (b + 1)), (1, .int (Int32.ofNat X))] ∨ ∃ e1 e2 e3, L1 = [(3, .int (Int32.ofNat t)), (2, .int (Int32.ofNat x)), (6, .int e1), (5, .int e2), (4, .int e3), (0, .ref (b + 1)), (1, .int (Int32.ofNat X))]) → r (some (.int (Int32.ofNat (fd (fun u => cn_he F X u 4294967295 4294967295) (fun a u => (31 * a + (101 * (u / 64) + 7 * (u % 64) + 5 * (F (16 * u + 2) / 300) + 3 * (F (16 * u + 2) / 100 % 3) + F (16 * u + 2) % 100)) % 9973) m t x))), W, c, s) → xr (d + 2) 21 4 L1 [] W c s r
  | 0, t, x, L1, ht, hx, hL1, K => by
    obtain rfl : t = 256 := by omega
    rcases hL1 with rfl | ⟨_, _, _, rfl⟩
    all_goals
      refine xr_stp rfl rfl rfl rfl ?_
      refine xr_stp rfl rfl rfl rfl ?_
      refine xr_getfield hw.2 rfl rfl rfl rfl ?_
      refine xs_iln (hw.c hb hl hR) rfl ?_
      refine xr_j2 rfl rfl rfl rfl rfl (fun h10 => ?_) (fun h10 => ?_)
      · refine xr_stp rfl rfl rfl rfl ?_
        exact xr_ret rfl rfl K
      · exact absurd (nf_ge (by omega) (by omega) h10) (by omega)
  | m + 1, t, x, L1, ht, hx, hL1, K => by
    unfold fd at K
    have hct := hC t (by omega)
    rcases hL1 with rfl | ⟨_, _, _, rfl⟩
    all_goals
      refine xr_stp rfl rfl rfl rfl ?_
      refine xr_stp rfl rfl rfl rfl ?_
      refine xr_getfield hw.2 rfl rfl rfl rfl ?_
      refine xs_iln (hw.c hb hl hR) rfl ?_
      refine xr_j2 rfl rfl rfl rfl rfl (fun h10 => ?_) (fun h10 => ?_)
      · exact absurd (nt_ge (by omega) (by omega) h10) (by omega)
      · refine xr_stp rfl rfl rfl rfl ?_
        refine xr_stp rfl rfl rfl rfl ?_
        refine xr_stp rfl rfl rfl rfl ?_
        refine xr_stp (st' := .int (Int32.ofNat 4294967295) :: _) rfl rfl rfl rfl ?_
        refine xr_stp (st' := .int (Int32.ofNat 4294967295) :: _) rfl rfl rfl rfl ?_
        refine xr_vcps hw.2 rfl rfl rfl rfl rfl rfl (fun r1 K2 => xr_kw0 hw (cn_hasEntry (hw.B hb hl hR) d F _ _ X (t) 4294967295 4294967295 hX (by omega) (by omega) (by omega) (hk.1 _ (by omega)) (hk.2 _ (by omega))) (K2 _ _ _ _ ?_))
        refine xr_j1 rfl rfl rfl rfl rfl (fun h21 => ?_) (fun h21 => ?_)
        · have e21 := nt1_eq (Nat.lt_of_lt_of_le (cn_heb F X _ _ _) (by omega)) h21
          rw [if_pos e21] at K
          refine xs_inc (e := 1) rfl rfl rfl rfl ?_
          refine xr_stp rfl rfl rfl rfl ?_
          exact n_digL d c s b W F L hw hb hl hR X hX hk hC r m (t + 1) _ _ (by omega) (by omega) (by first | exact Or.inl rfl | exact Or.inr ⟨_, _, _, rfl⟩) K
        · have e21 := nf1_eq h21
          rw [if_neg e21] at K
          refine xr_stp rfl rfl rfl rfl ?_
          refine xr_stp (st' := .int (Int32.ofNat 64) :: _) rfl rfl rfl rfl ?_
          refine xs_div (by omega) (by omega) (by omega) rfl ?_
          refine xr_stp rfl rfl rfl rfl ?_
          refine xr_stp rfl rfl rfl rfl ?_
          refine xr_stp (st' := .int (Int32.ofNat 64) :: _) rfl rfl rfl rfl ?_
          refine xs_mod (by omega) (by omega) (by omega) rfl ?_
          refine xr_stp rfl rfl rfl rfl ?_
          refine xr_stp (st' := .int (Int32.ofNat 101) :: _) rfl rfl rfl rfl ?_
          refine xr_stp rfl rfl rfl rfl ?_
          refine xs_mul rfl ?_
          refine xr_stp (st' := .int (Int32.ofNat 7) :: _) rfl rfl rfl rfl ?_
          refine xr_stp rfl rfl rfl rfl ?_
          refine xs_mul rfl ?_
          refine xs_add rfl ?_
          refine xr_stp (st' := .int (Int32.ofNat 5) :: _) rfl rfl rfl rfl ?_
          refine xr_stp rfl rfl rfl rfl ?_
          refine xr_stp rfl rfl rfl rfl ?_
          refine xr_vcps hw.2 rfl rfl rfl rfl rfl rfl (fun r1 K2 => xr_kw0 hw (cn_keyOf (hw.B hb hl hR) _ F _ _ t (by omega) (by omega)) (K2 _ _ _ _ ?_))
          refine xs_mul rfl ?_
          refine xs_add rfl ?_
          refine xr_stp (st' := .int (Int32.ofNat 3) :: _) rfl rfl rfl rfl ?_
          refine xr_stp rfl rfl rfl rfl ?_
          refine xr_stp rfl rfl rfl rfl ?_
          refine xr_vcps hw.2 rfl rfl rfl rfl rfl rfl (fun r1 K2 => xr_kw0 hw (cn_fieldOf (hw.B hb hl hR) _ F _ _ t (by omega) (by omega)) (K2 _ _ _ _ ?_))
          refine xs_mul rfl ?_
          refine xs_add rfl ?_
          refine xr_stp rfl rfl rfl rfl ?_
          refine xr_stp rfl rfl rfl rfl ?_
          refine xr_vcps hw.2 rfl rfl rfl rfl rfl rfl (fun r1 K2 => n_val _ _ _ b W F L hw hb hl hR t (by omega) (by omega) r1 (K2 _ _ _ _ ?_))
          refine xs_add rfl ?_
          refine xr_stp rfl rfl rfl rfl ?_
          refine xr_stp (st' := .int (Int32.ofNat 31) :: _) rfl rfl rfl rfl ?_
          refine xr_stp rfl rfl rfl rfl ?_
          refine xs_mul rfl ?_
          refine xr_stp rfl rfl rfl rfl ?_
          refine xs_add rfl ?_
          refine xr_stp (st' := .int (Int32.ofNat 9973) :: _) rfl rfl rfl rfl ?_
          refine xs_mod (by omega) (by omega) (by omega) rfl ?_
          refine xr_stp rfl rfl rfl rfl ?_
          refine xs_inc (e := 1) rfl rfl rfl rfl ?_
          refine xr_stp rfl rfl rfl rfl ?_
          exact n_digL d c s b W F L hw hb hl hR X hX hk hC r m (t + 1) _ _ (by omega) (by omega) (by first | exact Or.inl rfl | exact Or.inr ⟨_, _, _, rfl⟩) K
/-- 'digestOf' -/
theorem n_dig (d c s b : Nat) (W : xi_W) (F : Nat → Nat) (L : List Value) (hw : kw W b F) (hb : wb b) (hl : 687 ≤ W.length) (hR : W[355]? = some (.inr (2, L))) (X : Nat) (hX : X < 55) (hk : cn_ok F X) (hC : ∀ u, u < 256 → F (16 * u + 2) < 1200) (r : xi_R → Prop) (K : r (some (.int (Int32.ofNat (fd (fun u => cn_he F X u 4294967295 4294967295) (fun a u => (31 * a + (101 * (u / 64) + 7 * (u % 64) + 5 * (F (16 * u + 2) / 300) + 3 * (F (16 * u + 2) / 100 % 3) + F (16 * u + 2) % 100)) % 9973) 256 0 0))), W, c, s)) : xr (d + 2) 21 0 [(0, .ref (b + 1)), (1, .int (Int32.ofNat X))] [] W c s r := by
  refine xr_stp (st' := .int (Int32.ofNat 0) :: _) rfl rfl rfl rfl ?_
  refine xr_stp rfl rfl rfl rfl ?_
  refine xr_stp (st' := .int (Int32.ofNat 0) :: _) rfl rfl rfl rfl ?_
  refine xr_stp rfl rfl rfl rfl ?_
  exact n_digL d c s b W F L hw hb hl hR X hX hk hC r 256 0 0 _ rfl (by omega) (Or.inl rfl) K
def lI (P V : Nat → Nat) (n z : Nat) : Nat → Nat
  | 0 => z
  | k + 1 => if P (k * 64 + n) = 0 then lI P V n z k else V (k * 64 + n)
def lO (P V : Nat → Nat) : Nat → Nat
  | 0 => 4294967295
  | n + 1 => lI P V (n + 1) (lO P V n) 4
/-- one less than k, or -1 -/
def lR (k : Nat) : Nat := if k = 0 then 4294967295 else k - 1
theorem lR_inc (k : Nat) (hk : k < 5) : Int32.ofNat (k + 4294967295) = Int32.ofNat (lR k) := by
  cases k with
  | zero => rfl
  | succ k => rw [n_dec]; rfl
theorem n_latI (d c s b : Nat) (W : xi_W) (F : Nat → Nat) (L : List Value) (hw : kw W b F) (hb : wb b) (hl : 687 ≤ W.length) (hR : W[355]? = some (.inr (2, L))) (X q f : Nat) (hX : X < 55) (hq : q < 4294967296) (hf : f < 4294967296) (hk : cn_ok F X) (hC : ∀ u, u < 256 → F (16 * u + 2) < 1200) (n : Nat) (hn : 0 < n) (hn2 : n < 64) (z : Nat) (r : xi_R → Prop) : ∀ (k : Nat) (L1 : xi_L), k ≤ 4 → (L1 = [(5, .int (Int32.ofNat (lR k))), (4, .int (Int32.ofNat n)), (0, .ref (b + 1)), (1, .int (Int32.ofNat X)), (2, .int (Int32.ofNat q)), (3, .int (Int32.ofNat f))] ∨ (∃ e1, L1 = [(5, .int (Int32.ofNat (lR k))), (6, .int e1), (4, .int (Int32.ofNat n)), (0, .ref (b + 1)), (1, .int (Int32.ofNat X)), (2, .int (Int32.ofNat q)), (3, .int (Int32.ofNat f))]) ∨ ∃ e1, L1 = [(5, .int (Int32.ofNat (lR k))), (4, .int (Int32.ofNat n)), (6, .int e1), (0, .ref (b + 1)), (1, .int (Int32.ofNat X)), (2, .int (Int32.ofNat q)), (3, .int (Int32.ofNat f))]) → (∀ L2, (L2 = [(5, .int (Int32.ofNat 4294967295)), (4, .int (Int32.ofNat n)), (0, .ref (b + 1)), (1, .int (Int32.ofNat X)), (2, .int (Int32.ofNat q)), (3, .int (Int32.ofNat f))] ∨ (∃ e1, L2 = [(5, .int (Int32.ofNat 4294967295)), (6, .int e1), (4, .int (Int32.ofNat n)), (0, .ref (b + 1)), (1, .int (Int32.ofNat X)), (2, .int (Int32.ofNat q)), (3, .int (Int32.ofNat f))]) ∨ ∃ e1, L2 = [(5, .int (Int32.ofNat 4294967295)), (4, .int (Int32.ofNat n)), (6, .int e1), (0, .ref (b + 1)), (1, .int (Int32.ofNat X)), (2, .int (Int32.ofNat q)), (3, .int (Int32.ofNat f))]) → r (some (.int (Int32.ofNat z)), W, c, s) → xr (d + 2) 18 52 L2 [] W c s r) → r (some (.int (Int32.ofNat (lI (fun u => cn_he F X u q f) (fun u => F (16 * u + 2) % 100) n z k))), W, c, s) → xr (d + 2) 18 12 L1 [] W c s r
  | 0, L1, hk4, hL1, KE, K => by
    unfold lR at hL1
    rw [if_pos rfl] at hL1
    rcases hL1 with rfl | ⟨_, rfl⟩ | ⟨_, rfl⟩
    all_goals
      refine xr_stp rfl rfl rfl rfl ?_
      refine xr_j1 rfl rfl rfl rfl rfl (fun h14 => ?_) (fun h14 => ?_)
      · exact KE _ (by first | exact Or.inl rfl | exact Or.inr (Or.inl ⟨_, rfl⟩) | exact Or.inr (Or.inr ⟨_, rfl⟩)) K
      · exact absurd h14 (by decide +kernel)
  | k + 1, L1, hk4, hL1, KE, K => by
    unfold lI at K
    unfold lR at hL1
    rw [if_neg (by omega), Nat.add_sub_cancel] at hL1
    have hct := hC (k * 64 + n) (by omega)
    rcases hL1 with rfl | ⟨_, rfl⟩ | ⟨_, rfl⟩
    all_goals
      refine xr_stp rfl rfl rfl rfl ?_
      refine xr_j1 rfl rfl rfl rfl rfl (fun h14 => ?_) (fun h14 => ?_)
      · exact absurd (show k < 2147483648 by omega) (n_lt0 h14)
      · refine xr_stp rfl rfl rfl rfl ?_
        refine xr_stp (st' := .int (Int32.ofNat 64) :: _) rfl rfl rfl rfl ?_
        refine xs_mul rfl ?_
        refine xr_stp rfl rfl rfl rfl ?_
        refine xs_add rfl ?_
        refine xr_stp rfl rfl rfl rfl ?_
        refine xr_stp rfl rfl rfl rfl ?_
        refine xr_stp rfl rfl rfl rfl ?_
        refine xr_stp rfl rfl rfl rfl ?_
        refine xr_stp rfl rfl rfl rfl ?_
        refine xr_stp rfl rfl rfl rfl ?_
        refine xr_vcps hw.2 rfl rfl rfl rfl rfl rfl (fun r1 K2 => xr_kw0 hw (cn_hasEntry (hw.B hb hl hR) d F _ _ X (k * 64 + n) q f hX (by omega) (by omega) (by omega) (hk.1 _ (by omega)) (hk.2 _ (by omega))) (K2 _ _ _ _ ?_))
        refine xr_j1 rfl rfl rfl rfl rfl (fun h36 => ?_) (fun h36 => ?_)
        · have e36 := nt1_eq (Nat.lt_of_lt_of_le (cn_heb F X _ _ _) (by omega)) h36
          rw [if_pos e36] at K
          refine xs_inc (e := 4294967295) rfl rfl rfl rfl ?_
          refine xr_stp rfl rfl rfl rfl ?_
          rw [lR_inc k (by omega)]
          exact n_latI d c s b W F L hw hb hl hR X q f hX hq hf hk hC n hn hn2 z r k _ (by omega) (by first | exact Or.inl rfl | exact Or.inr (Or.inl ⟨_, rfl⟩) | exact Or.inr (Or.inr ⟨_, rfl⟩)) KE K
        · have e36 := nf1_eq h36
          rw [if_neg e36] at K
          refine xr_stp rfl rfl rfl rfl ?_
          refine xr_stp rfl rfl rfl rfl ?_
          refine xr_vcps hw.2 rfl rfl rfl rfl rfl rfl (fun r1 K2 => n_val _ _ _ b W F L hw hb hl hR (k * 64 + n) (by omega) (by omega) r1 (K2 _ _ _ _ ?_))
          exact xr_ret rfl rfl K
theorem n_latL (d c s b : Nat) (W : xi_W) (F : Nat → Nat) (L : List Value) (hw : kw W b F) (hb : wb b) (hl : 687 ≤ W.length) (hR : W[355]? = some (.inr (2, L))) (X q f : Nat) (hX : X < 55) (hq : q < 4294967296) (hf : f < 4294967296) (hk : cn_ok F X) (hC : ∀ u, u < 256 → F (16 * u + 2) < 1200) (r : xi_R → Prop) : ∀ (n : Nat) (L1 : xi_L), n < 64 → (L1 = [(4, .int (Int32.ofNat n)), (0, .ref (b + 1)), (1, .int (Int32.ofNat X)), (2, .int (Int32.ofNat q)), (3, .int (Int32.ofNat f))] ∨ (∃ e1, L1 = [(4, .int (Int32.ofNat n)), (5, .int e1), (0, .ref (b + 1)), (1, .int (Int32.ofNat X)), (2, .int (Int32.ofNat q)), (3, .int (Int32.ofNat f))]) ∨ ∃ e1 e2, L1 = [(4, .int (Int32.ofNat n)), (5, .int e1), (6, .int e2), (0, .ref (b + 1)), (1, .int (Int32.ofNat X)), (2, .int (Int32.ofNat q)), (3, .int (Int32.ofNat f))]) → r (some (.int (Int32.ofNat (lO (fun u => cn_he F X u q f) (fun u => F (16 * u + 2) % 100) n))), W, c, s) → xr (d + 2) 18 4 L1 [] W c s r
  | 0, L1, hn, hL1, K => by
    rcases hL1 with rfl | ⟨_, rfl⟩ | ⟨_, _, rfl⟩
    all_goals
      refine xr_stp rfl rfl rfl rfl ?_
      refine xr_j1 rfl rfl rfl rfl rfl (fun h6 => ?_) (fun h6 => ?_)
      · refine xr_stp (st' := .int (Int32.ofNat 4294967295) :: _) rfl rfl rfl rfl ?_
        exact xr_ret rfl rfl K
      · exact absurd (nf1_le (by omega) h6) (by omega)
  | n + 1, L1, hn, hL1, K => by
    unfold lO at K
    rcases hL1 with rfl | ⟨_, rfl⟩ | ⟨_, _, rfl⟩
    all_goals
      refine xr_stp rfl rfl rfl rfl ?_
      refine xr_j1 rfl rfl rfl rfl rfl (fun h6 => ?_) (fun h6 => ?_)
      · exact absurd (nt1_le (by omega) h6) (by omega)
      · refine xr_stp (st' := .int (Int32.ofNat 3) :: _) rfl rfl rfl rfl ?_
        refine xr_stp rfl rfl rfl rfl ?_
        refine n_latI d c s b W F L hw hb hl hR X q f hX hq hf hk hC (n + 1) (by omega) hn (lO (fun u => cn_he F X u q f) (fun u => F (16 * u + 2) % 100) n) r 4 _ (by omega) (by first | exact Or.inl rfl | exact Or.inr (Or.inl ⟨_, rfl⟩) | exact Or.inr (Or.inr ⟨_, rfl⟩)) (fun L2 hL2 K3 => ?_) K
        rcases hL2 with rfl | ⟨_, rfl⟩ | ⟨_, rfl⟩
        all_goals
          refine xs_dec rfl rfl rfl ?_
          refine xr_stp rfl rfl rfl rfl ?_
          exact n_latL d c s b W F L hw hb hl hR X q f hX hq hf hk hC r n _ (by omega) (by first | exact Or.inl rfl | exact Or.inr (Or.inl ⟨_, rfl⟩) | exact Or.inr (Or.inr ⟨_, _, rfl⟩)) K3
/-- 'latest' -/
theorem n_lat (d c s b : Nat) (W : xi_W) (F : Nat → Nat) (L : List Value) (hw : kw W b F) (hb : wb b) (hl : 687 ≤ W.length) (hR : W[355]? = some (.inr (2, L))) (X q f : Nat) (hX : X < 55) (hq : q < 4294967296) (hf : f < 4294967296) (hk : cn_ok F X) (hC : ∀ u, u < 256 → F (16 * u + 2) < 1200) (r : xi_R → Prop) (K : r (some (.int (Int32.ofNat (lO (fun u => cn_he F X u q f) (fun u => F (16 * u + 2) % 100) 63))), W, c, s)) : xr (d + 2) 18 0 [(0, .ref (b + 1)), (1, .int (Int32.ofNat X)), (2, .int (Int32.ofNat q)), (3, .int (Int32.ofNat f))] [] W c s r := by
  refine xr_stp (st' := .int (Int32.ofNat 63) :: _) rfl rfl rfl rfl ?_
  refine xr_stp rfl rfl rfl rfl ?_
  exact n_latL d c s b W F L hw hb hl hR X q f hX hq hf hk hC r 63 _ (by omega) (Or.inl rfl) K
def df (F : Nat → Nat) (A B : Nat) : Nat → Nat → Nat → Nat
  | 0, _, x => x
  | m + 1, k, x => df F A B m (k + 1) (x + bc 63 (F (16 * (A * 4 + k) + 1) &&& (F (16 * (B * 4 + k) + 0) ^^^ 18446744073709551615)) + bc 63 ((F (16 * (A * 4 + k) + 0) &&& (F (16 * (A * 4 + k) + 1) ^^^ 18446744073709551615)) &&& ((F (16 * (B * 4 + k) + 0) ^^^ 18446744073709551615) ||| F (16 * (B * 4 + k) + 1))))
theorem n_dfL (d c s b : Nat) (W : xi_W) (F : Nat → Nat) (L : List Value) (hw : kw W b F) (hb : wb b) (hl : 687 ≤ W.length) (hR : W[355]? = some (.inr (2, L))) (A B : Nat) (hA : A < 55) (hB : B < 55) (hf : ∀ t, t < 4 → F (16 * (A * 4 + t) + 0) < 9223372036854775808 ∧ F (16 * (A * 4 + t) + 1) < 9223372036854775808) (r : xi_R → Prop) : ∀ (m k x : Nat) (L1 : xi_L), k + m = 4 → (L1 = [(4, .int (Int32.ofNat k)), (3, .int (Int32.ofNat x)), (0, .ref (b + 1)), (1, .int (Int32.ofNat A)), (2, .int (Int32.ofNat B))] ∨ ∃ e1 e2, L1 = [(4, .int (Int32.ofNat k)), (3, .int (Int32.ofNat x)), (6, .int e1), (5, .int e2), (0, .ref (b + 1)), (1, .int (Int32.ofNat A)), (2, .int (Int32.ofNat B))]) → r (some (.int (Int32.ofNat (df F A B m k x))), W, c, s) → xr (d + 1) 24 5 L1 [] W c s r
  | 0, k, x, L1, hk, hL1, K => by
    obtain rfl : k = 4 := by omega
    rcases hL1 with rfl | ⟨_, _, rfl⟩
    all_goals
      refine xr_stp rfl rfl rfl rfl ?_
      refine xr_stp (st' := .int (Int32.ofNat 4) :: _) rfl rfl rfl rfl ?_
      refine xr_j2 rfl rfl rfl rfl rfl (fun h8 => ?_) (fun h8 => ?_)
      · refine xr_stp rfl rfl rfl rfl ?_
        exact xr_ret rfl rfl K
      · exact absurd (nf_ge (by omega) (by omega) h8) (by omega)
  | m + 1, k, x, L1, hk, hL1, K => by
    unfold df at K
    have h1 := hf k (by omega)
    have y1 : F (16 * (A * 4 + k) + 1) &&& (F (16 * (B * 4 + k) + 0) ^^^ 18446744073709551615) < 9223372036854775808 := Nat.lt_of_le_of_lt Nat.and_le_left h1.2
    have y2 : (F (16 * (A * 4 + k) + 0) &&& (F (16 * (A * 4 + k) + 1) ^^^ 18446744073709551615)) &&& ((F (16 * (B * 4 + k) + 0) ^^^ 18446744073709551615) ||| F (16 * (B * 4 + k) + 1)) < 9223372036854775808 := Nat.lt_of_le_of_lt Nat.and_le_left (Nat.lt_of_le_of_lt Nat.and_le_left h1.1)
    rcases hL1 with rfl | ⟨_, _, rfl⟩
    all_goals
      refine xr_stp rfl rfl rfl rfl ?_
      refine xr_stp (st' := .int (Int32.ofNat 4) :: _) rfl rfl rfl rfl ?_
      refine xr_j2 rfl rfl rfl rfl rfl (fun h8 => ?_) (fun h8 => ?_)
      · exact absurd (nt_ge (by omega) (by omega) h8) (by omega)
      · refine xr_stp rfl rfl rfl rfl ?_
        refine xr_stp (st' := .int (Int32.ofNat 4) :: _) rfl rfl rfl rfl ?_
        refine xs_mul rfl ?_
        refine xr_stp rfl rfl rfl rfl ?_
        refine xs_add rfl ?_
        refine xr_stp rfl rfl rfl rfl ?_
        refine xr_stp rfl rfl rfl rfl ?_
        refine xr_stp (st' := .int (Int32.ofNat 4) :: _) rfl rfl rfl rfl ?_
        refine xs_mul rfl ?_
        refine xr_stp rfl rfl rfl rfl ?_
        refine xs_add rfl ?_
        refine xr_stp rfl rfl rfl rfl ?_
        refine xr_stp rfl rfl rfl rfl ?_
        refine xr_stp rfl rfl rfl rfl ?_
        refine xr_getfield hw.2 rfl rfl rfl rfl ?_
        refine xr_stp rfl rfl rfl rfl ?_
        refine xs_ald (hw.a hb hl hR) (by have := hb.1; omega) (by omega) (by omega) rfl ?_
        refine xr_stp rfl rfl rfl rfl ?_
        refine xr_getfield hw.2 rfl rfl rfl rfl ?_
        refine xr_stp rfl rfl rfl rfl ?_
        refine xs_ald (hw.k hb hl hR) (by have := hb.1; omega) (by omega) (by omega) rfl ?_
        refine xr_stp (st' := .long (Int64.ofNat 18446744073709551615) :: _) rfl rfl rfl rfl ?_
        refine xs_lxor rfl ?_
        refine xs_land rfl ?_
        refine xr_cps rfl rfl rfl (fun r1 K2 => xr_bitCount _ _ _ _ _ (y1) r1 (K2 _ _ _ _ ?_))
        refine xs_add rfl ?_
        refine xr_stp rfl rfl rfl rfl ?_
        refine xr_stp rfl rfl rfl rfl ?_
        refine xr_stp rfl rfl rfl rfl ?_
        refine xr_getfield hw.2 rfl rfl rfl rfl ?_
        refine xr_stp rfl rfl rfl rfl ?_
        refine xs_ald (hw.k hb hl hR) (by have := hb.1; omega) (by omega) (by omega) rfl ?_
        refine xr_stp rfl rfl rfl rfl ?_
        refine xr_getfield hw.2 rfl rfl rfl rfl ?_
        refine xr_stp rfl rfl rfl rfl ?_
        refine xs_ald (hw.a hb hl hR) (by have := hb.1; omega) (by omega) (by omega) rfl ?_
        refine xr_stp (st' := .long (Int64.ofNat 18446744073709551615) :: _) rfl rfl rfl rfl ?_
        refine xs_lxor rfl ?_
        refine xs_land rfl ?_
        refine xr_stp rfl rfl rfl rfl ?_
        refine xr_getfield hw.2 rfl rfl rfl rfl ?_
        refine xr_stp rfl rfl rfl rfl ?_
        refine xs_ald (hw.k hb hl hR) (by have := hb.1; omega) (by omega) (by omega) rfl ?_
        refine xr_stp (st' := .long (Int64.ofNat 18446744073709551615) :: _) rfl rfl rfl rfl ?_
        refine xs_lxor rfl ?_
        refine xr_stp rfl rfl rfl rfl ?_
        refine xr_getfield hw.2 rfl rfl rfl rfl ?_
        refine xr_stp rfl rfl rfl rfl ?_
        refine xs_ald (hw.a hb hl hR) (by have := hb.1; omega) (by omega) (by omega) rfl ?_
        refine xs_lor rfl ?_
        refine xs_land rfl ?_
        refine xr_cps rfl rfl rfl (fun r1 K2 => xr_bitCount _ _ _ _ _ (y2) r1 (K2 _ _ _ _ ?_))
        refine xs_add rfl ?_
        refine xr_stp rfl rfl rfl rfl ?_
        refine xs_inc (e := 1) rfl rfl rfl rfl ?_
        refine xr_stp rfl rfl rfl rfl ?_
        exact n_dfL d c s b W F L hw hb hl hR A B hA hB hf r m (k + 1) _ _ (by omega) (by first | exact Or.inl rfl | exact Or.inr ⟨_, _, rfl⟩) K
/-- 'differing' -/
theorem n_df (d c s b : Nat) (W : xi_W) (F : Nat → Nat) (L : List Value) (hw : kw W b F) (hb : wb b) (hl : 687 ≤ W.length) (hR : W[355]? = some (.inr (2, L))) (A B : Nat) (hA : A < 55) (hB : B < 55) (hf : ∀ t, t < 4 → F (16 * (A * 4 + t) + 0) < 9223372036854775808 ∧ F (16 * (A * 4 + t) + 1) < 9223372036854775808) (r : xi_R → Prop) (K : r (some (.int (Int32.ofNat (df F A B 4 0 0))), W, c, s)) : xr (d + 1) 24 0 [(0, .ref (b + 1)), (1, .int (Int32.ofNat A)), (2, .int (Int32.ofNat B))] [] W c s r := by
  refine xr_stp (st' := .int (Int32.ofNat 0) :: _) rfl rfl rfl rfl ?_
  refine xr_stp rfl rfl rfl rfl ?_
  refine xr_stp (st' := .int (Int32.ofNat 0) :: _) rfl rfl rfl rfl ?_
  refine xr_stp rfl rfl rfl rfl ?_
  exact n_dfL d c s b W F L hw hb hl hR A B hA hB hf r 4 0 0 _ rfl (Or.inl rfl) K
