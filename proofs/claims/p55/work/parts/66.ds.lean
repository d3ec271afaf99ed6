/-! the class: what a law is asked of, what it is worth -/
theorem xs_rld {d i pc a n j : Nat} {C : String} {f : Nat → Option Nat} {l : xi_L} {st : List Value} {w : xi_W} {c s : Nat} {r : xi_R → Prop} (hw : w[a]? = some (.inl (.object C, n, .inr (.inr f)))) (hg : 17 ≤ a) (hj : j < n) (hn : n < 2147483648) (hc : xt_cd i pc = some .aaload) (h : xr d i (pc + 1) l (xi_rf (f j) :: st) w c s r) : xr d i pc l (.int (Int32.ofNat j) :: .ref a :: st) w c s r :=
  xr_stp hc rfl rfl (by
    have e : xi_isr (.object C) = true := rfl
    simp only [xi_stp, hw, Nat.ble_eq.mpr hg, n_ix hj hn, e, n_nat (show j < 2147483648 by omega), Bool.and_self, cond_true]) h
/-- a row is filled -/
def fi_ (v : Nat) : Nat → Nat → (Nat → Nat) → (Nat → Nat)
  | 0, _, M => M
  | m + 1, k, M => fi_ v m (k + 1) (xn_u M k v)
theorem fi_v (v : Nat) : ∀ (m k : Nat) (M : Nat → Nat) (j : Nat), fi_ v m k M j = if k ≤ j ∧ j < k + m then v else M j
  | 0, k, M, j => by rw [if_neg (by omega)]; rfl
  | m + 1, k, M, j => by
    unfold fi_
    rw [fi_v v m (k + 1)]
    by_cases h : j = k
    · subst h
      rw [if_neg (by omega), if_pos (by omega), xn_ue]
    · by_cases h2 : k ≤ j ∧ j < k + (m + 1)
      · rw [if_pos (by omega), if_pos h2]
      · rw [if_neg (by omega), if_neg h2, xn_un _ _ h]
theorem ar_rc (d c s n lo hi : Nat) (W : xi_W) (h1 : lo ≤ hi) (h2 : hi ≤ n) (hn : n < 2147483648) (r : xi_R → Prop) (k : r (none, W, c, s)) : xr d 168 0 [(0, .int (Int32.ofNat n)), (1, .int (Int32.ofNat lo)), (2, .int (Int32.ofNat hi))] [] W c s r := by
  refine xr_stp rfl rfl rfl rfl ?_
  refine xr_stp rfl rfl rfl rfl ?_
  refine xr_j2 rfl rfl rfl rfl rfl (fun h2_ => ?_) (fun h2_ => ?_)
  · refine xr_stp rfl rfl rfl rfl ?_
    refine xr_j1 rfl rfl rfl rfl rfl (fun h47 => ?_) (fun h47 => ?_)
    · refine xr_stp rfl rfl rfl rfl ?_
      refine xr_stp rfl rfl rfl rfl ?_
      refine xr_j2 rfl rfl rfl rfl rfl (fun h61 => ?_) (fun h61 => ?_)
      · exact xr_ret rfl rfl k
      · exact absurd (nf_le (by omega) (by omega) h61) (by omega)
    · exact (n_ge0f (by omega) h47).elim
  · exact absurd (nf_le (by omega) (by omega) h2_) (by omega)
theorem ar_fiL (d c s A n hi v : Nat) (hg : 17 ≤ A) (hn : n < 2147483648) (hh : hi ≤ n) (lo : Nat) (r : xi_R → Prop) : ∀ (m k : Nat) (M : Nat → Nat) (W0 : xi_W), k + m = hi → W0[A]? = some (lw_i n M) → (∀ W', W'[A]? = some (lw_i n (fi_ v m k M)) → fr (· = A) W0 W' → r (none, W', c, s)) → xr (d + 1) 170 10 [(4, .int (Int32.ofNat k)), (0, .ref A), (1, .int (Int32.ofNat lo)), (2, .int (Int32.ofNat hi)), (3, .int (Int32.ofNat v))] [] W0 c s r
  | 0, k, M, W0, hk, hw, K => by
    obtain rfl : k = hi := by omega
    refine xr_stp rfl rfl rfl rfl ?_
    refine xr_stp rfl rfl rfl rfl ?_
    refine xr_j2 rfl rfl rfl rfl rfl (fun h13 => ?_) (fun h13 => ?_)
    · exact xr_ret rfl rfl (K _ hw fr.rf)
    · exact absurd (nf_ge (by omega) (by omega) h13) (by omega)
  | m + 1, k, M, W0, hk, hw, K => by
    have hF : fr (· = A) W0 W0 := fr.rf
    refine xr_stp rfl rfl rfl rfl ?_
    refine xr_stp rfl rfl rfl rfl ?_
    refine xr_j2 rfl rfl rfl rfl rfl (fun h13 => ?_) (fun h13 => ?_)
    · exact absurd (nt_ge (by omega) (by omega) h13) (by omega)
    · refine xr_stp rfl rfl rfl rfl ?_
      refine xr_stp rfl rfl rfl rfl ?_
      refine xr_stp rfl rfl rfl rfl ?_
      refine xs_istk hw hg (by omega) (by omega) rfl (fun W hw hf1 => ?_)
      have hF := hF.tr2 hf1 (fun _ e => Or.inl e)
      refine xs_inc (e := 1) rfl rfl rfl rfl ?_
      refine xr_stp rfl rfl rfl rfl ?_
      exact ar_fiL d c s A n hi v hg hn hh lo r m (k + 1) _ _ (by omega) hw (fun W1 h1 h2 => K W1 h1 (hF.tr h2))
theorem ar_fill (d c s A n lo hi v : Nat) (W0 : xi_W) (M : Nat → Nat) (hw : W0[A]? = some (lw_i n M)) (hg : 17 ≤ A) (hn : n < 2147483648) (hl : lo ≤ hi) (hh : hi ≤ n) (r : xi_R → Prop) (K : ∀ W', W'[A]? = some (lw_i n (fi_ v (hi - lo) lo M)) → fr (· = A) W0 W' → r (none, W', c, s)) : xr (d + 1) 170 0 [(0, .ref A), (1, .int (Int32.ofNat lo)), (2, .int (Int32.ofNat hi)), (3, .int (Int32.ofNat v))] [] W0 c s r := by
  refine xr_stp rfl rfl rfl rfl ?_
  refine xs_iln hw rfl ?_
  refine xr_stp rfl rfl rfl rfl ?_
  refine xr_stp rfl rfl rfl rfl ?_
  refine xr_cps rfl rfl rfl (fun r1 K2 => ar_rc _ _ _ n lo hi W0 hl hh hn r1 (K2 _ _ _ _ ?_))
  refine xr_stp rfl rfl rfl rfl ?_
  refine xr_stp rfl rfl rfl rfl ?_
  exact ar_fiL d _ _ A n hi v hg hn hh lo r (hi - lo) lo M W0 (by omega) hw K
/-- what a law may ask for, by numbers -/
def ds_ (F : Nat → Nat) : Nat → Nat → (Nat → Nat) → (Nat → Nat)
  | 0, _, M => M
  | m + 1, k, M => ds_ F m (k + 1) (xn_u (xn_u M (6 + k / 4) (M (6 + k / 4) + bc 63 (F (16 * k + 1)))) (10 + k / 4) (xn_u M (6 + k / 4) (M (6 + k / 4) + bc 63 (F (16 * k + 1))) (10 + k / 4) + bc 63 (F (16 * k + 0))))
theorem ds_L (d c s b M u t : Nat) (F : Nat → Nat) (gb : 17 ≤ b) (hg : 17 ≤ M) (n0 : b ≠ M) (n1 : b + 1 ≠ M) (n2 : b + 2 ≠ M) (n3 : b + 3 ≠ M) (hB : ∀ i, i < 16 → F (16 * i + 0) < 9223372036854775808 ∧ F (16 * i + 1) < 9223372036854775808) (r : xi_R → Prop) : ∀ (m k : Nat) (V : Nat → Nat) (W0 : xi_W), k + m = 16 → W0[b]? = some (.inr (5, [.ref (b + 1), .ref (b + 5), .ref (b + 6), .ref (b + 7), .ref (b + 8), .ref (b + 9), .int (Int32.ofNat (F 8)), .int (Int32.ofNat (F 24)), .int (Int32.ofNat (F 40)), .int (Int32.ofNat (F 56)), .int (Int32.ofNat (F 72)), .int (Int32.ofNat (F 88))])) → W0[b + 1]? = some (.inr (0, [.ref (b + 2), .ref (b + 3), .ref (b + 4)])) → W0[b + 2]? = some (lw_a 220 (fun j => F (16 * j + 0))) → W0[b + 3]? = some (lw_a 220 (fun j => F (16 * j + 1))) → W0[M]? = some (lw_i 14 V) → (∀ W', W'[M]? = some (lw_i 14 (ds_ F m k V)) → fr (· = M) W0 W' → r (none, W', c, s)) → xr (d + 1) 86 27 [(4, .int (Int32.ofNat k)), (0, .ref b), (1, .ref M), (2, .int (Int32.ofNat u)), (3, .int (Int32.ofNat t))] [] W0 c s r
  | 0, k, V, W0, hkm, hW, hN, hk, ha, hm, K => by
    obtain rfl : k = 16 := by omega
    refine xr_stp rfl rfl rfl rfl ?_
    refine xr_stp (st' := .int (Int32.ofNat 16) :: _) rfl rfl rfl rfl ?_
    refine xr_j2 rfl rfl rfl rfl rfl (fun h31 => ?_) (fun h31 => ?_)
    · exact xr_ret rfl rfl (K _ hm fr.rf)
    · exact absurd (nf_ge (by omega) (by omega) h31) (by omega)
  | m + 1, k, V, W0, hkm, hW, hN, hk, ha, hm, K => by
    have hF : fr (· = M) W0 W0 := fr.rf
    have hb := hB k (by omega)
    refine xr_stp rfl rfl rfl rfl ?_
    refine xr_stp (st' := .int (Int32.ofNat 16) :: _) rfl rfl rfl rfl ?_
    refine xr_j2 rfl rfl rfl rfl rfl (fun h31 => ?_) (fun h31 => ?_)
    · exact absurd (nt_ge (by omega) (by omega) h31) (by omega)
    · refine xr_stp rfl rfl rfl rfl ?_
      refine xr_stp (st' := .int (Int32.ofNat 6) :: _) rfl rfl rfl rfl ?_
      refine xr_stp rfl rfl rfl rfl ?_
      refine xr_stp (st' := .int (Int32.ofNat 4) :: _) rfl rfl rfl rfl ?_
      refine xs_div (by omega) (by omega) (by omega) rfl ?_
      refine xs_add rfl ?_
      refine xr_stp rfl rfl rfl rfl ?_
      refine xs_ild hm (by omega) (by omega) rfl ?_
      refine xr_stp rfl rfl rfl rfl ?_
      refine xr_getfield hW rfl rfl rfl rfl ?_
      refine xr_getfield hN rfl rfl rfl rfl ?_
      refine xr_stp rfl rfl rfl rfl ?_
      refine xs_ald ha (by omega) (by omega) (by omega) rfl ?_
      refine xr_cps rfl rfl rfl (fun r1 K2 => xr_bitCount _ _ _ _ _ (hb.2) r1 (K2 _ _ _ _ ?_))
      refine xs_add rfl ?_
      refine xs_istk hm hg (by omega) (by omega) rfl (fun W hm hf1 => ?_)
      have hW := hf1.at hW n0
      have hN := hf1.at hN n1
      have hk := hf1.at hk n2
      have ha := hf1.at ha n3
      have hF := hF.tr2 hf1 (fun _ e => Or.inl e)
      refine xr_stp rfl rfl rfl rfl ?_
      refine xr_stp (st' := .int (Int32.ofNat 10) :: _) rfl rfl rfl rfl ?_
      refine xr_stp rfl rfl rfl rfl ?_
      refine xr_stp (st' := .int (Int32.ofNat 4) :: _) rfl rfl rfl rfl ?_
      refine xs_div (by omega) (by omega) (by omega) rfl ?_
      refine xs_add rfl ?_
      refine xr_stp rfl rfl rfl rfl ?_
      refine xs_ild hm (by omega) (by omega) rfl ?_
      refine xr_stp rfl rfl rfl rfl ?_
      refine xr_getfield hW rfl rfl rfl rfl ?_
      refine xr_getfield hN rfl rfl rfl rfl ?_
      refine xr_stp rfl rfl rfl rfl ?_
      refine xs_ald hk (by omega) (by omega) (by omega) rfl ?_
      refine xr_cps rfl rfl rfl (fun r1 K2 => xr_bitCount _ _ _ _ _ (hb.1) r1 (K2 _ _ _ _ ?_))
      refine xs_add rfl ?_
      refine xs_istk hm hg (by omega) (by omega) rfl (fun W hm hf1 => ?_)
      have hW := hf1.at hW n0
      have hN := hf1.at hN n1
      have hk := hf1.at hk n2
      have ha := hf1.at ha n3
      have hF := hF.tr2 hf1 (fun _ e => Or.inl e)
      refine xs_inc (e := 1) rfl rfl rfl rfl ?_
      refine xr_stp rfl rfl rfl rfl ?_
      exact ds_L d c s b M u t F gb hg n0 n1 n2 n3 hB r m (k + 1) _ _ (by omega) hW hN hk ha hm (fun W1 h1 h2 => K W1 h1 (hF.tr h2))
def ds_0 (F V : Nat → Nat) (u t : Nat) : Nat → Nat := ds_ F 16 0 (fi_ 0 (14 - 6) 6 (xn_u (xn_u (xn_u V 0 (F 40)) 1 u) 2 t))
/-- 'describe' -/
theorem ds_run (d c s b M u t : Nat) (F V : Nat → Nat) (W0 : xi_W) (gb : 17 ≤ b) (hg : 17 ≤ M) (n0 : b ≠ M) (n1 : b + 1 ≠ M) (n2 : b + 2 ≠ M) (n3 : b + 3 ≠ M) (hB : ∀ i, i < 16 → F (16 * i + 0) < 9223372036854775808 ∧ F (16 * i + 1) < 9223372036854775808) (hW : W0[b]? = some (.inr (5, [.ref (b + 1), .ref (b + 5), .ref (b + 6), .ref (b + 7), .ref (b + 8), .ref (b + 9), .int (Int32.ofNat (F 8)), .int (Int32.ofNat (F 24)), .int (Int32.ofNat (F 40)), .int (Int32.ofNat (F 56)), .int (Int32.ofNat (F 72)), .int (Int32.ofNat (F 88))]))) (hN : W0[b + 1]? = some (.inr (0, [.ref (b + 2), .ref (b + 3), .ref (b + 4)]))) (hk : W0[b + 2]? = some (lw_a 220 (fun j => F (16 * j + 0)))) (ha : W0[b + 3]? = some (lw_a 220 (fun j => F (16 * j + 1)))) (hm : W0[M]? = some (lw_i 14 V)) (r : xi_R → Prop) (K : ∀ W', W'[M]? = some (lw_i 14 (ds_0 F V u t)) → fr (· = M) W0 W' → r (none, W', c, s)) : xr (d + 2) 86 0 [(0, .ref b), (1, .ref M), (2, .int (Int32.ofNat u)), (3, .int (Int32.ofNat t))] [] W0 c s r := by
  have hF : fr (· = M) W0 W0 := fr.rf
  refine xr_stp rfl rfl rfl rfl ?_
  refine xr_stp (st' := .int (Int32.ofNat 0) :: _) rfl rfl rfl rfl ?_
  refine xr_stp rfl rfl rfl rfl ?_
  refine xr_getfield hW rfl rfl rfl rfl ?_
  refine xs_istk hm hg (by omega) (by omega) rfl (fun W hm hf1 => ?_)
  have hW := hf1.at hW n0
  have hN := hf1.at hN n1
  have hk := hf1.at hk n2
  have ha := hf1.at ha n3
  have hF := hF.tr2 hf1 (fun _ e => Or.inl e)
  refine xr_stp rfl rfl rfl rfl ?_
  refine xr_stp (st' := .int (Int32.ofNat 1) :: _) rfl rfl rfl rfl ?_
  refine xr_stp rfl rfl rfl rfl ?_
  refine xs_istk hm hg (by omega) (by omega) rfl (fun W hm hf1 => ?_)
  have hW := hf1.at hW n0
  have hN := hf1.at hN n1
  have hk := hf1.at hk n2
  have ha := hf1.at ha n3
  have hF := hF.tr2 hf1 (fun _ e => Or.inl e)
  refine xr_stp rfl rfl rfl rfl ?_
  refine xr_stp (st' := .int (Int32.ofNat 2) :: _) rfl rfl rfl rfl ?_
  refine xr_stp rfl rfl rfl rfl ?_
  refine xs_istk hm hg (by omega) (by omega) rfl (fun W hm hf1 => ?_)
  have hW := hf1.at hW n0
  have hN := hf1.at hN n1
  have hk := hf1.at hk n2
  have ha := hf1.at ha n3
  have hF := hF.tr2 hf1 (fun _ e => Or.inl e)
  refine xr_stp rfl rfl rfl rfl ?_
  refine xr_stp (st' := .int (Int32.ofNat 6) :: _) rfl rfl rfl rfl ?_
  refine xr_stp (st' := .int (Int32.ofNat 14) :: _) rfl rfl rfl rfl ?_
  refine xr_stp (st' := .int (Int32.ofNat 0) :: _) rfl rfl rfl rfl ?_
  refine xr_cps rfl rfl rfl (fun r1 K2 => ar_fill _ _ _ M 14 6 14 0 W _ hm hg (by omega) (by omega) (by omega) r1 (fun W hm hf1 => K2 _ _ _ _ ?_))
  have hW := hf1.at hW n0
  have hN := hf1.at hN n1
  have hk := hf1.at hk n2
  have ha := hf1.at ha n3
  have hF := hF.tr hf1
  refine xr_stp (st' := .int (Int32.ofNat 0) :: _) rfl rfl rfl rfl ?_
  refine xr_stp rfl rfl rfl rfl ?_
  exact ds_L (d + 1) _ _ b M u t F gb hg n0 n1 n2 n3 hB r 16 0 _ W (by omega) hW hN hk ha hm (fun W1 h1 h2 => K W1 h1 (hF.tr h2))
theorem ds_v (F V : Nat → Nat) (u t : Nat) : ds_0 F V u t 0 = F 40 ∧ ds_0 F V u t 1 = u ∧ ds_0 F V u t 2 = t ∧ ds_0 F V u t 3 = V 3 ∧ ds_0 F V u t 4 = V 4 ∧ ds_0 F V u t 5 = V 5 ∧ ds_0 F V u t 7 = 0 + bc 63 (F (16 * 4 + 1)) + bc 63 (F (16 * 5 + 1)) + bc 63 (F (16 * 6 + 1)) + bc 63 (F (16 * 7 + 1)) ∧ ds_0 F V u t 10 = 0 + bc 63 (F (16 * 0 + 0)) + bc 63 (F (16 * 1 + 0)) + bc 63 (F (16 * 2 + 0)) + bc 63 (F (16 * 3 + 0)) := ⟨rfl, rfl, rfl, rfl, rfl, rfl, rfl, rfl⟩
