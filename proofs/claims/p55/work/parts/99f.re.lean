/-! the Reader reads: a TEXT -/
def fil (v i : Nat) (G : Nat → Nat) : Nat → Nat := fun j => if j < i then v else G j
theorem fil_s (v i : Nat) (G : Nat → Nat) : xn_u (fil v i G) i v = fil v (i + 1) G := by
  funext j
  unfold xn_u fil
  by_cases e : j = i
  · rw [if_pos e, if_pos (by omega)]
  · rw [if_neg e]
    by_cases e2 : j < i
    · rw [if_pos e2, if_pos (by omega)]
    · rw [if_neg e2, if_neg (by omega)]
theorem fil_0 (v : Nat) (G : Nat → Nat) : fil v 0 G = G := by
  funext j
  unfold fil
  rw [if_neg (by omega)]
theorem fi_lp (d c s a v n : Nat) (G : Nat → Nat) (hg : 17 ≤ a) (hn : n < 2147483648) (r : xi_R → Prop) : ∀ (m i : Nat) (W0 : xi_W), i + m = n → W0[a]? = some (lw_i n (fil v i G)) → (∀ W', W'[a]? = some (lw_i n (fil v n G)) → fr (fun i => i = a) W0 W' → r (none, W', c, s)) → xr d 169 5 [(0, .ref a), (1, .int (Int32.ofNat v)), (2, .int (Int32.ofNat i)), (3, .int (Int32.ofNat n))] [] W0 c s r
  | 0, i, W0, hi, hA, K => by
    obtain rfl : i = n := by omega
    refine xr_stp rfl rfl rfl rfl ?_
    refine xr_stp rfl rfl rfl rfl ?_
    refine xr_j2 rfl rfl rfl rfl rfl (fun h7 => ?_) (fun h7 => ?_)
    · exact xr_ret rfl rfl (K W0 hA fr.rf)
    · have z7 := nf_ge (by omega) (by omega) h7
      exact (by omega)
  | m + 1, i, W0, hi, hA, K => by
    have hF : fr (fun i => i = a) W0 W0 := fr.rf
    refine xr_stp rfl rfl rfl rfl ?_
    refine xr_stp rfl rfl rfl rfl ?_
    refine xr_j2 rfl rfl rfl rfl rfl (fun h7 => ?_) (fun h7 => ?_)
    · have z7 := nt_ge (by omega) (by omega) h7
      exact (by omega)
    · refine xr_stp rfl rfl rfl rfl ?_
      refine xr_stp rfl rfl rfl rfl ?_
      refine xr_stp rfl rfl rfl rfl ?_
      refine xs_istk hA hg (by omega) hn rfl (fun W hA hf1 => ?_)
      have hF := hF.tr2 hf1 (fun _ e => Or.inl e)
      rw [fil_s] at hA
      refine xs_inc (e := 1) rfl rfl rfl rfl ?_
      refine xr_stp rfl rfl rfl rfl ?_
      refine xr_loc [(0, .ref a), (1, .int (Int32.ofNat v)), (2, .int (Int32.ofNat (i + 1))), (3, .int (Int32.ofNat n))] ⟨rfl, rfl, rfl, rfl, trivial⟩ rfl ?_
      exact fi_lp d c s a v n G hg hn r m (i + 1) W (by omega) hA (fun W5 k1 k2 => K W5 k1 (hF.tr k2))
theorem fi_ll (d c s a v n : Nat) (G : Nat → Nat) (hg : 17 ≤ a) (hn : n < 2147483648) (W0 : xi_W) (hA : W0[a]? = some (lw_i n G)) (r : xi_R → Prop) (K : ∀ W', W'[a]? = some (lw_i n (fil v n G)) → fr (fun i => i = a) W0 W' → r (none, W', c, s)) : xr d 169 0 [(0, .ref a), (1, .int (Int32.ofNat v))] [] W0 c s r := by
  refine xr_stp (st' := .int (Int32.ofNat 0) :: _) rfl rfl rfl rfl ?_
  refine xr_stp rfl rfl rfl rfl ?_
  refine xr_stp rfl rfl rfl rfl ?_
  refine xs_iln hA rfl ?_
  refine xr_stp rfl rfl rfl rfl ?_
  refine xr_loc [(0, .ref a), (1, .int (Int32.ofNat v)), (2, .int (Int32.ofNat 0)), (3, .int (Int32.ofNat n))] ⟨rfl, rfl, rfl, rfl, trivial⟩ rfl ?_
  exact fi_lp d c s a v n G hg hn r n 0 W0 (Nat.zero_add _) (by rw [fil_0]; exact hA) K
theorem cpN_f (n : Nat) (G0 G1 : Nat → Nat) : va_cpy (xn_f G0) (xn_f G1) 0 0 n = xn_f (cpN n G0 G1) := by
  rw [cpy_N]
  funext j
  unfold xn_f cpN
  by_cases z : j < n
  · rw [if_pos z, if_pos z]
  · rw [if_neg z, if_neg z]
theorem xs_acK {d i pc a0 a n n0 k x : Nat} {y : List Nat} {G0 G1 : Nat → Nat} {l : xi_L} {st : List Value} {w : xi_W} {c s : Nat} {r : xi_R → Prop} (hw0 : w[a0]? = some (lw_i n0 G0)) (hw1 : w[a]? = some (lw_i n G1)) (hg0 : 17 ≤ a0) (hg : 17 ≤ a) (hn : n < 2147483648) (hnn : n ≤ n0) (hc : xt_cd i pc = some (.invokestatic k)) (hm : xt_mdp (xt_mo i) k = some (5, x, y)) (hr : Nat.ble (st.map fun v => v.category).sum 8 = true) (h : ∀ w', w'[a]? = some (lw_i n (cpN n G0 G1)) → fr (· = a) w w' → w'.length = w.length → xr (d + 1) i (pc + 3) l st w' c s r) : xr (d + 1) i pc l (.int (Int32.ofNat n) :: .int (Int32.ofNat 0) :: .ref a :: .int (Int32.ofNat 0) :: .ref a0 :: st) w c s r := by
  refine xr_stp hc rfl (by simp only [xi_inv, hm]) ?_ (h (w.set a (lw_i n (cpN n G0 G1))) (xi_setat hw1) (fr.set rfl) (List.length_set))
  have e3 : Nat.blt 0 (d + 1) = true := Nat.blt_eq.mpr (Nat.succ_pos d)
  have e4 : Nat.beq 5 11 = false ∧ Nat.beq 5 12 = false ∧ Nat.beq 5 6 = false ∧ Nat.beq 5 7 = false ∧ Nat.beq 5 8 = false ∧ Nat.beq 5 5 = true := ⟨rfl, rfl, rfl, rfl, rfl, rfl⟩
  have z0 : (Int32.ofNat 0).toNatClampNeg = 0 := rfl
  have zd : decide (Int32.ofNat 0 < 0) = false := by decide
  unfold lw_i at hw0 hw1
  simp only [xi_stp, hm, e4.1, e4.2.1, e4.2.2.1, e4.2.2.2.1, e4.2.2.2.2.1, e4.2.2.2.2.2, cond_false, cond_true, e3, hr, zd, n_not0 hn, Nat.ble_eq.mpr hg, Nat.ble_eq.mpr hg0, Bool.not_false, Bool.and_self, hw0, hw1, z0, n_nat hn, Nat.zero_add, Nat.ble_eq.mpr (Nat.le_refl n), Nat.ble_eq.mpr hnn, cpN_f]
  rfl
theorem xs_cli {d i pc a n k x : Nat} {y : List Nat} {l : xi_L} {st : List Value} {w : xi_W} {c s : Nat} {r : xi_R → Prop} {G : Nat → Nat} (hw : w[a]? = some (lw_i n G)) (hg : 17 ≤ a) (hc : xt_cd i pc = some (.invokevirtual k)) (hm : xt_mdp (xt_mo i) k = some (9, x, y)) (he : xi_inv i (.invokevirtual k) (.ref a :: st) w = none) (hr : Nat.ble (st.map fun v => v.category).sum 8 = true) (h : ∀ R w', R = w.length → w'[R]? = some (lw_i n G) → fr (fun _ => False) w w' → xr (d + 1) i (pc + 3) l (.ref R :: st) w' (c + 1) (s + n) r) : xr (d + 1) i pc l (.ref a :: st) w c s r := by
  have hg2 : Nat.ble 17 a = true := Nat.ble_eq.mpr hg
  refine xr_stp (pc' := pc + 3) (l' := l) (st' := .ref w.length :: st) (w' := w ++ [lw_i n G]) (c' := c + 1) (s' := s + n) hc rfl he ?_ (h w.length _ rfl (by simp) fr.push)
  have hw2 : w[a]? = some (.inl (.int, n, .inl (xn_f G))) := hw
  simp only [xi_stp, hm, hw2, hg2, hr, Bool.true_and, cond_true]
  rfl
theorem xs_chi {d i pc a n k : Nat} {q : Nat × Nat} {l : xi_L} {st : List Value} {w : xi_W} {c s : Nat} {r : xi_R → Prop} {G : Nat → Nat} (hw : w[a]? = some (lw_i n G)) (hg : 17 ≤ a) (hc : xt_cd i pc = some (.checkcast k)) (hm : xt_adp (xt_mo i) k = some q) (hq : Nat.beq q.1 0 = true) (h : xr d i (pc + 3) l (.ref a :: st) w c s r) : xr d i pc l (.ref a :: st) w c s r := by
  have hg2 : Nat.ble 17 a = true := Nat.ble_eq.mpr hg
  have hw2 : w[a]? = some (.inl (.int, n, .inl (xn_f G))) := hw
  refine xr_stp (pc' := pc + 3) (l' := l) (st' := .ref a :: st) (w' := w) (c' := c) (s' := s) hc rfl rfl ?_ h
  simp only [xi_stp, hm, hw2, hg2, hq, Bool.and_true, cond_true]
theorem xr_putf {d i pc k a : Nat} {l : xi_L} {st : List Value} {w : xi_W} {c s : Nat} {r : xi_R → Prop} {q : Nat × Nat × Nat} {o : Nat × List Value} {v : Value} (hw : w[a]? = some (.inr o)) (hg : 17 ≤ a) (hc : xt_cd i pc = some (.putfield k)) (hq : xt_fdp (xt_mo i) k = some q) (hb : Nat.beq q.1 o.1 = true) (hy : xi_fit (xt_fy q.1 q.2.1) v = true) (hl : Nat.blt q.2.1 o.2.length = true) (hf : (!xt_ff q.1 q.2.1 || (xt_mi i && Nat.beq q.1 (xt_mo i))) = true) (h : ∀ w', w'[a]? = some (.inr (o.1, o.2.set q.2.1 v)) → fr (· = a) w w' → xr d i (pc + 3) l st w' c s r) : xr d i pc l (v :: .ref a :: st) w c s r :=
  xr_stp hc rfl rfl (by simp only [xi_stp, hq, hw, Nat.ble_eq.mpr hg, hb, hy, hl, hf, Bool.and_true, Bool.and_self, cond_true]) (h _ (xi_setat hw) (fr.set rfl))
theorem xs_new {d i pc k : Nat} {q : Nat × List Nat} {l : xi_L} {st : List Value} {w : xi_W} {c s : Nat} {r : xi_R → Prop} (hc : xt_cd i pc = some (.new k)) (hm : xt_ndp (xt_mo i) k = some q) (h : ∀ R w', R = w.length → w'[R]? = some (.inr (q.1, xt_df q.1)) → fr (fun _ => False) w w' → w'.length = w.length + 1 → xr d i (pc + 3) l (.ref R :: st) w' (c + 1) (s + xt_nf q.1) r) : xr d i pc l st w c s r :=
  xr_stp (pc' := pc + 3) (l' := l) (st' := .ref w.length :: st) (w' := w ++ [.inr (q.1, xt_df q.1)]) (c' := c + 1) (s' := s + xt_nf q.1) hc rfl rfl (by simp only [xi_stp, hm]) (h _ _ rfl (by simp) fr.push (by simp))
theorem xs_newj {d i pc n : Nat} {l : xi_L} {st : List Value} {w : xi_W} {c s : Nat} {r : xi_R → Prop} (hn : n ≤ 1000000) (hc : xt_cd i pc = some (.newarray .int)) (h : ∀ R w', R = w.length → w'[R]? = some (lw_i n (fun _ => 0)) → fr (fun _ => False) w w' → w'.length = w.length + 1 → xr d i (pc + 2) l (.ref R :: st) w' (c + 1) (s + n) r) : xr d i pc l (.int (Int32.ofNat n) :: st) w c s r := by
  have e1 : Nat.blt 1000000 n = false := by
    cases h : Nat.blt 1000000 n with
    | false => rfl
    | true => exact absurd (xi_blt h) (by omega)
  refine xr_stp (w' := w ++ [lw_i n (fun _ => 0)]) (c' := c + 1) (s' := s + n) (l' := l) (st' := .ref w.length :: st) (pc' := pc + 2) hc rfl rfl ?_ (h _ _ rfl xi_pushn fr.push (by simp))
  simp only [xi_stp, n_not0 (show n < 2147483648 by omega), n_nat (show n < 2147483648 by omega), e1, Bool.or_self, cond_false]
  rfl
theorem fr.sl {P : Nat → Prop} {w w' : xi_W} {a : Nat} {o o' : xi_O} (h : w[a]? = some o) (e : w' = w.set a o') : w'.length = w.length := by rw [e, List.length_set]
theorem fi_cpy (d c s a n n0 : Nat) (G : Nat → Nat) (hg : 17 ≤ a) (hn0 : n0 < 100000) (hn : n < n0) (W0 : xi_W) (hl : 17 ≤ W0.length) (hA : W0[a]? = some (lw_i n0 G)) (r : xi_R → Prop) (K : ∀ W', W'.length = W0.length + 1 → W'[W0.length]? = some (lw_i n (cpN n G (fun _ => 0))) → fr (fun _ => False) W0 W' → r (some (.ref W0.length), W', c + 1, s + n)) : xr (d + 1) 171 0 [(0, .ref a), (1, .int (Int32.ofNat n))] [] W0 c s r := by
  refine xr_stp rfl rfl rfl rfl ?_
  refine xr_stp rfl rfl rfl rfl ?_
  refine xs_iln hA rfl ?_
  refine xr_j2 rfl rfl rfl rfl rfl (fun h3 => ?_) (fun h3 => ?_)
  · refine xr_stp rfl rfl rfl rfl ?_
    refine xs_newj (by omega) rfl (fun R W1 eR hR hf1 hl1 => ?_)
    have hA1 := hf1.at hA (fun z => z)
    have nRa : a ≠ R := by have := (List.getElem?_eq_some_iff.mp hA).1; omega
    refine xr_stp rfl rfl rfl rfl ?_
    refine xr_stp rfl rfl rfl rfl ?_
    refine xr_stp (st' := .int (Int32.ofNat 0) :: _) rfl rfl rfl rfl ?_
    refine xr_stp rfl rfl rfl rfl ?_
    refine xr_stp (st' := .int (Int32.ofNat 0) :: _) rfl rfl rfl rfl ?_
    refine xr_stp rfl rfl rfl rfl ?_
    refine xs_iln hA1 rfl ?_
    refine xr_stp rfl rfl rfl rfl ?_
    refine xs_min (by omega) (by omega) rfl rfl rfl ?_
    rw [show min n0 n = n by omega]
    refine xs_acK hA1 hR hg (by omega) (by omega) (by omega) rfl rfl rfl (fun W2 hR2 hf2 hl2 => ?_)
    refine xr_stp rfl rfl rfl rfl ?_
    subst eR
    refine xr_ret rfl rfl (K W2 (by omega) hR2 ?_)
    exact ⟨by omega, fun i hi _ => (hf2.2 i (by omega) (fun (z : i = W0.length) => by omega)).trans (hf1.2 i hi (fun z => z))⟩
  · have z3 := nf_ne (by omega) (by omega) h3
    exact (by omega)
theorem tx_new (d c s T0 m a1 a2 a3 : Nat) (W0 : xi_W) (hT : W0[T0]? = some (.inr (4, xt_df 4))) (hg : 17 ≤ T0) (r : xi_R → Prop) (K : ∀ W', W'[T0]? = some (.inr (4, [.int (Int32.ofNat m), .ref a1, .ref a2, .ref a3])) → fr (fun i => i = T0) W0 W' → r (none, W', c, s)) : xr (d + 1) 66 0 [(0, .ref T0), (1, .int (Int32.ofNat m)), (2, .ref a1), (3, .ref a2), (4, .ref a3)] [] W0 c s r := by
  have hF : fr (fun i => i = T0) W0 W0 := fr.rf
  refine xr_stp rfl rfl rfl rfl ?_
  refine xr_stp rfl rfl rfl rfl ?_
  refine xr_stp rfl rfl rfl rfl ?_
  refine xr_stp rfl rfl rfl rfl ?_
  refine xr_putf hT (by exact hg) rfl rfl rfl rfl rfl rfl (fun W hT hf1 => ?_)
  have hF := hF.tr2 hf1 (fun _ e => Or.inl e)
  refine xr_stp rfl rfl rfl rfl ?_
  refine xr_stp rfl rfl rfl rfl ?_
  refine xr_putf hT (by exact hg) rfl rfl rfl rfl rfl rfl (fun W hT hf1 => ?_)
  have hF := hF.tr2 hf1 (fun _ e => Or.inl e)
  refine xr_stp rfl rfl rfl rfl ?_
  refine xr_stp rfl rfl rfl rfl ?_
  refine xr_putf hT (by exact hg) rfl rfl rfl rfl rfl rfl (fun W hT hf1 => ?_)
  have hF := hF.tr2 hf1 (fun _ e => Or.inl e)
  refine xr_stp rfl rfl rfl rfl ?_
  refine xr_stp rfl rfl rfl rfl ?_
  refine xr_putf hT (by exact hg) rfl rfl rfl rfl rfl rfl (fun W hT hf1 => ?_)
  have hF := hF.tr2 hf1 (fun _ e => Or.inl e)
  exact xr_ret rfl rfl (K W hT hF)
