/-! the constructors -/
theorem xr_putl {d i pc k a : Nat} {l : xi_L} {st : List Value} {w : xi_W} {c s : Nat} {r : xi_R → Prop} {q : Nat × Nat × Nat} {o : Nat × List Value} {v : Value} (hw : w[a]? = some (.inr o)) (hg : 17 ≤ a) (hc : xt_cd i pc = some (.putfield k)) (hq : xt_fdp (xt_mo i) k = some q) (hb : Nat.beq q.1 o.1 = true) (hy : xi_fit (xt_fy q.1 q.2.1) v = true) (hl : Nat.blt q.2.1 o.2.length = true) (hf : (!xt_ff q.1 q.2.1 || (xt_mi i && Nat.beq q.1 (xt_mo i))) = true) (h : ∀ w', w'[a]? = some (.inr (o.1, o.2.set q.2.1 v)) → fr (· = a) w w' → w'.length = w.length → xr d i (pc + 3) l st w' c s r) : xr d i pc l (v :: .ref a :: st) w c s r :=
  xr_stp hc rfl rfl (by simp only [xi_stp, hq, hw, Nat.ble_eq.mpr hg, hb, hy, hl, hf, Bool.and_true, Bool.and_self, cond_true]) (h _ (xi_setat hw) (fr.set rfl) (by rw [List.length_set]))
theorem xs_newq {d i pc n : Nat} {l : xi_L} {st : List Value} {w : xi_W} {c s : Nat} {r : xi_R → Prop} (hn : n ≤ 1000000) (hc : xt_cd i pc = some (.newarray .long)) (h : ∀ R w', R = w.length → w'[R]? = some (lw_a n (fun _ => 0)) → fr (fun _ => False) w w' → w'.length = w.length + 1 → xr d i (pc + 2) l (.ref R :: st) w' (c + 1) (s + n) r) : xr d i pc l (.int (Int32.ofNat n) :: st) w c s r := by
  have e1 : Nat.blt 1000000 n = false := by
    cases h : Nat.blt 1000000 n with
    | false => rfl
    | true => exact absurd (xi_blt h) (by omega)
  refine xr_stp (w' := w ++ [lw_a n (fun _ => 0)]) (c' := c + 1) (s' := s + n) (l' := l) (st' := .ref w.length :: st) (pc' := pc + 2) hc rfl rfl ?_ (h _ _ rfl xi_pushn fr.push (by simp))
  simp only [xi_stp, n_not0 (show n < 2147483648 by omega), n_nat (show n < 2147483648 by omega), e1, Bool.or_self, cond_false]
  rfl
theorem xs_newb {d i pc n : Nat} {l : xi_L} {st : List Value} {w : xi_W} {c s : Nat} {r : xi_R → Prop} (hn : n ≤ 1000000) (hc : xt_cd i pc = some (.newarray .byte)) (h : ∀ R w', R = w.length → w'[R]? = some (lw_b n (fun _ => 0)) → fr (fun _ => False) w w' → w'.length = w.length + 1 → xr d i (pc + 2) l (.ref R :: st) w' (c + 1) (s + n) r) : xr d i pc l (.int (Int32.ofNat n) :: st) w c s r := by
  have e1 : Nat.blt 1000000 n = false := by
    cases h : Nat.blt 1000000 n with
    | false => rfl
    | true => exact absurd (xi_blt h) (by omega)
  refine xr_stp (w' := w ++ [lw_b n (fun _ => 0)]) (c' := c + 1) (s' := s + n) (l' := l) (st' := .ref w.length :: st) (pc' := pc + 2) hc rfl rfl ?_ (h _ _ rfl xi_pushn fr.push (by simp))
  simp only [xi_stp, n_not0 (show n < 2147483648 by omega), n_nat (show n < 2147483648 by omega), e1, Bool.or_self, cond_false]
  rfl
theorem xs_newo {d i pc n k : Nat} {q : Nat × List Nat} {l : xi_L} {st : List Value} {w : xi_W} {c s : Nat} {r : xi_R → Prop} (hn : n ≤ 1000000) (hc : xt_cd i pc = some (.anewarray k)) (h0 : xt_ndp (xt_mo i) k = some q) (hq : (Nat.beq q.1 5 || Nat.beq q.1 4) = true) (h : ∀ R w', R = w.length → w'[R]? = some (.inl (.object (xt_cn q.1), n, .inr (.inr (fun _ => none)))) → fr (fun _ => False) w w' → w'.length = w.length + 1 → xr d i (pc + 3) l (.ref R :: st) w' (c + 1) (s + n) r) : xr d i pc l (.int (Int32.ofNat n) :: st) w c s r := by
  have e1 : Nat.blt 1000000 n = false := by
    cases h : Nat.blt 1000000 n with
    | false => rfl
    | true => exact absurd (xi_blt h) (by omega)
  refine xr_stp (pc' := pc + 3) (l' := l) (st' := .ref w.length :: st) (w' := w ++ [.inl (.object (xt_cn q.1), n, .inr (.inr (fun _ => none)))]) (c' := c + 1) (s' := s + n) hc rfl rfl ?_ (h w.length _ rfl (by simp) fr.push (by simp))
  simp only [xi_stp, n_not0 (show n < 2147483648 by omega), n_nat (show n < 2147483648 by omega), e1, h0, hq, Bool.or_self, cond_false, cond_true]
theorem xs_rsl {d i pc a v n j : Nat} {C : String} {f : Nat → Option Nat} {o : Nat × List Value} {l : xi_L} {st : List Value} {w : xi_W} {c s : Nat} {r : xi_R → Prop} (hw : w[a]? = some (.inl (.object C, n, .inr (.inr f)))) (hv : w[v]? = some (.inr o)) (hg : 17 ≤ a) (hg2 : 17 ≤ v) (hj : j < n) (hn : n < 2147483648) (hC : C = xt_cn o.1) (hc : xt_cd i pc = some .aastore) (h : ∀ w', w'[a]? = some (.inl (.object C, n, .inr (.inr (va_up f j (some v))))) → fr (· = a) w w' → w'.length = w.length → xr d i (pc + 1) l st w' c s r) : xr d i pc l (.ref v :: .int (Int32.ofNat j) :: .ref a :: st) w c s r := by
  refine xr_stp (pc' := pc + 1) (l' := l) (st' := st) (w' := w.set a (.inl (.object C, n, .inr (.inr (va_up f j (some v)))))) (c' := c) (s' := s) hc rfl rfl ?_ (h _ (xi_setat hw) (fr.set rfl) (by rw [List.length_set]))
  simp only [xi_stp, hw, hv, Nat.ble_eq.mpr hg, Nat.ble_eq.mpr hg2, n_ix hj hn, decide_eq_true hC, Bool.and_self, cond_true, n_nat (show j < 2147483648 by omega)]
theorem ncC (d c s b : Nat) (W0 : xi_W) (hl0 : W0.length = b + 1) (gb : 17 ≤ b) (hO : W0[b]? = some (.inr (0, xt_df 0))) (r : xi_R → Prop) (K : ∀ W' c' s', W'.length = b + 4 → W'[b]? = some (.inr (0, [.ref (b + 1), .ref (b + 2), .ref (b + 3)])) → W'[b + 1]? = some (lw_a 220 (fun _ => 0)) → W'[b + 2]? = some (lw_a 220 (fun _ => 0)) → W'[b + 3]? = some (lw_i 256 (fun _ => 0)) → fr (fun i => i = b) W0 W' → c' = c + 3 → s' = s + 696 → r (none, W', c', s')) : xr (d + 1) 0 0 [(0, .ref b)] [] W0 c s r := by
  refine xr_stp rfl rfl rfl rfl ?_
  refine xr_stp rfl rfl rfl rfl ?_
  refine xr_stp rfl rfl rfl rfl ?_
  refine xr_stp (st' := .int (Int32.ofNat 220) :: _) rfl rfl rfl rfl ?_
  refine xs_newq (by omega) rfl (fun R W1 eR ha1 hf1 hl1 => ?_)
  obtain rfl : R = (b + 1) := by omega
  have hO := hf1.at hO (by exact fun z => z)
  refine xr_putl hO (by omega) rfl rfl rfl rfl rfl rfl (fun W2 hO hf2 hl2 => ?_)
  have ha1 := hf2.at ha1 (by omega)
  refine xr_stp rfl rfl rfl rfl ?_
  refine xr_stp (st' := .int (Int32.ofNat 220) :: _) rfl rfl rfl rfl ?_
  refine xs_newq (by omega) rfl (fun R W3 eR ha2 hf3 hl3 => ?_)
  obtain rfl : R = (b + 2) := by omega
  have hO := hf3.at hO (by exact fun z => z)
  have ha1 := hf3.at ha1 (by exact fun z => z)
  refine xr_putl hO (by omega) rfl rfl rfl rfl rfl rfl (fun W4 hO hf4 hl4 => ?_)
  have ha1 := hf4.at ha1 (by omega)
  have ha2 := hf4.at ha2 (by omega)
  refine xr_stp rfl rfl rfl rfl ?_
  refine xr_stp (st' := .int (Int32.ofNat 256) :: _) rfl rfl rfl rfl ?_
  refine xs_newj (by omega) rfl (fun R W5 eR ha3 hf5 hl5 => ?_)
  obtain rfl : R = (b + 3) := by omega
  have hO := hf5.at hO (by exact fun z => z)
  have ha1 := hf5.at ha1 (by exact fun z => z)
  have ha2 := hf5.at ha2 (by exact fun z => z)
  refine xr_putl hO (by omega) rfl rfl rfl rfl rfl rfl (fun W6 hO hf6 hl6 => ?_)
  have ha1 := hf6.at ha1 (by omega)
  have ha2 := hf6.at ha2 (by omega)
  have ha3 := hf6.at ha3 (by omega)
  have F : fr (fun i => i = b) W0 W6 := ⟨by omega, fun i h1 h2 => by rw [hf6.2 i (by omega) (by first | exact fun z => z | exact h2), hf5.2 i (by omega) (by first | exact fun z => z | exact h2), hf4.2 i (by omega) (by first | exact fun z => z | exact h2), hf3.2 i (by omega) (by first | exact fun z => z | exact h2), hf2.2 i (by omega) (by first | exact fun z => z | exact h2), hf1.2 i (by omega) (by first | exact fun z => z | exact h2)]⟩
  exact xr_ret rfl rfl (K W6 _ _ (by omega) hO ha1 ha2 ha3 F (by omega) (by omega))
/-- a World as it is made: its ten objects -/
def wr (W : xi_W) (b : Nat) : Prop := W[b]? = some (.inr (5, [.ref (b + 1), .ref (b + 5), .ref (b + 6), .ref (b + 7), .ref (b + 8), .ref (b + 9), .int (Int32.ofNat 0), .int (Int32.ofNat 0), .int (Int32.ofNat 0), .int (Int32.ofNat 509), .int (Int32.ofNat 0), .int (Int32.ofNat 0)])) ∧ W[b + 1]? = some (.inr (0, [.ref (b + 2), .ref (b + 3), .ref (b + 4)])) ∧ W[b + 2]? = some (lw_a 220 (fun _ => 0)) ∧ W[b + 3]? = some (lw_a 220 (fun _ => 0)) ∧ W[b + 4]? = some (lw_i 256 (fun _ => 0)) ∧ W[b + 5]? = some (lw_i 16 (fun _ => 0)) ∧ W[b + 6]? = some (lw_i 4 (fun _ => 0)) ∧ W[b + 7]? = some (lw_i 4 (fun _ => 0)) ∧ W[b + 8]? = some (lw_i 120 (fun _ => 0)) ∧ W[b + 9]? = some (lw_i 100 (fun _ => 0))
theorem wr.keep {P : Nat → Prop} {W W' : xi_W} {b : Nat} (h : wr W b) (hf : fr P W W') (hp : ∀ i, b ≤ i → i < b + 10 → ¬ P i) : wr W' b := by
  obtain ⟨h0, h1, h2, h3, h4, h5, h6, h7, h8, h9⟩ := h
  exact ⟨hf.at h0 (hp _ (by omega) (by omega)), hf.at h1 (hp _ (by omega) (by omega)), hf.at h2 (hp _ (by omega) (by omega)), hf.at h3 (hp _ (by omega) (by omega)), hf.at h4 (hp _ (by omega) (by omega)), hf.at h5 (hp _ (by omega) (by omega)), hf.at h6 (hp _ (by omega) (by omega)), hf.at h7 (hp _ (by omega) (by omega)), hf.at h8 (hp _ (by omega) (by omega)), hf.at h9 (hp _ (by omega) (by omega))⟩
def F00 (k : Nat) : Nat := if k = 56 then 509 else 0
theorem wr.kw {W : xi_W} {b : Nat} (h : wr W b) (hb : wb b) : kw W b F00 := by
  obtain ⟨h0, h1, h2, h3, h4, h5, h6, h7, h8, h9⟩ := h
  have e : ∀ k, k < 8 → k ≠ 8 → (fun j => F00 (16 * j + k)) = fun _ => 0 := fun k h1 h2 => funext (fun j => if_neg (by omega))
  refine kw.mk hb h0 h1 ?_ ?_ ?_ ?_ ?_ ?_ ?_ ?_
  · rw [e 0 (by omega) (by omega)]; exact h2
  · rw [e 1 (by omega) (by omega)]; exact h3
  · rw [e 2 (by omega) (by omega)]; exact h4
  · rw [e 3 (by omega) (by omega)]; exact h5
  · rw [e 4 (by omega) (by omega)]; exact h6
  · rw [e 5 (by omega) (by omega)]; exact h7
  · rw [e 6 (by omega) (by omega)]; exact h8
  · rw [e 7 (by omega) (by omega)]; exact h9
theorem wdC (d c s b : Nat) (W0 : xi_W) (hl0 : W0.length = b + 1) (gb : 17 ≤ b) (hO : W0[b]? = some (.inr (5, xt_df 5))) (r : xi_R → Prop) (K : ∀ W' c' s', W'.length = b + 10 → wr W' b → fr (fun i => i = b) W0 W' → c' = c + 9 → s' = s + 943 → r (none, W', c', s')) : xr (d + 2) 73 0 [(0, .ref b)] [] W0 c s r := by
  refine xr_stp rfl rfl rfl rfl ?_
  refine xr_stp rfl rfl rfl rfl ?_
  refine xr_stp rfl rfl rfl rfl ?_
  refine xs_new rfl rfl (fun R W1 eR ha1 hf1 hl1 => ?_)
  obtain rfl : R = (b + 1) := by omega
  have hO := hf1.at hO (by exact fun z => z)
  refine xr_stp rfl rfl rfl rfl ?_
  refine xr_cps rfl rfl rfl (fun r1 K2 => ncC _ _ _ (b + 1) W1 (by omega) (by omega) ha1 r1 (fun W2 c2 s2 hl2 ha1 ha2 ha3 ha4 hf2 ec2 es2 => K2 _ _ _ _ ?_))
  have hO := hf2.at hO (by omega)
  refine xr_putl hO (by omega) rfl rfl rfl rfl rfl rfl (fun W3 hO hf3 hl3 => ?_)
  have ha1 := hf3.at ha1 (by omega)
  have ha2 := hf3.at ha2 (by omega)
  have ha3 := hf3.at ha3 (by omega)
  have ha4 := hf3.at ha4 (by omega)
  refine xr_stp rfl rfl rfl rfl ?_
  refine xr_stp (st' := .int (Int32.ofNat 16) :: _) rfl rfl rfl rfl ?_
  refine xs_newj (by omega) rfl (fun R W4 eR ha5 hf4 hl4 => ?_)
  obtain rfl : R = (b + 5) := by omega
  have hO := hf4.at hO (by exact fun z => z)
  have ha1 := hf4.at ha1 (by exact fun z => z)
  have ha2 := hf4.at ha2 (by exact fun z => z)
  have ha3 := hf4.at ha3 (by exact fun z => z)
  have ha4 := hf4.at ha4 (by exact fun z => z)
  refine xr_putl hO (by omega) rfl rfl rfl rfl rfl rfl (fun W5 hO hf5 hl5 => ?_)
  have ha1 := hf5.at ha1 (by omega)
  have ha2 := hf5.at ha2 (by omega)
  have ha3 := hf5.at ha3 (by omega)
  have ha4 := hf5.at ha4 (by omega)
  have ha5 := hf5.at ha5 (by omega)
  refine xr_stp rfl rfl rfl rfl ?_
  refine xr_stp (st' := .int (Int32.ofNat 4) :: _) rfl rfl rfl rfl ?_
  refine xs_newj (by omega) rfl (fun R W6 eR ha6 hf6 hl6 => ?_)
  obtain rfl : R = (b + 6) := by omega
  have hO := hf6.at hO (by exact fun z => z)
  have ha1 := hf6.at ha1 (by exact fun z => z)
  have ha2 := hf6.at ha2 (by exact fun z => z)
  have ha3 := hf6.at ha3 (by exact fun z => z)
  have ha4 := hf6.at ha4 (by exact fun z => z)
  have ha5 := hf6.at ha5 (by exact fun z => z)
  refine xr_putl hO (by omega) rfl rfl rfl rfl rfl rfl (fun W7 hO hf7 hl7 => ?_)
  have ha1 := hf7.at ha1 (by omega)
  have ha2 := hf7.at ha2 (by omega)
  have ha3 := hf7.at ha3 (by omega)
  have ha4 := hf7.at ha4 (by omega)
  have ha5 := hf7.at ha5 (by omega)
  have ha6 := hf7.at ha6 (by omega)
  refine xr_stp rfl rfl rfl rfl ?_
  refine xr_stp (st' := .int (Int32.ofNat 4) :: _) rfl rfl rfl rfl ?_
  refine xs_newj (by omega) rfl (fun R W8 eR ha7 hf8 hl8 => ?_)
  obtain rfl : R = (b + 7) := by omega
  have hO := hf8.at hO (by exact fun z => z)
  have ha1 := hf8.at ha1 (by exact fun z => z)
  have ha2 := hf8.at ha2 (by exact fun z => z)
  have ha3 := hf8.at ha3 (by exact fun z => z)
  have ha4 := hf8.at ha4 (by exact fun z => z)
  have ha5 := hf8.at ha5 (by exact fun z => z)
  have ha6 := hf8.at ha6 (by exact fun z => z)
  refine xr_putl hO (by omega) rfl rfl rfl rfl rfl rfl (fun W9 hO hf9 hl9 => ?_)
  have ha1 := hf9.at ha1 (by omega)
  have ha2 := hf9.at ha2 (by omega)
  have ha3 := hf9.at ha3 (by omega)
  have ha4 := hf9.at ha4 (by omega)
  have ha5 := hf9.at ha5 (by omega)
  have ha6 := hf9.at ha6 (by omega)
  have ha7 := hf9.at ha7 (by omega)
  refine xr_stp rfl rfl rfl rfl ?_
  refine xr_stp (st' := .int (Int32.ofNat 120) :: _) rfl rfl rfl rfl ?_
  refine xs_newj (by omega) rfl (fun R W10 eR ha8 hf10 hl10 => ?_)
  obtain rfl : R = (b + 8) := by omega
  have hO := hf10.at hO (by exact fun z => z)
  have ha1 := hf10.at ha1 (by exact fun z => z)
  have ha2 := hf10.at ha2 (by exact fun z => z)
  have ha3 := hf10.at ha3 (by exact fun z => z)
  have ha4 := hf10.at ha4 (by exact fun z => z)
  have ha5 := hf10.at ha5 (by exact fun z => z)
  have ha6 := hf10.at ha6 (by exact fun z => z)
  have ha7 := hf10.at ha7 (by exact fun z => z)
  refine xr_putl hO (by omega) rfl rfl rfl rfl rfl rfl (fun W11 hO hf11 hl11 => ?_)
  have ha1 := hf11.at ha1 (by omega)
  have ha2 := hf11.at ha2 (by omega)
  have ha3 := hf11.at ha3 (by omega)
  have ha4 := hf11.at ha4 (by omega)
  have ha5 := hf11.at ha5 (by omega)
  have ha6 := hf11.at ha6 (by omega)
  have ha7 := hf11.at ha7 (by omega)
  have ha8 := hf11.at ha8 (by omega)
  refine xr_stp rfl rfl rfl rfl ?_
  refine xr_stp (st' := .int (Int32.ofNat 100) :: _) rfl rfl rfl rfl ?_
  refine xs_newj (by omega) rfl (fun R W12 eR ha9 hf12 hl12 => ?_)
  obtain rfl : R = (b + 9) := by omega
  have hO := hf12.at hO (by exact fun z => z)
  have ha1 := hf12.at ha1 (by exact fun z => z)
  have ha2 := hf12.at ha2 (by exact fun z => z)
  have ha3 := hf12.at ha3 (by exact fun z => z)
  have ha4 := hf12.at ha4 (by exact fun z => z)
  have ha5 := hf12.at ha5 (by exact fun z => z)
  have ha6 := hf12.at ha6 (by exact fun z => z)
  have ha7 := hf12.at ha7 (by exact fun z => z)
  have ha8 := hf12.at ha8 (by exact fun z => z)
  refine xr_putl hO (by omega) rfl rfl rfl rfl rfl rfl (fun W13 hO hf13 hl13 => ?_)
  have ha1 := hf13.at ha1 (by omega)
  have ha2 := hf13.at ha2 (by omega)
  have ha3 := hf13.at ha3 (by omega)
  have ha4 := hf13.at ha4 (by omega)
  have ha5 := hf13.at ha5 (by omega)
  have ha6 := hf13.at ha6 (by omega)
  have ha7 := hf13.at ha7 (by omega)
  have ha8 := hf13.at ha8 (by omega)
  have ha9 := hf13.at ha9 (by omega)
  refine xr_stp rfl rfl rfl rfl ?_
  refine xr_stp (st' := .int (Int32.ofNat 0) :: _) rfl rfl rfl rfl ?_
  refine xr_putl hO (by omega) rfl rfl rfl rfl rfl rfl (fun W14 hO hf14 hl14 => ?_)
  have ha1 := hf14.at ha1 (by omega)
  have ha2 := hf14.at ha2 (by omega)
  have ha3 := hf14.at ha3 (by omega)
  have ha4 := hf14.at ha4 (by omega)
  have ha5 := hf14.at ha5 (by omega)
  have ha6 := hf14.at ha6 (by omega)
  have ha7 := hf14.at ha7 (by omega)
  have ha8 := hf14.at ha8 (by omega)
  have ha9 := hf14.at ha9 (by omega)
  refine xr_stp rfl rfl rfl rfl ?_
  refine xr_stp (st' := .int (Int32.ofNat 0) :: _) rfl rfl rfl rfl ?_
  refine xr_putl hO (by omega) rfl rfl rfl rfl rfl rfl (fun W15 hO hf15 hl15 => ?_)
  have ha1 := hf15.at ha1 (by omega)
  have ha2 := hf15.at ha2 (by omega)
  have ha3 := hf15.at ha3 (by omega)
  have ha4 := hf15.at ha4 (by omega)
  have ha5 := hf15.at ha5 (by omega)
  have ha6 := hf15.at ha6 (by omega)
  have ha7 := hf15.at ha7 (by omega)
  have ha8 := hf15.at ha8 (by omega)
  have ha9 := hf15.at ha9 (by omega)
  refine xr_stp rfl rfl rfl rfl ?_
  refine xr_stp (st' := .int (Int32.ofNat 0) :: _) rfl rfl rfl rfl ?_
  refine xr_putl hO (by omega) rfl rfl rfl rfl rfl rfl (fun W16 hO hf16 hl16 => ?_)
  have ha1 := hf16.at ha1 (by omega)
  have ha2 := hf16.at ha2 (by omega)
  have ha3 := hf16.at ha3 (by omega)
  have ha4 := hf16.at ha4 (by omega)
  have ha5 := hf16.at ha5 (by omega)
  have ha6 := hf16.at ha6 (by omega)
  have ha7 := hf16.at ha7 (by omega)
  have ha8 := hf16.at ha8 (by omega)
  have ha9 := hf16.at ha9 (by omega)
  refine xr_stp rfl rfl rfl rfl ?_
  refine xr_stp (st' := .int (Int32.ofNat 509) :: _) rfl rfl rfl rfl ?_
  refine xr_putl hO (by omega) rfl rfl rfl rfl rfl rfl (fun W17 hO hf17 hl17 => ?_)
  have ha1 := hf17.at ha1 (by omega)
  have ha2 := hf17.at ha2 (by omega)
  have ha3 := hf17.at ha3 (by omega)
  have ha4 := hf17.at ha4 (by omega)
  have ha5 := hf17.at ha5 (by omega)
  have ha6 := hf17.at ha6 (by omega)
  have ha7 := hf17.at ha7 (by omega)
  have ha8 := hf17.at ha8 (by omega)
  have ha9 := hf17.at ha9 (by omega)
  refine xr_stp rfl rfl rfl rfl ?_
  refine xr_stp (st' := .int (Int32.ofNat 0) :: _) rfl rfl rfl rfl ?_
  refine xr_putl hO (by omega) rfl rfl rfl rfl rfl rfl (fun W18 hO hf18 hl18 => ?_)
  have ha1 := hf18.at ha1 (by omega)
  have ha2 := hf18.at ha2 (by omega)
  have ha3 := hf18.at ha3 (by omega)
  have ha4 := hf18.at ha4 (by omega)
  have ha5 := hf18.at ha5 (by omega)
  have ha6 := hf18.at ha6 (by omega)
  have ha7 := hf18.at ha7 (by omega)
  have ha8 := hf18.at ha8 (by omega)
  have ha9 := hf18.at ha9 (by omega)
  refine xr_stp rfl rfl rfl rfl ?_
  refine xr_stp (st' := .int (Int32.ofNat 0) :: _) rfl rfl rfl rfl ?_
  refine xr_putl hO (by omega) rfl rfl rfl rfl rfl rfl (fun W19 hO hf19 hl19 => ?_)
  have ha1 := hf19.at ha1 (by omega)
  have ha2 := hf19.at ha2 (by omega)
  have ha3 := hf19.at ha3 (by omega)
  have ha4 := hf19.at ha4 (by omega)
  have ha5 := hf19.at ha5 (by omega)
  have ha6 := hf19.at ha6 (by omega)
  have ha7 := hf19.at ha7 (by omega)
  have ha8 := hf19.at ha8 (by omega)
  have ha9 := hf19.at ha9 (by omega)
  have F : fr (fun i => i = b) W0 W19 := ⟨by omega, fun i h1 h2 => by rw [hf19.2 i (by omega) (fun z => by first | exact z | exact h2 z | (dsimp only at z; omega)), hf18.2 i (by omega) (fun z => by first | exact z | exact h2 z | (dsimp only at z; omega)), hf17.2 i (by omega) (fun z => by first | exact z | exact h2 z | (dsimp only at z; omega)), hf16.2 i (by omega) (fun z => by first | exact z | exact h2 z | (dsimp only at z; omega)), hf15.2 i (by omega) (fun z => by first | exact z | exact h2 z | (dsimp only at z; omega)), hf14.2 i (by omega) (fun z => by first | exact z | exact h2 z | (dsimp only at z; omega)), hf13.2 i (by omega) (fun z => by first | exact z | exact h2 z | (dsimp only at z; omega)), hf12.2 i (by omega) (fun z => by first | exact z | exact h2 z | (dsimp only at z; omega)), hf11.2 i (by omega) (fun z => by first | exact z | exact h2 z | (dsimp only at z; omega)), hf10.2 i (by omega) (fun z => by first | exact z | exact h2 z | (dsimp only at z; omega)), hf9.2 i (by omega) (fun z => by first | exact z | exact h2 z | (dsimp only at z; omega)), hf8.2 i (by omega) (fun z => by first | exact z | exact h2 z | (dsimp only at z; omega)), hf7.2 i (by omega) (fun z => by first | exact z | exact h2 z | (dsimp only at z; omega)), hf6.2 i (by omega) (fun z => by first | exact z | exact h2 z | (dsimp only at z; omega)), hf5.2 i (by omega) (fun z => by first | exact z | exact h2 z | (dsimp only at z; omega)), hf4.2 i (by omega) (fun z => by first | exact z | exact h2 z | (dsimp only at z; omega)), hf3.2 i (by omega) (fun z => by first | exact z | exact h2 z | (dsimp only at z; omega)), hf2.2 i (by omega) (fun z => by first | exact z | exact h2 z | (dsimp only at z; omega)), hf1.2 i (by omega) (fun z => by first | exact z | exact h2 z | (dsimp only at z; omega))]⟩
  have es2 : s2 = 0 + 696 := es2
  exact xr_ret rfl rfl (K W19 _ _ (by omega) ⟨hO, ha1, ha2, ha3, ha4, ha5, ha6, ha7, ha8, ha9⟩ F (by show _ = _; omega) (by show _ = _; simp only [show xt_nf 0 = 3 from rfl]; omega))
theorem rdC (d c s b : Nat) (W0 : xi_W) (hl0 : W0.length = b + 1) (gb : 17 ≤ b) (hO : W0[b]? = some (.inr (1, xt_df 1))) (r : xi_R → Prop) (K : ∀ W' c' s', W'.length = b + 5 → W'[b]? = some (.inr (1, [.ref (b + 1), .int (Int32.ofNat 0), .int (Int32.ofNat 0), .int (Int32.ofNat 0), .int (Int32.ofNat 39), .int (Int32.ofNat 0), .int (Int32.ofNat 0), .int (Int32.ofNat 4294967295), .ref (b + 2), .int (Int32.ofNat 0), .int (Int32.ofNat 0), .ref (b + 3), .int (Int32.ofNat 0), .ref (b + 4), .int (Int32.ofNat 0)])) → W'[b + 1]? = some (lw_b 300 (fun _ => 0)) → W'[b + 2]? = some (lw_i 120 (fun _ => 0)) → W'[b + 3]? = some (lw_i 600 (fun _ => 0)) → W'[b + 4]? = some (lw_i 4 (fun _ => 0)) → fr (fun i => i = b) W0 W' → c' = c + 4 → s' = s + 1024 → r (none, W', c', s')) : xr (d + 1) 27 0 [(0, .ref b)] [] W0 c s r := by
  refine xr_stp rfl rfl rfl rfl ?_
  refine xr_stp rfl rfl rfl rfl ?_
  refine xr_stp rfl rfl rfl rfl ?_
  refine xr_stp (st' := .int (Int32.ofNat 300) :: _) rfl rfl rfl rfl ?_
  refine xs_newb (by omega) rfl (fun R W1 eR ha1 hf1 hl1 => ?_)
  obtain rfl : R = (b + 1) := by omega
  have hO := hf1.at hO (by exact fun z => z)
  refine xr_putl hO (by omega) rfl rfl rfl rfl rfl rfl (fun W2 hO hf2 hl2 => ?_)
  have ha1 := hf2.at ha1 (by omega)
  refine xr_stp rfl rfl rfl rfl ?_
  refine xr_stp (st' := .int (Int32.ofNat 0) :: _) rfl rfl rfl rfl ?_
  refine xr_putl hO (by omega) rfl rfl rfl rfl rfl rfl (fun W3 hO hf3 hl3 => ?_)
  have ha1 := hf3.at ha1 (by omega)
  refine xr_stp rfl rfl rfl rfl ?_
  refine xr_stp (st' := .int (Int32.ofNat 0) :: _) rfl rfl rfl rfl ?_
  refine xr_putl hO (by omega) rfl rfl rfl rfl rfl rfl (fun W4 hO hf4 hl4 => ?_)
  have ha1 := hf4.at ha1 (by omega)
  refine xr_stp rfl rfl rfl rfl ?_
  refine xr_stp (st' := .int (Int32.ofNat 0) :: _) rfl rfl rfl rfl ?_
  refine xr_putl hO (by omega) rfl rfl rfl rfl rfl rfl (fun W5 hO hf5 hl5 => ?_)
  have ha1 := hf5.at ha1 (by omega)
  refine xr_stp rfl rfl rfl rfl ?_
  refine xr_stp (st' := .int (Int32.ofNat 39) :: _) rfl rfl rfl rfl ?_
  refine xr_putl hO (by omega) rfl rfl rfl rfl rfl rfl (fun W6 hO hf6 hl6 => ?_)
  have ha1 := hf6.at ha1 (by omega)
  refine xr_stp rfl rfl rfl rfl ?_
  refine xr_stp (st' := .int (Int32.ofNat 0) :: _) rfl rfl rfl rfl ?_
  refine xr_putl hO (by omega) rfl rfl rfl rfl rfl rfl (fun W7 hO hf7 hl7 => ?_)
  have ha1 := hf7.at ha1 (by omega)
  refine xr_stp rfl rfl rfl rfl ?_
  refine xr_stp (st' := .int (Int32.ofNat 0) :: _) rfl rfl rfl rfl ?_
  refine xr_putl hO (by omega) rfl rfl rfl rfl rfl rfl (fun W8 hO hf8 hl8 => ?_)
  have ha1 := hf8.at ha1 (by omega)
  refine xr_stp rfl rfl rfl rfl ?_
  refine xr_stp (st' := .int (Int32.ofNat 4294967295) :: _) rfl rfl rfl rfl ?_
  refine xr_putl hO (by omega) rfl rfl rfl rfl rfl rfl (fun W9 hO hf9 hl9 => ?_)
  have ha1 := hf9.at ha1 (by omega)
  refine xr_stp rfl rfl rfl rfl ?_
  refine xr_stp (st' := .int (Int32.ofNat 120) :: _) rfl rfl rfl rfl ?_
  refine xs_newj (by omega) rfl (fun R W10 eR ha2 hf10 hl10 => ?_)
  obtain rfl : R = (b + 2) := by omega
  have hO := hf10.at hO (by exact fun z => z)
  have ha1 := hf10.at ha1 (by exact fun z => z)
  refine xr_putl hO (by omega) rfl rfl rfl rfl rfl rfl (fun W11 hO hf11 hl11 => ?_)
  have ha1 := hf11.at ha1 (by omega)
  have ha2 := hf11.at ha2 (by omega)
  refine xr_stp rfl rfl rfl rfl ?_
  refine xr_stp (st' := .int (Int32.ofNat 0) :: _) rfl rfl rfl rfl ?_
  refine xr_putl hO (by omega) rfl rfl rfl rfl rfl rfl (fun W12 hO hf12 hl12 => ?_)
  have ha1 := hf12.at ha1 (by omega)
  have ha2 := hf12.at ha2 (by omega)
  refine xr_stp rfl rfl rfl rfl ?_
  refine xr_stp (st' := .int (Int32.ofNat 0) :: _) rfl rfl rfl rfl ?_
  refine xr_putl hO (by omega) rfl rfl rfl rfl rfl rfl (fun W13 hO hf13 hl13 => ?_)
  have ha1 := hf13.at ha1 (by omega)
  have ha2 := hf13.at ha2 (by omega)
  refine xr_stp rfl rfl rfl rfl ?_
  refine xr_stp (st' := .int (Int32.ofNat 600) :: _) rfl rfl rfl rfl ?_
  refine xs_newj (by omega) rfl (fun R W14 eR ha3 hf14 hl14 => ?_)
  obtain rfl : R = (b + 3) := by omega
  have hO := hf14.at hO (by exact fun z => z)
  have ha1 := hf14.at ha1 (by exact fun z => z)
  have ha2 := hf14.at ha2 (by exact fun z => z)
  refine xr_putl hO (by omega) rfl rfl rfl rfl rfl rfl (fun W15 hO hf15 hl15 => ?_)
  have ha1 := hf15.at ha1 (by omega)
  have ha2 := hf15.at ha2 (by omega)
  have ha3 := hf15.at ha3 (by omega)
  refine xr_stp rfl rfl rfl rfl ?_
  refine xr_stp (st' := .int (Int32.ofNat 0) :: _) rfl rfl rfl rfl ?_
  refine xr_putl hO (by omega) rfl rfl rfl rfl rfl rfl (fun W16 hO hf16 hl16 => ?_)
  have ha1 := hf16.at ha1 (by omega)
  have ha2 := hf16.at ha2 (by omega)
  have ha3 := hf16.at ha3 (by omega)
  refine xr_stp rfl rfl rfl rfl ?_
  refine xr_stp (st' := .int (Int32.ofNat 4) :: _) rfl rfl rfl rfl ?_
  refine xs_newj (by omega) rfl (fun R W17 eR ha4 hf17 hl17 => ?_)
  obtain rfl : R = (b + 4) := by omega
  have hO := hf17.at hO (by exact fun z => z)
  have ha1 := hf17.at ha1 (by exact fun z => z)
  have ha2 := hf17.at ha2 (by exact fun z => z)
  have ha3 := hf17.at ha3 (by exact fun z => z)
  refine xr_putl hO (by omega) rfl rfl rfl rfl rfl rfl (fun W18 hO hf18 hl18 => ?_)
  have ha1 := hf18.at ha1 (by omega)
  have ha2 := hf18.at ha2 (by omega)
  have ha3 := hf18.at ha3 (by omega)
  have ha4 := hf18.at ha4 (by omega)
  refine xr_stp rfl rfl rfl rfl ?_
  refine xr_stp (st' := .int (Int32.ofNat 0) :: _) rfl rfl rfl rfl ?_
  refine xr_putl hO (by omega) rfl rfl rfl rfl rfl rfl (fun W19 hO hf19 hl19 => ?_)
  have ha1 := hf19.at ha1 (by omega)
  have ha2 := hf19.at ha2 (by omega)
  have ha3 := hf19.at ha3 (by omega)
  have ha4 := hf19.at ha4 (by omega)
  have F : fr (fun i => i = b) W0 W19 := ⟨by omega, fun i h1 h2 => by rw [hf19.2 i (by omega) (fun z => by first | exact z | exact h2 z | (dsimp only at z; omega)), hf18.2 i (by omega) (fun z => by first | exact z | exact h2 z | (dsimp only at z; omega)), hf17.2 i (by omega) (fun z => by first | exact z | exact h2 z | (dsimp only at z; omega)), hf16.2 i (by omega) (fun z => by first | exact z | exact h2 z | (dsimp only at z; omega)), hf15.2 i (by omega) (fun z => by first | exact z | exact h2 z | (dsimp only at z; omega)), hf14.2 i (by omega) (fun z => by first | exact z | exact h2 z | (dsimp only at z; omega)), hf13.2 i (by omega) (fun z => by first | exact z | exact h2 z | (dsimp only at z; omega)), hf12.2 i (by omega) (fun z => by first | exact z | exact h2 z | (dsimp only at z; omega)), hf11.2 i (by omega) (fun z => by first | exact z | exact h2 z | (dsimp only at z; omega)), hf10.2 i (by omega) (fun z => by first | exact z | exact h2 z | (dsimp only at z; omega)), hf9.2 i (by omega) (fun z => by first | exact z | exact h2 z | (dsimp only at z; omega)), hf8.2 i (by omega) (fun z => by first | exact z | exact h2 z | (dsimp only at z; omega)), hf7.2 i (by omega) (fun z => by first | exact z | exact h2 z | (dsimp only at z; omega)), hf6.2 i (by omega) (fun z => by first | exact z | exact h2 z | (dsimp only at z; omega)), hf5.2 i (by omega) (fun z => by first | exact z | exact h2 z | (dsimp only at z; omega)), hf4.2 i (by omega) (fun z => by first | exact z | exact h2 z | (dsimp only at z; omega)), hf3.2 i (by omega) (fun z => by first | exact z | exact h2 z | (dsimp only at z; omega)), hf2.2 i (by omega) (fun z => by first | exact z | exact h2 z | (dsimp only at z; omega)), hf1.2 i (by omega) (fun z => by first | exact z | exact h2 z | (dsimp only at z; omega))]⟩
  exact xr_ret rfl rfl (K W19 _ _ (by omega) hO ha1 ha2 ha3 ha4 F (by omega) (by omega))
theorem ruC (d c s b : Nat) (W0 : xi_W) (hl0 : W0.length = b + 1) (gb : 17 ≤ b) (hO : W0[b]? = some (.inr (2, xt_df 2))) (r : xi_R → Prop) (K : ∀ W' c' s', W'.length = b + 5 → W'[b]? = some (.inr (2, [.ref (b + 1), .int (Int32.ofNat 0), .int (Int32.ofNat 4294967295), .int (Int32.ofNat 2), .ref (b + 2), .int (Int32.ofNat 0), .ref (b + 3), .ref (b + 4)])) → W'[b + 1]? = some (.inl (.object "DeltaNests$Text", 4, .inr (.inr (fun _ => none)))) → W'[b + 2]? = some (lw_i 32 (fun _ => 0)) → W'[b + 3]? = some (lw_i 14 (fun _ => 0)) → W'[b + 4]? = some (lw_i 64 (fun _ => 0)) → fr (fun i => i = b) W0 W' → c' = c + 4 → s' = s + 114 → r (none, W', c', s')) : xr (d + 1) 52 0 [(0, .ref b)] [] W0 c s r := by
  refine xr_stp rfl rfl rfl rfl ?_
  refine xr_stp rfl rfl rfl rfl ?_
  refine xr_stp rfl rfl rfl rfl ?_
  refine xr_stp (st' := .int (Int32.ofNat 4) :: _) rfl rfl rfl rfl ?_
  refine xs_newo (by omega) rfl rfl rfl (fun R W1 eR ha1 hf1 hl1 => ?_)
  obtain rfl : R = (b + 1) := by omega
  have hO := hf1.at hO (by exact fun z => z)
  refine xr_putl hO (by omega) rfl rfl rfl rfl rfl rfl (fun W2 hO hf2 hl2 => ?_)
  have ha1 := hf2.at ha1 (by omega)
  refine xr_stp rfl rfl rfl rfl ?_
  refine xr_stp (st' := .int (Int32.ofNat 0) :: _) rfl rfl rfl rfl ?_
  refine xr_putl hO (by omega) rfl rfl rfl rfl rfl rfl (fun W3 hO hf3 hl3 => ?_)
  have ha1 := hf3.at ha1 (by omega)
  refine xr_stp rfl rfl rfl rfl ?_
  refine xr_stp (st' := .int (Int32.ofNat 4294967295) :: _) rfl rfl rfl rfl ?_
  refine xr_putl hO (by omega) rfl rfl rfl rfl rfl rfl (fun W4 hO hf4 hl4 => ?_)
  have ha1 := hf4.at ha1 (by omega)
  refine xr_stp rfl rfl rfl rfl ?_
  refine xr_stp (st' := .int (Int32.ofNat 2) :: _) rfl rfl rfl rfl ?_
  refine xr_putl hO (by omega) rfl rfl rfl rfl rfl rfl (fun W5 hO hf5 hl5 => ?_)
  have ha1 := hf5.at ha1 (by omega)
  refine xr_stp rfl rfl rfl rfl ?_
  refine xr_stp (st' := .int (Int32.ofNat 32) :: _) rfl rfl rfl rfl ?_
  refine xs_newj (by omega) rfl (fun R W6 eR ha2 hf6 hl6 => ?_)
  obtain rfl : R = (b + 2) := by omega
  have hO := hf6.at hO (by exact fun z => z)
  have ha1 := hf6.at ha1 (by exact fun z => z)
  refine xr_putl hO (by omega) rfl rfl rfl rfl rfl rfl (fun W7 hO hf7 hl7 => ?_)
  have ha1 := hf7.at ha1 (by omega)
  have ha2 := hf7.at ha2 (by omega)
  refine xr_stp rfl rfl rfl rfl ?_
  refine xr_stp (st' := .int (Int32.ofNat 0) :: _) rfl rfl rfl rfl ?_
  refine xr_putl hO (by omega) rfl rfl rfl rfl rfl rfl (fun W8 hO hf8 hl8 => ?_)
  have ha1 := hf8.at ha1 (by omega)
  have ha2 := hf8.at ha2 (by omega)
  refine xr_stp rfl rfl rfl rfl ?_
  refine xr_stp (st' := .int (Int32.ofNat 14) :: _) rfl rfl rfl rfl ?_
  refine xs_newj (by omega) rfl (fun R W9 eR ha3 hf9 hl9 => ?_)
  obtain rfl : R = (b + 3) := by omega
  have hO := hf9.at hO (by exact fun z => z)
  have ha1 := hf9.at ha1 (by exact fun z => z)
  have ha2 := hf9.at ha2 (by exact fun z => z)
  refine xr_putl hO (by omega) rfl rfl rfl rfl rfl rfl (fun W10 hO hf10 hl10 => ?_)
  have ha1 := hf10.at ha1 (by omega)
  have ha2 := hf10.at ha2 (by omega)
  have ha3 := hf10.at ha3 (by omega)
  refine xr_stp rfl rfl rfl rfl ?_
  refine xr_stp (st' := .int (Int32.ofNat 64) :: _) rfl rfl rfl rfl ?_
  refine xs_newj (by omega) rfl (fun R W11 eR ha4 hf11 hl11 => ?_)
  obtain rfl : R = (b + 4) := by omega
  have hO := hf11.at hO (by exact fun z => z)
  have ha1 := hf11.at ha1 (by exact fun z => z)
  have ha2 := hf11.at ha2 (by exact fun z => z)
  have ha3 := hf11.at ha3 (by exact fun z => z)
  refine xr_putl hO (by omega) rfl rfl rfl rfl rfl rfl (fun W12 hO hf12 hl12 => ?_)
  have ha1 := hf12.at ha1 (by omega)
  have ha2 := hf12.at ha2 (by omega)
  have ha3 := hf12.at ha3 (by omega)
  have ha4 := hf12.at ha4 (by omega)
  have F : fr (fun i => i = b) W0 W12 := ⟨by omega, fun i h1 h2 => by rw [hf12.2 i (by omega) (fun z => by first | exact z | exact h2 z | (dsimp only at z; omega)), hf11.2 i (by omega) (fun z => by first | exact z | exact h2 z | (dsimp only at z; omega)), hf10.2 i (by omega) (fun z => by first | exact z | exact h2 z | (dsimp only at z; omega)), hf9.2 i (by omega) (fun z => by first | exact z | exact h2 z | (dsimp only at z; omega)), hf8.2 i (by omega) (fun z => by first | exact z | exact h2 z | (dsimp only at z; omega)), hf7.2 i (by omega) (fun z => by first | exact z | exact h2 z | (dsimp only at z; omega)), hf6.2 i (by omega) (fun z => by first | exact z | exact h2 z | (dsimp only at z; omega)), hf5.2 i (by omega) (fun z => by first | exact z | exact h2 z | (dsimp only at z; omega)), hf4.2 i (by omega) (fun z => by first | exact z | exact h2 z | (dsimp only at z; omega)), hf3.2 i (by omega) (fun z => by first | exact z | exact h2 z | (dsimp only at z; omega)), hf2.2 i (by omega) (fun z => by first | exact z | exact h2 z | (dsimp only at z; omega)), hf1.2 i (by omega) (fun z => by first | exact z | exact h2 z | (dsimp only at z; omega))]⟩
  exact xr_ret rfl rfl (K W12 _ _ (by omega) hO ha1 ha2 ha3 ha4 F (by omega) (by omega))
