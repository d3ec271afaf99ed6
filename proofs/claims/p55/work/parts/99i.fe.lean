/-! the tape; the class's feed, end -/
theorem n_i2bm {x y : Nat} (h : x % 256 = y) (hy : y < 128) : (Int32.ofNat x).toInt8.toInt32 = Int32.ofNat y := by
  rw [← n_i2b y hy, Int32.toInt8_ofNat', Int32.toInt8_ofNat']
  congr 1
  apply Int8.toBitVec_inj.mp
  show BitVec.ofNat 8 x = BitVec.ofNat 8 y
  apply BitVec.eq_of_toNat_eq
  rw [BitVec.toNat_ofNat, BitVec.toNat_ofNat]
  omega
theorem xs_i2bm {d i pc x y : Nat} {l : xi_L} {st : List Value} {w : xi_W} {c s : Nat} {r : xi_R → Prop} (h1 : x % 256 = y) (h2 : y < 128) (hc : xt_cd i pc = some .i2b) (h : xr d i (pc + 1) l (.int (Int32.ofNat y) :: st) w c s r) : xr d i pc l (.int (Int32.ofNat x) :: st) w c s r :=
  xr_stp hc rfl rfl (by simp only [xi_stp, xi_u1, n_i2bm h1 h2]) h
theorem n_nab : ∀ a, a < 128 → vp_nar .byte (Int32.ofNat a) = Int32.ofNat a := by decide +kernel
theorem xs_bst {d i pc a n j v : Nat} {l : xi_L} {st : List Value} {w : xi_W} {c s : Nat} {r : xi_R → Prop} {F : Nat → Nat} (hw : w[a]? = some (lw_b n F)) (hg : 17 ≤ a) (hj : j < n) (hn : n < 2147483648) (hv : v < 128) (hc : xt_cd i pc = some .bastore) (h : ∀ w', w'[a]? = some (lw_b n (xn_u F j v)) → fr (· = a) w w' → xr d i (pc + 1) l st w' c s r) : xr d i pc l (.int (Int32.ofNat v) :: .int (Int32.ofNat j) :: .ref a :: st) w c s r := by
  refine xr_stp (pc' := pc + 1) (l' := l) (st' := st) (w' := w.set a (lw_b n (xn_u F j v))) (c' := c) (s' := s) hc rfl rfl ?_ (h _ (xi_setat hw) (fr.set rfl))
  have hw2 : w[a]? = some (.inl (.byte, n, .inl (xn_f F))) := hw
  simp only [xi_stp, hw2, Nat.ble_eq.mpr hg, n_ix hj hn, xi_isa, Bool.and_self, cond_true, n_nat (show j < 2147483648 by omega), n_nab v hv, xn_upd]
  rfl
theorem xs_dec8 {d i pc a k : Nat} {l : xi_L} {st : List Value} {w : xi_W} {c s : Nat} {r : xi_R → Prop} (hc : xt_cd i pc = some (.iinc k (-8))) (hl : xi_get l k = some (.int (Int32.ofNat (a + 8)))) (hk : Nat.blt k (xt_ml i) = true) (h : xr d i (pc + 3) (xi_st1 l k (.int (Int32.ofNat a))) st w c s r) : xr d i pc l st w c s r := by
  refine xr_stp hc rfl rfl ?_ h
  have e : Int32.ofNat (a + 8) + Int32.ofInt (-8) = Int32.ofNat a := by
    rw [show Int32.ofInt (-8) = Int32.ofNat 4294967288 from rfl, n_add]
    apply Int32.toBitVec_inj.mp
    show BitVec.ofNat 32 (a + 8 + 4294967288) = BitVec.ofNat 32 a
    apply BitVec.eq_of_toNat_eq
    rw [BitVec.toNat_ofNat, BitVec.toNat_ofNat]
    omega
  simp only [xi_stp, hl, hk, e, cond_true]
theorem tp_four (d c s x0 x1 x2 x3 : Nat) (W0 : xi_W) (tp : Nat → Nat) (n : Nat) (h : RDW n tp W0) (hx0 : x0 < 128) (hx1 : x1 < 128) (hx2 : x2 < 128) (hx3 : x3 < 128) (hn : n + 4 ≤ 300) (r : xi_R → Prop) (K : ∀ W', RDW (n + 4) (xn_u (xn_u (xn_u (xn_u tp n x0) (n + 1) x1) (n + 1 + 1) x2) (n + 1 + 1 + 1) x3) W' → fr rdp W0 W' → r (none, W', c, s)) : xr d 28 0 [(0, .ref 18), (1, .int (Int32.ofNat (x0 * 16777216 + x1 * 65536 + x2 * 256 + x3)))] [] W0 c s r := by
  obtain ⟨hk, ⟨st, nx, tk, nu, fa, pl, mn, pa, cd, lw, hO⟩, hT, ⟨C, hC⟩, ⟨P, hP⟩, ⟨B, hB⟩⟩ := h
  have hF : fr rdp W0 W0 := fr.rf
  refine xr_stp (st' := .int (Int32.ofNat 24) :: _) rfl rfl rfl rfl ?_
  refine xr_stp rfl rfl rfl rfl ?_
  refine xr_loc [(0, .ref 18), (1, .int (Int32.ofNat (x0 * 16777216 + x1 * 65536 + x2 * 256 + x3))), (2, .int (Int32.ofNat 24))] ⟨rfl, rfl, rfl, trivial⟩ rfl ?_
  refine xr_stp rfl rfl rfl rfl ?_
  refine xr_j1 rfl rfl rfl rfl rfl (fun h4 => ?_) (fun h4 => ?_)
  · have z4 := n_lt0 h4
    exact (by omega)
  · refine xr_stp rfl rfl rfl rfl ?_
    refine xr_getfield hO rfl rfl rfl rfl ?_
    refine xr_stp (st' := .int (Int32.ofNat 300) :: _) rfl rfl rfl rfl ?_
    refine xr_j2 rfl rfl rfl rfl rfl (fun h14 => ?_) (fun h14 => ?_)
    · have z14 := nt_ge (by omega) (by omega) h14
      exact (by omega)
    · refine xr_stp rfl rfl rfl rfl ?_
      refine xr_getfield hO rfl rfl rfl rfl ?_
      refine xr_stp rfl rfl rfl rfl ?_
      refine xr_getfield hO rfl rfl rfl rfl ?_
      refine xr_stp rfl rfl rfl rfl ?_
      refine xr_stp rfl rfl rfl rfl ?_
      refine xs_shr (by omega) (by omega) rfl ?_
      refine xs_i2bm (y := x0) (by omega) hx0 rfl ?_
      refine xs_bst hT (by omega) (by omega) (by omega) hx0 rfl (fun W hT hf1 => ?_)
      have hO := hf1.at hO (by omega)
      have hC := hf1.at hC (by omega)
      have hP := hf1.at hP (by omega)
      have hB := hf1.at hB (by omega)
      have hF := hF.tr2 hf1 (fun i e => Or.inl (rdp_ e (by omega)))
      refine xr_stp rfl rfl rfl rfl ?_
      refine xr_stp rfl rfl rfl rfl ?_
      refine xr_getfield hO rfl rfl rfl rfl ?_
      refine xr_stp (st' := .int (Int32.ofNat 1) :: _) rfl rfl rfl rfl ?_
      refine xs_add rfl ?_
      refine xr_putk hO (by omega) rfl rfl rfl rfl rfl rfl (fun W hO hf1 => ?_)
      have hT := hf1.at hT (by omega)
      have hC := hf1.at hC (by omega)
      have hP := hf1.at hP (by omega)
      have hB := hf1.at hB (by omega)
      have hF := hF.tr2 hf1 (fun i e => Or.inl (rdp_ e (by omega)))
      refine xs_dec8 rfl rfl rfl ?_
      refine xr_stp rfl rfl rfl rfl ?_
      refine xr_loc [(0, .ref 18), (1, .int (Int32.ofNat (x0 * 16777216 + x1 * 65536 + x2 * 256 + x3))), (2, .int (Int32.ofNat 16))] ⟨rfl, rfl, rfl, trivial⟩ rfl ?_
      refine xr_stp rfl rfl rfl rfl ?_
      refine xr_j1 rfl rfl rfl rfl rfl (fun h4 => ?_) (fun h4 => ?_)
      · have z4 := n_lt0 h4
        exact (by omega)
      · refine xr_stp rfl rfl rfl rfl ?_
        refine xr_getfield hO rfl rfl rfl rfl ?_
        refine xr_stp (st' := .int (Int32.ofNat 300) :: _) rfl rfl rfl rfl ?_
        refine xr_j2 rfl rfl rfl rfl rfl (fun h14 => ?_) (fun h14 => ?_)
        · have z14 := nt_ge (by omega) (by omega) h14
          exact (by omega)
        · refine xr_stp rfl rfl rfl rfl ?_
          refine xr_getfield hO rfl rfl rfl rfl ?_
          refine xr_stp rfl rfl rfl rfl ?_
          refine xr_getfield hO rfl rfl rfl rfl ?_
          refine xr_stp rfl rfl rfl rfl ?_
          refine xr_stp rfl rfl rfl rfl ?_
          refine xs_shr (by omega) (by omega) rfl ?_
          refine xs_i2bm (y := x1) (by omega) hx1 rfl ?_
          refine xs_bst hT (by omega) (by omega) (by omega) hx1 rfl (fun W hT hf1 => ?_)
          have hO := hf1.at hO (by omega)
          have hC := hf1.at hC (by omega)
          have hP := hf1.at hP (by omega)
          have hB := hf1.at hB (by omega)
          have hF := hF.tr2 hf1 (fun i e => Or.inl (rdp_ e (by omega)))
          refine xr_stp rfl rfl rfl rfl ?_
          refine xr_stp rfl rfl rfl rfl ?_
          refine xr_getfield hO rfl rfl rfl rfl ?_
          refine xr_stp (st' := .int (Int32.ofNat 1) :: _) rfl rfl rfl rfl ?_
          refine xs_add rfl ?_
          refine xr_putk hO (by omega) rfl rfl rfl rfl rfl rfl (fun W hO hf1 => ?_)
          have hT := hf1.at hT (by omega)
          have hC := hf1.at hC (by omega)
          have hP := hf1.at hP (by omega)
          have hB := hf1.at hB (by omega)
          have hF := hF.tr2 hf1 (fun i e => Or.inl (rdp_ e (by omega)))
          refine xs_dec8 rfl rfl rfl ?_
          refine xr_stp rfl rfl rfl rfl ?_
          refine xr_loc [(0, .ref 18), (1, .int (Int32.ofNat (x0 * 16777216 + x1 * 65536 + x2 * 256 + x3))), (2, .int (Int32.ofNat 8))] ⟨rfl, rfl, rfl, trivial⟩ rfl ?_
          refine xr_stp rfl rfl rfl rfl ?_
          refine xr_j1 rfl rfl rfl rfl rfl (fun h4 => ?_) (fun h4 => ?_)
          · have z4 := n_lt0 h4
            exact (by omega)
          · refine xr_stp rfl rfl rfl rfl ?_
            refine xr_getfield hO rfl rfl rfl rfl ?_
            refine xr_stp (st' := .int (Int32.ofNat 300) :: _) rfl rfl rfl rfl ?_
            refine xr_j2 rfl rfl rfl rfl rfl (fun h14 => ?_) (fun h14 => ?_)
            · have z14 := nt_ge (by omega) (by omega) h14
              exact (by omega)
            · refine xr_stp rfl rfl rfl rfl ?_
              refine xr_getfield hO rfl rfl rfl rfl ?_
              refine xr_stp rfl rfl rfl rfl ?_
              refine xr_getfield hO rfl rfl rfl rfl ?_
              refine xr_stp rfl rfl rfl rfl ?_
              refine xr_stp rfl rfl rfl rfl ?_
              refine xs_shr (by omega) (by omega) rfl ?_
              refine xs_i2bm (y := x2) (by omega) hx2 rfl ?_
              refine xs_bst hT (by omega) (by omega) (by omega) hx2 rfl (fun W hT hf1 => ?_)
              have hO := hf1.at hO (by omega)
              have hC := hf1.at hC (by omega)
              have hP := hf1.at hP (by omega)
              have hB := hf1.at hB (by omega)
              have hF := hF.tr2 hf1 (fun i e => Or.inl (rdp_ e (by omega)))
              refine xr_stp rfl rfl rfl rfl ?_
              refine xr_stp rfl rfl rfl rfl ?_
              refine xr_getfield hO rfl rfl rfl rfl ?_
              refine xr_stp (st' := .int (Int32.ofNat 1) :: _) rfl rfl rfl rfl ?_
              refine xs_add rfl ?_
              refine xr_putk hO (by omega) rfl rfl rfl rfl rfl rfl (fun W hO hf1 => ?_)
              have hT := hf1.at hT (by omega)
              have hC := hf1.at hC (by omega)
              have hP := hf1.at hP (by omega)
              have hB := hf1.at hB (by omega)
              have hF := hF.tr2 hf1 (fun i e => Or.inl (rdp_ e (by omega)))
              refine xs_dec8 rfl rfl rfl ?_
              refine xr_stp rfl rfl rfl rfl ?_
              refine xr_loc [(0, .ref 18), (1, .int (Int32.ofNat (x0 * 16777216 + x1 * 65536 + x2 * 256 + x3))), (2, .int (Int32.ofNat 0))] ⟨rfl, rfl, rfl, trivial⟩ rfl ?_
              refine xr_stp rfl rfl rfl rfl ?_
              refine xr_j1 rfl rfl rfl rfl rfl (fun h4 => ?_) (fun h4 => ?_)
              · have z4 := n_lt0 h4
                exact (by omega)
              · refine xr_stp rfl rfl rfl rfl ?_
                refine xr_getfield hO rfl rfl rfl rfl ?_
                refine xr_stp (st' := .int (Int32.ofNat 300) :: _) rfl rfl rfl rfl ?_
                refine xr_j2 rfl rfl rfl rfl rfl (fun h14 => ?_) (fun h14 => ?_)
                · have z14 := nt_ge (by omega) (by omega) h14
                  exact (by omega)
                · refine xr_stp rfl rfl rfl rfl ?_
                  refine xr_getfield hO rfl rfl rfl rfl ?_
                  refine xr_stp rfl rfl rfl rfl ?_
                  refine xr_getfield hO rfl rfl rfl rfl ?_
                  refine xr_stp rfl rfl rfl rfl ?_
                  refine xr_stp rfl rfl rfl rfl ?_
                  refine xs_shr (by omega) (by omega) rfl ?_
                  refine xs_i2bm (y := x3) (by omega) hx3 rfl ?_
                  refine xs_bst hT (by omega) (by omega) (by omega) hx3 rfl (fun W hT hf1 => ?_)
                  have hO := hf1.at hO (by omega)
                  have hC := hf1.at hC (by omega)
                  have hP := hf1.at hP (by omega)
                  have hB := hf1.at hB (by omega)
                  have hF := hF.tr2 hf1 (fun i e => Or.inl (rdp_ e (by omega)))
                  refine xr_stp rfl rfl rfl rfl ?_
                  refine xr_stp rfl rfl rfl rfl ?_
                  refine xr_getfield hO rfl rfl rfl rfl ?_
                  refine xr_stp (st' := .int (Int32.ofNat 1) :: _) rfl rfl rfl rfl ?_
                  refine xs_add rfl ?_
                  refine xr_putk hO (by omega) rfl rfl rfl rfl rfl rfl (fun W hO hf1 => ?_)
                  have hT := hf1.at hT (by omega)
                  have hC := hf1.at hC (by omega)
                  have hP := hf1.at hP (by omega)
                  have hB := hf1.at hB (by omega)
                  have hF := hF.tr2 hf1 (fun i e => Or.inl (rdp_ e (by omega)))
                  refine xr_stp rfl rfl rfl rfl ?_
                  refine xr_stp rfl rfl rfl rfl ?_
                  refine xr_stp rfl rfl rfl rfl ?_
                  refine xr_j1 rfl rfl rfl rfl rfl (fun h4 => ?_) (fun h4 => ?_)
                  · exact xr_ret rfl rfl (K W ⟨hk.rd5 hF, ⟨_, _, _, _, _, _, _, _, _, _, hO⟩, hT, ⟨_, hC⟩, ⟨_, hP⟩, ⟨_, hB⟩⟩ hF)
                  · exact absurd h4 (by decide +kernel)
/-- twenty bytes more -/
def fd5 (tp : Nat → Nat) (n : Nat) (X : Nat → Nat) : Nat → Nat := fun j => if n ≤ j ∧ j < n + 20 then X (j - n) else tp j
def pk4 (X : Nat → Nat) (q : Nat) : Nat := X (4 * q) * 16777216 + X (4 * q + 1) * 65536 + X (4 * q + 2) * 256 + X (4 * q + 3)
theorem fd5_e (tp X : Nat → Nat) (n : Nat) : (let t0 := xn_u (xn_u (xn_u (xn_u tp n (X (4 * 0))) (n + 1) (X (4 * 0 + 1))) (n + 1 + 1) (X (4 * 0 + 2))) (n + 1 + 1 + 1) (X (4 * 0 + 3)); let n1 := n + 4; let t1 := xn_u (xn_u (xn_u (xn_u t0 n1 (X (4 * 1))) (n1 + 1) (X (4 * 1 + 1))) (n1 + 1 + 1) (X (4 * 1 + 2))) (n1 + 1 + 1 + 1) (X (4 * 1 + 3)); let n2 := n + 4 + 4; let t2 := xn_u (xn_u (xn_u (xn_u t1 n2 (X (4 * 2))) (n2 + 1) (X (4 * 2 + 1))) (n2 + 1 + 1) (X (4 * 2 + 2))) (n2 + 1 + 1 + 1) (X (4 * 2 + 3)); let n3 := n + 4 + 4 + 4; let t3 := xn_u (xn_u (xn_u (xn_u t2 n3 (X (4 * 3))) (n3 + 1) (X (4 * 3 + 1))) (n3 + 1 + 1) (X (4 * 3 + 2))) (n3 + 1 + 1 + 1) (X (4 * 3 + 3)); let n4 := n + 4 + 4 + 4 + 4; xn_u (xn_u (xn_u (xn_u t3 n4 (X (4 * 4))) (n4 + 1) (X (4 * 4 + 1))) (n4 + 1 + 1) (X (4 * 4 + 2))) (n4 + 1 + 1 + 1) (X (4 * 4 + 3))) = fd5 tp n X := by
  funext j
  show _ = if n ≤ j ∧ j < n + 20 then X (j - n) else tp j
  by_cases h : n ≤ j ∧ j < n + 20
  · rw [if_pos h]
    obtain ⟨k, hk⟩ : ∃ k, j = n + k := ⟨j - n, by omega⟩
    subst hk
    have hk : k < 20 := by omega
    rw [Nat.add_sub_cancel_left]
    unfold xn_u
    try dsimp only
    have : ∀ a, (n + k = n + a) = (k = a) := fun a => propext ⟨fun e => by omega, fun e => by omega⟩
    have h0 : (n + k = n) = (k = 0) := propext ⟨fun e => by omega, fun e => by omega⟩
    simp only [Nat.add_assoc, this, h0]
    have e : k = 0 ∨ k = 1 ∨ k = 2 ∨ k = 3 ∨ k = 4 ∨ k = 5 ∨ k = 6 ∨ k = 7 ∨ k = 8 ∨ k = 9 ∨ k = 10 ∨ k = 11 ∨ k = 12 ∨ k = 13 ∨ k = 14 ∨ k = 15 ∨ k = 16 ∨ k = 17 ∨ k = 18 ∨ k = 19 := by omega
    rcases e with rfl | rfl | rfl | rfl | rfl | rfl | rfl | rfl | rfl | rfl | rfl | rfl | rfl | rfl | rfl | rfl | rfl | rfl | rfl | rfl <;> rfl
  · rw [if_neg h]
    try dsimp only
    iterate 20 rw [xn_un _ _ (by omega)]
theorem cl_feed (d c s : Nat) (W0 : xi_W) (tp : Nat → Nat) (n : Nat) (lf lp : Int32) (hO : W0[17]? = some (.inr (6, [.ref 18, .int lf, .int lp, .ref 23, .ref 33, .ref 43, .ref 355, .ref 360, .ref 370, .ref 682]))) (h : RDW n tp W0) (X : Nat → Nat) (hX : ∀ j, j < 20 → X j < 128) (hn : n + 20 ≤ 300) (r : xi_R → Prop) (K : ∀ W', RDW (n + 20) (fd5 tp n X) W' → fr rdp W0 W' → r (some (.int (Int32.ofNat (n + 20))), W', c, s)) : xr (d + 1) 96 0 [(0, .ref 17), (1, .int (Int32.ofNat (pk4 X 0))), (2, .int (Int32.ofNat (pk4 X 1))), (3, .int (Int32.ofNat (pk4 X 2))), (4, .int (Int32.ofNat (pk4 X 3))), (5, .int (Int32.ofNat (pk4 X 4)))] [] W0 c s r := by
  obtain ⟨hk, ⟨st, nx, tk, nu, fa, pl, mn, pa, cd, lw, hR⟩, -⟩ := id h
  refine xr_stp rfl rfl rfl rfl ?_
  refine xr_getfield hO rfl rfl rfl rfl ?_
  refine xr_getfield hR rfl rfl rfl rfl ?_
  refine xr_stp (st' := .int (Int32.ofNat 20) :: _) rfl rfl rfl rfl ?_
  refine xs_add rfl ?_
  refine xr_stp (st' := .int (Int32.ofNat 300) :: _) rfl rfl rfl rfl ?_
  refine xr_j2 rfl rfl rfl rfl rfl (fun h13 => ?_) (fun h13 => ?_)
  · refine xr_stp rfl rfl rfl rfl ?_
    refine xr_getfield hO rfl rfl rfl rfl ?_
    refine xr_stp rfl rfl rfl rfl ?_
    obtain ⟨hk0, ⟨st0, nx0, tk0, nu0, fa0, pl0, mn0, pa0, cd0, lw0, hR0⟩, -⟩ := id h
    refine xr_vcps hR0 rfl rfl rfl rfl rfl rfl (fun r1 K2 => tp_four _ _ _ (X (4 * 0)) (X (4 * 0 + 1)) (X (4 * 0 + 2)) (X (4 * 0 + 3)) _ _ _ h (hX _ (by omega)) (hX _ (by omega)) (hX _ (by omega)) (hX _ (by omega)) (by omega) r1 (fun W1 g0 hf0 => K2 _ _ _ _ ?_))
    have hO := hf0.at hO (by unfold rdp; omega)
    refine xr_stp rfl rfl rfl rfl ?_
    refine xr_getfield hO rfl rfl rfl rfl ?_
    refine xr_stp rfl rfl rfl rfl ?_
    obtain ⟨hk1, ⟨st1, nx1, tk1, nu1, fa1, pl1, mn1, pa1, cd1, lw1, hR1⟩, -⟩ := id g0
    refine xr_vcps hR1 rfl rfl rfl rfl rfl rfl (fun r1 K2 => tp_four _ _ _ (X (4 * 1)) (X (4 * 1 + 1)) (X (4 * 1 + 2)) (X (4 * 1 + 3)) _ _ _ g0 (hX _ (by omega)) (hX _ (by omega)) (hX _ (by omega)) (hX _ (by omega)) (by omega) r1 (fun W2 g1 hf1 => K2 _ _ _ _ ?_))
    have hO := hf1.at hO (by unfold rdp; omega)
    refine xr_stp rfl rfl rfl rfl ?_
    refine xr_getfield hO rfl rfl rfl rfl ?_
    refine xr_stp rfl rfl rfl rfl ?_
    obtain ⟨hk2, ⟨st2, nx2, tk2, nu2, fa2, pl2, mn2, pa2, cd2, lw2, hR2⟩, -⟩ := id g1
    refine xr_vcps hR2 rfl rfl rfl rfl rfl rfl (fun r1 K2 => tp_four _ _ _ (X (4 * 2)) (X (4 * 2 + 1)) (X (4 * 2 + 2)) (X (4 * 2 + 3)) _ _ _ g1 (hX _ (by omega)) (hX _ (by omega)) (hX _ (by omega)) (hX _ (by omega)) (by omega) r1 (fun W3 g2 hf2 => K2 _ _ _ _ ?_))
    have hO := hf2.at hO (by unfold rdp; omega)
    refine xr_stp rfl rfl rfl rfl ?_
    refine xr_getfield hO rfl rfl rfl rfl ?_
    refine xr_stp rfl rfl rfl rfl ?_
    obtain ⟨hk3, ⟨st3, nx3, tk3, nu3, fa3, pl3, mn3, pa3, cd3, lw3, hR3⟩, -⟩ := id g2
    refine xr_vcps hR3 rfl rfl rfl rfl rfl rfl (fun r1 K2 => tp_four _ _ _ (X (4 * 3)) (X (4 * 3 + 1)) (X (4 * 3 + 2)) (X (4 * 3 + 3)) _ _ _ g2 (hX _ (by omega)) (hX _ (by omega)) (hX _ (by omega)) (hX _ (by omega)) (by omega) r1 (fun W4 g3 hf3 => K2 _ _ _ _ ?_))
    have hO := hf3.at hO (by unfold rdp; omega)
    refine xr_stp rfl rfl rfl rfl ?_
    refine xr_getfield hO rfl rfl rfl rfl ?_
    refine xr_stp rfl rfl rfl rfl ?_
    obtain ⟨hk4, ⟨st4, nx4, tk4, nu4, fa4, pl4, mn4, pa4, cd4, lw4, hR4⟩, -⟩ := id g3
    refine xr_vcps hR4 rfl rfl rfl rfl rfl rfl (fun r1 K2 => tp_four _ _ _ (X (4 * 4)) (X (4 * 4 + 1)) (X (4 * 4 + 2)) (X (4 * 4 + 3)) _ _ _ g3 (hX _ (by omega)) (hX _ (by omega)) (hX _ (by omega)) (hX _ (by omega)) (by omega) r1 (fun W5 g4 hf4 => K2 _ _ _ _ ?_))
    have hO := hf4.at hO (by unfold rdp; omega)
    obtain ⟨hk5, ⟨st5, nx5, tk5, nu5, fa5, pl5, mn5, pa5, cd5, lw5, hR⟩, -⟩ := id g4
    have g5 : RDW (n + 20) (fd5 tp n X) W5 := by rw [← fd5_e tp X n]; exact g4
    refine xr_stp rfl rfl rfl rfl ?_
    refine xr_getfield hO rfl rfl rfl rfl ?_
    refine xr_getfield hR rfl rfl rfl rfl ?_
    exact xr_ret rfl rfl (K W5 g5 ((((hf0.tr hf1).tr hf2).tr hf3).tr hf4))
  · have z13 := nf_le (by omega) (by omega) h13
    exact (by omega)
theorem cl_end (d c s : Nat) (W0 : xi_W) (tp : Nat → Nat) (n m : Nat) (lf lp : Int32) (hO : W0[17]? = some (.inr (6, [.ref 18, .int lf, .int lp, .ref 23, .ref 33, .ref 43, .ref 355, .ref 360, .ref 370, .ref 682]))) (h : RDW n tp W0) (hm : m ≤ n) (hn : n ≤ 300) (r : xi_R → Prop) (K : ∀ W', RDW m tp W' → fr rdp W0 W' → r (some (.int (Int32.ofNat m)), W', c, s)) : xr (d + 1) 97 0 [(0, .ref 17), (1, .int (Int32.ofNat m))] [] W0 c s r := by
  obtain ⟨hk, ⟨st, nx, tk, nu, fa, pl, mn, pa, cd, lw, hR⟩, hT, ⟨C, hC⟩, ⟨P, hP⟩, ⟨B, hB⟩⟩ := h
  have hF : fr rdp W0 W0 := fr.rf
  refine xr_stp rfl rfl rfl rfl ?_
  refine xr_j1 rfl rfl rfl rfl rfl (fun h1 => ?_) (fun h1 => ?_)
  · have z1 := n_lt0 h1
    exact (by omega)
  · refine xr_stp rfl rfl rfl rfl ?_
    refine xr_stp rfl rfl rfl rfl ?_
    refine xr_getfield hO rfl rfl rfl rfl ?_
    refine xr_getfield hR rfl rfl rfl rfl ?_
    refine xr_j2 rfl rfl rfl rfl rfl (fun h12 => ?_) (fun h12 => ?_)
    · refine xr_stp rfl rfl rfl rfl ?_
      refine xr_getfield hO rfl rfl rfl rfl ?_
      refine xr_stp rfl rfl rfl rfl ?_
      refine xr_putk hR (by omega) rfl rfl rfl rfl rfl rfl (fun W hR hf1 => ?_)
      have hO := hf1.at hO (by omega)
      have hT := hf1.at hT (by omega)
      have hC := hf1.at hC (by omega)
      have hP := hf1.at hP (by omega)
      have hB := hf1.at hB (by omega)
      have hF := hF.tr2 hf1 (fun i e => Or.inl (rdp_ e (by omega)))
      refine xr_stp rfl rfl rfl rfl ?_
      exact xr_ret rfl rfl (K W ⟨hk.rd5 hF, ⟨_, _, _, _, _, _, _, _, _, _, hR⟩, hT, ⟨_, hC⟩, ⟨_, hP⟩, ⟨_, hB⟩⟩ hF)
    · have z12 := nf_le (by omega) (by omega) h12
      exact (by omega)
