/-! the law: messages -/
/-- the message that comes first -/
def lw_fi (G : Nat → Nat) : Nat → Nat → Nat → Nat
  | 0, _, b => b
  | m + 1, i, b => lw_fi G m (i + 1) (if b = 4294967295 ∨ G (411 + 8 * i + 2) < G (411 + 8 * b + 2) ∨ (G (411 + 8 * i + 2) = G (411 + 8 * b + 2) ∧ G (411 + 8 * i + 3) < G (411 + 8 * b + 3)) then i else b)
def lw_fL (A i b : Nat) (L : xi_L) : Prop := L = [(2, .int (Int32.ofNat i)), (1, .int (Int32.ofNat b)), (0, .ref A)] ∨ (∃ x, L = [(2, .int (Int32.ofNat i)), (1, .int (Int32.ofNat b)), (3, .int x), (0, .ref A)]) ∨ (∃ x, L = [(2, .int (Int32.ofNat i)), (3, .int x), (1, .int (Int32.ofNat b)), (0, .ref A)])
theorem lw_fiB (d c s A : Nat) (W0 : xi_W) (G : Nat → Nat) (hw : W0[A]? = some (lw_a 1804 G)) (hg : 17 ≤ A) (hG : ∀ j, G j < 9223372036854775808) (i b : Nat) (hi : i < 24) (hb : b < 24 ∨ b = 4294967295) (r : xi_R → Prop) (K : ∀ (b' : Nat) (L : xi_L), lw_fL A (i + 1) b' L → b' = (if b = 4294967295 ∨ G (411 + 8 * i + 2) < G (411 + 8 * b + 2) ∨ (G (411 + 8 * i + 2) = G (411 + 8 * b + 2) ∧ G (411 + 8 * i + 3) < G (411 + 8 * b + 3)) then i else b) → xr d 195 4 L [] W0 c s r) : xr d 195 24 [(3, .int (Int32.ofNat (411 + 8 * i))), (2, .int (Int32.ofNat i)), (1, .int (Int32.ofNat b)), (0, .ref A)] [] W0 c s r := by
  refine xr_stp rfl rfl rfl rfl ?_
  refine xr_j1 rfl rfl rfl rfl rfl (fun h25 => ?_) (fun h25 => ?_)
  · have e25 : b = 4294967295 := hb.resolve_left (fun q => n_lt0 h25 (by omega))
    refine xr_stp rfl rfl rfl rfl ?_
    refine xr_stp rfl rfl rfl rfl ?_
    refine xs_inc (e := 1) rfl rfl rfl rfl ?_
    refine xr_stp rfl rfl rfl rfl ?_
    first | exact K i _ (Or.inr (Or.inl ⟨_, rfl⟩)) (by rw [if_pos (by omega)]) | exact K b _ (Or.inr (Or.inr ⟨_, rfl⟩)) (by rw [if_neg (by omega)])
  · have e25 : b < 24 := hb.resolve_right (fun q => by rw [q] at h25; exact absurd h25 (by decide +kernel))
    refine xr_stp rfl rfl rfl rfl ?_
    refine xr_stp rfl rfl rfl rfl ?_
    refine xr_stp (st' := .int (Int32.ofNat 2) :: _) rfl rfl rfl rfl ?_
    refine xs_add rfl ?_
    refine xs_ald hw hg (by omega) (by omega) rfl ?_
    refine xr_stp rfl rfl rfl rfl ?_
    refine xr_stp (st' := .int (Int32.ofNat 411) :: _) rfl rfl rfl rfl ?_
    refine xr_stp (st' := .int (Int32.ofNat 8) :: _) rfl rfl rfl rfl ?_
    refine xr_stp rfl rfl rfl rfl ?_
    refine xs_mul rfl ?_
    refine xs_add rfl ?_
    refine xr_stp (st' := .int (Int32.ofNat 2) :: _) rfl rfl rfl rfl ?_
    refine xs_add rfl ?_
    refine xs_ald hw hg (by omega) (by omega) rfl ?_
    refine xs_lc (by exact hG _) (by exact hG _) rfl ?_
    refine xr_j1 rfl rfl rfl rfl rfl (fun h46 => ?_) (fun h46 => ?_)
    · have e46 := lt_lt h46
      refine xr_stp rfl rfl rfl rfl ?_
      refine xr_stp rfl rfl rfl rfl ?_
      refine xs_inc (e := 1) rfl rfl rfl rfl ?_
      refine xr_stp rfl rfl rfl rfl ?_
      first | exact K i _ (Or.inr (Or.inl ⟨_, rfl⟩)) (by rw [if_pos (by omega)]) | exact K b _ (Or.inr (Or.inr ⟨_, rfl⟩)) (by rw [if_neg (by omega)])
    · have e46 := lf_lt h46
      refine xr_stp rfl rfl rfl rfl ?_
      refine xr_stp rfl rfl rfl rfl ?_
      refine xr_stp (st' := .int (Int32.ofNat 2) :: _) rfl rfl rfl rfl ?_
      refine xs_add rfl ?_
      refine xs_ald hw hg (by omega) (by omega) rfl ?_
      refine xr_stp rfl rfl rfl rfl ?_
      refine xr_stp (st' := .int (Int32.ofNat 411) :: _) rfl rfl rfl rfl ?_
      refine xr_stp (st' := .int (Int32.ofNat 8) :: _) rfl rfl rfl rfl ?_
      refine xr_stp rfl rfl rfl rfl ?_
      refine xs_mul rfl ?_
      refine xs_add rfl ?_
      refine xr_stp (st' := .int (Int32.ofNat 2) :: _) rfl rfl rfl rfl ?_
      refine xs_add rfl ?_
      refine xs_ald hw hg (by omega) (by omega) rfl ?_
      refine xs_lc (by exact hG _) (by exact hG _) rfl ?_
      refine xr_j1 rfl rfl rfl rfl rfl (fun h67 => ?_) (fun h67 => ?_)
      · have e67 := lt_ne h67
        refine xs_inc (e := 1) rfl rfl rfl rfl ?_
        refine xr_stp rfl rfl rfl rfl ?_
        first | exact K i _ (Or.inr (Or.inl ⟨_, rfl⟩)) (by rw [if_pos (by omega)]) | exact K b _ (Or.inr (Or.inr ⟨_, rfl⟩)) (by rw [if_neg (by omega)])
      · have e67 := lf_ne h67
        refine xr_stp rfl rfl rfl rfl ?_
        refine xr_stp rfl rfl rfl rfl ?_
        refine xr_stp (st' := .int (Int32.ofNat 3) :: _) rfl rfl rfl rfl ?_
        refine xs_add rfl ?_
        refine xs_ald hw hg (by omega) (by omega) rfl ?_
        refine xr_stp rfl rfl rfl rfl ?_
        refine xr_stp (st' := .int (Int32.ofNat 411) :: _) rfl rfl rfl rfl ?_
        refine xr_stp (st' := .int (Int32.ofNat 8) :: _) rfl rfl rfl rfl ?_
        refine xr_stp rfl rfl rfl rfl ?_
        refine xs_mul rfl ?_
        refine xs_add rfl ?_
        refine xr_stp (st' := .int (Int32.ofNat 3) :: _) rfl rfl rfl rfl ?_
        refine xs_add rfl ?_
        refine xs_ald hw hg (by omega) (by omega) rfl ?_
        refine xs_lc (by exact hG _) (by exact hG _) rfl ?_
        refine xr_j1 rfl rfl rfl rfl rfl (fun h88 => ?_) (fun h88 => ?_)
        · have e88 := lt_ge h88
          refine xs_inc (e := 1) rfl rfl rfl rfl ?_
          refine xr_stp rfl rfl rfl rfl ?_
          first | exact K i _ (Or.inr (Or.inl ⟨_, rfl⟩)) (by rw [if_pos (by omega)]) | exact K b _ (Or.inr (Or.inr ⟨_, rfl⟩)) (by rw [if_neg (by omega)])
        · have e88 := lf_ge h88
          refine xr_stp rfl rfl rfl rfl ?_
          refine xr_stp rfl rfl rfl rfl ?_
          refine xs_inc (e := 1) rfl rfl rfl rfl ?_
          refine xr_stp rfl rfl rfl rfl ?_
          first | exact K i _ (Or.inr (Or.inl ⟨_, rfl⟩)) (by rw [if_pos (by omega)]) | exact K b _ (Or.inr (Or.inr ⟨_, rfl⟩)) (by rw [if_neg (by omega)])
theorem lw_fiL (d c s A : Nat) (W0 : xi_W) (G : Nat → Nat) (hw : W0[A]? = some (lw_a 1804 G)) (hg : 17 ≤ A) (hG : ∀ j, G j < 9223372036854775808) (h4 : G 410 ≤ 24) (r : xi_R → Prop) : ∀ (m i b : Nat) (L : xi_L), i + m = G 410 → (b < 24 ∨ b = 4294967295) → lw_fL A i b L → r (some (.int (Int32.ofNat (lw_fi G m i b))), W0, c, s) → xr d 195 4 L [] W0 c s r
  | 0, i, b, L, hm, hb, hL, K => by
    rcases hL with rfl | ⟨x, rfl⟩ | ⟨x, rfl⟩
    all_goals
      refine xr_stp rfl rfl rfl rfl ?_
      refine xs_i2l (by omega) rfl ?_
      refine xr_stp rfl rfl rfl rfl ?_
      refine xr_stp (st' := .int (Int32.ofNat 410) :: _) rfl rfl rfl rfl ?_
      refine xs_ald hw hg (by omega) (by omega) rfl ?_
      refine xs_lc (by omega) (by omega) rfl ?_
      refine xr_j1 rfl rfl rfl rfl rfl (fun h12 => ?_) (fun h12 => ?_)
      · refine xr_stp rfl rfl rfl rfl ?_
        exact xr_ret rfl rfl K
      · exact absurd (lf_ge h12) (by omega)
  | m + 1, i, b, L, hm, hb, hL, K => by
    rcases hL with rfl | ⟨x, rfl⟩ | ⟨x, rfl⟩
    all_goals
      refine xr_stp rfl rfl rfl rfl ?_
      refine xs_i2l (by omega) rfl ?_
      refine xr_stp rfl rfl rfl rfl ?_
      refine xr_stp (st' := .int (Int32.ofNat 410) :: _) rfl rfl rfl rfl ?_
      refine xs_ald hw hg (by omega) (by omega) rfl ?_
      refine xs_lc (by omega) (by omega) rfl ?_
      refine xr_j1 rfl rfl rfl rfl rfl (fun h12 => ?_) (fun h12 => ?_)
      · exact absurd (lt_ge h12) (by omega)
      · refine xr_stp (st' := .int (Int32.ofNat 411) :: _) rfl rfl rfl rfl ?_
        refine xr_stp (st' := .int (Int32.ofNat 8) :: _) rfl rfl rfl rfl ?_
        refine xr_stp rfl rfl rfl rfl ?_
        refine xs_mul rfl ?_
        refine xs_add rfl ?_
        refine xr_stp rfl rfl rfl rfl ?_
        refine lw_fiB d c s A W0 G hw hg hG i b (by omega) hb r (fun b2 L2 hL2 e2 => lw_fiL d c s A W0 G hw hg hG h4 r m (i + 1) b2 L2 (by omega) ?_ hL2 ?_)
        · rw [e2]; split <;> omega
        · rw [e2]; exact K
theorem lw_first (d c s A : Nat) (W0 : xi_W) (G : Nat → Nat) (hw : W0[A]? = some (lw_a 1804 G)) (hg : 17 ≤ A) (hG : ∀ j, G j < 9223372036854775808) (h4 : G 410 ≤ 24) (r : xi_R → Prop) (K : r (some (.int (Int32.ofNat (lw_fi G (G 410) 0 4294967295))), W0, c, s)) : xr d 195 0 [(0, .ref A)] [] W0 c s r := by
  refine xr_stp (st' := .int (Int32.ofNat 4294967295) :: _) rfl rfl rfl rfl ?_
  refine xr_stp rfl rfl rfl rfl ?_
  refine xr_stp (st' := .int (Int32.ofNat 0) :: _) rfl rfl rfl rfl ?_
  refine xr_stp rfl rfl rfl rfl ?_
  exact lw_fiL d c s A W0 G hw hg hG h4 r (G 410) 0 4294967295 _ (by omega) (Or.inr rfl) (Or.inl rfl) K
/-- a row of numbers, read -/
def lw_rd (Fs : Nat → Nat) : Nat → Nat → (Nat → Nat) → (Nat → Nat)
  | 0, _, F => F
  | m + 1, k, F => lw_rd Fs m (k + 1) (xn_u F k (Fs k))
/-- the messages behind one move up -/
def lw_sf : Nat → Nat → (Nat → Nat) → (Nat → Nat)
  | 0, _, G => G
  | m + 1, k, G => lw_sf m (k + 1) (xn_u G (411 + k) (G (419 + k)))
theorem lw_sfo : ∀ (m k : Nat) (G : Nat → Nat) (j : Nat), (j < 411 + k ∨ 411 + k + m ≤ j) → lw_sf m k G j = G j
  | 0, _, _, _, _ => rfl
  | m + 1, k, G, j, h => by
    unfold lw_sf
    rw [lw_sfo m (k + 1) _ j (by omega), xn_un _ _ (by omega)]
def lw_tn1 (G : Nat → Nat) (i : Nat) : Nat → Nat := lw_sf (8 * G 410 - 8 - 8 * i) (8 * i) G
/-- a message is taken -/
def lw_tn (G : Nat → Nat) (i : Nat) : Nat → Nat := xn_u (lw_tn1 G i) 410 (lw_tn1 G i 410 - 1)
/-- the message's numbers -/
def lw_tm (G : Nat → Nat) (i : Nat) : Nat → Nat := lw_rd (fun k => G (411 + 8 * i + k)) 8 0 (fun _ => 0)
theorem lw_tkL (d c s A R : Nat) (G : Nat → Nat) (hg : 17 ≤ A) (hgr : 17 ≤ R) (hne : R ≠ A) (i : Nat) (hi : i < 24) (r : xi_R → Prop) : ∀ (m k : Nat) (F : Nat → Nat) (W0 : xi_W), k + m = 8 → W0[A]? = some (lw_a 1804 G) → W0[R]? = some (lw_a 8 F) → (∀ W', W'[R]? = some (lw_a 8 (lw_rd (fun k => G (411 + 8 * i + k)) m k F)) → fr (· = R) W0 W' → xr d 196 34 [(3, .int (Int32.ofNat 8)), (2, .ref R), (0, .ref A), (1, .int (Int32.ofNat i))] [] W' c s r) → xr d 196 7 [(3, .int (Int32.ofNat k)), (2, .ref R), (0, .ref A), (1, .int (Int32.ofNat i))] [] W0 c s r
  | 0, k, F, W0, hm, hw, hr, K => by
    obtain rfl : k = 8 := by omega
    refine xr_stp rfl rfl rfl rfl ?_
    refine xr_stp (st' := .int (Int32.ofNat 8) :: _) rfl rfl rfl rfl ?_
    refine xr_j2 rfl rfl rfl rfl rfl (fun h10 => ?_) (fun h10 => ?_)
    · exact K _ hr fr.rf
    · exact absurd (nf_ge (by omega) (by omega) h10) (by omega)
  | m + 1, k, F, W0, hm, hw, hr, K => by
    have hF : fr (· = R) W0 W0 := fr.rf
    refine xr_stp rfl rfl rfl rfl ?_
    refine xr_stp (st' := .int (Int32.ofNat 8) :: _) rfl rfl rfl rfl ?_
    refine xr_j2 rfl rfl rfl rfl rfl (fun h10 => ?_) (fun h10 => ?_)
    · exact absurd (nt_ge (by omega) (by omega) h10) (by omega)
    · refine xr_stp rfl rfl rfl rfl ?_
      refine xr_stp rfl rfl rfl rfl ?_
      refine xr_stp rfl rfl rfl rfl ?_
      refine xr_stp (st' := .int (Int32.ofNat 411) :: _) rfl rfl rfl rfl ?_
      refine xr_stp (st' := .int (Int32.ofNat 8) :: _) rfl rfl rfl rfl ?_
      refine xr_stp rfl rfl rfl rfl ?_
      refine xs_mul rfl ?_
      refine xs_add rfl ?_
      refine xr_stp rfl rfl rfl rfl ?_
      refine xs_add rfl ?_
      refine xs_ald hw hg (by omega) (by omega) rfl ?_
      refine xs_astk hr hgr (by omega) (by omega) rfl (fun W hr hf1 => ?_)
      have hw := hf1.at hw (fun e => hne e.symm)
      have hF := hF.tr2 hf1 (fun _ e => Or.inl e)
      refine xs_inc (e := 1) rfl rfl rfl rfl ?_
      refine xr_stp rfl rfl rfl rfl ?_
      exact lw_tkL d c s A R G hg hgr hne i hi r m (k + 1) _ _ (by omega) hw hr (fun W2 h1 h2 => K W2 h1 (hF.tr h2))
theorem lw_tsL (d c s A R g : Nat) (hg : 17 ≤ A) (i : Nat) (hi : i < g) (hg4 : g ≤ 24) (r : xi_R → Prop) : ∀ (m k : Nat) (G : Nat → Nat) (W0 : xi_W), k + m = 8 * g - 8 → G 410 = g → W0[A]? = some (lw_a 1804 G) → (∀ W', W'[A]? = some (lw_a 1804 (lw_sf m k G)) → fr (· = A) W0 W' → xr d 196 75 [(3, .int (Int32.ofNat (8 * g - 8))), (2, .ref R), (0, .ref A), (1, .int (Int32.ofNat i))] [] W' c s r) → xr d 196 39 [(3, .int (Int32.ofNat k)), (2, .ref R), (0, .ref A), (1, .int (Int32.ofNat i))] [] W0 c s r
  | 0, k, G, W0, hm, h4, hw, K => by
    obtain rfl : k = 8 * g - 8 := by omega
    subst h4
    refine xr_stp rfl rfl rfl rfl ?_
    refine xr_stp (st' := .int (Int32.ofNat 8) :: _) rfl rfl rfl rfl ?_
    refine xr_stp rfl rfl rfl rfl ?_
    refine xr_stp (st' := .int (Int32.ofNat 410) :: _) rfl rfl rfl rfl ?_
    refine xs_ald hw hg (by omega) (by omega) rfl ?_
    refine xs_l2i rfl ?_
    refine xs_mul rfl ?_
    refine xr_stp (st' := .int (Int32.ofNat 8) :: _) rfl rfl rfl rfl ?_
    refine xs_sub (by omega) rfl ?_
    refine xr_j2 rfl rfl rfl rfl rfl (fun h52 => ?_) (fun h52 => ?_)
    · exact K _ hw fr.rf
    · exact absurd (nf_ge (by omega) (by omega) h52) (by omega)
  | m + 1, k, G, W0, hm, h4, hw, K => by
    subst h4
    have hF : fr (· = A) W0 W0 := fr.rf
    refine xr_stp rfl rfl rfl rfl ?_
    refine xr_stp (st' := .int (Int32.ofNat 8) :: _) rfl rfl rfl rfl ?_
    refine xr_stp rfl rfl rfl rfl ?_
    refine xr_stp (st' := .int (Int32.ofNat 410) :: _) rfl rfl rfl rfl ?_
    refine xs_ald hw hg (by omega) (by omega) rfl ?_
    refine xs_l2i rfl ?_
    refine xs_mul rfl ?_
    refine xr_stp (st' := .int (Int32.ofNat 8) :: _) rfl rfl rfl rfl ?_
    refine xs_sub (by omega) rfl ?_
    refine xr_j2 rfl rfl rfl rfl rfl (fun h52 => ?_) (fun h52 => ?_)
    · exact absurd (nt_ge (by omega) (by omega) h52) (by omega)
    · refine xr_stp rfl rfl rfl rfl ?_
      refine xr_stp (st' := .int (Int32.ofNat 411) :: _) rfl rfl rfl rfl ?_
      refine xr_stp rfl rfl rfl rfl ?_
      refine xs_add rfl ?_
      refine xr_stp rfl rfl rfl rfl ?_
      refine xr_stp (st' := .int (Int32.ofNat 419) :: _) rfl rfl rfl rfl ?_
      refine xr_stp rfl rfl rfl rfl ?_
      refine xs_add rfl ?_
      refine xs_ald hw hg (by omega) (by omega) rfl ?_
      refine xs_astk hw hg (by omega) (by omega) rfl (fun W hw hf1 => ?_)
      have hF := hF.tr2 hf1 (fun _ e => Or.inl e)
      refine xs_inc (e := 1) rfl rfl rfl rfl ?_
      refine xr_stp rfl rfl rfl rfl ?_
      exact lw_tsL d c s A R (G 410) hg i hi hg4 r m (k + 1) _ _ (by omega) (by rw [xn_un _ _ (by omega)]) hw (fun W2 h1 h2 => K W2 h1 (hF.tr h2))
theorem lw_taken (d c s A : Nat) (W0 : xi_W) (G : Nat → Nat) (hw : W0[A]? = some (lw_a 1804 G)) (hg : 17 ≤ A) (i : Nat) (hi : i < G 410) (h4 : G 410 ≤ 24) (r : xi_R → Prop) (K : ∀ R W', W0.length ≤ R → W'[R]? = some (lw_a 8 (lw_tm G i)) → W'[A]? = some (lw_a 1804 (lw_tn G i)) → fr (· = A) W0 W' → r (some (.ref R), W', c + 1, s + 8)) : xr d 196 0 [(0, .ref A), (1, .int (Int32.ofNat i))] [] W0 c s r := by
  have o4 : lw_tn1 G i 410 = G 410 := lw_sfo _ _ _ _ (by omega)
  have hF : fr (· = A) W0 W0 := fr.rf
  refine xr_stp (st' := .int (Int32.ofNat 8) :: _) rfl rfl rfl rfl ?_
  have hlt0 := (List.getElem?_eq_some_iff.mp hw).1
  refine xs_newl (by omega) rfl (fun R W eR hr hf1 => ?_)
  have nRA : R ≠ A := by omega
  have hw := hf1.at hw (fun e => e)
  have zR : W0.length ≤ R := by have := hF.1; omega
  have gR : 17 ≤ R := by omega
  have hF := hF.tr2 hf1 (fun _ e => e.elim)
  refine xr_stp rfl rfl rfl rfl ?_
  refine xr_stp (st' := .int (Int32.ofNat 0) :: _) rfl rfl rfl rfl ?_
  refine xr_stp rfl rfl rfl rfl ?_
  refine lw_tkL _ _ _ A R G hg gR nRA i (by omega) r 8 0 _ W rfl hw hr (fun W hr hf1 => ?_)
  have hw := hf1.at hw (fun e => nRA e.symm)
  have hF := hF.tr2 hf1 (fun _ e => Or.inr (by rw [e]; exact zR))
  refine xr_stp (st' := .int (Int32.ofNat 8) :: _) rfl rfl rfl rfl ?_
  refine xr_stp rfl rfl rfl rfl ?_
  refine xs_mul rfl ?_
  refine xr_stp rfl rfl rfl rfl ?_
  refine lw_tsL _ _ _ A R (G 410) hg i hi h4 r (8 * G 410 - 8 - 8 * i) (8 * i) G W (by omega) rfl hw (fun W hw hf1 => ?_)
  have hr := hf1.at hr nRA
  have hF := hF.tr hf1
  change W[A]? = some (lw_a 1804 (lw_tn1 G i)) at hw
  refine xr_stp rfl rfl rfl rfl ?_
  refine xr_stp (st' := .int (Int32.ofNat 410) :: _) rfl rfl rfl rfl ?_
  refine xr_stp rfl rfl rfl rfl ?_
  refine xs_ald hw hg (by omega) (by omega) rfl ?_
  refine xr_stp (st' := .long (Int64.ofNat 1) :: _) rfl rfl rfl rfl ?_
  refine xs_lsub (by omega) rfl ?_
  refine xs_astk hw hg (by omega) (by omega) rfl (fun W hw hf1 => ?_)
  have hr := hf1.at hr nRA
  have hF := hF.tr2 hf1 (fun _ e => Or.inl e)
  refine xr_stp rfl rfl rfl rfl ?_
  exact xr_ret rfl rfl (K R _ zR hr hw hF)
/-- one delta more in an interval -/
def lw_g1 (G : Nat → Nat) (f k : Nat) (F : Nat → Nat) : Nat → Nat := xn_u F 0 (lw_j (F 0) (F 1) (G (362 + 12 * f + 2 * (k - G (342 + f)))) (G (362 + 12 * f + 2 * (k - G (342 + f)) + 1)))
def lw_g2 (G : Nat → Nat) (f k : Nat) (F : Nat → Nat) : Nat → Nat := xn_u (lw_g1 G f k F) 1 (lw_g1 G f k F 1 ||| G (362 + 12 * f + 2 * (k - G (342 + f)) + 1))
def lw_gl (G : Nat → Nat) (f : Nat) : Nat → Nat → (Nat → Nat) → (Nat → Nat)
  | 0, _, F => F
  | m + 1, k, F => lw_gl G f m (k + 1) (lw_g2 G f k F)
/-- what would be sent -/
def lw_gr (G F : Nat → Nat) (f t : Nat) : Nat → Nat := if G (346 + 4 * f + t) < G (342 + f) then xn_u (xn_u F 0 (G (330 + 2 * f))) 1 (G (331 + 2 * f)) else lw_gl G f (G (338 + f) - G (346 + 4 * f + t)) (G (346 + 4 * f + t)) (xn_u (xn_u (xn_u (xn_u F 0 (G (330 + 2 * f))) 1 (G (331 + 2 * f))) 0 0) 1 0)
theorem lw_grL (d c s A B : Nat) (G : Nat → Nat) (hG : ∀ j, G j < 9223372036854775808) (hg : 17 ≤ A) (hgb : 17 ≤ B) (hne : A ≠ B) (f t : Nat) (hf : f < 4) (ht : t < 4) (h1 : G (338 + f) ≤ G (342 + f) + 6) (h2 : G (338 + f) < 1000000) (r : xi_R → Prop) : ∀ (m k : Nat) (F : Nat → Nat) (W0 : xi_W) (L : xi_L), k + m = G (338 + f) → G (342 + f) ≤ k → (L = [(4, .long (Int64.ofNat k)), (0, .ref A), (1, .int (Int32.ofNat f)), (2, .int (Int32.ofNat t)), (3, .ref B)] ∨ ∃ x, L = [(4, .long (Int64.ofNat k)), (6, .int x), (0, .ref A), (1, .int (Int32.ofNat f)), (2, .int (Int32.ofNat t)), (3, .ref B)]) → W0[A]? = some (lw_a 1804 G) → W0[B]? = some (lw_a 2 F) → (∀ W', W'[B]? = some (lw_a 2 (lw_gl G f m k F)) → fr (· = B) W0 W' → r (some (.int (Int32.ofNat 1)), W', c, s)) → xr (d + 1) 193 80 L [] W0 c s r
  | 0, k, F, W0, L, hm, hk, hL, hw, hb, K => by
    obtain rfl : k = G (338 + f) := by omega
    rcases hL with rfl | ⟨x, rfl⟩
    all_goals
      refine xr_stp rfl rfl rfl rfl ?_
      refine xr_stp rfl rfl rfl rfl ?_
      refine xr_stp (st' := .int (Int32.ofNat 338) :: _) rfl rfl rfl rfl ?_
      refine xr_stp rfl rfl rfl rfl ?_
      refine xs_add rfl ?_
      refine xs_ald hw hg (by omega) (by omega) rfl ?_
      refine xs_lc (by exact hG _) (by exact hG _) rfl ?_
      refine xr_j1 rfl rfl rfl rfl rfl (fun h90 => ?_) (fun h90 => ?_)
      · refine xr_stp (st' := .int (Int32.ofNat 1) :: _) rfl rfl rfl rfl ?_
        exact xr_retb (by omega) rfl rfl (K _ hb fr.rf)
      · exact absurd (lf_ge h90) (by omega)
  | m + 1, k, F, W0, L, hm, hk, hL, hw, hb, K => by
    have hF : fr (· = B) W0 W0 := fr.rf
    rcases hL with rfl | ⟨x, rfl⟩
    all_goals
      refine xr_stp rfl rfl rfl rfl ?_
      refine xr_stp rfl rfl rfl rfl ?_
      refine xr_stp (st' := .int (Int32.ofNat 338) :: _) rfl rfl rfl rfl ?_
      refine xr_stp rfl rfl rfl rfl ?_
      refine xs_add rfl ?_
      refine xs_ald hw hg (by omega) (by omega) rfl ?_
      refine xs_lc (by omega) (by exact hG _) rfl ?_
      refine xr_j1 rfl rfl rfl rfl rfl (fun h90 => ?_) (fun h90 => ?_)
      · exact absurd (lt_ge h90) (by omega)
      · refine xr_stp (st' := .int (Int32.ofNat 362) :: _) rfl rfl rfl rfl ?_
        refine xr_stp (st' := .int (Int32.ofNat 12) :: _) rfl rfl rfl rfl ?_
        refine xr_stp rfl rfl rfl rfl ?_
        refine xs_mul rfl ?_
        refine xs_add rfl ?_
        refine xr_stp (st' := .int (Int32.ofNat 2) :: _) rfl rfl rfl rfl ?_
        refine xr_stp rfl rfl rfl rfl ?_
        refine xr_stp rfl rfl rfl rfl ?_
        refine xr_stp (st' := .int (Int32.ofNat 342) :: _) rfl rfl rfl rfl ?_
        refine xr_stp rfl rfl rfl rfl ?_
        refine xs_add rfl ?_
        refine xs_ald hw hg (by omega) (by omega) rfl ?_
        refine xs_lsub (by omega) rfl ?_
        refine xs_l2i rfl ?_
        refine xs_mul rfl ?_
        refine xs_add rfl ?_
        refine xr_stp rfl rfl rfl rfl ?_
        refine xr_stp rfl rfl rfl rfl ?_
        refine xr_stp (st' := .int (Int32.ofNat 0) :: _) rfl rfl rfl rfl ?_
        refine xr_stp rfl rfl rfl rfl ?_
        refine xr_stp (st' := .int (Int32.ofNat 0) :: _) rfl rfl rfl rfl ?_
        refine xs_ald hb hgb (by omega) (by omega) rfl ?_
        refine xr_stp rfl rfl rfl rfl ?_
        refine xr_stp (st' := .int (Int32.ofNat 1) :: _) rfl rfl rfl rfl ?_
        refine xs_ald hb hgb (by omega) (by omega) rfl ?_
        refine xr_stp rfl rfl rfl rfl ?_
        refine xr_stp rfl rfl rfl rfl ?_
        refine xs_ald hw hg (by omega) (by omega) rfl ?_
        refine xr_stp rfl rfl rfl rfl ?_
        refine xr_stp rfl rfl rfl rfl ?_
        refine xr_stp (st' := .int (Int32.ofNat 1) :: _) rfl rfl rfl rfl ?_
        refine xs_add rfl ?_
        refine xs_ald hw hg (by omega) (by omega) rfl ?_
        refine xr_cps rfl rfl rfl (fun r1 K2 => lw_joins _ _ _ _ _ _ _ _ r1 (K2 _ _ _ _ ?_))
        refine xs_astk hb hgb (by omega) (by omega) rfl (fun W hb hf1 => ?_)
        have hw := hf1.at hw hne
        have hF := hF.tr2 hf1 (fun _ e => Or.inl e)
        refine xr_stp rfl rfl rfl rfl ?_
        refine xr_stp (st' := .int (Int32.ofNat 1) :: _) rfl rfl rfl rfl ?_
        refine xr_stp rfl rfl rfl rfl ?_
        refine xs_ald hb hgb (by omega) (by omega) rfl ?_
        refine xr_stp rfl rfl rfl rfl ?_
        refine xr_stp rfl rfl rfl rfl ?_
        refine xr_stp (st' := .int (Int32.ofNat 1) :: _) rfl rfl rfl rfl ?_
        refine xs_add rfl ?_
        refine xs_ald hw hg (by omega) (by omega) rfl ?_
        refine xs_lor rfl ?_
        refine xs_astk hb hgb (by omega) (by omega) rfl (fun W hb hf1 => ?_)
        have hw := hf1.at hw hne
        have hF := hF.tr2 hf1 (fun _ e => Or.inl e)
        refine xr_stp rfl rfl rfl rfl ?_
        refine xr_stp (st' := .long (Int64.ofNat 1) :: _) rfl rfl rfl rfl ?_
        refine xs_ladd rfl ?_
        refine xr_stp rfl rfl rfl rfl ?_
        refine xr_stp rfl rfl rfl rfl ?_
        exact lw_grL d c s A B G hG hg hgb hne f t hf ht h1 h2 r m (k + 1) _ _ _ (by omega) (by omega) (Or.inr ⟨_, rfl⟩) hw hb (fun W2 h1 h2 => K W2 h1 (hF.tr h2))
theorem lw_group0 (d c s A B : Nat) (W0 : xi_W) (G F : Nat → Nat) (hw : W0[A]? = some (lw_a 1804 G)) (hb : W0[B]? = some (lw_a 2 F)) (hg : 17 ≤ A) (hgb : 17 ≤ B) (hne : A ≠ B) (f t : Nat) (hf : f < 4) (ht : t < 4) (hle : G (346 + 4 * f + t) ≤ G (338 + f)) (h0 : lw_be G f t = 0) (r : xi_R → Prop) (K : r (some (.int (Int32.ofNat 0)), W0, c, s)) : xr (d + 1) 193 0 [(0, .ref A), (1, .int (Int32.ofNat f)), (2, .int (Int32.ofNat t)), (3, .ref B)] [] W0 c s r := by
  refine xr_stp rfl rfl rfl rfl ?_
  refine xr_stp rfl rfl rfl rfl ?_
  refine xr_stp rfl rfl rfl rfl ?_
  refine xr_cps rfl rfl rfl (fun r1 K2 => lw_behind _ _ _ A W0 G hw hg f t hf ht hle r1 (K2 _ _ _ _ ?_))
  refine xr_j1 rfl rfl rfl rfl rfl (fun h6 => ?_) (fun h6 => ?_)
  · exact absurd h0 (nt1_ne h6)
  · refine xr_stp (st' := .int (Int32.ofNat 0) :: _) rfl rfl rfl rfl ?_
    exact xr_retb (by omega) rfl rfl K
theorem lw_group (d c s A B : Nat) (W0 : xi_W) (G F : Nat → Nat) (hw : W0[A]? = some (lw_a 1804 G)) (hb : W0[B]? = some (lw_a 2 F)) (hg : 17 ≤ A) (hgb : 17 ≤ B) (hne : A ≠ B) (hG : ∀ j, G j < 9223372036854775808) (f t : Nat) (hf : f < 4) (ht : t < 4) (hle : G (346 + 4 * f + t) ≤ G (338 + f)) (h1 : G (338 + f) ≤ G (342 + f) + 6) (h2 : G (338 + f) < 1000000) (h0 : lw_be G f t ≠ 0) (r : xi_R → Prop) (K : ∀ W', W'[B]? = some (lw_a 2 (lw_gr G F f t)) → fr (· = B) W0 W' → r (some (.int (Int32.ofNat 1)), W', c, s)) : xr (d + 1) 193 0 [(0, .ref A), (1, .int (Int32.ofNat f)), (2, .int (Int32.ofNat t)), (3, .ref B)] [] W0 c s r := by
  have hF : fr (· = B) W0 W0 := fr.rf
  unfold lw_gr at K
  refine xr_stp rfl rfl rfl rfl ?_
  refine xr_stp rfl rfl rfl rfl ?_
  refine xr_stp rfl rfl rfl rfl ?_
  refine xr_cps rfl rfl rfl (fun r1 K2 => lw_behind _ _ _ A W0 G hw hg f t hf ht hle r1 (K2 _ _ _ _ ?_))
  refine xr_j1 rfl rfl rfl rfl rfl (fun h6 => ?_) (fun h6 => ?_)
  · refine xr_stp rfl rfl rfl rfl ?_
    refine xr_stp (st' := .int (Int32.ofNat 0) :: _) rfl rfl rfl rfl ?_
    refine xr_stp rfl rfl rfl rfl ?_
    refine xr_stp (st' := .int (Int32.ofNat 330) :: _) rfl rfl rfl rfl ?_
    refine xr_stp (st' := .int (Int32.ofNat 2) :: _) rfl rfl rfl rfl ?_
    refine xr_stp rfl rfl rfl rfl ?_
    refine xs_mul rfl ?_
    refine xs_add rfl ?_
    refine xs_ald hw hg (by omega) (by omega) rfl ?_
    refine xs_astk hb hgb (by omega) (by omega) rfl (fun W hb hf1 => ?_)
    have hw := hf1.at hw hne
    have hF := hF.tr2 hf1 (fun _ e => Or.inl e)
    refine xr_stp rfl rfl rfl rfl ?_
    refine xr_stp (st' := .int (Int32.ofNat 1) :: _) rfl rfl rfl rfl ?_
    refine xr_stp rfl rfl rfl rfl ?_
    refine xr_stp (st' := .int (Int32.ofNat 331) :: _) rfl rfl rfl rfl ?_
    refine xr_stp (st' := .int (Int32.ofNat 2) :: _) rfl rfl rfl rfl ?_
    refine xr_stp rfl rfl rfl rfl ?_
    refine xs_mul rfl ?_
    refine xs_add rfl ?_
    refine xs_ald hw hg (by omega) (by omega) rfl ?_
    refine xs_astk hb hgb (by omega) (by omega) rfl (fun W hb hf1 => ?_)
    have hw := hf1.at hw hne
    have hF := hF.tr2 hf1 (fun _ e => Or.inl e)
    refine xr_stp rfl rfl rfl rfl ?_
    refine xr_stp (st' := .int (Int32.ofNat 346) :: _) rfl rfl rfl rfl ?_
    refine xr_stp (st' := .int (Int32.ofNat 4) :: _) rfl rfl rfl rfl ?_
    refine xr_stp rfl rfl rfl rfl ?_
    refine xs_mul rfl ?_
    refine xs_add rfl ?_
    refine xr_stp rfl rfl rfl rfl ?_
    refine xs_add rfl ?_
    refine xs_ald hw hg (by omega) (by omega) rfl ?_
    refine xr_stp rfl rfl rfl rfl ?_
    refine xr_stp (st' := .int (Int32.ofNat 342) :: _) rfl rfl rfl rfl ?_
    refine xr_stp rfl rfl rfl rfl ?_
    refine xs_add rfl ?_
    refine xs_ald hw hg (by omega) (by omega) rfl ?_
    refine xs_lc (by exact hG _) (by exact hG _) rfl ?_
    refine xr_j1 rfl rfl rfl rfl rfl (fun h54 => ?_) (fun h54 => ?_)
    · have e54 := lt_ge h54
      rw [if_neg (by omega)] at K
      refine xr_stp rfl rfl rfl rfl ?_
      refine xr_stp (st' := .int (Int32.ofNat 0) :: _) rfl rfl rfl rfl ?_
      refine xr_stp (st' := .long (Int64.ofNat 0) :: _) rfl rfl rfl rfl ?_
      refine xs_astk hb hgb (by omega) (by omega) rfl (fun W hb hf1 => ?_)
      have hw := hf1.at hw hne
      have hF := hF.tr2 hf1 (fun _ e => Or.inl e)
      refine xr_stp rfl rfl rfl rfl ?_
      refine xr_stp (st' := .int (Int32.ofNat 1) :: _) rfl rfl rfl rfl ?_
      refine xr_stp (st' := .long (Int64.ofNat 0) :: _) rfl rfl rfl rfl ?_
      refine xs_astk hb hgb (by omega) (by omega) rfl (fun W hb hf1 => ?_)
      have hw := hf1.at hw hne
      have hF := hF.tr2 hf1 (fun _ e => Or.inl e)
      refine xr_stp rfl rfl rfl rfl ?_
      refine xr_stp (st' := .int (Int32.ofNat 346) :: _) rfl rfl rfl rfl ?_
      refine xr_stp (st' := .int (Int32.ofNat 4) :: _) rfl rfl rfl rfl ?_
      refine xr_stp rfl rfl rfl rfl ?_
      refine xs_mul rfl ?_
      refine xs_add rfl ?_
      refine xr_stp rfl rfl rfl rfl ?_
      refine xs_add rfl ?_
      refine xs_ald hw hg (by omega) (by omega) rfl ?_
      refine xr_stp rfl rfl rfl rfl ?_
      exact lw_grL d _ _ A B G hG hg hgb hne f t hf ht h1 h2 r (G (338 + f) - G (346 + 4 * f + t)) (G (346 + 4 * f + t)) _ _ _ (by omega) e54 (Or.inl rfl) hw hb (fun W2 h1 h2 => K W2 h1 (hF.tr h2))
    · have e54 := lf_ge h54
      rw [if_pos e54] at K
      refine xr_stp (st' := .int (Int32.ofNat 1) :: _) rfl rfl rfl rfl ?_
      exact xr_retb (by omega) rfl rfl (K _ hb hF)
  · exact absurd (nf1_ne (by unfold lw_be; omega) h6) h0
