/-! the law: entries by their dots -/
theorem n_dec (k : Nat) : Int32.ofNat (k + 1 + 4294967295) = Int32.ofNat k := by
  rw [show k + 1 + 4294967295 = k + 4294967296 by omega]
  apply Int32.toBitVec_inj.mp
  show BitVec.ofNat 32 _ = BitVec.ofNat 32 _
  apply BitVec.eq_of_toNat_eq
  rw [BitVec.toNat_ofNat, BitVec.toNat_ofNat]
  omega
theorem xs_dec {d i pc a k : Nat} {l : xi_L} {st : List Value} {w : xi_W} {c s : Nat} {r : xi_R → Prop} (hc : xt_cd i pc = some (.iinc k (-1))) (hl : xi_get l k = some (.int (Int32.ofNat (a + 1)))) (hk : Nat.blt k (xt_ml i) = true) (h : xr d i (pc + 3) (xi_st1 l k (.int (Int32.ofNat a))) st w c s r) : xr d i pc l st w c s r :=
  xs_inc (e := 4294967295) (m := -1) (by decide +kernel) hc hl hk (by rw [n_dec]; exact h)
theorem xs_pred {d i pc k : Nat} {l : xi_L} {st : List Value} {w : xi_W} {c s : Nat} {r : xi_R → Prop} (hc : xt_cd i pc = some .isub) (h : xr d i (pc + 1) l (.int (Int32.ofNat k) :: st) w c s r) : xr d i pc l (.int (Int32.ofNat 1) :: .int (Int32.ofNat (k + 1)) :: st) w c s r := xs_sub (a := k + 1) (b := 1) (by omega) hc h
/-- behind -/
def lw_gt (G : Nat → Nat) (a b : Nat) : Prop := G (10 + 5 * b) < G (10 + 5 * a) ∨ (G (10 + 5 * a) = G (10 + 5 * b) ∧ G (11 + 5 * b) < G (11 + 5 * a))
/-- an entry is put in -/
def lw_in (G : Nat → Nat) (i : Nat) : Nat → (Nat → Nat) → (Nat → Nat)
  | 0, F => xn_u F 0 i
  | k + 1, F => if G (10 + 5 * i) < G (10 + 5 * F k) ∨ (G (10 + 5 * F k) = G (10 + 5 * i) ∧ G (11 + 5 * i) < G (11 + 5 * F k)) then lw_in G i k (xn_u F (k + 1) (F k)) else xn_u F (k + 1) i
theorem lw_inb (G : Nat → Nat) (i B : Nat) (hi : i < B) : ∀ (k : Nat) (F : Nat → Nat), (∀ j, F j < B) → ∀ j, lw_in G i k F j < B
  | 0, _, h => lw_ub h hi
  | k + 1, F, h => by
    unfold lw_in
    split
    · exact lw_inb G i B hi k _ (lw_ub h (h k))
    · exact lw_ub h hi
def lw_sF (G : Nat → Nat) (b : Nat) : Nat → Nat → Nat → (Nat → Nat) → (Nat → Nat)
  | 0, _, _, F => F
  | m + 1, i, n, F => if b / 2 ^ i % 2 = 1 then lw_sF G b m (i + 1) (n + 1) (lw_in G i n F) else lw_sF G b m (i + 1) n F
/-- the row of some entries -/
def lw_row (G : Nat → Nat) (b : Nat) : Nat → Nat := lw_sF G b (G 4) 0 0 (fun _ => 0)
theorem lw_isL (d c s A R Z : Nat) (G : Nat → Nat) (hg : 17 ≤ A) (gR : 17 ≤ R) (nRA : R ≠ A) (hG : ∀ j, G j < 9223372036854775808) (hZ : Z < 64) (b : Nat) (i n : Nat) (hi : i < 62) (r : xi_R → Prop) : ∀ (k : Nat) (F : Nat → Nat) (W0 : xi_W), k < Z → (∀ j, F j < 62) → W0[A]? = some (lw_a 1804 G) → W0[R]? = some (lw_i Z F) → (K : ∀ W' e, W'[R]? = some (lw_i Z (lw_in G i k F)) → fr (· = R) W0 W' → xr d 200 13 [(5, .int (Int32.ofNat (i + 1))), (4, .int (Int32.ofNat (n + 1))), (6, .int e), (3, .ref R), (0, .ref A), (1, .long (Int64.ofNat b))] [] W' c s r) → xr d 200 39 [(6, .int (Int32.ofNat k)), (5, .int (Int32.ofNat i)), (4, .int (Int32.ofNat n)), (3, .ref R), (0, .ref A), (1, .long (Int64.ofNat b))] [] W0 c s r
  | 0, F, W0, hk, hFb, hw, hr, K => by
    have hF : fr (· = R) W0 W0 := fr.rf
    unfold lw_in at K
    refine xr_stp rfl rfl rfl rfl ?_
    refine xr_j1 rfl rfl rfl rfl rfl (fun h41 => ?_) (fun h41 => ?_)
    · refine xr_stp rfl rfl rfl rfl ?_
      refine xr_stp rfl rfl rfl rfl ?_
      refine xr_stp rfl rfl rfl rfl ?_
      refine xs_istk hr gR (by omega) (by omega) rfl (fun W hr hf1 => ?_)
      have hw := hf1.at hw (fun e => nRA e.symm)
      have hF := hF.tr2 hf1 (fun _ e => Or.inl e)
      refine xs_inc (e := 1) rfl rfl rfl rfl ?_
      refine xs_inc (e := 1) rfl rfl rfl rfl ?_
      refine xr_stp rfl rfl rfl rfl ?_
      exact K _ _ hr hF
    · exact absurd (nf1_le (by omega) h41) (by omega)
  | k + 1, F, W0, hk, hFb, hw, hr, K => by
    have hF : fr (· = R) W0 W0 := fr.rf
    have hFk := hFb k
    unfold lw_in at K
    refine xr_stp rfl rfl rfl rfl ?_
    refine xr_j1 rfl rfl rfl rfl rfl (fun h41 => ?_) (fun h41 => ?_)
    · exact absurd (nt1_le (by omega) h41) (by omega)
    · refine xr_stp rfl rfl rfl rfl ?_
      refine xr_stp (st' := .int (Int32.ofNat 10) :: _) rfl rfl rfl rfl ?_
      refine xr_stp (st' := .int (Int32.ofNat 5) :: _) rfl rfl rfl rfl ?_
      refine xr_stp rfl rfl rfl rfl ?_
      refine xr_stp rfl rfl rfl rfl ?_
      refine xr_stp (st' := .int (Int32.ofNat 1) :: _) rfl rfl rfl rfl ?_
      refine xs_pred rfl ?_
      refine xs_ild hr (by omega) (by omega) rfl ?_
      refine xs_mul rfl ?_
      refine xs_add rfl ?_
      refine xs_ald hw hg (by omega) (by omega) rfl ?_
      refine xr_stp rfl rfl rfl rfl ?_
      refine xr_stp (st' := .int (Int32.ofNat 10) :: _) rfl rfl rfl rfl ?_
      refine xr_stp (st' := .int (Int32.ofNat 5) :: _) rfl rfl rfl rfl ?_
      refine xr_stp rfl rfl rfl rfl ?_
      refine xs_mul rfl ?_
      refine xs_add rfl ?_
      refine xs_ald hw hg (by omega) (by omega) rfl ?_
      refine xs_lc (by exact hG _) (by exact hG _) rfl ?_
      refine xr_j1 rfl rfl rfl rfl rfl (fun h67 => ?_) (fun h67 => ?_)
      · have e67 := lt_gt h67
        rw [if_pos (Or.inl e67)] at K
        refine xr_stp rfl rfl rfl rfl ?_
        refine xr_stp rfl rfl rfl rfl ?_
        refine xr_stp rfl rfl rfl rfl ?_
        refine xr_stp rfl rfl rfl rfl ?_
        refine xr_stp (st' := .int (Int32.ofNat 1) :: _) rfl rfl rfl rfl ?_
        refine xs_pred rfl ?_
        refine xs_ild hr (by omega) (by omega) rfl ?_
        refine xs_istk hr gR (by omega) (by omega) rfl (fun W hr hf1 => ?_)
        have hw := hf1.at hw (fun e => nRA e.symm)
        have hF := hF.tr2 hf1 (fun _ e => Or.inl e)
        refine xs_dec rfl rfl rfl ?_
        refine xr_stp rfl rfl rfl rfl ?_
        exact lw_isL d c s A R Z G hg gR nRA hG hZ b i n hi r k _ _ (by omega) (lw_ub hFb hFk) hw hr (fun W2 e h1 h2 => K W2 e h1 (hF.tr h2))
      · have e67 := lf_gt h67
        refine xr_stp rfl rfl rfl rfl ?_
        refine xr_stp (st' := .int (Int32.ofNat 10) :: _) rfl rfl rfl rfl ?_
        refine xr_stp (st' := .int (Int32.ofNat 5) :: _) rfl rfl rfl rfl ?_
        refine xr_stp rfl rfl rfl rfl ?_
        refine xr_stp rfl rfl rfl rfl ?_
        refine xr_stp (st' := .int (Int32.ofNat 1) :: _) rfl rfl rfl rfl ?_
        refine xs_pred rfl ?_
        refine xs_ild hr (by omega) (by omega) rfl ?_
        refine xs_mul rfl ?_
        refine xs_add rfl ?_
        refine xs_ald hw hg (by omega) (by omega) rfl ?_
        refine xr_stp rfl rfl rfl rfl ?_
        refine xr_stp (st' := .int (Int32.ofNat 10) :: _) rfl rfl rfl rfl ?_
        refine xr_stp (st' := .int (Int32.ofNat 5) :: _) rfl rfl rfl rfl ?_
        refine xr_stp rfl rfl rfl rfl ?_
        refine xs_mul rfl ?_
        refine xs_add rfl ?_
        refine xs_ald hw hg (by omega) (by omega) rfl ?_
        refine xs_lc (by exact hG _) (by exact hG _) rfl ?_
        refine xr_j1 rfl rfl rfl rfl rfl (fun h93 => ?_) (fun h93 => ?_)
        · have e93 := lt_ne h93
          rw [if_neg (fun z => z.elim (fun z => Nat.not_lt.mpr e67 z) (fun z => e93 z.1))] at K
          refine xr_stp rfl rfl rfl rfl ?_
          refine xr_stp rfl rfl rfl rfl ?_
          refine xr_stp rfl rfl rfl rfl ?_
          refine xs_istk hr gR (by omega) (by omega) rfl (fun W hr hf1 => ?_)
          have hw := hf1.at hw (fun e => nRA e.symm)
          have hF := hF.tr2 hf1 (fun _ e => Or.inl e)
          refine xs_inc (e := 1) rfl rfl rfl rfl ?_
          refine xs_inc (e := 1) rfl rfl rfl rfl ?_
          refine xr_stp rfl rfl rfl rfl ?_
          exact K _ _ hr hF
        · have e93 := lf_ne h93
          refine xr_stp rfl rfl rfl rfl ?_
          refine xr_stp (st' := .int (Int32.ofNat 11) :: _) rfl rfl rfl rfl ?_
          refine xr_stp (st' := .int (Int32.ofNat 5) :: _) rfl rfl rfl rfl ?_
          refine xr_stp rfl rfl rfl rfl ?_
          refine xr_stp rfl rfl rfl rfl ?_
          refine xr_stp (st' := .int (Int32.ofNat 1) :: _) rfl rfl rfl rfl ?_
          refine xs_pred rfl ?_
          refine xs_ild hr (by omega) (by omega) rfl ?_
          refine xs_mul rfl ?_
          refine xs_add rfl ?_
          refine xs_ald hw hg (by omega) (by omega) rfl ?_
          refine xr_stp rfl rfl rfl rfl ?_
          refine xr_stp (st' := .int (Int32.ofNat 11) :: _) rfl rfl rfl rfl ?_
          refine xr_stp (st' := .int (Int32.ofNat 5) :: _) rfl rfl rfl rfl ?_
          refine xr_stp rfl rfl rfl rfl ?_
          refine xs_mul rfl ?_
          refine xs_add rfl ?_
          refine xs_ald hw hg (by omega) (by omega) rfl ?_
          refine xs_lc (by exact hG _) (by exact hG _) rfl ?_
          refine xr_j1 rfl rfl rfl rfl rfl (fun h119 => ?_) (fun h119 => ?_)
          · have e119 := lt_le h119
            rw [if_neg (fun z => z.elim (fun z => Nat.not_lt.mpr e67 z) (fun z => Nat.not_lt.mpr e119 z.2))] at K
            refine xr_stp rfl rfl rfl rfl ?_
            refine xr_stp rfl rfl rfl rfl ?_
            refine xr_stp rfl rfl rfl rfl ?_
            refine xs_istk hr gR (by omega) (by omega) rfl (fun W hr hf1 => ?_)
            have hw := hf1.at hw (fun e => nRA e.symm)
            have hF := hF.tr2 hf1 (fun _ e => Or.inl e)
            refine xs_inc (e := 1) rfl rfl rfl rfl ?_
            refine xs_inc (e := 1) rfl rfl rfl rfl ?_
            refine xr_stp rfl rfl rfl rfl ?_
            exact K _ _ hr hF
          · have e119 := lf_le h119
            rw [if_pos (Or.inr ⟨e93, e119⟩)] at K
            refine xr_stp rfl rfl rfl rfl ?_
            refine xr_stp rfl rfl rfl rfl ?_
            refine xr_stp rfl rfl rfl rfl ?_
            refine xr_stp rfl rfl rfl rfl ?_
            refine xr_stp (st' := .int (Int32.ofNat 1) :: _) rfl rfl rfl rfl ?_
            refine xs_pred rfl ?_
            refine xs_ild hr (by omega) (by omega) rfl ?_
            refine xs_istk hr gR (by omega) (by omega) rfl (fun W hr hf1 => ?_)
            have hw := hf1.at hw (fun e => nRA e.symm)
            have hF := hF.tr2 hf1 (fun _ e => Or.inl e)
            refine xs_dec rfl rfl rfl ?_
            refine xr_stp rfl rfl rfl rfl ?_
            exact lw_isL d c s A R Z G hg gR nRA hG hZ b i n hi r k _ _ (by omega) (lw_ub hFb hFk) hw hr (fun W2 e h1 h2 => K W2 e h1 (hF.tr h2))
theorem lw_sFL (d c s A R Z : Nat) (G : Nat → Nat) (hg : 17 ≤ A) (gR : 17 ≤ R) (nRA : R ≠ A) (hG : ∀ j, G j < 9223372036854775808) (hZ : Z < 64) (b : Nat) (h4 : G 4 ≤ 62) (hb : b < 9223372036854775808) (r : xi_R → Prop) : ∀ (m i n : Nat) (F : Nat → Nat) (W0 : xi_W) (L : xi_L), i + m = G 4 → n + bc (63 - i) (b / 2 ^ i) = Z → (∀ j, F j < 62) → (L = [(5, .int (Int32.ofNat i)), (4, .int (Int32.ofNat n)), (3, .ref R), (0, .ref A), (1, .long (Int64.ofNat b))] ∨ ∃ e, L = [(5, .int (Int32.ofNat i)), (4, .int (Int32.ofNat n)), (6, .int e), (3, .ref R), (0, .ref A), (1, .long (Int64.ofNat b))]) → W0[A]? = some (lw_a 1804 G) → W0[R]? = some (lw_i Z F) → (∀ W', W'[R]? = some (lw_i Z (lw_sF G b m i n F)) → fr (· = R) W0 W' → r (some (.ref R), W', c, s)) → xr (d + 1) 200 13 L [] W0 c s r
  | 0, i, n, F, W0, L, hm, hn, hFb, hL, hw, hr, K => by
    rcases hL with rfl | ⟨_, rfl⟩
    all_goals
      refine xr_stp rfl rfl rfl rfl ?_
      refine xs_i2l (by omega) rfl ?_
      refine xr_stp rfl rfl rfl rfl ?_
      refine xr_stp (st' := .int (Int32.ofNat 4) :: _) rfl rfl rfl rfl ?_
      refine xs_ald hw hg (by omega) (by omega) rfl ?_
      refine xs_lc (by omega) (by exact hG _) rfl ?_
      refine xr_j1 rfl rfl rfl rfl rfl (fun h20 => ?_) (fun h20 => ?_)
      · refine xr_stp rfl rfl rfl rfl ?_
        exact xr_ret rfl rfl (K _ hr fr.rf)
      · exact absurd (lf_ge h20) (by omega)
  | m + 1, i, n, F, W0, L, hm, hn, hFb, hL, hw, hr, K => by
    have hF : fr (· = R) W0 W0 := fr.rf
    have hbi : b / 2 ^ (i + 1) = b / 2 ^ i / 2 := by rw [Nat.pow_succ, Nat.div_div_eq_div_mul]
    rw [show 63 - i = 62 - i + 1 by omega] at hn
    unfold bc at hn
    rw [← hbi, show 62 - i = 63 - (i + 1) by omega] at hn
    unfold lw_sF at K
    rcases hL with rfl | ⟨_, rfl⟩
    all_goals
      refine xr_stp rfl rfl rfl rfl ?_
      refine xs_i2l (by omega) rfl ?_
      refine xr_stp rfl rfl rfl rfl ?_
      refine xr_stp (st' := .int (Int32.ofNat 4) :: _) rfl rfl rfl rfl ?_
      refine xs_ald hw hg (by omega) (by omega) rfl ?_
      refine xs_lc (by omega) (by exact hG _) rfl ?_
      refine xr_j1 rfl rfl rfl rfl rfl (fun h20 => ?_) (fun h20 => ?_)
      · exact absurd (lt_ge h20) (by omega)
      · refine xr_stp rfl rfl rfl rfl ?_
        refine xr_stp rfl rfl rfl rfl ?_
        refine xr_cps rfl rfl rfl (fun r1 K2 => lw_bit _ _ _ b i W0 hb (by omega) r1 (K2 _ _ _ _ ?_))
        refine xr_j1 rfl rfl rfl rfl rfl (fun h29 => ?_) (fun h29 => ?_)
        · have e29 := nt1_ne h29
          rw [if_pos (by omega)] at K
          refine xr_stp rfl rfl rfl rfl ?_
          refine xr_stp rfl rfl rfl rfl ?_
          refine lw_isL _ _ _ A R Z G hg gR nRA hG hZ b i n (by omega) r n F W0 (by omega) hFb hw hr (fun W e hr hf1 => ?_)
          exact lw_sFL d _ _ A R Z G hg gR nRA hG hZ b h4 hb r m (i + 1) (n + 1) _ W _ (by omega) (by omega) (lw_inb G i 62 (by omega) n F hFb) (Or.inr ⟨_, rfl⟩) (hf1.at hw (fun e => nRA e.symm)) hr (fun W2 h1 h2 => K W2 h1 (hf1.tr h2))
        · have e29 := nf1_ne (by omega) h29
          rw [if_neg (by omega)] at K
          refine xr_stp rfl rfl rfl rfl ?_
          refine xs_inc (e := 1) rfl rfl rfl rfl ?_
          refine xr_stp rfl rfl rfl rfl ?_
          exact lw_sFL d _ _ A R Z G hg gR nRA hG hZ b h4 hb r m (i + 1) n F W0 _ (by omega) (by omega) hFb (by first | exact Or.inl rfl | exact Or.inr ⟨_, rfl⟩) hw hr K
theorem lw_sorted (d c s A : Nat) (W0 : xi_W) (G : Nat → Nat) (hw : W0[A]? = some (lw_a 1804 G)) (hg : 17 ≤ A) (hG : ∀ j, G j < 9223372036854775808) (h4 : G 4 ≤ 62) (b : Nat) (hb : b < 9223372036854775808) (r : xi_R → Prop) (K : ∀ R W', W0.length ≤ R → W'[R]? = some (lw_i (bc 63 b) (lw_row G b)) → W'[A]? = some (lw_a 1804 G) → fr (fun _ => False) W0 W' → r (some (.ref R), W', c + 1, s + bc 63 b)) : xr (d + 1) 200 0 [(0, .ref A), (1, .long (Int64.ofNat b))] [] W0 c s r := by
  have hF : fr (fun _ => False) W0 W0 := fr.rf
  have hbc := bcle 63 b
  refine xr_stp rfl rfl rfl rfl ?_
  refine xr_cps rfl rfl rfl (fun r1 K2 => lw_many _ _ _ _ W0 hb r1 (K2 _ _ _ _ ?_))
  have hlt0 := (List.getElem?_eq_some_iff.mp hw).1
  refine xs_newi (by omega) rfl (fun R W eR hr hf1 => ?_)
  have nRA : R ≠ A := by omega
  have hw := hf1.at hw (fun e => e)
  have zR : W0.length ≤ R := by have := hF.1; omega
  have gR : 17 ≤ R := by omega
  have hF := hF.tr2 hf1 (fun _ e => e.elim)
  refine xr_stp rfl rfl rfl rfl ?_
  refine xr_stp (st' := .int (Int32.ofNat 0) :: _) rfl rfl rfl rfl ?_
  refine xr_stp rfl rfl rfl rfl ?_
  refine xr_stp (st' := .int (Int32.ofNat 0) :: _) rfl rfl rfl rfl ?_
  refine xr_stp rfl rfl rfl rfl ?_
  exact lw_sFL d _ _ A R (bc 63 b) G hg gR nRA hG (by omega) b h4 hb r (G 4) 0 0 _ W _ (by omega) (by rw [Nat.pow_zero, Nat.div_one, Nat.zero_add]) (fun _ => by show (0 : Nat) < 62; omega) (Or.inl rfl) hw hr (fun W2 h1 h2 => K R W2 zR h1 (h2.at hw (fun e => nRA e.symm)) (hF.tr2 h2 (fun _ e => Or.inr (by rw [e]; exact zR))))
theorem lw_sFb (G : Nat → Nat) (b : Nat) : ∀ (m i n : Nat) (F : Nat → Nat), i + m ≤ 62 → (∀ j, F j < 62) → ∀ j, lw_sF G b m i n F j < 62
  | 0, _, _, _, _, h => h
  | m + 1, i, n, F, hm, h => by
    unfold lw_sF
    split
    · exact lw_sFb G b m (i + 1) (n + 1) _ (by omega) (lw_inb G i 62 (by omega) n F h)
    · exact lw_sFb G b m (i + 1) n F (by omega) h
theorem lw_rowb {G : Nat → Nat} (h4 : G 4 ≤ 62) (b : Nat) : ∀ j, lw_row G b j < 62 := lw_sFb G b (G 4) 0 0 _ (by omega) (fun _ => by show (0 : Nat) < 62; omega)
theorem xs_iln {d i pc a n : Nat} {G : Nat → Nat} {l : xi_L} {st : List Value} {w : xi_W} {c s : Nat} {r : xi_R → Prop} (hw : w[a]? = some (lw_i n G)) (hc : xt_cd i pc = some .arraylength) (h : xr d i (pc + 1) l (.int (Int32.ofNat n) :: st) w c s r) : xr d i pc l (.ref a :: st) w c s r :=
  xr_stp (st' := .int (Int32.ofNat n) :: st) hc rfl rfl (by simp only [xi_stp, hw, lw_i]) h
/-- the digest of some entries -/
def lw_dgl (G F : Nat → Nat) : Nat → Nat → Nat → Nat
  | 0, _, x => x
  | m + 1, k, x => lw_dgl G F m (k + 1) ((31 * x + 101 * G (10 + 5 * F k) + 7 * G (10 + 5 * F k + 1) + 5 * G (10 + 5 * F k + 2) + 3 * G (10 + 5 * F k + 3) + G (10 + 5 * F k + 4)) % 9973)
def lw_dig (G : Nat → Nat) (b : Nat) : Nat := lw_dgl G (lw_row G b) (bc 63 b) 0 0
theorem lw_dgL (d c s A R Z : Nat) (W0 : xi_W) (G F : Nat → Nat) (hw : W0[A]? = some (lw_a 1804 G)) (hr : W0[R]? = some (lw_i Z F)) (hg : 17 ≤ A) (gR : 17 ≤ R) (hE : ∀ j, 10 ≤ j → j < 325 → G j < 1000) (hZ : Z < 64) (hFb : ∀ j, F j < 62) (b : Nat) (r : xi_R → Prop) : ∀ (m k x : Nat) (L : xi_L), k + m = Z → x < 9973 → (L = [(5, .int (Int32.ofNat k)), (4, .int (Int32.ofNat x)), (3, .ref R), (0, .ref A), (1, .long (Int64.ofNat b))] ∨ ∃ e, L = [(5, .int (Int32.ofNat k)), (4, .int (Int32.ofNat x)), (6, .int e), (3, .ref R), (0, .ref A), (1, .long (Int64.ofNat b))]) → r (some (.int (Int32.ofNat (lw_dgl G F m k x))), W0, c, s) → xr d 201 12 L [] W0 c s r
  | 0, k, x, L, hm, hx, hL, K => by
    rcases hL with rfl | ⟨_, rfl⟩
    all_goals
      refine xr_stp rfl rfl rfl rfl ?_
      refine xr_stp rfl rfl rfl rfl ?_
      refine xs_iln hr rfl ?_
      refine xr_j2 rfl rfl rfl rfl rfl (fun h16 => ?_) (fun h16 => ?_)
      · refine xr_stp rfl rfl rfl rfl ?_
        exact xr_ret rfl rfl K
      · exact absurd (nf_ge (by omega) (by omega) h16) (by omega)
  | m + 1, k, x, L, hm, hx, hL, K => by
    have hk := hFb k
    have g0 := hE (10 + 5 * F k) (by omega) (by omega)
    have g1 := hE (10 + 5 * F k + 1) (by omega) (by omega)
    have g2 := hE (10 + 5 * F k + 2) (by omega) (by omega)
    have g3 := hE (10 + 5 * F k + 3) (by omega) (by omega)
    have g4 := hE (10 + 5 * F k + 4) (by omega) (by omega)
    unfold lw_dgl at K
    rcases hL with rfl | ⟨_, rfl⟩
    all_goals
      refine xr_stp rfl rfl rfl rfl ?_
      refine xr_stp rfl rfl rfl rfl ?_
      refine xs_iln hr rfl ?_
      refine xr_j2 rfl rfl rfl rfl rfl (fun h16 => ?_) (fun h16 => ?_)
      · exact absurd (nt_ge (by omega) (by omega) h16) (by omega)
      · refine xr_stp (st' := .int (Int32.ofNat 10) :: _) rfl rfl rfl rfl ?_
        refine xr_stp (st' := .int (Int32.ofNat 5) :: _) rfl rfl rfl rfl ?_
        refine xr_stp rfl rfl rfl rfl ?_
        refine xr_stp rfl rfl rfl rfl ?_
        refine xs_ild hr (by omega) (by omega) rfl ?_
        refine xs_mul rfl ?_
        refine xs_add rfl ?_
        refine xr_stp rfl rfl rfl rfl ?_
        refine xr_stp (st' := .int (Int32.ofNat 31) :: _) rfl rfl rfl rfl ?_
        refine xr_stp rfl rfl rfl rfl ?_
        refine xs_mul rfl ?_
        refine xr_stp (st' := .int (Int32.ofNat 101) :: _) rfl rfl rfl rfl ?_
        refine xr_stp rfl rfl rfl rfl ?_
        refine xr_stp rfl rfl rfl rfl ?_
        refine xs_ald hw hg (by omega) (by omega) rfl ?_
        refine xs_l2i rfl ?_
        refine xs_mul rfl ?_
        refine xs_add rfl ?_
        refine xr_stp (st' := .int (Int32.ofNat 7) :: _) rfl rfl rfl rfl ?_
        refine xr_stp rfl rfl rfl rfl ?_
        refine xr_stp rfl rfl rfl rfl ?_
        refine xr_stp (st' := .int (Int32.ofNat 1) :: _) rfl rfl rfl rfl ?_
        refine xs_add rfl ?_
        refine xs_ald hw hg (by omega) (by omega) rfl ?_
        refine xs_l2i rfl ?_
        refine xs_mul rfl ?_
        refine xs_add rfl ?_
        refine xr_stp (st' := .int (Int32.ofNat 5) :: _) rfl rfl rfl rfl ?_
        refine xr_stp rfl rfl rfl rfl ?_
        refine xr_stp rfl rfl rfl rfl ?_
        refine xr_stp (st' := .int (Int32.ofNat 2) :: _) rfl rfl rfl rfl ?_
        refine xs_add rfl ?_
        refine xs_ald hw hg (by omega) (by omega) rfl ?_
        refine xs_l2i rfl ?_
        refine xs_mul rfl ?_
        refine xs_add rfl ?_
        refine xr_stp (st' := .int (Int32.ofNat 3) :: _) rfl rfl rfl rfl ?_
        refine xr_stp rfl rfl rfl rfl ?_
        refine xr_stp rfl rfl rfl rfl ?_
        refine xr_stp (st' := .int (Int32.ofNat 3) :: _) rfl rfl rfl rfl ?_
        refine xs_add rfl ?_
        refine xs_ald hw hg (by omega) (by omega) rfl ?_
        refine xs_l2i rfl ?_
        refine xs_mul rfl ?_
        refine xs_add rfl ?_
        refine xr_stp rfl rfl rfl rfl ?_
        refine xr_stp rfl rfl rfl rfl ?_
        refine xr_stp (st' := .int (Int32.ofNat 4) :: _) rfl rfl rfl rfl ?_
        refine xs_add rfl ?_
        refine xs_ald hw hg (by omega) (by omega) rfl ?_
        refine xs_l2i rfl ?_
        refine xs_add rfl ?_
        refine xr_stp (st' := .int (Int32.ofNat 9973) :: _) rfl rfl rfl rfl ?_
        refine xs_mod (by omega) (by omega) (by omega) rfl ?_
        refine xr_stp rfl rfl rfl rfl ?_
        refine xs_inc (e := 1) rfl rfl rfl rfl ?_
        refine xr_stp rfl rfl rfl rfl ?_
        exact lw_dgL d c s A R Z W0 G F hw hr hg gR hE hZ hFb b r m (k + 1) _ _ (by omega) (by omega) (Or.inr ⟨_, rfl⟩) K
theorem lw_digest (d c s A : Nat) (W0 : xi_W) (G : Nat → Nat) (hw : W0[A]? = some (lw_a 1804 G)) (hg : 17 ≤ A) (hG : ∀ j, G j < 9223372036854775808) (h4 : G 4 ≤ 62) (hE : ∀ j, 10 ≤ j → j < 325 → G j < 1000) (b : Nat) (hb : b < 9223372036854775808) (r : xi_R → Prop) (K : ∀ W' c' s', c' ≤ c + 1 → s' ≤ s + 63 → W'[A]? = some (lw_a 1804 G) → fr (fun _ => False) W0 W' → r (some (.int (Int32.ofNat (lw_dig G b))), W', c', s')) : xr (d + 2) 201 0 [(0, .ref A), (1, .long (Int64.ofNat b))] [] W0 c s r := by
  have hbc := bcle 63 b
  unfold lw_dig at K
  refine xr_stp rfl rfl rfl rfl ?_
  refine xr_stp rfl rfl rfl rfl ?_
  refine xr_cps rfl rfl rfl (fun r1 K2 => lw_sorted _ _ _ A W0 G hw hg hG h4 b hb r1 (fun R W zR hr hw hf1 => K2 _ _ _ _ ?_))
  have hltA := (List.getElem?_eq_some_iff.mp ‹W0[A]? = _›).1
  have gR : 17 ≤ R := by omega
  refine xr_stp rfl rfl rfl rfl ?_
  refine xr_stp (st' := .int (Int32.ofNat 0) :: _) rfl rfl rfl rfl ?_
  refine xr_stp rfl rfl rfl rfl ?_
  refine xr_stp (st' := .int (Int32.ofNat 0) :: _) rfl rfl rfl rfl ?_
  refine xr_stp rfl rfl rfl rfl ?_
  exact lw_dgL _ _ _ A R (bc 63 b) W G (lw_row G b) hw hr hg gR hE (by omega) (lw_rowb h4 b) b r (bc 63 b) 0 0 _ (by omega) (by omega) (Or.inl rfl) (K W _ _ (by omega) (by omega) hw hf1)
