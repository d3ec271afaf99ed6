/-! a try: small methods of the reference -/
/-- the reference's world: its numbers' array A, its object O -/
def xm_w (b : xi_W) (A : Nat) (f : Nat → Int32) : xi_W := b.set A (.inl (.int, 98262, .inl f))
def xm_B (b : xi_W) (O A : Nat) (o : Nat × List Value) : Prop := b[O]? = some (.inr o) ∧ A < b.length ∧ A ≠ O ∧ Nat.beq 7 o.1 = true ∧ o.2[0]? = some (.ref A)
theorem xm_gA {b : xi_W} {O A : Nat} {o : Nat × List Value} (B : xm_B b O A o) (f : Nat → Int32) : (xm_w b A f)[A]? = some (.inl (.int, 98262, .inl f)) := by
  unfold xm_w; rw [List.getElem?_set_self B.2.1]
theorem xm_gO {b : xi_W} {O A : Nat} {o : Nat × List Value} (B : xm_B b O A o) (f : Nat → Int32) : (xm_w b A f)[O]? = some (.inr o) := by
  unfold xm_w; rw [List.getElem?_set_ne B.2.2.1]; exact B.1
theorem xm_s (b : xi_W) (A : Nat) (f g : Nat → Int32) : (xm_w b A f).set A (.inl (.int, 98262, .inl g)) = xm_w b A g := by
  unfold xm_w; rw [List.set_set]
/-- 'dotOf' -/
theorem xm_dotOf (d : Nat) (x : Int32) (w : xi_W) (c s : Nat) : xg d 173 0 (lv_args 0 [.int x]) [] w c s (some (.int (x / 1200)), w, c, s) := by
  refine xg_stp rfl rfl rfl rfl ?_
  refine xg_stp rfl rfl rfl rfl ?_
  refine xg_stp rfl rfl rfl rfl ?_
  exact xg_ret rfl rfl
theorem n_int {a : Nat} (ha : a < 2147483648) : (Int32.ofNat a).toInt = a := Int32.toInt_ofNat_of_lt ha
theorem n_nat {a : Nat} (ha : a < 2147483648) : (Int32.ofNat a).toNatClampNeg = a := by
  unfold Int32.toNatClampNeg; rw [n_int ha]; rfl
theorem n_le {a b : Nat} (ha : a < 2147483648) (hb : b < 2147483648) : Int32.ofNat a ≤ Int32.ofNat b ↔ a ≤ b := by
  rw [Int32.le_iff_toInt_le, n_int ha, n_int hb]; omega
theorem n_lt {a b : Nat} (ha : a < 2147483648) (hb : b < 2147483648) : Int32.ofNat a < Int32.ofNat b ↔ a < b := by
  rw [Int32.lt_iff_toInt_lt, n_int ha, n_int hb]; omega
theorem n_add (a b : Nat) : Int32.ofNat a + Int32.ofNat b = Int32.ofNat (a + b) := (Int32.ofNat_add a b).symm
theorem n_inc (k : Nat) : Int32.ofNat (k + 1) = Int32.ofNat k + Int32.ofInt 1 := Int32.ofNat_add k 1
theorem n_ix {a n : Nat} (ha : a < n) (hn : n < 2147483648) : xi_ix (Int32.ofNat a) n = true := by
  have h0 : ¬ Int32.ofNat a < 0 := by
    have := n_lt (a := a) (b := 0) (by omega) (by omega)
    intro h
    have := this.mp h
    omega
  simp only [xi_ix, decide_eq_false h0, n_nat (show a < 2147483648 by omega), Bool.not_false, Bool.true_and]
  exact Nat.blt_eq.mpr ha
/-- zeros from X + k to X + 57 -/
def xm_z (f : Nat → Int32) (X k : Nat) : Nat → Int32 := fun j => if X + k ≤ j ∧ j < X + 57 then 0 else f j
/-- the loop of 'clearState' -/
theorem xm_clrL {b : xi_W} {O A : Nat} {o : Nat × List Value} (B : xm_B b O A o) (d X : Nat) (hX : X + 57 ≤ 98262) (c s : Nat) : ∀ (m k : Nat) (f : Nat → Int32), k + m = 57 → xg d 178 2 [(2, .int (Int32.ofNat k)), (0, .ref O), (1, .int (Int32.ofNat X))] [] (xm_w b A f) c s (none, xm_w b A (xm_z f X k), c, s)
  | 0, k, f, hk => by
    have e : xm_z f X k = f := by funext j; unfold xm_z; rw [if_neg (by omega)]
    rw [e]
    refine xg_stp rfl rfl rfl rfl ?_
    refine xg_stp rfl rfl rfl rfl ?_
    refine xg_j2 rfl rfl rfl rfl rfl (fun _ => ?_) (fun h => ?_)
    · exact xg_ret rfl rfl
    · exact absurd ((n_le (a := 57) (b := k) (by omega) (by omega)).mpr (by omega)) (of_decide_eq_false h)
  | m + 1, k, f, hk => by
    refine xg_stp rfl rfl rfl rfl ?_
    refine xg_stp rfl rfl rfl rfl ?_
    refine xg_j2 rfl rfl rfl rfl rfl (fun h => ?_) (fun _ => ?_)
    · have := (n_le (a := 57) (b := k) (by omega) (by omega)).mp (of_decide_eq_true h); omega
    · refine xg_stp rfl rfl rfl rfl ?_
      refine xg_getfield (xm_gO B f) rfl rfl B.2.2.2.1 B.2.2.2.2 ?_
      refine xg_stp rfl rfl rfl rfl ?_
      refine xg_stp rfl rfl rfl rfl ?_
      refine xg_stp rfl rfl rfl rfl ?_
      refine xg_stp rfl rfl rfl rfl ?_
      dsimp only
      rw [n_add]
      refine xg_iastore (xm_gA B f) rfl (n_ix (by omega) (by omega)) rfl ?_
      rw [xm_s, n_nat (by omega)]
      refine xg_stp rfl rfl rfl rfl ?_
      refine xg_stp rfl rfl rfl rfl ?_
      have e : xm_z f X k = xm_z (upd f (X + k) 0) X (k + 1) := by
        funext j
        unfold xm_z upd
        by_cases h1 : j = X + k
        · rw [if_pos (by omega), if_neg (by omega), if_pos h1]
        · by_cases h2 : X + (k + 1) ≤ j ∧ j < X + 57
          · rw [if_pos (by omega), if_pos h2]
          · rw [if_neg (by omega), if_neg h2, if_neg h1]
      rw [e]
      have ih := xm_clrL B d X hX c s m (k + 1) (upd f (X + k) 0) (by omega)
      rw [n_inc k] at ih
      exact ih
theorem xm_clearState {b : xi_W} {O A : Nat} {o : Nat × List Value} (B : xm_B b O A o) (d X : Nat) (hX : X + 57 ≤ 98262) (f : Nat → Int32) (c s : Nat) : xg d 178 0 (lv_args 0 [.ref O, .int (Int32.ofNat X)]) [] (xm_w b A f) c s (none, xm_w b A (xm_z f X 0), c, s) := by
  refine xg_stp rfl rfl rfl rfl ?_
  refine xg_stp rfl rfl rfl rfl ?_
  exact xm_clrL B d X hX c s 57 0 f rfl
