/-! rows against rows -/
theorem an_tb {a b i : Nat} (ha : a < 4611686018427387904) : (a &&& (b ^^^ 18446744073709551615)).testBit i = (a.testBit i && !b.testBit i) := by
  rw [Nat.testBit_and, Nat.testBit_xor]
  by_cases hi : i < 62
  · rw [show (18446744073709551615 : Nat) = 2 ^ 64 - 1 from rfl, Nat.testBit_two_pow_sub_one, decide_eq_true (show i < 64 by omega), Bool.xor_true]
  · rw [Nat.testBit_lt_two_pow (Nat.lt_of_lt_of_le ha (show 4611686018427387904 ≤ 2 ^ i from Nat.pow_le_pow_right (n := 2) (by omega) (show 62 ≤ i by omega))), Bool.false_and, Bool.false_and]
theorem lt62 {G : Nat → Nat} (hm : G 4 ≤ 62) {x : Nat} (h : x < 2 ^ G 4) : x < 4611686018427387904 := Nat.lt_of_lt_of_le h (Nat.pow_le_pow_right (n := 2) (by omega) hm)
theorem bc_disj : ∀ (n x y : Nat), (∀ i, i < n → ¬ (x.testBit i = true ∧ y.testBit i = true)) → bc n x + bc n y = bc n (x ||| y)
  | 0, _, _, _ => rfl
  | n + 1, x, y, h => by
    have ih := bc_disj n x y (fun i hi => h i (by omega))
    have hn := h n (by omega)
    rw [bc_tb, bc_tb, bc_tb, ← ih, Nat.testBit_or]
    cases ex : x.testBit n <;> cases ey : y.testBit n
    · rfl
    · show _ + 0 + (_ + 1) = _ + _ + 1; omega
    · show _ + 1 + (_ + 0) = _ + _ + 1; omega
    · exact absurd ⟨ex, ey⟩ hn
theorem bc_ext : ∀ (n x y : Nat), (∀ i, i < n → x.testBit i = y.testBit i) → bc n x = bc n y
  | 0, _, _, _ => rfl
  | n + 1, x, y, h => by rw [bc_tb, bc_tb, h n (by omega), bc_ext n x y (fun i hi => h i (by omega))]
/-- bits of a that b lacks, told apart by replica -/
theorem pr_tb {G : Nat → Nat} (he : en G (G 4)) (r b : Nat) : (∃ i, i < G 4 ∧ ∀ x, (pr G r (G 4) x).testBit b = x.testBit i) ∨ (∀ x, (pr G r (G 4) x).testBit b = false) := by
  rcases pr_at he r b with ⟨i, h1, _, _, h4⟩ | ⟨_, h⟩
  · exact Or.inl ⟨i, h1, h4⟩
  · exact Or.inr h
def lw_un (hA kA hB kB : Nat) : Nat := (kA &&& (kB ^^^ 18446744073709551615)) ||| ((hB &&& kA) &&& (hA ^^^ 18446744073709551615))
theorem lw_unL {hA kA hB kB m : Nat} (h : kA < 2 ^ m) : lw_un hA kA hB kB < 2 ^ m := by
  unfold lw_un
  exact Nat.or_lt_two_pow (Nat.lt_of_le_of_lt Nat.and_le_left h) (Nat.lt_of_le_of_lt Nat.and_le_left (Nat.lt_of_le_of_lt Nat.and_le_right h))
theorem df_un {G : Nat → Nat} (he : en G (G 4)) (hm : G 4 ≤ 62) {hA kA hB kB : Nat} (sA : su hA kA) (hAl : hA < 2 ^ G 4) (kAl : kA < 2 ^ G 4) (r : Nat) : bc 63 (pr G r (G 4) hA &&& (pr G r (G 4) kB ^^^ 18446744073709551615)) + bc 63 ((pr G r (G 4) kA &&& (pr G r (G 4) hA ^^^ 18446744073709551615)) &&& ((pr G r (G 4) kB ^^^ 18446744073709551615) ||| pr G r (G 4) hB)) = bc 63 (pr G r (G 4) (lw_un hA kA hB kB)) := by
  have p := fun x => pr_lt62 he hm r x
  have t0 : ∀ i, i < 63 → ∀ x : Nat, (x ^^^ 18446744073709551615).testBit i = !x.testBit i := fun i hi x => by
    rw [Nat.testBit_xor, show (18446744073709551615 : Nat) = 2 ^ 64 - 1 from rfl, Nat.testBit_two_pow_sub_one, decide_eq_true (show i < 64 by omega), Bool.xor_true]
  have h0 : (hB &&& kA) < 4611686018427387904 := Nat.lt_of_le_of_lt Nat.and_le_right (lt62 hm kAl)
  rw [bc_disj]
  · refine bc_ext _ _ _ (fun i hi => ?_)
    rw [Nat.testBit_or, an_tb (p hA), Nat.testBit_and, an_tb (p kA), Nat.testBit_or, t0 i hi]
    rcases pr_tb he r i with ⟨j, hj, e⟩ | e
    · rw [e, e, e, e, e]
      unfold lw_un
      rw [Nat.testBit_or, an_tb (lt62 hm kAl), an_tb h0, Nat.testBit_and]
      have z := sA j
      revert z
      cases hA.testBit j <;> cases kA.testBit j <;> cases hB.testBit j <;> cases kB.testBit j <;> simp
    · rw [e, e, e, e, e]; rfl
  · intro i hi
    rw [an_tb (p hA), Nat.testBit_and, an_tb (p kA)]
    cases (pr G r (G 4) hA).testBit i <;> simp
theorem rq_df (d c s b : Nat) (W : xi_W) (F G : Nat → Nat) (L : List Value) (hw : kw W b F) (hb : wb b) (hl : 687 ≤ W.length) (hR : W[355]? = some (.inr (2, L))) {A B hA kA hB kB : Nat} (x : rx G F A hA kA) (y : rx G F B hB kB) (r : xi_R → Prop) (K : r (some (.int (Int32.ofNat (bc 63 (lw_un hA kA hB kB)))), W, c, s)) : xr (d + 1) 24 0 [(0, .ref (b + 1)), (1, .int (Int32.ofNat A)), (2, .int (Int32.ofNat B))] [] W c s r := by
  refine n_df d c s b W F L hw hb hl hR A B x.2.2.2.1 y.2.2.2.1 (fun t ht => by have := x.lt t ht; omega) r ?_
  obtain ⟨he, hm, hE, hX, hr, hp⟩ := x
  have hy := y.2.2.2.2.1
  have e : df F A B 4 0 0 = bc 63 (lw_un hA kA hB kB) := by
    show 0 + bc 63 _ + bc 63 _ + bc 63 _ + bc 63 _ + bc 63 _ + bc 63 _ + bc 63 _ + bc 63 _ = _
    rw [(hr 0 (by omega)).1, (hr 0 (by omega)).2, (hy 0 (by omega)).1, (hy 0 (by omega)).2, (hr (0 + 1) (by omega)).1, (hr (0 + 1) (by omega)).2, (hy (0 + 1) (by omega)).1, (hy (0 + 1) (by omega)).2, (hr (0 + 1 + 1) (by omega)).1, (hr (0 + 1 + 1) (by omega)).2, (hy (0 + 1 + 1) (by omega)).1, (hy (0 + 1 + 1) (by omega)).2, (hr (0 + 1 + 1 + 1) (by omega)).1, (hr (0 + 1 + 1 + 1) (by omega)).2, (hy (0 + 1 + 1 + 1) (by omega)).1, (hy (0 + 1 + 1 + 1) (by omega)).2]
    have q := fun r => df_un (hB := hB) (kB := kB) he hm hp.1 (hp.1.lt hp.2) hp.2 r
    have w := pr_sum he hm (lw_unL (hA := hA) (hB := hB) (kB := kB) hp.2)
    have q0 := q 0
    have q1 := q 1
    have q2 := q 2
    have q3 := q 3
    rw [← w, ← q0, ← q1, ← q2, ← q3]
    simp only [Nat.zero_add, Nat.add_assoc]
  rw [e]
  exact K
theorem tr_ones : ∀ (n k : Nat), k ≤ n → tr n (2 ^ k - 1) = k
  | 0, k, h => by
    obtain rfl : k = 0 := by omega
    rfl
  | n + 1, 0, h => by
    unfold tr
    rw [if_neg (by decide)]
  | n + 1, k + 1, h => by
    unfold tr
    have h2 := Nat.two_pow_pos k
    have e : 2 ^ (k + 1) = 2 * 2 ^ k := by rw [Nat.pow_succ, Nat.mul_comm]
    rw [if_pos (by omega), show (2 ^ (k + 1) - 1) / 2 = 2 ^ k - 1 by omega, tr_ones n k (by omega)]
theorem ct_62 {G : Nat → Nat} (hm : G 4 ≤ 62) (r x : Nat) : ct G r (G 4) x ≤ 62 := Nat.le_trans (ct_le G r x _) (Nat.le_trans (ce_le G r _) hm)
theorem rq_vec (d c s b : Nat) (W : xi_W) (F G : Nat → Nat) (L : List Value) (hw : kw W b F) (hb : wb b) (hl : 687 ≤ W.length) (hR : W[355]? = some (.inr (2, L))) {X h k : Nat} (x : rx G F X h k) (hc : clo G (G 4) k) (t : Nat) (ht : t < 4) (r : xi_R → Prop) (K : r (some (.int (Int32.ofNat (ct G t (G 4) k))), W, c, s)) : xr (d + 1) 10 0 [(0, .ref (b + 1)), (1, .int (Int32.ofNat X)), (2, .int (Int32.ofNat t))] [] W c s r := by
  refine n_vec d c s b W F L hw hb hl hR X t x.2.2.2.1 ht (x.lt t ht).1 r ?_
  rw [(x.2.2.2.2.1 t ht).1, pr_clo t k _ x.1 hc, tr_ones _ _ (ct_62 x.2.1 t k)]
  exact K
theorem rq_kn (d c s b : Nat) (W : xi_W) (F G : Nat → Nat) (L : List Value) (hw : kw W b F) (hb : wb b) (hl : 687 ≤ W.length) (hR : W[355]? = some (.inr (2, L))) {X h k : Nat} (x : rx G F X h k) (hc : clo G (G 4) k) (t n : Nat) (ht : t < 4) (hn : 0 < n) (hn2 : n < 64) (r : xi_R → Prop) (K : r (some (.int (Int32.ofNat (if n ≤ ct G t (G 4) k then 1 else 0))), W, c, s)) : xr d 11 0 [(0, .ref (b + 1)), (1, .int (Int32.ofNat X)), (2, .int (Int32.ofNat t)), (3, .int (Int32.ofNat n))] [] W c s r := by
  refine n_kn d c s b W F L hw hb hl hR X t n x.2.2.2.1 ht hn hn2 (x.lt t ht).1 r ?_
  rw [(x.2.2.2.2.1 t ht).1, pr_clo t k _ x.1 hc, Nat.testBit_two_pow_sub_one]
  have e : (if decide (n - 1 < ct G t (G 4) k) = true then 1 else 0) = (if n ≤ ct G t (G 4) k then 1 else 0) := by
    by_cases z : n ≤ ct G t (G 4) k
    · rw [if_pos z, decide_eq_true (by omega), if_pos rfl]
    · rw [if_neg z, decide_eq_false (by omega)]; rfl
  rw [e]
  exact K
theorem rq_by (d c s b : Nat) (W : xi_W) (F G : Nat → Nat) (L : List Value) (hw : kw W b F) (hb : wb b) (hl : 687 ≤ W.length) (hR : W[355]? = some (.inr (2, L))) {X h k : Nat} (x : rx G F X h k) (t : Nat) (ht : t < 4) (r : xi_R → Prop) (K : r (some (.int (Int32.ofNat (ct G t (G 4) h))), W, c, s)) : xr (d + 1) 8 0 [(0, .ref (b + 1)), (1, .int (Int32.ofNat X)), (2, .int (Int32.ofNat t))] [] W c s r := by
  refine n_by d c s b W F L hw hb hl hR X t x.2.2.2.1 ht (by have := x.lt t ht; omega) r ?_
  rw [(x.2.2.2.2.1 t ht).2, pr_bc t h _ x.1 x.2.1]
  exact K
theorem rq_lk (d c s b : Nat) (W : xi_W) (F G : Nat → Nat) (L : List Value) (hw : kw W b F) (hb : wb b) (hl : 687 ≤ W.length) (hR : W[355]? = some (.inr (2, L))) {A B hA kA hB kB : Nat} (x : rx G F A hA kA) (y : rx G F B hB kB) (r : xi_R → Prop) (K : ∀ v, v < 2 → (v = 1 ↔ hA = hB ∧ kA = kB) → r (some (.int (Int32.ofNat v)), W, c, s)) : xr d 6 0 [(0, .ref (b + 1)), (1, .int (Int32.ofNat A)), (2, .int (Int32.ofNat B))] [] W c s r := by
  have h := cn_alike (hw.B hb hl hR) d F c s A B x.2.2.2.1 y.2.2.2.1 (fun t ht => by have := x.lt t ht; omega) (fun t ht => by have := y.lt t ht; omega)
  refine xr_kw0 hw h (K _ (by have := cn_lk1 F A B 4 0; omega) ?_)
  rw [cn_lk_iff]
  constructor
  · intro z
    refine ⟨pr_inj x.1 x.hk.1 y.hk.1 (fun t ht => ?_), pr_inj x.1 x.hk.2 y.hk.2 (fun t ht => ?_)⟩
    · rw [← (x.2.2.2.2.1 t ht).2, ← (y.2.2.2.2.1 t ht).2]; exact (z t (by omega) (by omega)).2
    · rw [← (x.2.2.2.2.1 t ht).1, ← (y.2.2.2.2.1 t ht).1]; exact (z t (by omega) (by omega)).1
  · rintro ⟨e1, e2⟩ t _ ht
    rw [(x.2.2.2.2.1 t (by omega)).1, (x.2.2.2.2.1 t (by omega)).2, (y.2.2.2.2.1 t (by omega)).1, (y.2.2.2.2.1 t (by omega)).2, e1, e2]
    exact ⟨rfl, rfl⟩
/-- a row's numbers that another row's writing leaves -/
theorem rx.keep {G F F' : Nat → Nat} {X h k : Nat} (x : rx G F X h k) (e : ∀ j, (1 < j % 16 ∨ (X * 4 ≤ j / 16 ∧ j / 16 < X * 4 + 4)) → F' j = F j) : rx G F' X h k := by
  obtain ⟨he, hm, hE, hX, hr, hp⟩ := x
  exact ⟨he, hm, ⟨fun i hi => by rw [e _ (Or.inl (by omega))]; exact hE.1 i hi, fun u hu => by rw [e _ (Or.inl (by omega))]; exact hE.2 u hu⟩, hX, hr.cg rfl (fun _ _ _ => rfl) (fun r hr => ⟨e _ (Or.inr (by omega)), e _ (Or.inr (by omega))⟩), hp⟩
theorem rx.mg {G F : Nat → Nat} {X Y a ka b kb : Nat} (x : rx G F X a ka) (y : rx G F Y b kb) (hXY : X ≠ Y) : rx G (cn_mg X Y 4 0 F) X (lw_j a ka b kb) (ka ||| kb) := by
  obtain ⟨he, hm, hE, hX, hr, hp⟩ := x
  exact ⟨he, hm, ⟨fun i hi => by rw [cn_mgo _ _ _ _ _ _ (by omega)]; exact hE.1 i hi, fun u hu => by rw [cn_mgo _ _ _ _ _ _ (by omega)]; exact hE.2 u hu⟩, hX, hr.merge he hm hXY y.2.2.2.2.1 hp.1 y.2.2.2.2.2.1, hp.join y.2.2.2.2.2⟩
theorem rx.mv {G F : Nat → Nat} {X Y h k : Nat} (x : rx G F X h k) (hY : Y < 55) : rx G (cn_mv F X Y 1) Y h k := by
  obtain ⟨he, hm, hE, hX, hr, hp⟩ := x
  refine ⟨he, hm, ⟨fun i hi => by rw [cn_mvo _ _ _ _ (by omega)]; exact hE.1 i hi, fun u hu => by rw [cn_mvo _ _ _ _ (by omega)]; exact hE.2 u hu⟩, hY, hr.cg rfl (fun _ _ _ => rfl) (fun r hr => ?_), hp⟩
  have := cn_mvg F X Y 1 Y r (Nat.le_refl _) (by omega) hr
  rw [show X + (Y - Y) = X by omega] at this
  exact this
theorem rx.z {G F : Nat → Nat} {Y : Nat} (he : en G (G 4)) (hm : G 4 ≤ 62) (hE : RE G F) (hY : Y < 55) : rx G (cn_wz 4 (Y * 4) F) Y 0 0 := by
  refine ⟨he, hm, ⟨fun i hi => by rw [cn_wzo _ _ _ _ (by omega)]; exact hE.1 i hi, fun u hu => by rw [cn_wzo _ _ _ _ (by omega)]; exact hE.2 u hu⟩, hY, ro.zero (fun r hr => cn_wzv 4 (Y * 4) F _ (by omega) (by omega)), rp0 G⟩
theorem rx.ga {G F : Nat → Nat} {X Y h k : Nat} (x : rx G F X h k) (hY : Y < 55) (hne : Y ≠ X) (q f : Nat) (hq : q < 4) : rx G (cn_gat F Y X q f) Y 0 (lw_of G h q f (G 4) 0 0) := by
  obtain ⟨he, hm, hE, hX, hr, hp⟩ := x
  refine ⟨he, hm, ⟨fun i hi => by rw [cn_gato _ _ _ _ _ (by omega)]; exact hE.1 i hi, fun u hu => by rw [cn_gato _ _ _ _ _ (by omega)]; exact hE.2 u hu⟩, hY, hr.gather he hm hE.1 hq hne, fun i hi => by rw [Nat.zero_testBit] at hi; exact absurd hi (by decide), lw_of_lt G h q f⟩
