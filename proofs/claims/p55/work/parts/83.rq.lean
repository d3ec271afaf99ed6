/-! what the class's Nests tells of a row, in the law's numbers -/
def rx (G F : Nat → Nat) (X h k : Nat) : Prop := en G (G 4) ∧ G 4 ≤ 62 ∧ RE G F ∧ X < 55 ∧ ro G F X h k ∧ rp G h k
theorem rx.hk {G F : Nat → Nat} {X h k : Nat} (x : rx G F X h k) : h < 2 ^ G 4 ∧ k < 2 ^ G 4 := ⟨x.2.2.2.2.2.1.lt x.2.2.2.2.2.2, x.2.2.2.2.2.2⟩
theorem rx.ok {G F : Nat → Nat} {X h k : Nat} (x : rx G F X h k) : cn_ok F X := by
  obtain ⟨he, hm, hE, hX, hr, hp⟩ := x
  refine ⟨fun j hj => ?_, fun u hu => ?_⟩
  · rw [(hr j hj).2]
    have := pr_lt62 he hm j h
    omega
  · have := hE.2 u hu
    omega
theorem rx.lt {G F : Nat → Nat} {X h k : Nat} (x : rx G F X h k) : ∀ t, t < 4 → F (16 * (X * 4 + t) + 0) < 4611686018427387904 ∧ F (16 * (X * 4 + t) + 1) < 4611686018427387904 := by
  obtain ⟨he, hm, hE, hX, hr, hp⟩ := x
  intro t ht
  rw [(hr t ht).1, (hr t ht).2]
  exact ⟨pr_lt62 he hm t k, pr_lt62 he hm t h⟩
theorem rq_ent (d c s b : Nat) (W : xi_W) (F G : Nat → Nat) (L : List Value) (hw : kw W b F) (hb : wb b) (hl : 687 ≤ W.length) (hR : W[355]? = some (.inr (2, L))) {X h k : Nat} (x : rx G F X h k) (r : xi_R → Prop) (K : r (some (.int (Int32.ofNat (bc 63 h))), W, c, s)) : xr (d + 1) 7 0 [(0, .ref (b + 1)), (1, .int (Int32.ofNat X))] [] W c s r :=
  cn_entE hw hb hl hR x.1 x.2.1 x.2.2.2.1 x.2.2.2.2.1 x.hk.1 r K
theorem rq_dots (d c s b : Nat) (W : xi_W) (F G : Nat → Nat) (L : List Value) (hw : kw W b F) (hb : wb b) (hl : 687 ≤ W.length) (hR : W[355]? = some (.inr (2, L))) {X h k : Nat} (x : rx G F X h k) (r : xi_R → Prop) (K : r (some (.int (Int32.ofNat (bc 63 k))), W, c, s)) : xr (d + 1) 9 0 [(0, .ref (b + 1)), (1, .int (Int32.ofNat X))] [] W c s r :=
  n_dots d c s b W F L hw hb hl hR X h k G x.2.2.2.1 x.1 x.2.1 x.2.2.2.2.1 x.hk.2 r K
theorem rq_many (d c s b : Nat) (W : xi_W) (F G : Nat → Nat) (L : List Value) (hw : kw W b F) (hb : wb b) (hl : 687 ≤ W.length) (hR : W[355]? = some (.inr (2, L))) {X h k : Nat} (x : rx G F X h k) (q f : Nat) (hq : q < 4) (hf : f < 4294967296) (r : xi_R → Prop) (K : r (some (.int (Int32.ofNat (bc 63 (lw_of G h q f (G 4) 0 0)))), W, c, s)) : xr (d + 2) 16 0 [(0, .ref (b + 1)), (1, .int (Int32.ofNat X)), (2, .int (Int32.ofNat q)), (3, .int (Int32.ofNat f))] [] W c s r := by
  have hm := cn_many (hw.B hb hl hR) d F c s X q f x.2.2.2.1 (by omega) hf x.ok
  rw [cn_mo_c (he_of q f x.1 x.2.1 x.2.2.2.2.1 x.2.2.1.1 hq)] at hm
  exact xr_kw0 hw hm K
theorem rq_nth (d c s b : Nat) (W : xi_W) (F G : Nat → Nat) (L : List Value) (hw : kw W b F) (hb : wb b) (hl : 687 ≤ W.length) (hR : W[355]? = some (.inr (2, L))) {X h k : Nat} (x : rx G F X h k) (q f n : Nat) (hq : q < 4) (hf : f < 4294967296) (hn : n < 2147483648) (r : xi_R → Prop) (K : r (some (.int (Int32.ofNat (if n < bc 63 (lw_of G h q f (G 4) 0 0) then dt G (lw_row G (lw_of G h q f (G 4) 0 0) n) else 4294967295))), W, c, s)) : xr (d + 2) 17 0 [(0, .ref (b + 1)), (1, .int (Int32.ofNat X)), (2, .int (Int32.ofNat q)), (3, .int (Int32.ofNat f)), (4, .int (Int32.ofNat n))] [] W c s r := by
  refine n_nth d c s b W F L hw hb hl hR X q f n x.2.2.2.1 (by omega) hf x.ok hn r ?_
  rw [fn_s n (he_of q f x.1 x.2.1 x.2.2.2.2.1 x.2.2.1.1 hq) 256 0 0 rfl (by omega) (by omega) (fun j hj => by omega) (fun j _ _ => by omega)]
  exact K
theorem rq_nthA (d c s b : Nat) (W : xi_W) (F G : Nat → Nat) (L : List Value) (hw : kw W b F) (hb : wb b) (hl : 687 ≤ W.length) (hR : W[355]? = some (.inr (2, L))) {X h k : Nat} (x : rx G F X h k) (n : Nat) (hn : n < 2147483648) (r : xi_R → Prop) (K : r (some (.int (Int32.ofNat (if n < bc 63 h then dt G (lw_row G h n) else 4294967295))), W, c, s)) : xr (d + 2) 17 0 [(0, .ref (b + 1)), (1, .int (Int32.ofNat X)), (2, .int (Int32.ofNat 4294967295)), (3, .int (Int32.ofNat 4294967295)), (4, .int (Int32.ofNat n))] [] W c s r := by
  refine n_nth d c s b W F L hw hb hl hR X _ _ n x.2.2.2.1 (by omega) (by omega) x.ok hn r ?_
  rw [fn_s n (he_all x.1 x.2.1 x.2.2.2.2.1 x.hk.1) 256 0 0 rfl (by omega) (by omega) (fun j hj => by omega) (fun j _ _ => by omega)]
  exact K
theorem en.cell {G F : Nat → Nat} (he : en G (G 4)) (hm : G 4 ≤ 62) (hE : RE G F) {i : Nat} (hi : i < G 4) : dt G i < 256 ∧ F (16 * dt G i + 2) < 2147483648 ∧ F (16 * dt G i + 2) / 300 = G (12 + 5 * i) ∧ F (16 * dt G i + 2) / 100 % 3 = G (13 + 5 * i) ∧ F (16 * dt G i + 2) % 100 = G (14 + 5 * i) := by
  have a := dt_lt he hm hi
  have e := hE.1 i hi
  have h := he i hi
  have := hE.2 (dt G i) a.1
  have e2 : F (16 * dt G i + 2) = (G (12 + 5 * i) * 3 + G (13 + 5 * i)) * 100 + G (14 + 5 * i) := e
  rw [e2]
  omega
theorem rq_val (d c s b : Nat) (W : xi_W) (F G : Nat → Nat) (L : List Value) (hw : kw W b F) (hb : wb b) (hl : 687 ≤ W.length) (hR : W[355]? = some (.inr (2, L))) (he : en G (G 4)) (hm : G 4 ≤ 62) (hE : RE G F) {i : Nat} (hi : i < G 4) (r : xi_R → Prop) (K : r (some (.int (Int32.ofNat (G (14 + 5 * i)))), W, c, s)) : xr d 15 0 [(0, .ref (b + 1)), (1, .int (Int32.ofNat (dt G i)))] [] W c s r := by
  have a := en.cell he hm hE hi
  exact n_val d c s b W F L hw hb hl hR _ a.1 a.2.1 r (by rw [a.2.2.2.2]; exact K)
theorem rq_key (d c s b : Nat) (W : xi_W) (F G : Nat → Nat) (L : List Value) (hw : kw W b F) (hb : wb b) (hl : 687 ≤ W.length) (hR : W[355]? = some (.inr (2, L))) (he : en G (G 4)) (hm : G 4 ≤ 62) (hE : RE G F) {i : Nat} (hi : i < G 4) (r : xi_R → Prop) (K : r (some (.int (Int32.ofNat (G (12 + 5 * i)))), W, c, s)) : xr d 13 0 [(0, .ref (b + 1)), (1, .int (Int32.ofNat (dt G i)))] [] W c s r := by
  have a := en.cell he hm hE hi
  have h := cn_keyOf (hw.B hb hl hR) d F c s (dt G i) a.1 a.2.1
  rw [a.2.2.1] at h
  exact xr_kw0 hw h K
theorem rq_fld (d c s b : Nat) (W : xi_W) (F G : Nat → Nat) (L : List Value) (hw : kw W b F) (hb : wb b) (hl : 687 ≤ W.length) (hR : W[355]? = some (.inr (2, L))) (he : en G (G 4)) (hm : G 4 ≤ 62) (hE : RE G F) {i : Nat} (hi : i < G 4) (r : xi_R → Prop) (K : r (some (.int (Int32.ofNat (G (13 + 5 * i)))), W, c, s)) : xr d 14 0 [(0, .ref (b + 1)), (1, .int (Int32.ofNat (dt G i)))] [] W c s r := by
  have a := en.cell he hm hE hi
  have h := cn_fieldOf (hw.B hb hl hR) d F c s (dt G i) a.1 a.2.1
  rw [a.2.2.2.1] at h
  exact xr_kw0 hw h K
theorem fk_dig {G F : Nat → Nat} (he : en G (G 4)) (hm : G 4 ≤ 62) (hE : RE G F) (R : Nat → Nat) (n : Nat) (hR : ∀ k, k < n → R k < G 4) : ∀ (m k x : Nat), k + m = n → fk (fun k => dt G (R k)) (fun a u => (31 * a + (101 * (u / 64) + 7 * (u % 64) + 5 * (F (16 * u + 2) / 300) + 3 * (F (16 * u + 2) / 100 % 3) + F (16 * u + 2) % 100)) % 9973) m k x = lw_dgl G R m k x
  | 0, _, _, _ => rfl
  | m + 1, k, x, h => by
    unfold fk lw_dgl
    have hi := hR k (by omega)
    have a := en.cell he hm hE hi
    have e := dt_lt he hm hi
    show fk _ _ m (k + 1) ((31 * x + (101 * (dt G (R k) / 64) + 7 * (dt G (R k) % 64) + 5 * (F (16 * dt G (R k) + 2) / 300) + 3 * (F (16 * dt G (R k) + 2) / 100 % 3) + F (16 * dt G (R k) + 2) % 100)) % 9973) = _
    rw [e.2.1, e.2.2, a.2.2.1, a.2.2.2.1, a.2.2.2.2, fk_dig he hm hE R n hR m (k + 1) _ (by omega)]
    have q1 : 10 + 5 * R k + 1 = 11 + 5 * R k := by omega
    have q2 : 10 + 5 * R k + 2 = 12 + 5 * R k := by omega
    have q3 : 10 + 5 * R k + 3 = 13 + 5 * R k := by omega
    have q4 : 10 + 5 * R k + 4 = 14 + 5 * R k := by omega
    rw [q1, q2, q3, q4]
    have e9 : ∀ a b c d e f : Nat, a + (b + c + d + e + f) = a + b + c + d + e + f := fun a b c d e f => by omega
    rw [e9]
theorem rq_dig (d c s b : Nat) (W : xi_W) (F G : Nat → Nat) (L : List Value) (hw : kw W b F) (hb : wb b) (hl : 687 ≤ W.length) (hR : W[355]? = some (.inr (2, L))) {X h k : Nat} (x : rx G F X h k) (r : xi_R → Prop) (K : r (some (.int (Int32.ofNat (lw_dig G h))), W, c, s)) : xr (d + 2) 21 0 [(0, .ref (b + 1)), (1, .int (Int32.ofNat X))] [] W c s r := by
  refine n_dig d c s b W F L hw hb hl hR X x.2.2.2.1 x.ok x.2.2.1.2 r ?_
  rw [fd_all _ (he_all x.1 x.2.1 x.2.2.2.2.1 x.hk.1), fk_dig x.1 x.2.1 x.2.2.1 (lw_row G h) (bc 63 h) (fun k hk => ((lw_rowE x.1 x.2.1 x.hk.1).1 k hk).1) (bc 63 h) 0 0 (by omega)]
  exact K
theorem en.dgE {G : Nat → Nat} (he : en G (G 4)) (hm : G 4 ≤ 62) {b : Nat} (hb : b < 2 ^ G 4) : ∀ j, j < bc 63 b → ∀ z, z < 5 → G (10 + 5 * lw_row G b j + z) < 1000 := fun j hj z hz => by
  have hi := ((lw_rowE he hm hb).1 j hj).1
  have h := he _ hi
  have n := he.num hi
  have : z = 0 ∨ z = 1 ∨ z = 2 ∨ z = 3 ∨ z = 4 := by omega
  rcases this with rfl | rfl | rfl | rfl | rfl
  · show G (10 + 5 * lw_row G b j) < 1000; omega
  · rw [show 10 + 5 * lw_row G b j + 1 = 11 + 5 * lw_row G b j by omega]; omega
  · rw [show 10 + 5 * lw_row G b j + 2 = 12 + 5 * lw_row G b j by omega]; omega
  · rw [show 10 + 5 * lw_row G b j + 3 = 13 + 5 * lw_row G b j by omega]; omega
  · rw [show 10 + 5 * lw_row G b j + 4 = 14 + 5 * lw_row G b j by omega]; omega
theorem lw_dgM (d c s A R Z : Nat) (W0 : xi_W) (G F : Nat → Nat) (hw : W0[A]? = some (lw_a 1804 G)) (hr : W0[R]? = some (lw_i Z F)) (hg : 17 ≤ A) (gR : 17 ≤ R) (hE : ∀ j, j < Z → ∀ z, z < 5 → G (10 + 5 * F j + z) < 1000) (hZ : Z < 64) (hFb : ∀ j, F j < 62) (b : Nat) (r : xi_R → Prop) : ∀ (m k x : Nat) (L : xi_L), k + m = Z → x < 9973 → (L = [(5, .int (Int32.ofNat k)), (4, .int (Int32.ofNat x)), (3, .ref R), (0, .ref A), (1, .long (Int64.ofNat b))] ∨ ∃ e, L = [(5, .int (Int32.ofNat k)), (4, .int (Int32.ofNat x)), (6, .int e), (3, .ref R), (0, .ref A), (1, .long (Int64.ofNat b))]) → r (some (.int (Int32.ofNat (lw_dgl G F m k x))), W0, c, s) → xr d 201 12 L [] W0 c s r
  | 0, k, x, L, hm, hx, hL, K => by
    rcases hL with rfl | ⟨_, rfl⟩
    all_goals
      refine xr_stp rfl rfl rfl rfl ?_
      refine xr_stp rfl rfl rfl rfl ?_
      refine xs_iln hr rfl ?_
      refine xr_j2 rfl rfl rfl rfl rfl (fun h16 => ?_) (fun h16 => ?_)
      · refine xr_stp rfl rfl rfl rfl ?_
        exact xr_ret rfl rfl K
      · exact absurd (nf_ge (by omega) (by omega) h16) (by omega)
  | m + 1, k, x, L, hm, hx, hL, K => by
    have hk := hFb k
    have g0 : G (10 + 5 * F k) < 1000 := hE k (by omega) 0 (by omega)
    have g1 := hE k (by omega) 1 (by omega)
    have g2 := hE k (by omega) 2 (by omega)
    have g3 := hE k (by omega) 3 (by omega)
    have g4 := hE k (by omega) 4 (by omega)
    unfold lw_dgl at K
    rcases hL with rfl | ⟨_, rfl⟩
    all_goals
      refine xr_stp rfl rfl rfl rfl ?_
      refine xr_stp rfl rfl rfl rfl ?_
      refine xs_iln hr rfl ?_
      refine xr_j2 rfl rfl rfl rfl rfl (fun h16 => ?_) (fun h16 => ?_)
      · exact absurd (nt_ge (by omega) (by omega) h16) (by omega)
      · refine xr_stp (st' := .int (Int32.ofNat 10) :: _) rfl rfl rfl rfl ?_
        refine xr_stp (st' := .int (Int32.ofNat 5) :: _) rfl rfl rfl rfl ?_
        refine xr_stp rfl rfl rfl rfl ?_
        refine xr_stp rfl rfl rfl rfl ?_
        refine xs_ild hr (by omega) (by omega) rfl ?_
        refine xs_mul rfl ?_
        refine xs_add rfl ?_
        refine xr_stp rfl rfl rfl rfl ?_
        refine xr_stp (st' := .int (Int32.ofNat 31) :: _) rfl rfl rfl rfl ?_
        refine xr_stp rfl rfl rfl rfl ?_
        refine xs_mul rfl ?_
        refine xr_stp (st' := .int (Int32.ofNat 101) :: _) rfl rfl rfl rfl ?_
        refine xr_stp rfl rfl rfl rfl ?_
        refine xr_stp rfl rfl rfl rfl ?_
        refine xs_ald hw hg (by omega) (by omega) rfl ?_
        refine xs_l2i rfl ?_
        refine xs_mul rfl ?_
        refine xs_add rfl ?_
        refine xr_stp (st' := .int (Int32.ofNat 7) :: _) rfl rfl rfl rfl ?_
        refine xr_stp rfl rfl rfl rfl ?_
        refine xr_stp rfl rfl rfl rfl ?_
        refine xr_stp (st' := .int (Int32.ofNat 1) :: _) rfl rfl rfl rfl ?_
        refine xs_add rfl ?_
        refine xs_ald hw hg (by omega) (by omega) rfl ?_
        refine xs_l2i rfl ?_
        refine xs_mul rfl ?_
        refine xs_add rfl ?_
        refine xr_stp (st' := .int (Int32.ofNat 5) :: _) rfl rfl rfl rfl ?_
        refine xr_stp rfl rfl rfl rfl ?_
        refine xr_stp rfl rfl rfl rfl ?_
        refine xr_stp (st' := .int (Int32.ofNat 2) :: _) rfl rfl rfl rfl ?_
        refine xs_add rfl ?_
        refine xs_ald hw hg (by omega) (by omega) rfl ?_
        refine xs_l2i rfl ?_
        refine xs_mul rfl ?_
        refine xs_add rfl ?_
        refine xr_stp (st' := .int (Int32.ofNat 3) :: _) rfl rfl rfl rfl ?_
        refine xr_stp rfl rfl rfl rfl ?_
        refine xr_stp rfl rfl rfl rfl ?_
        refine xr_stp (st' := .int (Int32.ofNat 3) :: _) rfl rfl rfl rfl ?_
        refine xs_add rfl ?_
        refine xs_ald hw hg (by omega) (by omega) rfl ?_
        refine xs_l2i rfl ?_
        refine xs_mul rfl ?_
        refine xs_add rfl ?_
        refine xr_stp rfl rfl rfl rfl ?_
        refine xr_stp rfl rfl rfl rfl ?_
        refine xr_stp (st' := .int (Int32.ofNat 4) :: _) rfl rfl rfl rfl ?_
        refine xs_add rfl ?_
        refine xs_ald hw hg (by omega) (by omega) rfl ?_
        refine xs_l2i rfl ?_
        refine xs_add rfl ?_
        refine xr_stp (st' := .int (Int32.ofNat 9973) :: _) rfl rfl rfl rfl ?_
        refine xs_mod (by omega) (by omega) (by omega) rfl ?_
        refine xr_stp rfl rfl rfl rfl ?_
        refine xs_inc (e := 1) rfl rfl rfl rfl ?_
        refine xr_stp rfl rfl rfl rfl ?_
        exact lw_dgM d c s A R Z W0 G F hw hr hg gR hE hZ hFb b r m (k + 1) _ _ (by omega) (by omega) (Or.inr ⟨_, rfl⟩) K
theorem lw_digest2 (d c s A b : Nat) (W0 : xi_W) (G : Nat → Nat) (hw : W0[A]? = some (lw_a 1804 G)) (hg : 17 ≤ A) (hG : ∀ j, G j < 9223372036854775808) (h4 : G 4 ≤ 62) (hE : ∀ j, j < bc 63 b → ∀ z, z < 5 → G (10 + 5 * lw_row G b j + z) < 1000) (hb : b < 9223372036854775808) (r : xi_R → Prop) (K : ∀ W' c' s', c' ≤ c + 1 → s' ≤ s + 63 → W'[A]? = some (lw_a 1804 G) → fr (fun _ => False) W0 W' → r (some (.int (Int32.ofNat (lw_dig G b))), W', c', s')) : xr (d + 2) 201 0 [(0, .ref A), (1, .long (Int64.ofNat b))] [] W0 c s r := by
  have hbc := bcle 63 b
  unfold lw_dig at K
  refine xr_stp rfl rfl rfl rfl ?_
  refine xr_stp rfl rfl rfl rfl ?_
  refine xr_cps rfl rfl rfl (fun r1 K2 => lw_sorted _ _ _ A W0 G hw hg hG h4 b hb r1 (fun R W zR hr hw hf1 => K2 _ _ _ _ ?_))
  have hltA := (List.getElem?_eq_some_iff.mp ‹W0[A]? = _›).1
  have gR : 17 ≤ R := by omega
  refine xr_stp rfl rfl rfl rfl ?_
  refine xr_stp (st' := .int (Int32.ofNat 0) :: _) rfl rfl rfl rfl ?_
  refine xr_stp rfl rfl rfl rfl ?_
  refine xr_stp (st' := .int (Int32.ofNat 0) :: _) rfl rfl rfl rfl ?_
  refine xr_stp rfl rfl rfl rfl ?_
  exact lw_dgM _ _ _ A R (bc 63 b) W G (lw_row G b) hw hr hg gR hE (by omega) (lw_rowb h4 b) b r (bc 63 b) 0 0 _ (by omega) (by omega) (Or.inl rfl) (K W _ _ (by omega) (by omega) hw hf1)
