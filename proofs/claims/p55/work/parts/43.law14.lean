/-! the law: drawn events -/
theorem lw_J.ok {N : Nat} {G : Nat → Nat} (h : lw_J N G) (hN : N < 1000000) : lw_ok G := ⟨h.b63, h.e, h.k, fun t ht => ⟨(h.c t ht).1, (h.c t ht).2.1, by have := (h.c t ht).2.2; omega⟩⟩
theorem lw_J.rc {N : Nat} (F : Nat → Nat) (hF : ∀ k, F k < 4611686018427387904) (a : Nat) : ∀ (m k : Nat) (G : Nat → Nat), lw_J N G → 5 < a + k → a + k + m ≤ 338 → lw_J N (lw_rc F a m k G)
  | 0, _, _, h, _, _ => h
  | m + 1, k, G, h, h1, h2 => lw_J.rc F hF a m (k + 1) _ (h.up _ _ (hF k) (by omega)) (by omega) (by omega)
theorem lw_J.four {N : Nat} {G : Nat → Nat} (h : lw_J N G) (v : Nat) (hv : v ≤ 62) : lw_J N (xn_u G 4 v) := by
  have o : ∀ j, j ≠ 4 → xn_u G 4 v j = G j := fun j hj => xn_un _ _ hj
  have hm := h.m
  unfold lw_J
  refine ⟨lw_ub h.b (by omega), by rw [o _ (by omega)]; exact h.x, by rw [xn_ue]; exact hv, by rw [o _ (by omega)]; exact h.d0, by rw [o _ (by omega)]; exact h.d1, by rw [o _ (by omega)]; exact h.n0, by rw [o _ (by omega)]; exact h.n2, by rw [o _ (by omega)]; exact h.n3, by rw [o _ (by omega)]; exact h.m, by rw [o _ (by omega)]; exact h.k, fun t ht => by rw [o _ (by omega), o _ (by omega)]; exact h.c t ht, fun u t hu ht => by rw [o _ (by omega), o _ (by omega)]; exact h.a u t hu ht, fun i hi => ?_⟩
  rw [o _ (by omega)] at hi
  exact (h.f i hi).of (fun x hx => o _ (by omega)) (fun t ht => by rw [o _ (by omega)]; exact Nat.le_refl _)
theorem lw_of62 {G : Nat → Nat} {b q f : Nat} (h : G 4 ≤ 62) : lw_of G b q f (G 4) 0 0 < 4611686018427387904 := lw_of63 h
theorem lw_J.se {N : Nat} {G : Nat → Nat} (h : lw_J N G) (t q f v : Nat) (ht : t < 4) (hq : q < 4) (hf : f < 3) (hv : v < 100) (h4 : G 4 ≤ 61) (hN : N + 1 < 1000000) : lw_J (N + 1) (lw_se G t q f v) ∧ lw_se G t q f v 4 = G 4 + 1 := by
  have hn := lw_nxle G t (G 4) 0 1
  have h1 : lw_J N (lw_s1 G t q f v) := lw_J.rc _ (lw_roe t _ q f v (by omega) (by omega) (by omega) (by omega) (by omega)) _ 5 0 G h (by omega) (by omega)
  have e4 : lw_s1 G t q f v 4 = G 4 := lw_s1o G t q f v h.e (by omega)
  have h3 : lw_J N (lw_s3 G t q f v) := h1.four _ (by omega)
  have p4 : 1 * 2 ^ G 4 < 4611686018427387904 := by
    rw [Nat.one_mul]
    exact Nat.lt_of_le_of_lt (Nat.pow_le_pow_right (by omega) h4) (by decide)
  have p2 : lw_s2 G t q f v < 4611686018427387904 := Nat.or_lt_two_pow (n := 62) (lw_of62 h1.e) p4
  have hc := h3.c t ht
  have e3 : lw_s3 G t q f v 4 = G 4 + 1 := by
    unfold lw_s3
    rw [xn_ue, e4]
  refine ⟨(h3.take t _ _ ht p4 p2 hN).ts 0 t q (by omega) (by omega) (by omega), ?_⟩
  unfold lw_se lw_s4
  rw [lw_tso _ _ _ _ (by omega), lw_tko _ t _ _ ht (by omega) hc.2.1 hc.1, e3]
theorem lw_J.cl {N : Nat} {G : Nat → Nat} (h : lw_J N G) (t q f : Nat) (ht : t < 4) (hq : q < 4) (hN : N + 1 < 1000000) : lw_J (N + 1) (lw_cl G t q f) ∧ lw_cl G t q f 4 = G 4 := by
  have hc := h.c t ht
  refine ⟨(h.take t 0 _ ht (by omega) (lw_of62 h.e) hN).ts _ t q (by split <;> omega) (by omega) (by omega), ?_⟩
  unfold lw_cl
  rw [lw_tso _ _ _ _ (by omega), lw_tko _ t _ _ ht (by omega) hc.2.1 hc.1]
def lw_clr (G : Nat → Nat) (t q f : Nat) : Nat → Nat := if lw_cx G t q f = 0 then G else lw_cl G t q f
def lw_snd (nn : Nat) (f : Nat → Int32) (q : Nat) (G : Nat → Nat) (u t : Nat) : Nat → Nat := if lw_be G u t = 0 then G else lw_sn nn f G q u t
theorem lw_J.clr {N : Nat} {G : Nat → Nat} (h : lw_J N G) (t q f : Nat) (ht : t < 4) (hq : q < 4) (hN : N + 1 < 1000000) : lw_J (N + 1) (lw_clr G t q f) ∧ lw_clr G t q f 4 = G 4 := by
  unfold lw_clr
  split
  · exact ⟨h.mono (by omega), rfl⟩
  · exact h.cl t q f ht hq hN
theorem lw_J.snd {N : Nat} {G : Nat → Nat} (h : lw_J N G) (nn : Nat) (f : Nat → Int32) (q u t : Nat) (hu : u < 4) (ht : t < 4) (hN : N + 1 < 1000000) : lw_J (N + 1) (lw_snd nn f q G u t) ∧ lw_snd nn f q G u t 4 = G 4 := by
  unfold lw_snd
  split
  · exact ⟨h.mono (by omega), rfl⟩
  · exact ⟨h.sn nn f q u t hu ht hN, lw_poo nn f G _ _ _ _ _ _ _ (by omega) (by omega) (by omega) (by omega)⟩
theorem lw_clearsR (d c s A : Nat) (W0 : xi_W) (G : Nat → Nat) (hw : W0[A]? = some (lw_a 1804 G)) (hg : 17 ≤ A) (hok : lw_ok G) (t q f : Nat) (ht : t < 4) (hq : q < 4) (hf : f < 3 ∨ f = 4294967295) (r : xi_R → Prop) (k : ∀ W' v, W'[A]? = some (lw_a 1804 (lw_clr G t q f)) → fr (· = A) W0 W' → r (some (.int v), W', c, s)) : xr (d + 2) 191 0 [(0, .ref A), (1, .int (Int32.ofNat t)), (2, .int (Int32.ofNat q)), (3, .int (Int32.ofNat f))] [] W0 c s r := by
  unfold lw_clr at k
  by_cases h0 : lw_cx G t q f = 0
  · rw [if_pos h0] at k
    exact lw_clears0 d c s A W0 G hw hg hok t q f ht hq hf h0 r (k _ _ hw fr.rf)
  · rw [if_neg h0] at k
    exact lw_clears d c s A W0 G hw hg hok t q f ht hq hf h0 r (fun W' h1 h2 => k _ _ h1 h2)
theorem lw_sendsR (d c s A S n : Nat) (W0 : xi_W) (G : Nat → Nat) (f : Nat → Int32) (hw : W0[A]? = some (lw_a 1804 G)) (hg : 17 ≤ A) (hs : W0[S]? = some (lw_s n f)) (hn : n < 2147483648) (hSA : S ≠ A) (N : Nat) (hJ : lw_J N G) (hN : N < 1000000) (q u t : Nat) (hq : q < 2) (hu : u < 4) (ht : t < 4) (r : xi_R → Prop) (K : ∀ W' v c' s', c' ≤ c + 2 → s' ≤ s + 10 → W'[A]? = some (lw_a 1804 (lw_snd n f q G u t)) → fr (· = A) W0 W' → r (some (.int v), W', c', s')) : xr (d + 4) 194 0 [(0, .ref S), (1, .int (Int32.ofNat q)), (2, .ref A), (3, .int (Int32.ofNat u)), (4, .int (Int32.ofNat t))] [] W0 c s r := by
  have hc := hJ.c u hu
  have hx := hJ.x
  unfold lw_snd at K
  by_cases h0 : lw_be G u t = 0
  · rw [if_pos h0] at K
    exact lw_sends0 d c s A S n W0 G f hw hg hs hn hSA q u t hu ht (hJ.a u t hu ht) h0 r (fun W' h1 h2 => K _ _ _ _ (by omega) (by omega) h1 h2)
  · rw [if_neg h0] at K
    exact lw_sends d c s A S n W0 G f hw hg hs hn hSA hJ.b63 q u t hq hu ht (hJ.a u t hu ht) hc.2.1 (by omega) h0 (by omega) hJ.m hJ.k r (fun W' c' s' h1 h2 h3 h4 => K _ _ _ _ h1 h2 h3 h4)
/-- a drawn event -/
def lw_ev (nn : Nat) (f : Nat → Int32) (q : Nat) (G : Nat → Nat) : Nat → Nat := if G 1 % 8 < 3 then lw_se (lw_dr G) (G 1 / 8 % 4) (G 1 / 32 % 4) (G 1 % 3) (G 1 % 100) else if G 1 % 8 = 3 then lw_clr (lw_dr G) (G 1 / 8 % 4) (G 1 / 32 % 4) 4294967295 else if G 1 % 8 < 6 then lw_snd nn f q (lw_dr G) (G 1 / 8 % 4) ((G 1 / 8 % 4 + 1 + G 1 / 32 % 3) % 4) else lw_ti nn f q 24 (lw_dr G)
def lw_yr (nn : Nat) (f : Nat → Int32) (q : Nat) : Nat → (Nat → Nat) → (Nat → Nat)
  | 0, G => G
  | m + 1, G => lw_yr nn f q m (lw_ev nn f q G)
theorem lw_J.dr {N : Nat} {G : Nat → Nat} (h : lw_J N G) (hN : N < 1000000) : lw_J N (lw_dr G) := h.low 1 _ (by omega) (fun _ => Nat.mod_lt _ (by omega)) (fun e => absurd rfl e) (Nat.le_refl _) hN
theorem lw_dr4 (G : Nat → Nat) : lw_dr G 4 = G 4 := xn_un _ _ (by omega)
theorem lw_J.ev {N : Nat} {G : Nat → Nat} (h : lw_J N G) (nn : Nat) (f : Nat → Int32) (q : Nat) (h4 : G 4 ≤ 61) (hN : N + 65 < 1000000) : lw_J (N + 65) (lw_ev nn f q G) ∧ lw_ev nn f q G 4 ≤ G 4 + 1 := by
  have h1 := h.dr (by omega)
  have e4 := lw_dr4 G
  unfold lw_ev
  split
  · have := h1.se (G 1 / 8 % 4) (G 1 / 32 % 4) (G 1 % 3) (G 1 % 100) (by omega) (by omega) (by omega) (by omega) (by omega) (by omega)
    exact ⟨this.1.mono (by omega), by omega⟩
  · split
    · have := h1.clr (G 1 / 8 % 4) (G 1 / 32 % 4) 4294967295 (by omega) (by omega) (by omega)
      exact ⟨this.1.mono (by omega), by omega⟩
    · split
      · have := h1.snd nn f q (G 1 / 8 % 4) ((G 1 / 8 % 4 + 1 + G 1 / 32 % 3) % 4) (by omega) (by omega) (by omega)
        exact ⟨this.1.mono (by omega), by omega⟩
      · have := lw_ti4 h1 nn f q 24 (by omega)
        exact ⟨(h1.ti nn f q 24 (by omega)).mono (by omega), by omega⟩
def lw_yL (S q A sd cnt k : Nat) (L : xi_L) : Prop := (∃ v, L = [(6, .int (Int32.ofNat k)), (5, .int v), (0, .ref S), (1, .int (Int32.ofNat q)), (2, .ref A), (3, .int (Int32.ofNat sd)), (4, .int (Int32.ofNat cnt))]) ∨ (∃ v a b g e h, L = [(6, .int (Int32.ofNat k)), (5, .int v), (11, .int a), (10, .int b), (9, .int g), (8, .int e), (7, .int h), (0, .ref S), (1, .int (Int32.ofNat q)), (2, .ref A), (3, .int (Int32.ofNat sd)), (4, .int (Int32.ofNat cnt))])
theorem lw_evB (d A S nn : Nat) (f : Nat → Int32) (hg : 17 ≤ A) (hn : nn < 2147483648) (hSA : S ≠ A) (q : Nat) (hq : q < 2) (r : xi_R → Prop) (sd cnt k N c s : Nat) (v e : Int32) (G0 : Nat → Nat) (W0 : xi_W) (hJ : lw_J N (lw_dr G0)) (h4 : G0 4 ≤ 61) (hN : N + 65 < 1000000) (hw : W0[A]? = some (lw_a 1804 (lw_dr G0))) (hs : W0[S]? = some (lw_s nn f)) (K : ∀ L' W' c' s', c' ≤ c + 80 → s' ≤ s + 544 → lw_yL S q A sd cnt (k + 1) L' → W'[A]? = some (lw_a 1804 (lw_ev nn f q G0)) → fr (· = A) W0 W' → xr (d + 6) 198 19 L' [] W' c' s' r) (hx : G0 1 < 31139) : xr (d + 6) 198 65 [(11, .int (Int32.ofNat (G0 1 / 32 % 4))), (10, .int (Int32.ofNat (G0 1 % 8))), (9, .int (Int32.ofNat (G0 1 / 8 % 4))), (8, .int e), (7, .int (Int32.ofNat (G0 1))), (6, .int (Int32.ofNat k)), (5, .int v), (0, .ref S), (1, .int (Int32.ofNat q)), (2, .ref A), (3, .int (Int32.ofNat sd)), (4, .int (Int32.ofNat cnt))] [] W0 c s r := by
  have e4 := lw_dr4 G0
  have hF : fr (· = A) W0 W0 := fr.rf
  unfold lw_ev at K
  refine xr_stp rfl rfl rfl rfl ?_
  refine xr_stp rfl rfl rfl rfl ?_
  refine xr_stp (st' := .int (Int32.ofNat 3) :: _) rfl rfl rfl rfl ?_
  refine xr_j2 rfl rfl rfl rfl rfl (fun h70 => ?_) (fun h70 => ?_)
  · have e70 := nt_ge (by omega) (by omega) h70
    rw [if_neg (by omega)] at K
    refine xr_stp rfl rfl rfl rfl ?_
    refine xr_stp (st' := .int (Int32.ofNat 3) :: _) rfl rfl rfl rfl ?_
    refine xr_j2 rfl rfl rfl rfl rfl (fun h96 => ?_) (fun h96 => ?_)
    · have e96 := nt_ne h96
      rw [if_neg e96] at K
      refine xr_stp rfl rfl rfl rfl ?_
      refine xr_stp (st' := .int (Int32.ofNat 6) :: _) rfl rfl rfl rfl ?_
      refine xr_j2 rfl rfl rfl rfl rfl (fun h115 => ?_) (fun h115 => ?_)
      · have e115 := nt_ge (by omega) (by omega) h115
        rw [if_neg (by omega)] at K
        refine xr_stp rfl rfl rfl rfl ?_
        refine xr_stp rfl rfl rfl rfl ?_
        refine xr_stp rfl rfl rfl rfl ?_
        refine xr_cps rfl rfl rfl (fun r1 K2 => lw_tick _ A S nn f hg hn hSA q hq r1 24 N _ _ (lw_dr G0) W0 hJ (by omega) (lw_me24 hJ nn f q (by omega)) hw hs (fun W c2 s2 q1 q2 hw hf1 => K2 _ _ _ _ ?_))
        have hF := hF.tr hf1
        refine xr_stp rfl rfl rfl rfl ?_
        refine xr_stp rfl rfl rfl rfl ?_
        refine xs_inc (e := 1) rfl rfl rfl rfl ?_
        refine xr_stp rfl rfl rfl rfl ?_
        exact K _ _ _ _ (by omega) (by omega) (Or.inr ⟨_, _, _, _, _, _, rfl⟩) hw hF
      · have e115 := nf_ge (by omega) (by omega) h115
        rw [if_pos e115] at K
        refine xr_stp rfl rfl rfl rfl ?_
        refine xr_stp rfl rfl rfl rfl ?_
        refine xr_stp rfl rfl rfl rfl ?_
        refine xr_stp rfl rfl rfl rfl ?_
        refine xr_stp rfl rfl rfl rfl ?_
        refine xr_stp (st' := .int (Int32.ofNat 1) :: _) rfl rfl rfl rfl ?_
        refine xs_add rfl ?_
        refine xr_stp rfl rfl rfl rfl ?_
        refine xr_stp (st' := .int (Int32.ofNat 32) :: _) rfl rfl rfl rfl ?_
        refine xs_div (by omega) (by omega) (by omega) rfl ?_
        refine xr_stp (st' := .int (Int32.ofNat 3) :: _) rfl rfl rfl rfl ?_
        refine xs_mod (by omega) (by omega) (by omega) rfl ?_
        refine xs_add rfl ?_
        refine xr_stp (st' := .int (Int32.ofNat 4) :: _) rfl rfl rfl rfl ?_
        refine xs_mod (by omega) (by omega) (by omega) rfl ?_
        refine xr_cps rfl rfl rfl (fun r1 K2 => lw_sendsR _ _ _ A S nn W0 (lw_dr G0) f hw hg hs hn hSA N hJ (by omega) q (G0 1 / 8 % 4) ((G0 1 / 8 % 4 + 1 + G0 1 / 32 % 3) % 4) hq (by omega) (by omega) r1 (fun W v2 c2 s2 q1 q2 hw hf1 => K2 _ _ _ _ ?_))
        have hF := hF.tr hf1
        refine xr_stp rfl rfl rfl rfl ?_
        refine xr_stp rfl rfl rfl rfl ?_
        refine xr_stp rfl rfl rfl rfl ?_
        refine xs_inc (e := 1) rfl rfl rfl rfl ?_
        refine xr_stp rfl rfl rfl rfl ?_
        exact K _ _ _ _ (by omega) (by omega) (Or.inr ⟨_, _, _, _, _, _, rfl⟩) hw hF
    · have e96 := nf_ne (by omega) (by omega) h96
      rw [if_pos e96] at K
      refine xr_stp rfl rfl rfl rfl ?_
      refine xr_stp rfl rfl rfl rfl ?_
      refine xr_stp rfl rfl rfl rfl ?_
      refine xr_stp (st' := .int (Int32.ofNat 4294967295) :: _) rfl rfl rfl rfl ?_
      refine xr_cps rfl rfl rfl (fun r1 K2 => lw_clearsR _ _ _ A W0 (lw_dr G0) hw hg (hJ.ok (by omega)) (G0 1 / 8 % 4) (G0 1 / 32 % 4) 4294967295 (by omega) (by omega) (Or.inr rfl) r1 (fun W v2 hw hf1 => K2 _ _ _ _ ?_))
      have hF := hF.tr hf1
      refine xr_stp rfl rfl rfl rfl ?_
      refine xr_stp rfl rfl rfl rfl ?_
      refine xr_stp rfl rfl rfl rfl ?_
      refine xs_inc (e := 1) rfl rfl rfl rfl ?_
      refine xr_stp rfl rfl rfl rfl ?_
      exact K _ _ _ _ (by omega) (by omega) (Or.inr ⟨_, _, _, _, _, _, rfl⟩) hw hF
  · have e70 := nf_ge (by omega) (by omega) h70
    rw [if_pos e70] at K
    refine xr_stp rfl rfl rfl rfl ?_
    refine xr_stp rfl rfl rfl rfl ?_
    refine xr_stp rfl rfl rfl rfl ?_
    refine xr_stp rfl rfl rfl rfl ?_
    refine xr_stp (st' := .int (Int32.ofNat 3) :: _) rfl rfl rfl rfl ?_
    refine xs_mod (by omega) (by omega) (by omega) rfl ?_
    refine xr_stp rfl rfl rfl rfl ?_
    refine xr_stp (st' := .int (Int32.ofNat 100) :: _) rfl rfl rfl rfl ?_
    refine xs_mod (by omega) (by omega) (by omega) rfl ?_
    refine xr_cps rfl rfl rfl (fun r1 K2 => lw_sets _ _ _ A W0 (lw_dr G0) hw hg (hJ.ok (by omega)) (G0 1 / 8 % 4) (G0 1 / 32 % 4) (G0 1 % 3) (G0 1 % 100) (by omega) (by omega) (by omega) (by omega) r1 (fun W hw hf1 => K2 _ _ _ _ ?_))
    have hF := hF.tr hf1
    refine xr_stp rfl rfl rfl rfl ?_
    refine xr_stp rfl rfl rfl rfl ?_
    refine xr_stp rfl rfl rfl rfl ?_
    refine xs_inc (e := 1) rfl rfl rfl rfl ?_
    refine xr_stp rfl rfl rfl rfl ?_
    exact K _ _ _ _ (by omega) (by omega) (Or.inr ⟨_, _, _, _, _, _, rfl⟩) hw hF
theorem lw_yrL (d A S nn : Nat) (f : Nat → Int32) (hg : 17 ≤ A) (hn : nn < 2147483648) (hSA : S ≠ A) (q : Nat) (hq : q < 2) (r : xi_R → Prop) (sd cnt : Nat) (hcnt : cnt < 100) : ∀ (m k N c s : Nat) (G : Nat → Nat) (W0 : xi_W) (L : xi_L), k + m = cnt → lw_J N G → G 4 + m ≤ 62 → N + 65 * m < 1000000 → lw_yL S q A sd cnt k L → W0[A]? = some (lw_a 1804 G) → W0[S]? = some (lw_s nn f) → (∀ W' c' s', c' ≤ c + 80 * m → s' ≤ s + 544 * m → W'[A]? = some (lw_a 1804 (lw_yr nn f q m G)) → fr (· = A) W0 W' → r (some (.int (Int32.ofNat (lw_yr nn f q m G 0))), W', c', s')) → xr (d + 6) 198 19 L [] W0 c s r
  | 0, k, N, c, s, G, W0, L, hm, hJ, h4, hN, hL, hw, hs, K => by
    obtain rfl : k = cnt := by omega
    rcases hL with ⟨_, rfl⟩ | ⟨_, _, _, _, _, _, rfl⟩
    all_goals
      refine xr_stp rfl rfl rfl rfl ?_
      refine xr_stp rfl rfl rfl rfl ?_
      refine xr_j2 rfl rfl rfl rfl rfl (fun h23 => ?_) (fun h23 => ?_)
      · refine xr_stp rfl rfl rfl rfl ?_
        refine xr_stp (st' := .int (Int32.ofNat 0) :: _) rfl rfl rfl rfl ?_
        refine xs_ald hw hg (by omega) (by omega) rfl ?_
        refine xs_l2i rfl ?_
        exact xr_ret rfl rfl (K _ _ _ (by omega) (by omega) hw fr.rf)
      · exact absurd (nf_ge (by omega) (by omega) h23) (by omega)
  | m + 1, k, N, c, s, G, W0, L, hm, hJ, h4, hN, hL, hw, hs, K => by
    have hF : fr (· = A) W0 W0 := fr.rf
    have hx := hJ.x
    have he := hJ.ev nn f q (by omega) (by omega)
    unfold lw_yr at K
    rcases hL with ⟨_, rfl⟩ | ⟨_, _, _, _, _, _, rfl⟩
    all_goals
      refine xr_stp rfl rfl rfl rfl ?_
      refine xr_stp rfl rfl rfl rfl ?_
      refine xr_j2 rfl rfl rfl rfl rfl (fun h23 => ?_) (fun h23 => ?_)
      · exact absurd (nt_ge (by omega) (by omega) h23) (by omega)
      · refine xr_stp rfl rfl rfl rfl ?_
        refine xr_stp (st' := .int (Int32.ofNat 1) :: _) rfl rfl rfl rfl ?_
        refine xs_ald hw hg (by omega) (by omega) rfl ?_
        refine xs_l2i rfl ?_
        refine xr_stp rfl rfl rfl rfl ?_
        refine xr_stp rfl rfl rfl rfl ?_
        refine xr_stp (st' := .int (Int32.ofNat 10) :: _) rfl rfl rfl rfl ?_
        refine xr_cps rfl rfl rfl (fun r1 K2 => lw_draw _ _ _ A W0 G hw hg 10 (by omega) (by omega) (by omega) r1 (fun W hw hf1 => K2 _ _ _ _ ?_))
        have hs := hf1.at hs hSA
        refine xr_stp rfl rfl rfl rfl ?_
        refine xr_stp rfl rfl rfl rfl ?_
        refine xr_stp (st' := .int (Int32.ofNat 8) :: _) rfl rfl rfl rfl ?_
        refine xs_div (by omega) (by omega) (by omega) rfl ?_
        refine xr_stp (st' := .int (Int32.ofNat 4) :: _) rfl rfl rfl rfl ?_
        refine xs_mod (by omega) (by omega) (by omega) rfl ?_
        refine xr_stp rfl rfl rfl rfl ?_
        refine xr_stp rfl rfl rfl rfl ?_
        refine xr_stp (st' := .int (Int32.ofNat 8) :: _) rfl rfl rfl rfl ?_
        refine xs_mod (by omega) (by omega) (by omega) rfl ?_
        refine xr_stp rfl rfl rfl rfl ?_
        refine xr_stp rfl rfl rfl rfl ?_
        refine xr_stp (st' := .int (Int32.ofNat 32) :: _) rfl rfl rfl rfl ?_
        refine xs_div (by omega) (by omega) (by omega) rfl ?_
        refine xr_stp (st' := .int (Int32.ofNat 4) :: _) rfl rfl rfl rfl ?_
        refine xs_mod (by omega) (by omega) (by omega) rfl ?_
        refine xr_stp rfl rfl rfl rfl ?_
        refine lw_evB d A S nn f hg hn hSA q hq r sd cnt k N _ _ _ _ G W (hJ.dr (by omega)) (by omega) (by omega) hw hs (fun L2 W2 c2 s2 q1 q2 q3 q4 q5 => ?_) hx
        exact lw_yrL d A S nn f hg hn hSA q hq r sd cnt hcnt m (k + 1) (N + 65) c2 s2 _ W2 L2 (by omega) he.1 (by omega) (by omega) q3 q4 (q5.at hs hSA) (fun W3 c3 s3 y1 y2 y3 y4 => K W3 c3 s3 (by omega) (by omega) y3 (hf1.tr (q5.tr y4)))
/-- drawn events -/
def lw_ys (nn : Nat) (f : Nat → Int32) (q : Nat) (G : Nat → Nat) (sd cnt : Nat) : Nat → Nat := lw_yr nn f q cnt (xn_u G 1 (2 * sd + 509))
theorem lw_years (d A S nn : Nat) (f : Nat → Int32) (hg : 17 ≤ A) (hn : nn < 2147483648) (hSA : S ≠ A) (q : Nat) (hq : q < 2) (r : xi_R → Prop) (sd cnt : Nat) (hsd : sd ≤ 10000) (hcnt : cnt < 100) (N c s : Nat) (G : Nat → Nat) (W0 : xi_W) (hJ : lw_J N G) (h4 : G 4 + cnt ≤ 62) (hN : N + 65 * cnt < 1000000) (hw : W0[A]? = some (lw_a 1804 G)) (hs : W0[S]? = some (lw_s nn f)) (K : ∀ W' c' s', c' ≤ c + 80 * cnt → s' ≤ s + 544 * cnt → W'[A]? = some (lw_a 1804 (lw_ys nn f q G sd cnt)) → fr (· = A) W0 W' → r (some (.int (Int32.ofNat (lw_ys nn f q G sd cnt 0))), W', c', s')) : xr (d + 6) 198 0 [(0, .ref S), (1, .int (Int32.ofNat q)), (2, .ref A), (3, .int (Int32.ofNat sd)), (4, .int (Int32.ofNat cnt))] [] W0 c s r := by
  have hF : fr (· = A) W0 W0 := fr.rf
  have hJ2 : lw_J N (xn_u G 1 (2 * sd + 509)) := hJ.low 1 _ (by omega) (fun _ => by omega) (fun e => absurd rfl e) (Nat.le_refl _) (by omega)
  refine xr_stp rfl rfl rfl rfl ?_
  refine xr_stp (st' := .int (Int32.ofNat 1) :: _) rfl rfl rfl rfl ?_
  refine xr_stp (st' := .long (Int64.ofNat 2) :: _) rfl rfl rfl rfl ?_
  refine xr_stp rfl rfl rfl rfl ?_
  refine xs_i2l (by omega) rfl ?_
  refine xs_lmul rfl ?_
  refine xr_stp (st' := .long (Int64.ofNat 509) :: _) rfl rfl rfl rfl ?_
  refine xs_ladd rfl ?_
  refine xs_astk hw hg (by omega) (by omega) rfl (fun W hw hf1 => ?_)
  have hs := hf1.at hs hSA
  have hF := hF.tr2 hf1 (fun _ e => Or.inl e)
  refine xr_stp (st' := .int (Int32.ofNat 0) :: _) rfl rfl rfl rfl ?_
  refine xr_stp rfl rfl rfl rfl ?_
  refine xr_stp (st' := .int (Int32.ofNat 0) :: _) rfl rfl rfl rfl ?_
  refine xr_stp rfl rfl rfl rfl ?_
  exact lw_yrL d A S nn f hg hn hSA q hq r sd cnt hcnt cnt 0 N _ _ _ W _ (by omega) hJ2 (by rw [xn_un _ _ (by omega)]; exact h4) hN (Or.inl ⟨_, rfl⟩) hw hs (fun W3 c3 s3 y1 y2 y3 y4 => K W3 c3 s3 y1 y2 y3 (hF.tr y4))
