/-! the law's TEXT is read; the class's text -/
/-- the law's text as it was read, for 'played' -/
def TX0 (W : xi_W) (T : Nat) : Prop := ∃ (CL CO BO : Nat) (C : Nat → Nat), W[T]? = some (.inr (4, [.int (Int32.ofNat 2), .ref CL, .ref CO, .ref BO])) ∧ W[CL]? = some (lw_i 10 C) ∧ C 0 = 0 ∧ C 5 = 1 ∧ (687 ≤ T ∧ T < 696) ∧ 687 ≤ CL ∧ CL < 696
theorem TX0.keep {P : Nat → Prop} {W W' : xi_W} {T : Nat} (h : TX0 W T) (hf : fr P W W') (hp : ∀ i, 687 ≤ i ∧ i < 696 → ¬ P i) : TX0 W' T := by
  obtain ⟨CL, CO, BO, C, h1, h2, h3, h4, h5, h6⟩ := h
  exact ⟨CL, CO, BO, C, hf.at h1 (hp _ h5), hf.at h2 (hp _ h6), h3, h4, h5, h6⟩
theorem rd_TEXT (d c s : Nat) (W0 : xi_W) (tp : Nat → Nat) (nn : Nat) (f : Nat → Int32) (h : RDW 77 tp W0) (hE : tkE tp 0 7 77 tmk) (hb : ∀ j, j < 77 → tp j < 128) (hd : ∀ e, e < 77 → tmk e = true → tp (0 + e) = 48 + lw_dg nn f (kb 7 e - 65)) (hl : 687 ≤ W0.length) (hl2 : W0.length + 3 < 696) (r : xi_R → Prop) (K : ∀ W', (txt nn f W' W0.length ∧ TX0 W' W0.length ∧ RDW 77 tp W') → (∃ n st nx tk nu mn pa cd lw, W'[18]? = some (rO n st nx tk nu 0 4294967295 mn pa cd lw)) → (∃ L4, W'[W0.length]? = some (.inr (4, L4))) → fr rdp W0 W' → r (some (.ref W0.length), W', c + 4, s + 82)) : xr (d + 11) 29 0 [(0, .ref 18)] [] W0 c s r := by
  refine xr_cnt ?_
  refine rd_beg d c s W0 tp 77 h (nu1 := fun nu => nu) (fun nu => (TX_all tp hE hb nn f hd nu).1) _ (fun W1 nu pa lw C B hS1 hf1 => ?_)
  obtain ⟨-, t1, t2, t3, t4, t5, t6⟩ := TX_all tp hE hb nn f hd nu
  refine rd_stp d _ _ W1 tp 77 _ _ _ _ _ _ _ _ _ _ _ _ 0 hS1 (by omega) (by omega) _ (fun r1 H => rc_law d _ _ W1 tp 77 _ _ _ _ _ _ _ _ _ _ _ _ hS1 (by omega) rfl (by omega) (by show 0 + 16 ≤ 300; omega) t1 t2 t3 r1 (fun W2 hS2 hf2 => H W2 _ _ ?_))
  refine rd_stp d _ _ W2 tp 77 _ _ _ _ _ _ _ _ _ _ _ _ (0 + 1) hS2 (by omega) (by omega) _ (fun r1 H => rc_law d _ _ W2 tp 77 _ _ _ _ _ _ _ _ _ _ _ _ hS2 (by omega) rfl (by omega) (by show 16 + 16 ≤ 300; omega) t4 t5 t6 r1 (fun W3 hS3 hf3 => H W3 _ _ ?_))
  refine rd_out d _ _ W3 tp 77 _ _ _ _ _ _ _ _ _ _ _ _ (0 + 1 + 1) hS3 (by omega) rfl _ ?_
  have hf13 : fr rdp W0 W3 := hf1.tr (hf2.tr hf3)
  refine xr_cnt ?_
  have hge := hf13.1
  refine rd_fin d _ _ W3 tp 77 _ _ _ _ _ _ _ _ _ _ _ _ (0 + 1 + 1) hS3 (by omega) (by show 32 < 300; omega) (by omega) _ (fun W4 P q1 q2 q3 hL q4 hf4 => ?_)
  intro e1 e2
  have hl3 : W3.length = W0.length := by
    dsimp only at e1 e2
    omega
  rw [hl3] at q1 q2 q3 q4
  rw [hl3]
  have hS4 : RDW 77 tp W4 := hS3.rw.keep hf4 (fun i _ _ z => z) (Or.inr trivial)
  refine K W4 ⟨⟨W0.length + 1, W0.length + 2, W0.length + 3, _, _, _, by omega, by omega, by omega, q1, q3, q4, rfl, rfl, rfl, rfl, ⟨(hL 0 _ rfl).1, (hL 0 _ rfl).2, (hL 1 _ rfl).1, (hL 1 _ rfl).2, (hL 2 _ rfl).1, (hL 2 _ rfl).2, (hL 3 _ rfl).1, (hL 4 _ rfl).1, (hL 5 _ rfl).1, (hL 5 _ rfl).2, (hL 6 _ rfl).1, (hL 6 _ rfl).2, (hL 7 _ rfl).1, (hL 8 _ rfl).1, (hL 8 _ rfl).2, (hL 9 _ rfl).1, (hL 10 _ rfl).1, (hL 11 _ rfl).1, (hL 11 _ rfl).2, (hL 12 _ rfl).1, (hL 13 _ rfl).1, (hL 13 _ rfl).2, (hL 14 _ rfl).1, (hL 15 _ rfl).1⟩, ⟨(hL 16 _ rfl).1, (hL 16 _ rfl).2, (hL 17 _ rfl).1, (hL 17 _ rfl).2, (hL 18 _ rfl).1, (hL 19 _ rfl).1, (hL 19 _ rfl).2, (hL 20 _ rfl).1, (hL 21 _ rfl).1, (hL 21 _ rfl).2, (hL 22 _ rfl).1, (hL 22 _ rfl).2, (hL 23 _ rfl).1, (hL 24 _ rfl).1, (hL 25 _ rfl).1, (hL 25 _ rfl).2, (hL 26 _ rfl).1, (hL 27 _ rfl).1, (hL 27 _ rfl).2, (hL 28 _ rfl).1, (hL 29 _ rfl).1, (hL 30 _ rfl).1, (hL 30 _ rfl).2, (hL 31 _ rfl).1⟩⟩, ⟨_, _, _, _, q1, q2, rfl, rfl, by omega, by omega⟩, hS4⟩ ⟨_, _, _, _, _, _, _, _, _, hf4.at hS3.len (fun z => z)⟩ ⟨_, q1⟩ (hf13.tr2 hf4 (fun _ z => z.elim))
theorem xs_rst {d i pc a v n j : Nat} {C : String} {f : Nat → Option Nat} {o : Nat × List Value} {l : xi_L} {st : List Value} {w : xi_W} {c s : Nat} {r : xi_R → Prop} (hw : w[a]? = some (.inl (.object C, n, .inr (.inr f)))) (hv : w[v]? = some (.inr o)) (hg : 17 ≤ a) (hg2 : 17 ≤ v) (hj : j < n) (hn : n < 2147483648) (hC : C = xt_cn o.1) (hc : xt_cd i pc = some .aastore) (h : ∀ w', w'[a]? = some (.inl (.object C, n, .inr (.inr (va_up f j (some v))))) → fr (· = a) w w' → xr d i (pc + 1) l st w' c s r) : xr d i pc l (.ref v :: .int (Int32.ofNat j) :: .ref a :: st) w c s r := by
  refine xr_stp (pc' := pc + 1) (l' := l) (st' := st) (w' := w.set a (.inl (.object C, n, .inr (.inr (va_up f j (some v)))))) (c' := c) (s' := s) hc rfl rfl ?_ (h _ (xi_setat hw) (fr.set rfl))
  simp only [xi_stp, hw, hv, Nat.ble_eq.mpr hg, Nat.ble_eq.mpr hg2, n_ix hj hn, decide_eq_true hC, Bool.and_self, cond_true, n_nat (show j < 2147483648 by omega)]
theorem ru_add (d c s T tx ru dl sy : Nat) (W0 : xi_W) (RD : Nat → Option Nat) (L4 : List Value) (hR : ruo W0 tx ru dl sy) (hrd : rud W0 RD) (hT4 : W0[T]? = some (.inr (4, L4))) (hT : 687 ≤ T) (htx : tx < 4) (r : xi_R → Prop) (K : ∀ W', ruo W' (tx + 1) ru dl sy → rud W' (va_up RD tx (some T)) → fr (fun i => i = 355 ∨ i = 356) W0 W' → r (some (.int (Int32.ofNat tx)), W', c, s)) : xr d 54 0 [(0, .ref 355), (1, .ref T)] [] W0 c s r := by
  have hF : fr (fun i => i = 355 ∨ i = 356) W0 W0 := fr.rf
  unfold ruo at hR
  unfold rud at hrd
  refine xr_stp rfl rfl rfl rfl ?_
  refine xr_getfield hR rfl rfl rfl rfl ?_
  refine xr_stp (st' := .int (Int32.ofNat 4) :: _) rfl rfl rfl rfl ?_
  refine xr_j2 rfl rfl rfl rfl rfl (fun h5 => ?_) (fun h5 => ?_)
  · refine xr_stp rfl rfl rfl rfl ?_
    refine xr_getfield hR rfl rfl rfl rfl ?_
    refine xr_stp rfl rfl rfl rfl ?_
    refine xr_getfield hR rfl rfl rfl rfl ?_
    refine xr_stp rfl rfl rfl rfl ?_
    refine xs_rst hrd hT4 (by omega) (by omega) (by omega) (by omega) rfl rfl (fun W hrd hf1 => ?_)
    have hR := hf1.at hR (by omega)
    have hT4 := hf1.at hT4 (fun z => by have z : T = 356 := z; omega)
    have hF := hF.tr2 hf1 (fun i e => Or.inl (Or.inr e))
    refine xr_stp rfl rfl rfl rfl ?_
    refine xr_stp rfl rfl rfl rfl ?_
    refine xr_getfield hR rfl rfl rfl rfl ?_
    refine xr_stp (st' := .int (Int32.ofNat 1) :: _) rfl rfl rfl rfl ?_
    refine xs_add rfl ?_
    refine xr_putk hR (by omega) rfl rfl rfl rfl rfl rfl (fun W hR hf1 => ?_)
    have hT4 := hf1.at hT4 (fun z => by have z : T = 355 := z; omega)
    have hrd := hf1.at hrd (by omega)
    have hF := hF.tr2 hf1 (fun i e => Or.inl (Or.inl e))
    refine xr_stp rfl rfl rfl rfl ?_
    refine xr_getfield hR rfl rfl rfl rfl ?_
    refine xr_stp (st' := .int (Int32.ofNat 1) :: _) rfl rfl rfl rfl ?_
    refine xs_sub (by omega) rfl ?_
    rw [show tx + 1 - 1 = tx from rfl]
    exact xr_ret rfl rfl (K W hR hrd hF)
  · have z5 := nf_lt (by omega) (by omega) h5
    exact (by omega)
theorem cl_text (d c s T tx ru dl sy k1 k2 : Nat) (W0 : xi_W) (RD : Nat → Option Nat) (lf lp : Int32) (hO : W0[17]? = some (.inr (6, [.ref 18, .int lf, .int lp, .ref 23, .ref 33, .ref 43, .ref 355, .ref 360, .ref 370, .ref 682]))) (hR : ruo W0 tx ru dl sy) (hrd : rud W0 RD) (hl : 687 ≤ W0.length) (hT : 687 ≤ T) (htx : tx < 4) (n0 st0 nx0 tk0 nu0 fa0 pl0 mn0 pa0 cd0 lw0 : Nat) (hRd : W0[18]? = some (rO n0 st0 nx0 tk0 nu0 fa0 pl0 mn0 pa0 cd0 lw0)) (Φ : xi_W → Prop) (H : ∀ r1 : xi_R → Prop, (∀ W', Φ W' → (∃ n st nx tk nu mn pa cd lw, W'[18]? = some (rO n st nx tk nu 0 4294967295 mn pa cd lw)) → (∃ L4, W'[T]? = some (.inr (4, L4))) → fr rdp W0 W' → r1 (some (.ref T), W', 0 + k1, 0 + k2)) → xr (d + 11) 29 0 [(0, .ref 18)] [] W0 0 0 r1) (r : xi_R → Prop) (K : ∀ W1 W', Φ W1 → fr rdp W0 W1 → fr (fun i => i = 17 ∨ i = 18 ∨ i = 355 ∨ i = 356) W1 W' → W'[17]? = some (.inr (6, [.ref 18, .int (Int32.ofNat 0), .int (Int32.ofNat 4294967295), .ref 23, .ref 33, .ref 43, .ref 355, .ref 360, .ref 370, .ref 682])) → (∃ st nx tk nu fa pl mn pa cd lw, W'[18]? = some (rO 0 st nx tk nu fa pl mn pa cd lw)) → ruo W' (tx + 1) ru dl sy → rud W' (va_up RD tx (some T)) → r (some (.int (Int32.ofNat tx)), W', c + k1, s + k2)) : xr (d + 12) 98 0 [(0, .ref 17)] [] W0 c s r := by
  unfold ruo at hR
  refine xr_stp rfl rfl rfl rfl ?_
  refine xr_getfield hO rfl rfl rfl rfl ?_
  refine xr_getfield hR rfl rfl rfl rfl ?_
  refine xr_stp (st' := .int (Int32.ofNat 4) :: _) rfl rfl rfl rfl ?_
  refine xr_j2 rfl rfl rfl rfl rfl (fun h8 => ?_) (fun h8 => ?_)
  · refine xr_stp rfl rfl rfl rfl ?_
    refine xr_getfield hO rfl rfl rfl rfl ?_
    refine xr_vcps hRd rfl rfl rfl rfl rfl rfl (fun r1 K2 => H r1 (fun W1 hΦ hx hy hf0 => K2 _ _ _ _ ?_))
    obtain ⟨n, st, nx, tk, nu, mn, pa, cd, lw, hx⟩ := hx
    obtain ⟨L4, hT4⟩ := hy
    clear hRd
    have hRd := hx
    have hO := hf0.at hO (by unfold rdp; omega)
    have hR := hf0.at hR (by unfold rdp; omega)
    have hrd : W1[356]? = _ := hf0.at hrd (by unfold rdp; omega)
    have hF : fr (fun i => i = 17 ∨ i = 18 ∨ i = 355 ∨ i = 356) W1 W1 := fr.rf
    refine xr_stp rfl rfl rfl rfl ?_
    refine xr_stp rfl rfl rfl rfl ?_
    refine xr_getfield hO rfl rfl rfl rfl ?_
    refine xr_stp (st' := .int (Int32.ofNat 0) :: _) rfl rfl rfl rfl ?_
    refine xr_putk hRd (by omega) rfl rfl rfl rfl rfl rfl (fun W hRd hf1 => ?_)
    have hR := hf1.at hR (by omega)
    have hT4 := hf1.at hT4 (fun z => by have z : T = 18 := z; omega)
    have hrd := hf1.at hrd (by omega)
    have hO := hf1.at hO (by omega)
    have hF := hF.tr2 hf1 (fun i e => Or.inl (Or.inr (Or.inl e)))
    refine xr_stp rfl rfl rfl rfl ?_
    refine xr_stp rfl rfl rfl rfl ?_
    refine xr_getfield hO rfl rfl rfl rfl ?_
    refine xr_getfield hRd rfl rfl rfl rfl ?_
    refine xr_putk hO (by omega) rfl rfl rfl rfl rfl rfl (fun W hO hf1 => ?_)
    have hR := hf1.at hR (by omega)
    have hT4 := hf1.at hT4 (fun z => by have z : T = 17 := z; omega)
    have hrd := hf1.at hrd (by omega)
    have hRd := hf1.at hRd (by omega)
    have hF := hF.tr2 hf1 (fun i e => Or.inl (Or.inl e))
    refine xr_stp rfl rfl rfl rfl ?_
    refine xr_stp rfl rfl rfl rfl ?_
    refine xr_getfield hO rfl rfl rfl rfl ?_
    refine xr_getfield hRd rfl rfl rfl rfl ?_
    refine xr_putk hO (by omega) rfl rfl rfl rfl rfl rfl (fun W hO hf1 => ?_)
    have hR := hf1.at hR (by omega)
    have hT4 := hf1.at hT4 (fun z => by have z : T = 17 := z; omega)
    have hrd := hf1.at hrd (by omega)
    have hRd := hf1.at hRd (by omega)
    have hF := hF.tr2 hf1 (fun i e => Or.inl (Or.inl e))
    refine xr_stp rfl rfl rfl rfl ?_
    refine xr_stp rfl rfl rfl rfl ?_
    refine xr_stp rfl rfl rfl rfl ?_
    refine xr_getfield hO rfl rfl rfl rfl ?_
    refine xr_stp rfl rfl rfl rfl ?_
    refine xr_vcps hR rfl rfl rfl rfl rfl rfl (fun r1 K2 => ru_add _ _ _ T tx ru dl sy _ RD L4 hR hrd hT4 hT htx r1 (fun W9 hR9 hrd9 hf9 => K2 _ _ _ _ ?_))
    rw [show c + k1 = c + (0 + k1) + 0 by omega, show s + k2 = s + (0 + k2) + 0 by omega] at K
    exact xr_ret rfl rfl (K W1 W9 hΦ hf0 (hF.tr (hf9.weak (fun i _ z => Or.inr (Or.inr z)))) (hf9.at hO (fun z => by have z : 17 = 355 ∨ 17 = 356 := z; omega)) ⟨_, _, _, _, _, _, _, _, _, _, hf9.at hRd (fun z => by have z : 18 = 355 ∨ 18 = 356 := z; omega)⟩ hR9 hrd9)
  · have z8 := nf_lt (by omega) (by omega) h8
    exact (by omega)
