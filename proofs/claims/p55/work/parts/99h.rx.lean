/-! the Reader reads: begin, a clause more, the end -/
/-- the Reader, whatever it read before -/
def RDW (n : Nat) (tp : Nat → Nat) (W : xi_W) : Prop := kc W ∧ (∃ st nx tk nu fa pl mn pa cd lw, W[18]? = some (rO n st nx tk nu fa pl mn pa cd lw)) ∧ W[19]? = some (lw_b 300 tp) ∧ (∃ C, W[20]? = some (lw_i 120 C)) ∧ (∃ P, W[21]? = some (lw_i 600 P)) ∧ ∃ B, W[22]? = some (lw_i 4 B)
theorem RDW.keep {n : Nat} {tp : Nat → Nat} {P : Nat → Prop} {W W' : xi_W} (h : RDW n tp W) (hf : fr P W W') (hp : ∀ i, i < 23 → i ≠ 17 → ¬ P i) (hk : ¬ P 17 ∨ True) : RDW n tp W' := by
  obtain ⟨h1, ⟨st, nx, tk, nu, fa, pl, mn, pa, cd, lw, h2⟩, h3, ⟨C, h4⟩, ⟨Q, h5⟩, ⟨B, h6⟩⟩ := h
  exact ⟨h1.keep hf (fun i hi => hp i (by omega) (by omega)), ⟨st, nx, tk, nu, fa, pl, mn, pa, cd, lw, hf.at h2 (hp 18 (by omega) (by omega))⟩, hf.at h3 (hp 19 (by omega) (by omega)), ⟨C, hf.at h4 (hp 20 (by omega) (by omega))⟩, ⟨Q, hf.at h5 (hp 21 (by omega) (by omega))⟩, ⟨B, hf.at h6 (hp 22 (by omega) (by omega))⟩⟩
theorem RDS.rw {tp : Nat → Nat} {n st nx tk nu fa pl mn pa lw : Nat} {C B : Nat → Nat} {L : List (Nat × Nat)} {W : xi_W} (h : RDS tp n st nx tk nu fa pl mn pa lw C B L W) : RDW n tp W := by
  obtain ⟨hk, hO, hT, hC, ⟨P, hP, hL⟩, hB⟩ := h
  exact ⟨hk, ⟨_, _, _, _, _, _, _, _, _, _, hO⟩, hT, ⟨_, hC⟩, ⟨_, hP⟩, ⟨_, hB⟩⟩
theorem rd_beg (d c s : Nat) (W0 : xi_W) (tp : Nat → Nat) (n : Nat) (h : RDW n tp W0) {st1 nx1 tk1 : Nat} {nu1 : Nat → Nat} (ha0 : ∀ nu, adR tp n 0 nu st1 nx1 tk1 (nu1 nu)) (r : xi_R → Prop) (K : ∀ W' nu pa lw C B, RDS tp n st1 nx1 tk1 (nu1 nu) 0 4294967295 0 pa lw (fil 0 120 C) (fil 4294967295 4 B) [] W' → fr rdp W0 W' → xr (d + 11) 29 47 [(0, .ref 18), (1, .int (Int32.ofNat 0))] [] W' c s r) : xr (d + 11) 29 0 [(0, .ref 18)] [] W0 c s r := by
  obtain ⟨hk, ⟨st, nx, tk, nu, fa, pl, mn, pa, cd, lw, hO⟩, hT, ⟨C, hC⟩, ⟨P, hP⟩, ⟨B, hB⟩⟩ := h
  have ha := ha0 nu
  have hF : fr rdp W0 W0 := fr.rf
  refine xr_stp rfl rfl rfl rfl ?_
  refine xr_stp (st' := .int (Int32.ofNat 0) :: _) rfl rfl rfl rfl ?_
  refine xr_putk hO (by omega) rfl rfl rfl rfl rfl rfl (fun W hO hf1 => ?_)
  have hT := hf1.at hT (by omega)
  have hC := hf1.at hC (by omega)
  have hP := hf1.at hP (by omega)
  have hB := hf1.at hB (by omega)
  have hF := hF.tr2 hf1 (fun i e => Or.inl (rdp_ e (by omega)))
  refine xr_stp rfl rfl rfl rfl ?_
  refine xr_stp (st' := .int (Int32.ofNat 0) :: _) rfl rfl rfl rfl ?_
  refine xr_putk hO (by omega) rfl rfl rfl rfl rfl rfl (fun W hO hf1 => ?_)
  have hT := hf1.at hT (by omega)
  have hC := hf1.at hC (by omega)
  have hP := hf1.at hP (by omega)
  have hB := hf1.at hB (by omega)
  have hF := hF.tr2 hf1 (fun i e => Or.inl (rdp_ e (by omega)))
  refine xr_stp rfl rfl rfl rfl ?_
  refine xr_stp (st' := .int (Int32.ofNat 4294967295) :: _) rfl rfl rfl rfl ?_
  refine xr_putk hO (by omega) rfl rfl rfl rfl rfl rfl (fun W hO hf1 => ?_)
  have hT := hf1.at hT (by omega)
  have hC := hf1.at hC (by omega)
  have hP := hf1.at hP (by omega)
  have hB := hf1.at hB (by omega)
  have hF := hF.tr2 hf1 (fun i e => Or.inl (rdp_ e (by omega)))
  refine xr_stp rfl rfl rfl rfl ?_
  refine xr_stp (st' := .int (Int32.ofNat 0) :: _) rfl rfl rfl rfl ?_
  refine xr_putk hO (by omega) rfl rfl rfl rfl rfl rfl (fun W hO hf1 => ?_)
  have hT := hf1.at hT (by omega)
  have hC := hf1.at hC (by omega)
  have hP := hf1.at hP (by omega)
  have hB := hf1.at hB (by omega)
  have hF := hF.tr2 hf1 (fun i e => Or.inl (rdp_ e (by omega)))
  refine xr_stp rfl rfl rfl rfl ?_
  refine xr_stp (st' := .int (Int32.ofNat 0) :: _) rfl rfl rfl rfl ?_
  refine xr_putk hO (by omega) rfl rfl rfl rfl rfl rfl (fun W hO hf1 => ?_)
  have hT := hf1.at hT (by omega)
  have hC := hf1.at hC (by omega)
  have hP := hf1.at hP (by omega)
  have hB := hf1.at hB (by omega)
  have hF := hF.tr2 hf1 (fun i e => Or.inl (rdp_ e (by omega)))
  refine xr_stp rfl rfl rfl rfl ?_
  refine xr_getfield hO rfl rfl rfl rfl ?_
  refine xr_stp (st' := .int (Int32.ofNat 0) :: _) rfl rfl rfl rfl ?_
  refine xr_cps rfl rfl rfl (fun r1 K2 => fi_ll _ _ _ 20 0 120 _ (by omega) (by omega) _ hC r1 (fun W2 h2 hf1 => K2 _ _ _ _ ?_))
  have hO := hf1.at hO (by omega)
  have hT := hf1.at hT (by omega)
  have hC := h2
  have hP := hf1.at hP (by omega)
  have hB := hf1.at hB (by omega)
  have hF := hF.tr2 hf1 (fun i e => Or.inl (rdp_ e (by omega)))
  clear h2 hf1
  refine xr_stp rfl rfl rfl rfl ?_
  refine xr_getfield hO rfl rfl rfl rfl ?_
  refine xr_stp (st' := .int (Int32.ofNat 4294967295) :: _) rfl rfl rfl rfl ?_
  refine xr_cps rfl rfl rfl (fun r1 K2 => fi_ll _ _ _ 22 4294967295 4 _ (by omega) (by omega) _ hB r1 (fun W2 h2 hf1 => K2 _ _ _ _ ?_))
  have hO := hf1.at hO (by omega)
  have hT := hf1.at hT (by omega)
  have hC := hf1.at hC (by omega)
  have hP := hf1.at hP (by omega)
  have hB := h2
  have hF := hF.tr2 hf1 (fun i e => Or.inl (rdp_ e (by omega)))
  clear h2 hf1
  have hR : RDS tp n st 0 tk nu 0 4294967295 0 pa lw (fil 0 120 C) (fil 4294967295 4 B) [] _ := ⟨hk.rd5 hF, hO, hT, hC, ⟨P, hP, emL.nil⟩, hB⟩
  refine xr_stp rfl rfl rfl rfl ?_
  refine xr_vcps hR.len rfl rfl rfl rfl rfl rfl (fun r1 K2 => rs_adv _ _ _ _ _ _ _ _ _ _ _ _ _ _ _ _ _ _ hR ha r1 (fun W3 hW3 hfW3 => K2 _ _ _ _ ?_))
  refine xr_stp (st' := .int (Int32.ofNat 0) :: _) rfl rfl rfl rfl ?_
  refine xr_stp rfl rfl rfl rfl ?_
  refine xr_loc [(0, .ref 18), (1, .int (Int32.ofNat 0))] ⟨rfl, rfl, trivial⟩ rfl ?_
  exact K W3 nu pa lw C B hW3 (hF.tr hfW3)
theorem rd_stp (d c s : Nat) (W0 : xi_W) (tp : Nat → Nat) (n st nx tk nu fa pl mn pa lw : Nat) (C B : Nat → Nat) (L : List (Nat × Nat)) (i : Nat) (h : RDS tp n st nx tk nu fa pl mn pa lw C B L W0) (hi : i ≤ 24) (htk : tk < 39) (r : xi_R → Prop) (H : ∀ r1 : xi_R → Prop, (∀ W' c' s', (xr (d + 11) 29 47 [(0, .ref 18), (1, .int (Int32.ofNat (i + 1)))] [] W' (c + c') (s + s') r) → r1 (some (.int (Int32.ofNat 1)), W', c', s')) → xr (d + 10) 31 0 [(0, .ref 18)] [] W0 0 0 r1) : xr (d + 11) 29 47 [(0, .ref 18), (1, .int (Int32.ofNat i))] [] W0 c s r := by
  refine xr_stp rfl rfl rfl rfl ?_
  refine xr_stp (st' := .int (Int32.ofNat 24) :: _) rfl rfl rfl rfl ?_
  refine xr_j2 rfl rfl rfl rfl rfl (fun h50 => ?_) (fun h50 => ?_)
  · have z50 := nt_gt (by omega) (by omega) h50
    exact (by omega)
  · refine xr_stp rfl rfl rfl rfl ?_
    refine xr_getfield h.len rfl rfl rfl rfl ?_
    refine xr_stp (st' := .int (Int32.ofNat 39) :: _) rfl rfl rfl rfl ?_
    refine xr_j2 rfl rfl rfl rfl rfl (fun h59 => ?_) (fun h59 => ?_)
    · have z59 := nt_eq (by omega) (by omega) h59
      exact (by omega)
    · refine xr_stp rfl rfl rfl rfl ?_
      refine xr_vcps h.len rfl rfl rfl rfl rfl rfl (fun r1 K2 => H r1 (fun W1 c1 s1 hx => K2 _ _ _ _ ?_))
      refine xr_j1 rfl rfl rfl rfl rfl (fun h66 => ?_) (fun h66 => ?_)
      · refine xs_inc (e := 1) rfl rfl rfl rfl ?_
        refine xr_stp rfl rfl rfl rfl ?_
        refine xr_loc [(0, .ref 18), (1, .int (Int32.ofNat (i + 1)))] ⟨rfl, rfl, trivial⟩ rfl ?_
        exact hx
      · have z66 := nf1_ne (by omega) h66
        exact (by omega)
theorem rd_out (d c s : Nat) (W0 : xi_W) (tp : Nat → Nat) (n st nx tk nu fa pl mn pa lw : Nat) (C B : Nat → Nat) (L : List (Nat × Nat)) (i : Nat) (h : RDS tp n st nx tk nu fa pl mn pa lw C B L W0) (hi : i ≤ 24) (htk : tk = 39) (r : xi_R → Prop) (K : xr (d + 11) 29 77 [(0, .ref 18), (1, .int (Int32.ofNat i))] [] W0 c s r) : xr (d + 11) 29 47 [(0, .ref 18), (1, .int (Int32.ofNat i))] [] W0 c s r := by
  refine xr_stp rfl rfl rfl rfl ?_
  refine xr_stp (st' := .int (Int32.ofNat 24) :: _) rfl rfl rfl rfl ?_
  refine xr_j2 rfl rfl rfl rfl rfl (fun h50 => ?_) (fun h50 => ?_)
  · have z50 := nt_gt (by omega) (by omega) h50
    exact (by omega)
  · refine xr_stp rfl rfl rfl rfl ?_
    refine xr_getfield h.len rfl rfl rfl rfl ?_
    refine xr_stp (st' := .int (Int32.ofNat 39) :: _) rfl rfl rfl rfl ?_
    refine xr_j2 rfl rfl rfl rfl rfl (fun h59 => ?_) (fun h59 => ?_)
    · refine xr_loc [(0, .ref 18), (1, .int (Int32.ofNat i))] ⟨rfl, rfl, trivial⟩ rfl ?_
      exact K
    · have z59 := nf_eq h59
      exact (by omega)
theorem rd_fin (d c s : Nat) (W0 : xi_W) (tp : Nat → Nat) (n st nx tk nu fa pl mn pa lw : Nat) (C B : Nat → Nat) (L : List (Nat × Nat)) (i : Nat) (h : RDS tp n st nx tk nu fa pl mn pa lw C B L W0) (hmn : mn < 24) (hLl : L.length < 300) (hl : 23 ≤ W0.length) (r : xi_R → Prop) (K : ∀ W' P, W'[W0.length]? = some (.inr (4, [.int (Int32.ofNat mn), .ref (W0.length + 1), .ref (W0.length + 2), .ref (W0.length + 3)])) → W'[W0.length + 1]? = some (lw_i (mn * 5) (cpN (mn * 5) C (fun _ => 0))) → W'[W0.length + 2]? = some (lw_i (L.length * 2) (cpN (L.length * 2) P (fun _ => 0))) → emL P L → W'[W0.length + 3]? = some (lw_i 4 B) → fr (fun _ => False) W0 W' → r (some (.ref W0.length), W', c + 4, s + (mn * 5 + L.length * 2 + 8))) : xr (d + 11) 29 77 [(0, .ref 18), (1, .int (Int32.ofNat i))] [] W0 c s r := by
  obtain ⟨hk, hO, hT, hC, ⟨P, hP, hL⟩, hB⟩ := h
  refine xs_new rfl rfl (fun T0 W1 eT hT0 hf1 hl1 => ?_)
  have hO := hf1.at hO (fun z => z)
  have hC := hf1.at hC (fun z => z)
  have hP := hf1.at hP (fun z => z)
  have hB := hf1.at hB (fun z => z)
  refine xr_stp rfl rfl rfl rfl ?_
  refine xr_stp rfl rfl rfl rfl ?_
  refine xr_getfield hO rfl rfl rfl rfl ?_
  refine xr_stp rfl rfl rfl rfl ?_
  refine xr_getfield hO rfl rfl rfl rfl ?_
  refine xr_stp rfl rfl rfl rfl ?_
  refine xr_getfield hO rfl rfl rfl rfl ?_
  refine xr_stp (st' := .int (Int32.ofNat 5) :: _) rfl rfl rfl rfl ?_
  refine xs_mul rfl ?_
  refine xr_cps rfl rfl rfl (fun r1 K2 => fi_cpy _ _ _ 20 (mn * 5) 120 C (by omega) (by omega) (by omega) _ (by omega) hC r1 (fun W2 hl2 hR2 hf2 => K2 _ _ _ _ ?_))
  have hO := hf2.at hO (fun z => z)
  have hC := hf2.at hC (fun z => z)
  have hP := hf2.at hP (fun z => z)
  have hB := hf2.at hB (fun z => z)
  have hT0 := hf2.at hT0 (fun z => z)
  refine xr_stp rfl rfl rfl rfl ?_
  refine xr_getfield hO rfl rfl rfl rfl ?_
  refine xr_stp rfl rfl rfl rfl ?_
  refine xr_getfield hO rfl rfl rfl rfl ?_
  refine xr_stp (st' := .int (Int32.ofNat 2) :: _) rfl rfl rfl rfl ?_
  refine xs_mul rfl ?_
  refine xr_cps rfl rfl rfl (fun r1 K2 => fi_cpy _ _ _ 21 (L.length * 2) 600 P (by omega) (by omega) (by omega) _ (by omega) hP r1 (fun W3 hl3 hR3 hf3 => K2 _ _ _ _ ?_))
  have hO := hf3.at hO (fun z => z)
  have hC := hf3.at hC (fun z => z)
  have hP := hf3.at hP (fun z => z)
  have hB := hf3.at hB (fun z => z)
  have hT0 := hf3.at hT0 (fun z => z)
  have hR2 := hf3.at hR2 (fun z => z)
  refine xr_stp rfl rfl rfl rfl ?_
  refine xr_getfield hO rfl rfl rfl rfl ?_
  refine xs_cli hB (by omega) rfl rfl rfl rfl (fun R3 W4 eR3 hR4 hf4 => ?_)
  have hT0 := hf4.at hT0 (fun z => z)
  have hR2 := hf4.at hR2 (fun z => z)
  have hR3 := hf4.at hR3 (fun z => z)
  refine xs_chi hR4 (by omega) rfl rfl rfl ?_
  refine xr_cps rfl rfl rfl (fun r1 K2 => tx_new _ _ _ T0 mn W1.length W2.length R3 W4 hT0 (by omega) r1 (fun W5 hT5 hf5 => K2 _ _ _ _ ?_))
  have e1 : W1.length = W0.length + 1 := hl1
  have e2 : W2.length = W0.length + 2 := by omega
  have e3 : R3 = W0.length + 3 := by omega
  have x2 := (List.getElem?_eq_some_iff.mp hR4).1
  subst eT
  have hR2 := hf5.at hR2 (fun z => by have z : W1.length = W0.length := z; omega)
  have hR3 := hf5.at hR3 (fun z => by have z : W2.length = W0.length := z; omega)
  have hR4 := hf5.at hR4 (fun z => by have z : R3 = W0.length := z; omega)
  rw [e1, e2, e3] at hT5
  rw [e1] at hR2
  rw [e2] at hR3
  rw [e3] at hR4
  refine xr_ret rfl rfl ?_
  have e := K W5 P hT5 hR2 hR3 hL hR4 ⟨by have := hf1.1; have := hf2.1; have := hf3.1; have := hf4.1; have := hf5.1; omega, fun i hi _ => (hf5.2 i (by have := hf1.1; have := hf2.1; have := hf3.1; have := hf4.1; omega) (fun (z : i = W0.length) => by omega)).trans (((hf1.tr hf2).tr (hf3.tr hf4)).2 i hi (fun z => z))⟩
  rw [show c + 4 = c + 1 + (0 + 1) + (0 + 1) + 1 + 0 by omega, show s + (mn * 5 + L.length * 2 + 8) = s + xt_nf 4 + (0 + mn * 5) + (0 + L.length * 2) + 4 + 0 by rw [show xt_nf 4 = 4 from rfl]; omega] at e
  exact e
