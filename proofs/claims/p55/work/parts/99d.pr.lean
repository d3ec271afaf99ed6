/-! the Reader reads: sums of a law -/
def rdp (i : Nat) : Prop := 18 ≤ i ∧ i ≤ 22
theorem rdp_ {i k : Nat} (e : i = k) (h : 18 ≤ k ∧ k ≤ 22) : rdp i := e ▸ h
theorem kc.rd5 {W W' : xi_W} (h : kc W) (hf : fr rdp W W') : kc W' := h.keep hf (fun i h1 h => by unfold rdp at h; omega)
def emL (P : Nat → Nat) (L : List (Nat × Nat)) : Prop := ∀ (i : Nat) (x : Nat × Nat), L[i]? = some x → P (2 * i) = x.1 ∧ P (2 * i + 1) = x.2
theorem emL.snoc {P : Nat → Nat} {L : List (Nat × Nat)} (h : emL P L) (a b : Nat) : emL (xn_u (xn_u P (L.length * 2) a) (L.length * 2 + 1) b) (L ++ [(a, b)]) := fun i x hx => by
  by_cases e : i < L.length
  · rw [List.getElem?_append_left e] at hx
    rw [xn_un _ _ (by omega), xn_un _ _ (by omega), xn_un _ _ (by omega), xn_un _ _ (by omega)]
    exact h i x hx
  · by_cases e2 : i = L.length
    · subst e2
      rw [List.getElem?_append_right (Nat.le_refl _), Nat.sub_self] at hx
      cases hx
      refine ⟨?_, ?_⟩
      · rw [xn_un _ _ (by omega)]
        exact if_pos (Nat.mul_comm _ _)
      · exact if_pos (by omega)
    · rw [List.getElem?_eq_none (by simp; omega)] at hx
      cases hx
theorem emL.nil {P : Nat → Nat} : emL P [] := fun i x hx => by cases hx
def RDS (tp : Nat → Nat) (n st nx tk nu fa pl mn pa lw : Nat) (C B : Nat → Nat) (L : List (Nat × Nat)) (W : xi_W) : Prop := kc W ∧ W[18]? = some (rO n st nx tk nu fa pl mn pa L.length lw) ∧ W[19]? = some (lw_b 300 tp) ∧ W[20]? = some (lw_i 120 C) ∧ (∃ P, W[21]? = some (lw_i 600 P) ∧ emL P L) ∧ W[22]? = some (lw_i 4 B)
theorem RDS.len {tp : Nat → Nat} {n st nx tk nu fa pl mn pa lw : Nat} {C B : Nat → Nat} {L : List (Nat × Nat)} {W : xi_W} (h : RDS tp n st nx tk nu fa pl mn pa lw C B L W) : W[18]? = some (rO n st nx tk nu fa pl mn pa L.length lw) := h.2.1
theorem rs_adv (d c s : Nat) (W0 : xi_W) (tp : Nat → Nat) (n st nx tk nu fa pl mn pa lw : Nat) (C B : Nat → Nat) (L : List (Nat × Nat)) {st2 nx2 tk2 nu2 : Nat} (h : RDS tp n st nx tk nu fa pl mn pa lw C B L W0) (ha : adR tp n nx nu st2 nx2 tk2 nu2) (r : xi_R → Prop) (K : ∀ W', RDS tp n st2 nx2 tk2 nu2 fa pl mn pa lw C B L W' → fr rdp W0 W' → r (none, W', c, s)) : xr (d + 5) 48 0 [(0, .ref 18)] [] W0 c s r := by
  obtain ⟨hk, hO, hT, hC, ⟨P, hP, hL⟩, hB⟩ := h
  exact ha d c s W0 st tk fa pl mn pa L.length lw hk hO hT r (fun W' h1 hf => by
    have hf2 : fr rdp W0 W' := hf.weak (fun i _ e => rdp_ e (by omega))
    exact K W' ⟨hk.rd5 hf2, h1, hf.at hT (by omega), hf.at hC (by omega), ⟨P, hf.at hP (by omega), hL⟩, hf.at hB (by omega)⟩ hf2)
theorem rs_emit (d c s : Nat) (W0 : xi_W) (tp : Nat → Nat) (n st nx tk nu fa pl mn pa lw : Nat) (C B : Nat → Nat) (L : List (Nat × Nat)) (a b : Nat) (h : RDS tp n st nx tk nu fa pl mn pa lw C B L W0) (hl : L.length < 300) (r : xi_R → Prop) (K : ∀ W', RDS tp n st nx tk nu fa pl mn pa lw C B (L ++ [(a, b)]) W' → fr rdp W0 W' → r (some (.int (Int32.ofNat L.length)), W', c, s)) : xr d 43 0 [(0, .ref 18), (1, .int (Int32.ofNat a)), (2, .int (Int32.ofNat b))] [] W0 c s r := by
  obtain ⟨hk, hO, hT, hC, ⟨P, hP, hL⟩, hB⟩ := h
  have hF : fr rdp W0 W0 := fr.rf
  refine xr_stp rfl rfl rfl rfl ?_
  refine xr_getfield hO rfl rfl rfl rfl ?_
  refine xr_stp (st' := .int (Int32.ofNat 300) :: _) rfl rfl rfl rfl ?_
  refine xr_j2 rfl rfl rfl rfl rfl (fun h7 => ?_) (fun h7 => ?_)
  · have z7 := nt_ge (by omega) (by omega) h7
    exact (by omega)
  · refine xr_stp rfl rfl rfl rfl ?_
    refine xr_getfield hO rfl rfl rfl rfl ?_
    refine xr_stp rfl rfl rfl rfl ?_
    refine xr_getfield hO rfl rfl rfl rfl ?_
    refine xr_stp (st' := .int (Int32.ofNat 2) :: _) rfl rfl rfl rfl ?_
    refine xs_mul rfl ?_
    refine xr_stp rfl rfl rfl rfl ?_
    refine xs_istk hP (by omega) (by omega) (by omega) rfl (fun W hP hf1 => ?_)
    have hO := hf1.at hO (by omega)
    have hT := hf1.at hT (by omega)
    have hC := hf1.at hC (by omega)
    have hB := hf1.at hB (by omega)
    have hF := hF.tr2 hf1 (fun i e => Or.inl (rdp_ e (by omega)))
    refine xr_stp rfl rfl rfl rfl ?_
    refine xr_getfield hO rfl rfl rfl rfl ?_
    refine xr_stp rfl rfl rfl rfl ?_
    refine xr_getfield hO rfl rfl rfl rfl ?_
    refine xr_stp (st' := .int (Int32.ofNat 2) :: _) rfl rfl rfl rfl ?_
    refine xs_mul rfl ?_
    refine xr_stp (st' := .int (Int32.ofNat 1) :: _) rfl rfl rfl rfl ?_
    refine xs_add rfl ?_
    refine xr_stp rfl rfl rfl rfl ?_
    refine xs_istk hP (by omega) (by omega) (by omega) rfl (fun W hP hf1 => ?_)
    have hO := hf1.at hO (by omega)
    have hT := hf1.at hT (by omega)
    have hC := hf1.at hC (by omega)
    have hB := hf1.at hB (by omega)
    have hF := hF.tr2 hf1 (fun i e => Or.inl (rdp_ e (by omega)))
    refine xr_stp rfl rfl rfl rfl ?_
    refine xr_stp rfl rfl rfl rfl ?_
    refine xr_getfield hO rfl rfl rfl rfl ?_
    refine xr_stp (st' := .int (Int32.ofNat 1) :: _) rfl rfl rfl rfl ?_
    refine xs_add rfl ?_
    refine xr_putk hO (by omega) rfl rfl rfl rfl rfl rfl (fun W hO hf1 => ?_)
    have hT := hf1.at hT (by omega)
    have hC := hf1.at hC (by omega)
    have hP := hf1.at hP (by omega)
    have hB := hf1.at hB (by omega)
    have hF := hF.tr2 hf1 (fun i e => Or.inl (rdp_ e (by omega)))
    refine xr_stp rfl rfl rfl rfl ?_
    refine xr_getfield hO rfl rfl rfl rfl ?_
    refine xr_stp (st' := .int (Int32.ofNat 1) :: _) rfl rfl rfl rfl ?_
    refine xs_sub (by omega) rfl ?_
    rw [show L.length + 1 - 1 = L.length from rfl]
    exact xr_ret rfl rfl (K W ⟨hk.rd5 hF, by rw [show (L ++ [(a, b)]).length = L.length + 1 by simp]; exact hO, hT, hC, ⟨_, hP, hL.snoc a b⟩, hB⟩ hF)
theorem rs_acc (d c s : Nat) (W0 : xi_W) (tp : Nat → Nat) (n st nx tk nu fa pl mn pa lw : Nat) (C B : Nat → Nat) (L : List (Nat × Nat)) {st2 nx2 tk2 nu2 : Nat} (h : RDS tp n st nx tk nu fa pl mn pa lw C B L W0) (ha : adR tp n nx nu st2 nx2 tk2 nu2) (htk : tk < 100) (r : xi_R → Prop) (K : ∀ W', RDS tp n st2 nx2 tk2 nu2 fa pl mn pa lw C B L W' → fr rdp W0 W' → r (some (.int (Int32.ofNat 1)), W', c, s)) : xr (d + 6) 34 0 [(0, .ref 18), (1, .int (Int32.ofNat tk))] [] W0 c s r := by
  refine xr_stp rfl rfl rfl rfl ?_
  refine xr_getfield h.len rfl rfl rfl rfl ?_
  refine xr_stp rfl rfl rfl rfl ?_
  refine xr_j2 rfl rfl rfl rfl rfl (fun h5 => ?_) (fun h5 => ?_)
  · refine xr_stp rfl rfl rfl rfl ?_
    refine xr_vcps h.len rfl rfl rfl rfl rfl rfl (fun r1 K2 => rs_adv _ _ _ _ _ _ _ _ _ _ _ _ _ _ _ _ _ _ h ha r1 (fun W1 hW1 hfW1 => K2 _ _ _ _ ?_))
    refine xr_stp (st' := .int (Int32.ofNat 1) :: _) rfl rfl rfl rfl ?_
    exact xr_retb (by omega) rfl rfl (K W1 hW1 hfW1)
  · have z5 := nf_eq h5
    exact (by omega)
theorem rs_num (d c s : Nat) (W0 : xi_W) (tp : Nat → Nat) (n st nx tk nu fa pl mn pa lw : Nat) (C B : Nat → Nat) (L : List (Nat × Nat)) (le mo : Nat) {st2 nx2 tk2 nu2 : Nat} (h : RDS tp n st nx tk nu fa pl mn pa lw C B L W0) (ha : adR tp n nx nu st2 nx2 tk2 nu2) (htk : tk = 38) (h1 : le ≤ nu) (h2 : nu ≤ mo) (hmo : mo < 10000) (hpa : pa < 5) (hmn : mn < 24) (r : xi_R → Prop) (K : ∀ W', RDS tp n st2 nx2 tk2 nu2 fa pl mn (pa + 1) lw (xn_u C (mn * 5 + pa) nu) B L W' → fr rdp W0 W' → r (some (.int (Int32.ofNat 1)), W', c, s)) : xr (d + 6) 33 0 [(0, .ref 18), (1, .int (Int32.ofNat le)), (2, .int (Int32.ofNat mo))] [] W0 c s r := by
  subst htk
  obtain ⟨hk, hO, hT, hC, ⟨P, hP, hL⟩, hB⟩ := h
  have hF : fr rdp W0 W0 := fr.rf
  refine xr_stp rfl rfl rfl rfl ?_
  refine xr_getfield hO rfl rfl rfl rfl ?_
  refine xr_stp (st' := .int (Int32.ofNat 38) :: _) rfl rfl rfl rfl ?_
  refine xr_j2 rfl rfl rfl rfl rfl (fun h6 => ?_) (fun h6 => ?_)
  · refine xr_stp rfl rfl rfl rfl ?_
    refine xr_getfield hO rfl rfl rfl rfl ?_
    refine xr_stp rfl rfl rfl rfl ?_
    refine xr_j2 rfl rfl rfl rfl rfl (fun h20 => ?_) (fun h20 => ?_)
    · have z20 := nt_lt (by omega) (by omega) h20
      exact (by omega)
    · refine xr_stp rfl rfl rfl rfl ?_
      refine xr_getfield hO rfl rfl rfl rfl ?_
      refine xr_stp rfl rfl rfl rfl ?_
      refine xr_j2 rfl rfl rfl rfl rfl (fun h28 => ?_) (fun h28 => ?_)
      · refine xr_stp rfl rfl rfl rfl ?_
        refine xr_getfield hO rfl rfl rfl rfl ?_
        refine xr_stp (st' := .int (Int32.ofNat 5) :: _) rfl rfl rfl rfl ?_
        refine xr_j2 rfl rfl rfl rfl rfl (fun h42 => ?_) (fun h42 => ?_)
        · have z42 := nt_ge (by omega) (by omega) h42
          exact (by omega)
        · refine xr_stp rfl rfl rfl rfl ?_
          refine xr_getfield hO rfl rfl rfl rfl ?_
          refine xr_stp rfl rfl rfl rfl ?_
          refine xr_getfield hO rfl rfl rfl rfl ?_
          refine xr_stp (st' := .int (Int32.ofNat 5) :: _) rfl rfl rfl rfl ?_
          refine xs_mul rfl ?_
          refine xr_stp rfl rfl rfl rfl ?_
          refine xr_getfield hO rfl rfl rfl rfl ?_
          refine xs_add rfl ?_
          refine xr_stp rfl rfl rfl rfl ?_
          refine xr_getfield hO rfl rfl rfl rfl ?_
          refine xs_istk hC (by omega) (by omega) (by omega) rfl (fun W hC hf1 => ?_)
          have hO := hf1.at hO (by omega)
          have hT := hf1.at hT (by omega)
          have hP := hf1.at hP (by omega)
          have hB := hf1.at hB (by omega)
          have hF := hF.tr2 hf1 (fun i e => Or.inl (rdp_ e (by omega)))
          refine xr_stp rfl rfl rfl rfl ?_
          refine xr_stp rfl rfl rfl rfl ?_
          refine xr_getfield hO rfl rfl rfl rfl ?_
          refine xr_stp (st' := .int (Int32.ofNat 1) :: _) rfl rfl rfl rfl ?_
          refine xs_add rfl ?_
          refine xr_putk hO (by omega) rfl rfl rfl rfl rfl rfl (fun W hO hf1 => ?_)
          have hT := hf1.at hT (by omega)
          have hC := hf1.at hC (by omega)
          have hP := hf1.at hP (by omega)
          have hB := hf1.at hB (by omega)
          have hF := hF.tr2 hf1 (fun i e => Or.inl (rdp_ e (by omega)))
          have hR : RDS tp n st nx 38 nu fa pl mn (pa + 1) lw (xn_u C (mn * 5 + pa) nu) B L W := ⟨hk.rd5 hF, hO, hT, hC, ⟨P, hP, hL⟩, hB⟩
          refine xr_stp rfl rfl rfl rfl ?_
          refine xr_vcps hR.len rfl rfl rfl rfl rfl rfl (fun r1 K2 => rs_adv _ _ _ _ _ _ _ _ _ _ _ _ _ _ _ _ _ _ hR ha r1 (fun W1 hW1 hfW1 => K2 _ _ _ _ ?_))
          refine xr_stp (st' := .int (Int32.ofNat 1) :: _) rfl rfl rfl rfl ?_
          exact xr_retb (by omega) rfl rfl (K W1 hW1 (hF.tr hfW1))
      · have z28 := nf_le (by omega) (by omega) h28
        exact (by omega)
  · have z6 := nf_eq h6
    exact (by omega)
def PR (j dd : Nat) (av : xi_L) (tp : Nat → Nat) (n lw nx tk nu nx2 tk2 nu2 : Nat) (E : List (Nat × Nat)) : Prop := ∀ (d c s : Nat) (W0 : xi_W) (st fa pl mn pa : Nat) (C B : Nat → Nat) (L : List (Nat × Nat)), L.length + E.length ≤ 300 → RDS tp n st nx tk nu fa pl mn pa lw C B L W0 → ∀ r : xi_R → Prop, (∀ W' st2, RDS tp n st2 nx2 tk2 nu2 fa pl mn pa lw C B (L ++ E) W' → fr rdp W0 W' → r (some (.int (Int32.ofNat 1)), W', c, s)) → xr (d + dd) j 0 ((0, .ref 18) :: av) [] W0 c s r
def PL (j dd o i : Nat) (tp : Nat → Nat) (n lw nx tk nu nx2 tk2 nu2 : Nat) (E : List (Nat × Nat)) : Prop := ∀ (d c s : Nat) (W0 : xi_W) (st fa pl mn pa : Nat) (C B : Nat → Nat) (L : List (Nat × Nat)), L.length + E.length ≤ 300 → RDS tp n st nx tk nu fa pl mn pa lw C B L W0 → ∀ r : xi_R → Prop, (∀ W' st2, RDS tp n st2 nx2 tk2 nu2 fa pl mn pa lw C B (L ++ E) W' → fr rdp W0 W' → r (some (.int (Int32.ofNat 1)), W', c, s)) → xr (d + dd) j 12 [(0, .ref 18), (1, .int (Int32.ofNat o)), (2, .int (Int32.ofNat i))] [] W0 c s r
theorem PR.up {j dd : Nat} {av : xi_L} {tp : Nat → Nat} {n lw nx tk nu nx2 tk2 nu2 : Nat} {E : List (Nat × Nat)} (h : PR j dd av tp n lw nx tk nu nx2 tk2 nu2 E) : PR j (dd + 1) av tp n lw nx tk nu nx2 tk2 nu2 E := fun d c s W0 st fa pl mn pa C B L h1 h2 r K => by
  have := h (d + 1) c s W0 st fa pl mn pa C B L h1 h2 r K
  rw [show d + (dd + 1) = d + 1 + dd by omega]
  exact this
theorem rs_law (d c s : Nat) (W0 : xi_W) (tp : Nat → Nat) (n st nx tk nu fa pl mn pa lw : Nat) (C B : Nat → Nat) (L : List (Nat × Nat)) (x : Nat) (h : RDS tp n st nx tk nu fa pl mn pa lw C B L W0) (hx : x < 100) (hl : lw < 2) (hn : x ≤ 21 ∨ (x = 24 ∧ lw = 1) ∨ (x ≠ 24 ∧ lw = 0)) (r : xi_R → Prop) (K : r (some (.int (Int32.ofNat 1)), W0, c, s)) : xr d 38 0 [(0, .ref 18), (1, .int (Int32.ofNat x))] [] W0 c s r := by
  refine xr_stp rfl rfl rfl rfl ?_
  refine xr_stp (st' := .int (Int32.ofNat 21) :: _) rfl rfl rfl rfl ?_
  refine xr_j2 rfl rfl rfl rfl rfl (fun h3 => ?_) (fun h3 => ?_)
  · have z3 := nt_le (by omega) (by omega) h3
    refine xr_stp (st' := .int (Int32.ofNat 1) :: _) rfl rfl rfl rfl ?_
    refine xr_stp rfl rfl rfl rfl ?_
    exact xr_retb (by omega) rfl rfl K
  · have z3 := nf_le (by omega) (by omega) h3
    refine xr_stp rfl rfl rfl rfl ?_
    refine xr_stp (st' := .int (Int32.ofNat 24) :: _) rfl rfl rfl rfl ?_
    refine xr_j2 rfl rfl rfl rfl rfl (fun h9 => ?_) (fun h9 => ?_)
    · have z9 := nt_ne h9
      refine xr_stp (st' := .int (Int32.ofNat 0) :: _) rfl rfl rfl rfl ?_
      refine xr_stp rfl rfl rfl rfl ?_
      refine xr_getfield h.len rfl rfl rfl rfl ?_
      refine xr_stp (st' := .int (Int32.ofNat 1) :: _) rfl rfl rfl rfl ?_
      refine xr_j2 rfl rfl rfl rfl rfl (fun h22 => ?_) (fun h22 => ?_)
      · have z22 := nt_ne h22
        refine xr_stp (st' := .int (Int32.ofNat 0) :: _) rfl rfl rfl rfl ?_
        refine xr_j2 rfl rfl rfl rfl rfl (fun h30 => ?_) (fun h30 => ?_)
        · have z30 := nt_ne h30
          exact False.elim (by omega)
        · have z30 := nf_ne (by omega) (by omega) h30
          refine xr_stp (st' := .int (Int32.ofNat 1) :: _) rfl rfl rfl rfl ?_
          refine xr_stp rfl rfl rfl rfl ?_
          exact xr_retb (by omega) rfl rfl K
      · have z22 := nf_ne (by omega) (by omega) h22
        refine xr_stp (st' := .int (Int32.ofNat 1) :: _) rfl rfl rfl rfl ?_
        refine xr_stp rfl rfl rfl rfl ?_
        refine xr_j2 rfl rfl rfl rfl rfl (fun h30 => ?_) (fun h30 => ?_)
        · have z30 := nt_ne h30
          exact False.elim (by omega)
        · have z30 := nf_ne (by omega) (by omega) h30
          refine xr_stp (st' := .int (Int32.ofNat 1) :: _) rfl rfl rfl rfl ?_
          refine xr_stp rfl rfl rfl rfl ?_
          exact xr_retb (by omega) rfl rfl K
    · have z9 := nf_ne (by omega) (by omega) h9
      refine xr_stp (st' := .int (Int32.ofNat 1) :: _) rfl rfl rfl rfl ?_
      refine xr_stp rfl rfl rfl rfl ?_
      refine xr_stp rfl rfl rfl rfl ?_
      refine xr_getfield h.len rfl rfl rfl rfl ?_
      refine xr_stp (st' := .int (Int32.ofNat 1) :: _) rfl rfl rfl rfl ?_
      refine xr_j2 rfl rfl rfl rfl rfl (fun h22 => ?_) (fun h22 => ?_)
      · have z22 := nt_ne h22
        refine xr_stp (st' := .int (Int32.ofNat 0) :: _) rfl rfl rfl rfl ?_
        refine xr_j2 rfl rfl rfl rfl rfl (fun h30 => ?_) (fun h30 => ?_)
        · have z30 := nt_ne h30
          exact False.elim (by omega)
        · have z30 := nf_ne (by omega) (by omega) h30
          refine xr_stp (st' := .int (Int32.ofNat 1) :: _) rfl rfl rfl rfl ?_
          refine xr_stp rfl rfl rfl rfl ?_
          exact xr_retb (by omega) rfl rfl K
      · have z22 := nf_ne (by omega) (by omega) h22
        refine xr_stp (st' := .int (Int32.ofNat 1) :: _) rfl rfl rfl rfl ?_
        refine xr_stp rfl rfl rfl rfl ?_
        refine xr_j2 rfl rfl rfl rfl rfl (fun h30 => ?_) (fun h30 => ?_)
        · have z30 := nt_ne h30
          exact False.elim (by omega)
        · have z30 := nf_ne (by omega) (by omega) h30
          refine xr_stp (st' := .int (Int32.ofNat 1) :: _) rfl rfl rfl rfl ?_
          refine xr_stp rfl rfl rfl rfl ?_
          exact xr_retb (by omega) rfl rfl K
theorem ro_num {tp : Nat → Nat} {n lw nx nu st2 nx2 tk2 nu2 : Nat} (o : Nat) (ha : adR tp n nx nu st2 nx2 tk2 nu2) (hnu : nu ≤ 9999) : PR 37 6 [(1, .int (Int32.ofNat o))] tp n lw nx 38 nu nx2 tk2 nu2 [(38, nu)] := by
  intro d c s W0 st fa pl mn pa C B L hlen h r K
  have hlen2 : L.length + 1 ≤ 300 := hlen
  refine xr_stp rfl rfl rfl rfl ?_
  refine xr_getfield h.len rfl rfl rfl rfl ?_
  refine xr_stp rfl rfl rfl rfl ?_
  refine xr_stp rfl rfl rfl rfl ?_
  refine xr_stp (st' := .int (Int32.ofNat 38) :: _) rfl rfl rfl rfl ?_
  refine xr_j2 rfl rfl rfl rfl rfl (fun h8 => ?_) (fun h8 => ?_)
  · refine xr_stp rfl rfl rfl rfl ?_
    refine xr_stp (st' := .int (Int32.ofNat 38) :: _) rfl rfl rfl rfl ?_
    refine xr_j2 rfl rfl rfl rfl rfl (fun h26 => ?_) (fun h26 => ?_)
    · have z26 := nt_ne h26
      exact (by omega)
    · refine xr_stp rfl rfl rfl rfl ?_
      refine xr_getfield h.len rfl rfl rfl rfl ?_
      refine xr_stp (st' := .int (Int32.ofNat 9999) :: _) rfl rfl rfl rfl ?_
      refine xr_j2 rfl rfl rfl rfl rfl (fun h36 => ?_) (fun h36 => ?_)
      · refine xr_stp rfl rfl rfl rfl ?_
        refine xr_stp rfl rfl rfl rfl ?_
        refine xr_stp (st' := .int (Int32.ofNat 38) :: _) rfl rfl rfl rfl ?_
        refine xr_j2 rfl rfl rfl rfl rfl (fun h70 => ?_) (fun h70 => ?_)
        · have z70 := nt_ne h70
          exact (by omega)
        · refine xr_stp (st' := .int (Int32.ofNat 38) :: _) rfl rfl rfl rfl ?_
          refine xr_stp rfl rfl rfl rfl ?_
          refine xr_stp rfl rfl rfl rfl ?_
          refine xr_stp (st' := .int (Int32.ofNat 38) :: _) rfl rfl rfl rfl ?_
          refine xr_j2 rfl rfl rfl rfl rfl (fun h83 => ?_) (fun h83 => ?_)
          · have z83 := nt_ne h83
            exact (by omega)
          · refine xr_stp rfl rfl rfl rfl ?_
            refine xr_getfield h.len rfl rfl rfl rfl ?_
            refine xr_stp rfl rfl rfl rfl ?_
            refine xr_vcps h.len rfl rfl rfl rfl rfl rfl (fun r1 K2 => rs_emit _ _ _ _ _ _ _ _ _ _ _ _ _ _ _ _ _ _ _ _ h (by omega) r1 (fun W1 hW1 hfW1 => K2 _ _ _ _ ?_))
            refine xr_stp rfl rfl rfl rfl ?_
            refine xr_stp rfl rfl rfl rfl ?_
            refine xr_vcps hW1.len rfl rfl rfl rfl rfl rfl (fun r1 K2 => rs_adv _ _ _ _ _ _ _ _ _ _ _ _ _ _ _ _ _ _ hW1 ha r1 (fun W2 hW2 hfW2 => K2 _ _ _ _ ?_))
            refine xr_stp (st' := .int (Int32.ofNat 1) :: _) rfl rfl rfl rfl ?_
            exact xr_retb (by omega) rfl rfl (K W2 _ hW2 (hfW1.tr hfW2))
      · have z36 := nf_le (by omega) (by omega) h36
        exact (by omega)
  · have z8 := nf_eq h8
    exact (by omega)
theorem ro_nam {tp : Nat → Nat} {n lw nx tk nu st2 nx2 tk2 nu2 : Nat} (o : Nat) (ha : adR tp n nx nu st2 nx2 tk2 nu2) (h1 : 19 ≤ tk) (h2 : tk ≤ 24) (hl : lw < 2) (hn : tk ≤ 21 ∨ (tk = 24 ∧ lw = 1) ∨ (tk ≠ 24 ∧ lw = 0)) : PR 37 6 [(1, .int (Int32.ofNat o))] tp n lw nx tk nu nx2 tk2 nu2 [(41, tk - 19)] := by
  intro d c s W0 st fa pl mn pa C B L hlen h r K
  have hlen2 : L.length + 1 ≤ 300 := hlen
  refine xr_stp rfl rfl rfl rfl ?_
  refine xr_getfield h.len rfl rfl rfl rfl ?_
  refine xr_stp rfl rfl rfl rfl ?_
  refine xr_stp rfl rfl rfl rfl ?_
  refine xr_stp (st' := .int (Int32.ofNat 38) :: _) rfl rfl rfl rfl ?_
  refine xr_j2 rfl rfl rfl rfl rfl (fun h8 => ?_) (fun h8 => ?_)
  · have z8 := nt_eq (by omega) (by omega) h8
    exact (by omega)
  · refine xr_stp rfl rfl rfl rfl ?_
    refine xr_stp (st' := .int (Int32.ofNat 19) :: _) rfl rfl rfl rfl ?_
    refine xr_j2 rfl rfl rfl rfl rfl (fun h14 => ?_) (fun h14 => ?_)
    · have z14 := nt_lt (by omega) (by omega) h14
      exact (by omega)
    · refine xr_stp rfl rfl rfl rfl ?_
      refine xr_stp (st' := .int (Int32.ofNat 24) :: _) rfl rfl rfl rfl ?_
      refine xr_j2 rfl rfl rfl rfl rfl (fun h20 => ?_) (fun h20 => ?_)
      · have z20 := nt_gt (by omega) (by omega) h20
        exact (by omega)
      · refine xr_stp rfl rfl rfl rfl ?_
        refine xr_stp (st' := .int (Int32.ofNat 38) :: _) rfl rfl rfl rfl ?_
        refine xr_j2 rfl rfl rfl rfl rfl (fun h26 => ?_) (fun h26 => ?_)
        · refine xr_stp rfl rfl rfl rfl ?_
          refine xr_stp rfl rfl rfl rfl ?_
          refine xr_vcps h.len rfl rfl rfl rfl rfl rfl (fun r1 K2 => rs_law _ _ _ _ _ _ _ _ _ _ _ _ _ _ _ _ _ _ tk h (by omega) hl hn r1 (K2 _ _ _ _ ?_))
          refine xr_j1 rfl rfl rfl rfl rfl (fun h47 => ?_) (fun h47 => ?_)
          · refine xr_stp rfl rfl rfl rfl ?_
            refine xr_stp rfl rfl rfl rfl ?_
            refine xr_stp (st' := .int (Int32.ofNat 38) :: _) rfl rfl rfl rfl ?_
            refine xr_j2 rfl rfl rfl rfl rfl (fun h70 => ?_) (fun h70 => ?_)
            · refine xr_stp (st' := .int (Int32.ofNat 41) :: _) rfl rfl rfl rfl ?_
              refine xr_stp rfl rfl rfl rfl ?_
              refine xr_stp (st' := .int (Int32.ofNat 38) :: _) rfl rfl rfl rfl ?_
              refine xr_j2 rfl rfl rfl rfl rfl (fun h83 => ?_) (fun h83 => ?_)
              · refine xr_stp rfl rfl rfl rfl ?_
                refine xr_stp (st' := .int (Int32.ofNat 19) :: _) rfl rfl rfl rfl ?_
                refine xs_sub (by omega) rfl ?_
                refine xr_vcps h.len rfl rfl rfl rfl rfl rfl (fun r1 K2 => rs_emit _ _ _ _ _ _ _ _ _ _ _ _ _ _ _ _ _ _ _ _ h (by omega) r1 (fun W1 hW1 hfW1 => K2 _ _ _ _ ?_))
                refine xr_stp rfl rfl rfl rfl ?_
                refine xr_stp rfl rfl rfl rfl ?_
                refine xr_vcps hW1.len rfl rfl rfl rfl rfl rfl (fun r1 K2 => rs_adv _ _ _ _ _ _ _ _ _ _ _ _ _ _ _ _ _ _ hW1 ha r1 (fun W2 hW2 hfW2 => K2 _ _ _ _ ?_))
                refine xr_stp (st' := .int (Int32.ofNat 1) :: _) rfl rfl rfl rfl ?_
                exact xr_retb (by omega) rfl rfl (K W2 _ hW2 (hfW1.tr hfW2))
              · have z83 := nf_ne (by omega) (by omega) h83
                exact (by omega)
            · have z70 := nf_ne (by omega) (by omega) h70
              exact (by omega)
          · have z47 := nf1_ne (by omega) h47
            exact (by omega)
        · have z26 := nf_ne (by omega) (by omega) h26
          exact (by omega)
theorem ro_fun {tp : Nat → Nat} {n lw nx tk nu st1 nx1 tk1 nu1 nx2 tk2 nu2 : Nat} {E : List (Nat × Nat)} (o : Nat) (ha : adR tp n nx nu st1 nx1 tk1 nu1) (ho : o < 8) (h1 : tk = 17 ∨ tk = 18) (hp : PR 37 6 [(1, .int (Int32.ofNat (o + 1)))] tp n lw nx1 tk1 nu1 nx2 tk2 nu2 E) : PR 37 7 [(1, .int (Int32.ofNat o))] tp n lw nx tk nu nx2 tk2 nu2 (E ++ [(tk, 0)]) := by
  intro d c s W0 st fa pl mn pa C B L hlen h r K
  rw [List.length_append] at hlen
  have hlen2 : L.length + (E.length + 1) ≤ 300 := hlen
  have hl3 : (L ++ E).length = L.length + E.length := List.length_append
  refine xr_stp rfl rfl rfl rfl ?_
  refine xr_getfield h.len rfl rfl rfl rfl ?_
  refine xr_stp rfl rfl rfl rfl ?_
  refine xr_stp rfl rfl rfl rfl ?_
  refine xr_stp (st' := .int (Int32.ofNat 38) :: _) rfl rfl rfl rfl ?_
  refine xr_j2 rfl rfl rfl rfl rfl (fun h8 => ?_) (fun h8 => ?_)
  · have z8 := nt_eq (by omega) (by omega) h8
    exact (by omega)
  · refine xr_stp rfl rfl rfl rfl ?_
    refine xr_stp (st' := .int (Int32.ofNat 19) :: _) rfl rfl rfl rfl ?_
    refine xr_j2 rfl rfl rfl rfl rfl (fun h14 => ?_) (fun h14 => ?_)
    · refine xr_stp rfl rfl rfl rfl ?_
      refine xr_stp (st' := .int (Int32.ofNat 33) :: _) rfl rfl rfl rfl ?_
      refine xr_j2 rfl rfl rfl rfl rfl (fun h110 => ?_) (fun h110 => ?_)
      · have z110 := nt_eq (by omega) (by omega) h110
        exact (by omega)
      · refine xr_stp rfl rfl rfl rfl ?_
        refine xr_stp (st' := .int (Int32.ofNat 30) :: _) rfl rfl rfl rfl ?_
        refine xr_j2 rfl rfl rfl rfl rfl (fun h116 => ?_) (fun h116 => ?_)
        · have z116 := nt_eq (by omega) (by omega) h116
          exact (by omega)
        · refine xr_stp rfl rfl rfl rfl ?_
          refine xr_stp (st' := .int (Int32.ofNat 17) :: _) rfl rfl rfl rfl ?_
          refine xr_j2 rfl rfl rfl rfl rfl (fun h122 => ?_) (fun h122 => ?_)
          · have z122 := nt_eq (by omega) (by omega) h122
            refine xr_stp rfl rfl rfl rfl ?_
            refine xr_stp (st' := .int (Int32.ofNat 8) :: _) rfl rfl rfl rfl ?_
            refine xr_j2 rfl rfl rfl rfl rfl (fun h146 => ?_) (fun h146 => ?_)
            · refine xr_stp rfl rfl rfl rfl ?_
              refine xr_vcps h.len rfl rfl rfl rfl rfl rfl (fun r1 K2 => rs_adv _ _ _ _ _ _ _ _ _ _ _ _ _ _ _ _ _ _ h ha r1 (fun W1 hW1 hfW1 => K2 _ _ _ _ ?_))
              refine xr_stp rfl rfl rfl rfl ?_
              refine xr_stp (st' := .int (Int32.ofNat 10) :: _) rfl rfl rfl rfl ?_
              refine xr_j2 rfl rfl rfl rfl rfl (fun h162 => ?_) (fun h162 => ?_)
              · refine xr_stp rfl rfl rfl rfl ?_
                refine xr_stp (st' := .int (Int32.ofNat 33) :: _) rfl rfl rfl rfl ?_
                refine xr_j2 rfl rfl rfl rfl rfl (fun h176 => ?_) (fun h176 => ?_)
                · refine xr_stp rfl rfl rfl rfl ?_
                  refine xr_stp rfl rfl rfl rfl ?_
                  refine xr_stp (st' := .int (Int32.ofNat 1) :: _) rfl rfl rfl rfl ?_
                  refine xs_add rfl ?_
                  refine xr_vcps hW1.len rfl rfl rfl rfl rfl rfl (fun r1 K2 => hp _ _ _ _ _ _ _ _ _ _ _ _ (by omega) hW1 r1 (fun W2 st9 hW2 hfW2 => K2 _ _ _ _ ?_))
                  refine xr_j1 rfl rfl rfl rfl rfl (fun h211 => ?_) (fun h211 => ?_)
                  · refine xr_stp rfl rfl rfl rfl ?_
                    refine xr_stp rfl rfl rfl rfl ?_
                    refine xr_stp (st' := .int (Int32.ofNat 30) :: _) rfl rfl rfl rfl ?_
                    refine xr_j2 rfl rfl rfl rfl rfl (fun h220 => ?_) (fun h220 => ?_)
                    · refine xr_stp rfl rfl rfl rfl ?_
                      refine xr_stp (st' := .int (Int32.ofNat 0) :: _) rfl rfl rfl rfl ?_
                      refine xr_vcps hW2.len rfl rfl rfl rfl rfl rfl (fun r1 K2 => rs_emit _ _ _ _ _ _ _ _ _ _ _ _ _ _ _ _ _ _ _ _ hW2 (by omega) r1 (fun W3 hW3 hfW3 => K2 _ _ _ _ ?_))
                      refine xr_stp rfl rfl rfl rfl ?_
                      refine xr_stp (st' := .int (Int32.ofNat 1) :: _) rfl rfl rfl rfl ?_
                      exact xr_retb (by omega) rfl rfl (K W3 _ (by rw [← List.append_assoc]; exact hW3) (hfW1.tr (hfW2.tr hfW3)))
                    · have z220 := nf_ne (by omega) (by omega) h220
                      exact (by omega)
                  · have z211 := nf1_ne (by omega) h211
                    exact (by omega)
                · have z176 := nf_ne (by omega) (by omega) h176
                  exact (by omega)
              · have z162 := nf_ne (by omega) (by omega) h162
                exact (by omega)
            · have z146 := nf_lt (by omega) (by omega) h146
              exact (by omega)
          · have z122 := nf_eq h122
            refine xr_stp rfl rfl rfl rfl ?_
            refine xr_stp (st' := .int (Int32.ofNat 18) :: _) rfl rfl rfl rfl ?_
            refine xr_j2 rfl rfl rfl rfl rfl (fun h128 => ?_) (fun h128 => ?_)
            · refine xr_stp rfl rfl rfl rfl ?_
              refine xr_stp (st' := .int (Int32.ofNat 8) :: _) rfl rfl rfl rfl ?_
              refine xr_j2 rfl rfl rfl rfl rfl (fun h146 => ?_) (fun h146 => ?_)
              · refine xr_stp rfl rfl rfl rfl ?_
                refine xr_vcps h.len rfl rfl rfl rfl rfl rfl (fun r1 K2 => rs_adv _ _ _ _ _ _ _ _ _ _ _ _ _ _ _ _ _ _ h ha r1 (fun W1 hW1 hfW1 => K2 _ _ _ _ ?_))
                refine xr_stp rfl rfl rfl rfl ?_
                refine xr_stp (st' := .int (Int32.ofNat 10) :: _) rfl rfl rfl rfl ?_
                refine xr_j2 rfl rfl rfl rfl rfl (fun h162 => ?_) (fun h162 => ?_)
                · refine xr_stp rfl rfl rfl rfl ?_
                  refine xr_stp (st' := .int (Int32.ofNat 33) :: _) rfl rfl rfl rfl ?_
                  refine xr_j2 rfl rfl rfl rfl rfl (fun h176 => ?_) (fun h176 => ?_)
                  · refine xr_stp rfl rfl rfl rfl ?_
                    refine xr_stp rfl rfl rfl rfl ?_
                    refine xr_stp (st' := .int (Int32.ofNat 1) :: _) rfl rfl rfl rfl ?_
                    refine xs_add rfl ?_
                    refine xr_vcps hW1.len rfl rfl rfl rfl rfl rfl (fun r1 K2 => hp _ _ _ _ _ _ _ _ _ _ _ _ (by omega) hW1 r1 (fun W2 st9 hW2 hfW2 => K2 _ _ _ _ ?_))
                    refine xr_j1 rfl rfl rfl rfl rfl (fun h211 => ?_) (fun h211 => ?_)
                    · refine xr_stp rfl rfl rfl rfl ?_
                      refine xr_stp rfl rfl rfl rfl ?_
                      refine xr_stp (st' := .int (Int32.ofNat 30) :: _) rfl rfl rfl rfl ?_
                      refine xr_j2 rfl rfl rfl rfl rfl (fun h220 => ?_) (fun h220 => ?_)
                      · refine xr_stp rfl rfl rfl rfl ?_
                        refine xr_stp (st' := .int (Int32.ofNat 0) :: _) rfl rfl rfl rfl ?_
                        refine xr_vcps hW2.len rfl rfl rfl rfl rfl rfl (fun r1 K2 => rs_emit _ _ _ _ _ _ _ _ _ _ _ _ _ _ _ _ _ _ _ _ hW2 (by omega) r1 (fun W3 hW3 hfW3 => K2 _ _ _ _ ?_))
                        refine xr_stp rfl rfl rfl rfl ?_
                        refine xr_stp (st' := .int (Int32.ofNat 1) :: _) rfl rfl rfl rfl ?_
                        exact xr_retb (by omega) rfl rfl (K W3 _ (by rw [← List.append_assoc]; exact hW3) (hfW1.tr (hfW2.tr hfW3)))
                      · have z220 := nf_ne (by omega) (by omega) h220
                        exact (by omega)
                    · have z211 := nf1_ne (by omega) h211
                      exact (by omega)
                  · have z176 := nf_ne (by omega) (by omega) h176
                    exact (by omega)
                · have z162 := nf_ne (by omega) (by omega) h162
                  exact (by omega)
              · have z146 := nf_lt (by omega) (by omega) h146
                exact (by omega)
            · have z128 := nf_eq h128
              exact (by omega)
    · have z14 := nf_lt (by omega) (by omega) h14
      exact (by omega)
theorem PL36_e {tp : Nat → Nat} {n lw nx tk nu : Nat} (o i : Nat) (hi : i < 300) (htk : tk < 100) (h1 : tk ≠ 31) (h2 : tk ≠ 32) : PL 36 8 o i tp n lw nx tk nu nx tk nu [] := by
  intro d c s W0 st fa pl mn pa C B L hlen h r K
  refine xr_stp rfl rfl rfl rfl ?_
  refine xr_stp (st' := .int (Int32.ofNat 300) :: _) rfl rfl rfl rfl ?_
  refine xr_j2 rfl rfl rfl rfl rfl (fun h16 => ?_) (fun h16 => ?_)
  · have z16 := nt_ge (by omega) (by omega) h16
    exact (by omega)
  · refine xr_stp rfl rfl rfl rfl ?_
    refine xr_getfield h.len rfl rfl rfl rfl ?_
    refine xr_stp (st' := .int (Int32.ofNat 31) :: _) rfl rfl rfl rfl ?_
    refine xr_j2 rfl rfl rfl rfl rfl (fun h25 => ?_) (fun h25 => ?_)
    · have z25 := nt_eq (by omega) (by omega) h25
      exact (by omega)
    · refine xr_stp rfl rfl rfl rfl ?_
      refine xr_getfield h.len rfl rfl rfl rfl ?_
      refine xr_stp (st' := .int (Int32.ofNat 32) :: _) rfl rfl rfl rfl ?_
      refine xr_j2 rfl rfl rfl rfl rfl (fun h34 => ?_) (fun h34 => ?_)
      · refine xr_stp (st' := .int (Int32.ofNat 1) :: _) rfl rfl rfl rfl ?_
        exact xr_retb (by omega) rfl rfl (K W0 _ (by rw [List.append_nil]; exact h) fr.rf)
      · have z34 := nf_ne (by omega) (by omega) h34
        exact (by omega)
theorem PL36_s {tp : Nat → Nat} {n lw nx tk nu st1 nx1 tk1 nu1 nx2 tk2 nu2 nx3 tk3 nu3 : Nat} {E1 E2 : List (Nat × Nat)} (o i : Nat) (hi : i < 300) (htk : tk = 31 ∨ tk = 32) (ha : adR tp n nx nu st1 nx1 tk1 nu1) (hp : PR 37 7 [(1, .int (Int32.ofNat o))] tp n lw nx1 tk1 nu1 nx2 tk2 nu2 E1) (hq : PL 36 8 o (i + 1) tp n lw nx2 tk2 nu2 nx3 tk3 nu3 E2) : PL 36 8 o i tp n lw nx tk nu nx3 tk3 nu3 (E1 ++ (tk, 0) :: E2) := by
  intro d c s W0 st fa pl mn pa C B L hlen h r K
  rw [List.length_append] at hlen
  have hlen2 : L.length + (E1.length + (E2.length + 1)) ≤ 300 := hlen
  have hl3 : (L ++ E1).length = L.length + E1.length := List.length_append
  have hl4 : (L ++ E1 ++ [(tk, 0)]).length = L.length + E1.length + 1 := by simp; omega
  refine xr_stp rfl rfl rfl rfl ?_
  refine xr_stp (st' := .int (Int32.ofNat 300) :: _) rfl rfl rfl rfl ?_
  refine xr_j2 rfl rfl rfl rfl rfl (fun h16 => ?_) (fun h16 => ?_)
  · have z16 := nt_ge (by omega) (by omega) h16
    exact (by omega)
  · refine xr_stp rfl rfl rfl rfl ?_
    refine xr_getfield h.len rfl rfl rfl rfl ?_
    refine xr_stp (st' := .int (Int32.ofNat 31) :: _) rfl rfl rfl rfl ?_
    refine xr_j2 rfl rfl rfl rfl rfl (fun h25 => ?_) (fun h25 => ?_)
    · have z25 := nt_eq (by omega) (by omega) h25
      refine xr_stp rfl rfl rfl rfl ?_
      refine xr_getfield h.len rfl rfl rfl rfl ?_
      refine xr_stp rfl rfl rfl rfl ?_
      refine xr_stp rfl rfl rfl rfl ?_
      refine xr_vcps h.len rfl rfl rfl rfl rfl rfl (fun r1 K2 => rs_adv _ _ _ _ _ _ _ _ _ _ _ _ _ _ _ _ _ _ h ha r1 (fun W1 hW1 hfW1 => K2 _ _ _ _ ?_))
      refine xr_stp rfl rfl rfl rfl ?_
      refine xr_stp rfl rfl rfl rfl ?_
      refine xr_vcps hW1.len rfl rfl rfl rfl rfl rfl (fun r1 K2 => hp _ _ _ _ _ _ _ _ _ _ _ _ (by omega) hW1 r1 (fun W2 st9 hW2 hfW2 => K2 _ _ _ _ ?_))
      refine xr_j1 rfl rfl rfl rfl rfl (fun h51 => ?_) (fun h51 => ?_)
      · refine xr_stp rfl rfl rfl rfl ?_
        refine xr_stp rfl rfl rfl rfl ?_
        refine xr_stp (st' := .int (Int32.ofNat 0) :: _) rfl rfl rfl rfl ?_
        refine xr_vcps hW2.len rfl rfl rfl rfl rfl rfl (fun r1 K2 => rs_emit _ _ _ _ _ _ _ _ _ _ _ _ _ _ _ _ _ _ _ _ hW2 (by omega) r1 (fun W3 hW3 hfW3 => K2 _ _ _ _ ?_))
        refine xr_stp rfl rfl rfl rfl ?_
        refine xs_inc (e := 1) rfl rfl rfl rfl ?_
        refine xr_stp rfl rfl rfl rfl ?_
        refine xr_loc [(0, .ref 18), (1, .int (Int32.ofNat o)), (2, .int (Int32.ofNat (i + 1)))] ⟨rfl, rfl, rfl, trivial⟩ rfl ?_
        refine hq _ _ _ _ _ _ _ _ _ _ _ _ (by omega) hW3 r (fun W4 st8 hW4 hfW4 => ?_)
        exact K W4 st8 (by simpa only [List.append_assoc, List.cons_append, List.nil_append] using hW4) (hfW1.tr (hfW2.tr (hfW3.tr hfW4)))
      · have z51 := nf1_ne (by omega) h51
        exact (by omega)
    · have z25 := nf_eq h25
      refine xr_stp rfl rfl rfl rfl ?_
      refine xr_getfield h.len rfl rfl rfl rfl ?_
      refine xr_stp (st' := .int (Int32.ofNat 32) :: _) rfl rfl rfl rfl ?_
      refine xr_j2 rfl rfl rfl rfl rfl (fun h34 => ?_) (fun h34 => ?_)
      · have z34 := nt_ne h34
        exact (by omega)
      · refine xr_stp rfl rfl rfl rfl ?_
        refine xr_getfield h.len rfl rfl rfl rfl ?_
        refine xr_stp rfl rfl rfl rfl ?_
        refine xr_stp rfl rfl rfl rfl ?_
        refine xr_vcps h.len rfl rfl rfl rfl rfl rfl (fun r1 K2 => rs_adv _ _ _ _ _ _ _ _ _ _ _ _ _ _ _ _ _ _ h ha r1 (fun W1 hW1 hfW1 => K2 _ _ _ _ ?_))
        refine xr_stp rfl rfl rfl rfl ?_
        refine xr_stp rfl rfl rfl rfl ?_
        refine xr_vcps hW1.len rfl rfl rfl rfl rfl rfl (fun r1 K2 => hp _ _ _ _ _ _ _ _ _ _ _ _ (by omega) hW1 r1 (fun W2 st9 hW2 hfW2 => K2 _ _ _ _ ?_))
        refine xr_j1 rfl rfl rfl rfl rfl (fun h51 => ?_) (fun h51 => ?_)
        · refine xr_stp rfl rfl rfl rfl ?_
          refine xr_stp rfl rfl rfl rfl ?_
          refine xr_stp (st' := .int (Int32.ofNat 0) :: _) rfl rfl rfl rfl ?_
          refine xr_vcps hW2.len rfl rfl rfl rfl rfl rfl (fun r1 K2 => rs_emit _ _ _ _ _ _ _ _ _ _ _ _ _ _ _ _ _ _ _ _ hW2 (by omega) r1 (fun W3 hW3 hfW3 => K2 _ _ _ _ ?_))
          refine xr_stp rfl rfl rfl rfl ?_
          refine xs_inc (e := 1) rfl rfl rfl rfl ?_
          refine xr_stp rfl rfl rfl rfl ?_
          refine xr_loc [(0, .ref 18), (1, .int (Int32.ofNat o)), (2, .int (Int32.ofNat (i + 1)))] ⟨rfl, rfl, rfl, trivial⟩ rfl ?_
          refine hq _ _ _ _ _ _ _ _ _ _ _ _ (by omega) hW3 r (fun W4 st8 hW4 hfW4 => ?_)
          exact K W4 st8 (by simpa only [List.append_assoc, List.cons_append, List.nil_append] using hW4) (hfW1.tr (hfW2.tr (hfW3.tr hfW4)))
        · have z51 := nf1_ne (by omega) h51
          exact (by omega)
theorem PR36 {tp : Nat → Nat} {n lw nx tk nu nx2 tk2 nu2 nx3 tk3 nu3 : Nat} {E1 E2 : List (Nat × Nat)} (o : Nat) (hp : PR 37 7 [(1, .int (Int32.ofNat o))] tp n lw nx tk nu nx2 tk2 nu2 E1) (hq : PL 36 8 o 0 tp n lw nx2 tk2 nu2 nx3 tk3 nu3 E2) : PR 36 8 [(1, .int (Int32.ofNat o))] tp n lw nx tk nu nx3 tk3 nu3 (E1 ++ E2) := by
  intro d c s W0 st fa pl mn pa C B L hlen h r K
  rw [List.length_append] at hlen
  have hl3 : (L ++ E1).length = L.length + E1.length := List.length_append
  refine xr_stp rfl rfl rfl rfl ?_
  refine xr_stp rfl rfl rfl rfl ?_
  refine xr_vcps h.len rfl rfl rfl rfl rfl rfl (fun r1 K2 => hp _ _ _ _ _ _ _ _ _ _ _ _ (by omega) h r1 (fun W2 st9 hW2 hfW2 => K2 _ _ _ _ ?_))
  refine xr_j1 rfl rfl rfl rfl rfl (fun h5 => ?_) (fun h5 => ?_)
  · refine xr_stp (st' := .int (Int32.ofNat 0) :: _) rfl rfl rfl rfl ?_
    refine xr_stp rfl rfl rfl rfl ?_
    refine xr_loc [(0, .ref 18), (1, .int (Int32.ofNat o)), (2, .int (Int32.ofNat 0))] ⟨rfl, rfl, rfl, trivial⟩ rfl ?_
    exact hq _ _ _ _ _ _ _ _ _ _ _ _ (by omega) hW2 r (fun W3 st8 hW3 hfW3 => K W3 st8 (by rw [← List.append_assoc]; exact hW3) (hfW2.tr hfW3))
  · have z5 := nf1_ne (by omega) h5
    exact (by omega)
theorem PL35_e {tp : Nat → Nat} {n lw nx tk nu : Nat} (o i : Nat) (hi : i < 300) (htk : tk < 100) (h1 : tk ≠ 29) (h2 : tk ≠ 30) : PL 35 9 o i tp n lw nx tk nu nx tk nu [] := by
  intro d c s W0 st fa pl mn pa C B L hlen h r K
  refine xr_stp rfl rfl rfl rfl ?_
  refine xr_stp (st' := .int (Int32.ofNat 300) :: _) rfl rfl rfl rfl ?_
  refine xr_j2 rfl rfl rfl rfl rfl (fun h16 => ?_) (fun h16 => ?_)
  · have z16 := nt_ge (by omega) (by omega) h16
    exact (by omega)
  · refine xr_stp rfl rfl rfl rfl ?_
    refine xr_getfield h.len rfl rfl rfl rfl ?_
    refine xr_stp (st' := .int (Int32.ofNat 29) :: _) rfl rfl rfl rfl ?_
    refine xr_j2 rfl rfl rfl rfl rfl (fun h25 => ?_) (fun h25 => ?_)
    · have z25 := nt_eq (by omega) (by omega) h25
      exact (by omega)
    · refine xr_stp rfl rfl rfl rfl ?_
      refine xr_getfield h.len rfl rfl rfl rfl ?_
      refine xr_stp (st' := .int (Int32.ofNat 30) :: _) rfl rfl rfl rfl ?_
      refine xr_j2 rfl rfl rfl rfl rfl (fun h34 => ?_) (fun h34 => ?_)
      · refine xr_stp (st' := .int (Int32.ofNat 1) :: _) rfl rfl rfl rfl ?_
        exact xr_retb (by omega) rfl rfl (K W0 _ (by rw [List.append_nil]; exact h) fr.rf)
      · have z34 := nf_ne (by omega) (by omega) h34
        exact (by omega)
theorem PL35_s {tp : Nat → Nat} {n lw nx tk nu st1 nx1 tk1 nu1 nx2 tk2 nu2 nx3 tk3 nu3 : Nat} {E1 E2 : List (Nat × Nat)} (o i : Nat) (hi : i < 300) (htk : tk = 29 ∨ tk = 30) (ha : adR tp n nx nu st1 nx1 tk1 nu1) (hp : PR 36 8 [(1, .int (Int32.ofNat o))] tp n lw nx1 tk1 nu1 nx2 tk2 nu2 E1) (hq : PL 35 9 o (i + 1) tp n lw nx2 tk2 nu2 nx3 tk3 nu3 E2) : PL 35 9 o i tp n lw nx tk nu nx3 tk3 nu3 (E1 ++ (tk, 0) :: E2) := by
  intro d c s W0 st fa pl mn pa C B L hlen h r K
  rw [List.length_append] at hlen
  have hlen2 : L.length + (E1.length + (E2.length + 1)) ≤ 300 := hlen
  have hl3 : (L ++ E1).length = L.length + E1.length := List.length_append
  have hl4 : (L ++ E1 ++ [(tk, 0)]).length = L.length + E1.length + 1 := by simp; omega
  refine xr_stp rfl rfl rfl rfl ?_
  refine xr_stp (st' := .int (Int32.ofNat 300) :: _) rfl rfl rfl rfl ?_
  refine xr_j2 rfl rfl rfl rfl rfl (fun h16 => ?_) (fun h16 => ?_)
  · have z16 := nt_ge (by omega) (by omega) h16
    exact (by omega)
  · refine xr_stp rfl rfl rfl rfl ?_
    refine xr_getfield h.len rfl rfl rfl rfl ?_
    refine xr_stp (st' := .int (Int32.ofNat 29) :: _) rfl rfl rfl rfl ?_
    refine xr_j2 rfl rfl rfl rfl rfl (fun h25 => ?_) (fun h25 => ?_)
    · have z25 := nt_eq (by omega) (by omega) h25
      refine xr_stp rfl rfl rfl rfl ?_
      refine xr_getfield h.len rfl rfl rfl rfl ?_
      refine xr_stp rfl rfl rfl rfl ?_
      refine xr_stp rfl rfl rfl rfl ?_
      refine xr_vcps h.len rfl rfl rfl rfl rfl rfl (fun r1 K2 => rs_adv _ _ _ _ _ _ _ _ _ _ _ _ _ _ _ _ _ _ h ha r1 (fun W1 hW1 hfW1 => K2 _ _ _ _ ?_))
      refine xr_stp rfl rfl rfl rfl ?_
      refine xr_stp rfl rfl rfl rfl ?_
      refine xr_vcps hW1.len rfl rfl rfl rfl rfl rfl (fun r1 K2 => hp _ _ _ _ _ _ _ _ _ _ _ _ (by omega) hW1 r1 (fun W2 st9 hW2 hfW2 => K2 _ _ _ _ ?_))
      refine xr_j1 rfl rfl rfl rfl rfl (fun h51 => ?_) (fun h51 => ?_)
      · refine xr_stp rfl rfl rfl rfl ?_
        refine xr_stp rfl rfl rfl rfl ?_
        refine xr_stp (st' := .int (Int32.ofNat 0) :: _) rfl rfl rfl rfl ?_
        refine xr_vcps hW2.len rfl rfl rfl rfl rfl rfl (fun r1 K2 => rs_emit _ _ _ _ _ _ _ _ _ _ _ _ _ _ _ _ _ _ _ _ hW2 (by omega) r1 (fun W3 hW3 hfW3 => K2 _ _ _ _ ?_))
        refine xr_stp rfl rfl rfl rfl ?_
        refine xs_inc (e := 1) rfl rfl rfl rfl ?_
        refine xr_stp rfl rfl rfl rfl ?_
        refine xr_loc [(0, .ref 18), (1, .int (Int32.ofNat o)), (2, .int (Int32.ofNat (i + 1)))] ⟨rfl, rfl, rfl, trivial⟩ rfl ?_
        refine hq _ _ _ _ _ _ _ _ _ _ _ _ (by omega) hW3 r (fun W4 st8 hW4 hfW4 => ?_)
        exact K W4 st8 (by simpa only [List.append_assoc, List.cons_append, List.nil_append] using hW4) (hfW1.tr (hfW2.tr (hfW3.tr hfW4)))
      · have z51 := nf1_ne (by omega) h51
        exact (by omega)
    · have z25 := nf_eq h25
      refine xr_stp rfl rfl rfl rfl ?_
      refine xr_getfield h.len rfl rfl rfl rfl ?_
      refine xr_stp (st' := .int (Int32.ofNat 30) :: _) rfl rfl rfl rfl ?_
      refine xr_j2 rfl rfl rfl rfl rfl (fun h34 => ?_) (fun h34 => ?_)
      · have z34 := nt_ne h34
        exact (by omega)
      · refine xr_stp rfl rfl rfl rfl ?_
        refine xr_getfield h.len rfl rfl rfl rfl ?_
        refine xr_stp rfl rfl rfl rfl ?_
        refine xr_stp rfl rfl rfl rfl ?_
        refine xr_vcps h.len rfl rfl rfl rfl rfl rfl (fun r1 K2 => rs_adv _ _ _ _ _ _ _ _ _ _ _ _ _ _ _ _ _ _ h ha r1 (fun W1 hW1 hfW1 => K2 _ _ _ _ ?_))
        refine xr_stp rfl rfl rfl rfl ?_
        refine xr_stp rfl rfl rfl rfl ?_
        refine xr_vcps hW1.len rfl rfl rfl rfl rfl rfl (fun r1 K2 => hp _ _ _ _ _ _ _ _ _ _ _ _ (by omega) hW1 r1 (fun W2 st9 hW2 hfW2 => K2 _ _ _ _ ?_))
        refine xr_j1 rfl rfl rfl rfl rfl (fun h51 => ?_) (fun h51 => ?_)
        · refine xr_stp rfl rfl rfl rfl ?_
          refine xr_stp rfl rfl rfl rfl ?_
          refine xr_stp (st' := .int (Int32.ofNat 0) :: _) rfl rfl rfl rfl ?_
          refine xr_vcps hW2.len rfl rfl rfl rfl rfl rfl (fun r1 K2 => rs_emit _ _ _ _ _ _ _ _ _ _ _ _ _ _ _ _ _ _ _ _ hW2 (by omega) r1 (fun W3 hW3 hfW3 => K2 _ _ _ _ ?_))
          refine xr_stp rfl rfl rfl rfl ?_
          refine xs_inc (e := 1) rfl rfl rfl rfl ?_
          refine xr_stp rfl rfl rfl rfl ?_
          refine xr_loc [(0, .ref 18), (1, .int (Int32.ofNat o)), (2, .int (Int32.ofNat (i + 1)))] ⟨rfl, rfl, rfl, trivial⟩ rfl ?_
          refine hq _ _ _ _ _ _ _ _ _ _ _ _ (by omega) hW3 r (fun W4 st8 hW4 hfW4 => ?_)
          exact K W4 st8 (by simpa only [List.append_assoc, List.cons_append, List.nil_append] using hW4) (hfW1.tr (hfW2.tr (hfW3.tr hfW4)))
        · have z51 := nf1_ne (by omega) h51
          exact (by omega)
theorem PR35 {tp : Nat → Nat} {n lw nx tk nu nx2 tk2 nu2 nx3 tk3 nu3 : Nat} {E1 E2 : List (Nat × Nat)} (o : Nat) (hp : PR 36 8 [(1, .int (Int32.ofNat o))] tp n lw nx tk nu nx2 tk2 nu2 E1) (hq : PL 35 9 o 0 tp n lw nx2 tk2 nu2 nx3 tk3 nu3 E2) : PR 35 9 [(1, .int (Int32.ofNat o))] tp n lw nx tk nu nx3 tk3 nu3 (E1 ++ E2) := by
  intro d c s W0 st fa pl mn pa C B L hlen h r K
  rw [List.length_append] at hlen
  have hl3 : (L ++ E1).length = L.length + E1.length := List.length_append
  refine xr_stp rfl rfl rfl rfl ?_
  refine xr_stp rfl rfl rfl rfl ?_
  refine xr_vcps h.len rfl rfl rfl rfl rfl rfl (fun r1 K2 => hp _ _ _ _ _ _ _ _ _ _ _ _ (by omega) h r1 (fun W2 st9 hW2 hfW2 => K2 _ _ _ _ ?_))
  refine xr_j1 rfl rfl rfl rfl rfl (fun h5 => ?_) (fun h5 => ?_)
  · refine xr_stp (st' := .int (Int32.ofNat 0) :: _) rfl rfl rfl rfl ?_
    refine xr_stp rfl rfl rfl rfl ?_
    refine xr_loc [(0, .ref 18), (1, .int (Int32.ofNat o)), (2, .int (Int32.ofNat 0))] ⟨rfl, rfl, rfl, trivial⟩ rfl ?_
    exact hq _ _ _ _ _ _ _ _ _ _ _ _ (by omega) hW2 r (fun W3 st8 hW3 hfW3 => K W3 st8 (by rw [← List.append_assoc]; exact hW3) (hfW2.tr hfW3))
  · have z5 := nf1_ne (by omega) h5
    exact (by omega)
