/-! the Reader reads: clauses -/
theorem rc_law (d c s : Nat) (W0 : xi_W) (tp : Nat → Nat) (n st nx tk nu fa pl mn pa lw : Nat) (C B : Nat → Nat) (L : List (Nat × Nat)) {st1 nx1 tk1 nu1 nx2 nu2 st3 nx3 tk3 nu3 : Nat} {E : List (Nat × Nat)} (h : RDS tp n st nx tk nu fa pl mn pa lw C B L W0) (htk : tk < 2) (hBt : B (tk * 2) = 4294967295) (hmn : mn < 24) (hlen : L.length + E.length ≤ 300) (ha : adR tp n nx nu st1 nx1 tk1 nu1) (hp : PR 35 9 [(1, .int (Int32.ofNat 0))] tp n tk nx1 tk1 nu1 nx2 35 nu2 E) (ha2 : adR tp n nx2 nu2 st3 nx3 tk3 nu3) (r : xi_R → Prop) (K : ∀ W', RDS tp n st3 nx3 tk3 nu3 fa pl (mn + 1) 1 tk (xn_u C (mn * 5) tk) (xn_u (xn_u B (tk * 2) L.length) (tk * 2 + 1) (L.length + E.length)) (L ++ E) W' → fr rdp W0 W' → r (some (.int (Int32.ofNat 1)), W', c, s)) : xr (d + 10) 31 0 [(0, .ref 18)] [] W0 c s r := by
  obtain ⟨hk, hO, hT, hC, ⟨P, hP, hL⟩, hB⟩ := h
  have hF : fr rdp W0 W0 := fr.rf
  rcases (show tk = 0 ∨ tk = 1 by omega) with rfl | rfl
  · refine xr_stp rfl rfl rfl rfl ?_
    refine xr_getfield hO rfl rfl rfl rfl ?_
    refine xr_stp rfl rfl rfl rfl ?_
    refine xr_stp rfl rfl rfl rfl ?_
    refine xr_j1 rfl rfl rfl rfl rfl (fun h6 => ?_) (fun h6 => ?_)
    · have z6 := n_lt0 h6
      exact (by omega)
    · refine xr_stp rfl rfl rfl rfl ?_
      refine xr_stp (st' := .int (Int32.ofNat 6) :: _) rfl rfl rfl rfl ?_
      refine xr_j2 rfl rfl rfl rfl rfl (fun h12 => ?_) (fun h12 => ?_)
      · refine xr_stp rfl rfl rfl rfl ?_
        refine xr_j1 rfl rfl rfl rfl rfl (fun h22 => ?_) (fun h22 => ?_)
        · refine xr_stp (st' := .int (Int32.ofNat 1) :: _) rfl rfl rfl rfl ?_
          refine xr_stp rfl rfl rfl rfl ?_
          refine xr_stp rfl rfl rfl rfl ?_
          refine xr_stp rfl rfl rfl rfl ?_
          refine xr_j1 rfl rfl rfl rfl rfl (fun h37 => ?_) (fun h37 => ?_)
          · have z37 := nt1_eq (by omega) h37
            exact (by omega)
          · refine xr_stp rfl rfl rfl rfl ?_
            refine xr_getfield hO rfl rfl rfl rfl ?_
            refine xr_stp rfl rfl rfl rfl ?_
            refine xr_stp (st' := .int (Int32.ofNat 2) :: _) rfl rfl rfl rfl ?_
            refine xs_mul rfl ?_
            refine xs_ild hB (by omega) (by omega) rfl ?_
            refine xr_stp (st' := .int (Int32.ofNat 4294967295) :: _) rfl rfl rfl rfl ?_
            refine xr_j2 rfl rfl rfl rfl rfl (fun h49 => ?_) (fun h49 => ?_)
            · refine xr_stp rfl rfl rfl rfl ?_
              refine xr_getfield hO rfl rfl rfl rfl ?_
              refine xr_stp (st' := .int (Int32.ofNat 24) :: _) rfl rfl rfl rfl ?_
              refine xr_j2 rfl rfl rfl rfl rfl (fun h64 => ?_) (fun h64 => ?_)
              · refine xr_stp rfl rfl rfl rfl ?_
                refine xr_getfield hO rfl rfl rfl rfl ?_
                refine xr_stp rfl rfl rfl rfl ?_
                refine xr_getfield hO rfl rfl rfl rfl ?_
                refine xr_stp (st' := .int (Int32.ofNat 5) :: _) rfl rfl rfl rfl ?_
                refine xs_mul rfl ?_
                refine xr_stp rfl rfl rfl rfl ?_
                refine xs_istk hC (by omega) (by omega) (by omega) rfl (fun W hC hf1 => ?_)
                have hO := hf1.at hO (by omega)
                have hT := hf1.at hT (by omega)
                have hP := hf1.at hP (by omega)
                have hB := hf1.at hB (by omega)
                have hF := hF.tr2 hf1 (fun i e => Or.inl (rdp_ e (by omega)))
                refine xr_stp rfl rfl rfl rfl ?_
                refine xr_stp (st' := .int (Int32.ofNat 1) :: _) rfl rfl rfl rfl ?_
                refine xr_putk hO (by omega) rfl rfl rfl rfl rfl rfl (fun W hO hf1 => ?_)
                have hT := hf1.at hT (by omega)
                have hC := hf1.at hC (by omega)
                have hP := hf1.at hP (by omega)
                have hB := hf1.at hB (by omega)
                have hF := hF.tr2 hf1 (fun i e => Or.inl (rdp_ e (by omega)))
                have hR : RDS tp n st nx 0 nu fa pl mn 1 lw (xn_u C (mn * 5) 0) B L W := ⟨hk.rd5 hF, hO, hT, hC, ⟨P, hP, hL⟩, hB⟩
                refine xr_stp rfl rfl rfl rfl ?_
                refine xr_vcps hR.len rfl rfl rfl rfl rfl rfl (fun r1 K2 => rs_adv _ _ _ _ _ _ _ _ _ _ _ _ _ _ _ _ _ _ hR ha r1 (fun W1 hW1 hfW1 => K2 _ _ _ _ ?_))
                have hF := hF.tr hfW1
                clear hk hO hT hC hB hP hL hR
                obtain ⟨hk, hO, hT, hC, ⟨P, hP, hL⟩, hB⟩ := hW1
                have hF2 : fr rdp W1 W1 := fr.rf
                refine xr_stp rfl rfl rfl rfl ?_
                refine xr_j1 rfl rfl rfl rfl rfl (fun h96 => ?_) (fun h96 => ?_)
                · have z96 := nt1_eq (by omega) h96
                  exact (by omega)
                · refine xr_stp rfl rfl rfl rfl ?_
                  refine xr_stp rfl rfl rfl rfl ?_
                  refine xr_putk hO (by omega) rfl rfl rfl rfl rfl rfl (fun W hO hf1 => ?_)
                  have hT := hf1.at hT (by omega)
                  have hC := hf1.at hC (by omega)
                  have hP := hf1.at hP (by omega)
                  have hB := hf1.at hB (by omega)
                  have hF2 := hF2.tr2 hf1 (fun i e => Or.inl (rdp_ e (by omega)))
                  refine xr_stp rfl rfl rfl rfl ?_
                  refine xr_getfield hO rfl rfl rfl rfl ?_
                  refine xr_stp rfl rfl rfl rfl ?_
                  refine xr_stp (st' := .int (Int32.ofNat 2) :: _) rfl rfl rfl rfl ?_
                  refine xs_mul rfl ?_
                  refine xr_stp rfl rfl rfl rfl ?_
                  refine xr_getfield hO rfl rfl rfl rfl ?_
                  refine xs_istk hB (by omega) (by omega) (by omega) rfl (fun W hB hf1 => ?_)
                  have hO := hf1.at hO (by omega)
                  have hT := hf1.at hT (by omega)
                  have hC := hf1.at hC (by omega)
                  have hP := hf1.at hP (by omega)
                  have hF2 := hF2.tr2 hf1 (fun i e => Or.inl (rdp_ e (by omega)))
                  have hR : RDS tp n st1 nx1 tk1 nu1 fa pl mn 1 0 (xn_u C (mn * 5) 0) (xn_u B (0 * 2) L.length) L W := ⟨hk.rd5 hF2, hO, hT, hC, ⟨P, hP, hL⟩, hB⟩
                  refine xr_stp rfl rfl rfl rfl ?_
                  refine xr_stp (st' := .int (Int32.ofNat 0) :: _) rfl rfl rfl rfl ?_
                  refine xr_vcps hR.len rfl rfl rfl rfl rfl rfl (fun r1 K2 => hp _ _ _ _ _ _ _ _ _ _ _ _ hlen hR r1 (fun W2 st9 hW2 hfW2 => K2 _ _ _ _ ?_))
                  refine xr_j1 rfl rfl rfl rfl rfl (fun h121 => ?_) (fun h121 => ?_)
                  · have z121 := nt1_eq (by omega) h121
                    exact (by omega)
                  · refine xr_stp rfl rfl rfl rfl ?_
                    refine xr_stp (st' := .int (Int32.ofNat 35) :: _) rfl rfl rfl rfl ?_
                    refine xr_vcps hW2.len rfl rfl rfl rfl rfl rfl (fun r1 K2 => rs_acc _ _ _ _ _ _ _ _ _ _ _ _ _ _ _ _ _ _ hW2 ha2 (by omega) r1 (fun W3 hW3 hfW3 => K2 _ _ _ _ ?_))
                    refine xr_j1 rfl rfl rfl rfl rfl (fun h130 => ?_) (fun h130 => ?_)
                    · have z130 := nt1_eq (by omega) h130
                      exact (by omega)
                    · refine xr_stp (st' := .int (Int32.ofNat 1) :: _) rfl rfl rfl rfl ?_
                      refine xr_stp rfl rfl rfl rfl ?_
                      refine xr_stp rfl rfl rfl rfl ?_
                      have hF := (hF.tr hF2).tr (hfW2.tr hfW3)
                      clear hk hO hT hC hB hP hL hR hF2
                      obtain ⟨hk, hO, hT, hC, ⟨P, hP, hL⟩, hB⟩ := hW3
                      have hF2 : fr rdp W3 W3 := fr.rf
                      refine xr_stp rfl rfl rfl rfl ?_
                      refine xr_getfield hO rfl rfl rfl rfl ?_
                      refine xr_stp rfl rfl rfl rfl ?_
                      refine xr_stp (st' := .int (Int32.ofNat 2) :: _) rfl rfl rfl rfl ?_
                      refine xs_mul rfl ?_
                      refine xr_stp (st' := .int (Int32.ofNat 1) :: _) rfl rfl rfl rfl ?_
                      refine xs_add rfl ?_
                      refine xr_stp rfl rfl rfl rfl ?_
                      refine xr_getfield hO rfl rfl rfl rfl ?_
                      refine xs_istk hB (by omega) (by omega) (by omega) rfl (fun W hB hf1 => ?_)
                      have hO := hf1.at hO (by omega)
                      have hT := hf1.at hT (by omega)
                      have hC := hf1.at hC (by omega)
                      have hP := hf1.at hP (by omega)
                      have hF2 := hF2.tr2 hf1 (fun i e => Or.inl (rdp_ e (by omega)))
                      refine xr_stp rfl rfl rfl rfl ?_
                      refine xr_stp rfl rfl rfl rfl ?_
                      refine xr_stp rfl rfl rfl rfl ?_
                      refine xr_getfield hO rfl rfl rfl rfl ?_
                      refine xr_stp (st' := .int (Int32.ofNat 1) :: _) rfl rfl rfl rfl ?_
                      refine xs_add rfl ?_
                      refine xr_putk hO (by omega) rfl rfl rfl rfl rfl rfl (fun W hO hf1 => ?_)
                      have hT := hf1.at hT (by omega)
                      have hC := hf1.at hC (by omega)
                      have hP := hf1.at hP (by omega)
                      have hB := hf1.at hB (by omega)
                      have hF2 := hF2.tr2 hf1 (fun i e => Or.inl (rdp_ e (by omega)))
                      refine xr_stp rfl rfl rfl rfl ?_
                      exact xr_retb (by omega) rfl rfl (K W ⟨hk.rd5 hF2, hO, hT, hC, ⟨P, hP, hL⟩, by rw [List.length_append] at hB; exact hB⟩ (hF.tr hF2))
              · have z64 := nf_lt (by omega) (by omega) h64
                exact (by omega)
            · have z49 := nf_eq h49
              exact (by omega)
        · have z22 := nf1_eq h22
          exact (by omega)
      · have z12 := nf_le (by omega) (by omega) h12
        exact (by omega)
  · refine xr_stp rfl rfl rfl rfl ?_
    refine xr_getfield hO rfl rfl rfl rfl ?_
    refine xr_stp rfl rfl rfl rfl ?_
    refine xr_stp rfl rfl rfl rfl ?_
    refine xr_j1 rfl rfl rfl rfl rfl (fun h6 => ?_) (fun h6 => ?_)
    · have z6 := n_lt0 h6
      exact (by omega)
    · refine xr_stp rfl rfl rfl rfl ?_
      refine xr_stp (st' := .int (Int32.ofNat 6) :: _) rfl rfl rfl rfl ?_
      refine xr_j2 rfl rfl rfl rfl rfl (fun h12 => ?_) (fun h12 => ?_)
      · refine xr_stp rfl rfl rfl rfl ?_
        refine xr_j1 rfl rfl rfl rfl rfl (fun h22 => ?_) (fun h22 => ?_)
        · have z22 := nt1_eq (by omega) h22
          exact (by omega)
        · refine xr_stp rfl rfl rfl rfl ?_
          refine xr_stp (st' := .int (Int32.ofNat 1) :: _) rfl rfl rfl rfl ?_
          refine xr_j2 rfl rfl rfl rfl rfl (fun h27 => ?_) (fun h27 => ?_)
          · have z27 := nt_ne h27
            exact (by omega)
          · refine xr_stp (st' := .int (Int32.ofNat 1) :: _) rfl rfl rfl rfl ?_
            refine xr_stp rfl rfl rfl rfl ?_
            refine xr_stp rfl rfl rfl rfl ?_
            refine xr_stp rfl rfl rfl rfl ?_
            refine xr_j1 rfl rfl rfl rfl rfl (fun h37 => ?_) (fun h37 => ?_)
            · have z37 := nt1_eq (by omega) h37
              exact (by omega)
            · refine xr_stp rfl rfl rfl rfl ?_
              refine xr_getfield hO rfl rfl rfl rfl ?_
              refine xr_stp rfl rfl rfl rfl ?_
              refine xr_stp (st' := .int (Int32.ofNat 2) :: _) rfl rfl rfl rfl ?_
              refine xs_mul rfl ?_
              refine xs_ild hB (by omega) (by omega) rfl ?_
              refine xr_stp (st' := .int (Int32.ofNat 4294967295) :: _) rfl rfl rfl rfl ?_
              refine xr_j2 rfl rfl rfl rfl rfl (fun h49 => ?_) (fun h49 => ?_)
              · refine xr_stp rfl rfl rfl rfl ?_
                refine xr_getfield hO rfl rfl rfl rfl ?_
                refine xr_stp (st' := .int (Int32.ofNat 24) :: _) rfl rfl rfl rfl ?_
                refine xr_j2 rfl rfl rfl rfl rfl (fun h64 => ?_) (fun h64 => ?_)
                · refine xr_stp rfl rfl rfl rfl ?_
                  refine xr_getfield hO rfl rfl rfl rfl ?_
                  refine xr_stp rfl rfl rfl rfl ?_
                  refine xr_getfield hO rfl rfl rfl rfl ?_
                  refine xr_stp (st' := .int (Int32.ofNat 5) :: _) rfl rfl rfl rfl ?_
                  refine xs_mul rfl ?_
                  refine xr_stp rfl rfl rfl rfl ?_
                  refine xs_istk hC (by omega) (by omega) (by omega) rfl (fun W hC hf1 => ?_)
                  have hO := hf1.at hO (by omega)
                  have hT := hf1.at hT (by omega)
                  have hP := hf1.at hP (by omega)
                  have hB := hf1.at hB (by omega)
                  have hF := hF.tr2 hf1 (fun i e => Or.inl (rdp_ e (by omega)))
                  refine xr_stp rfl rfl rfl rfl ?_
                  refine xr_stp (st' := .int (Int32.ofNat 1) :: _) rfl rfl rfl rfl ?_
                  refine xr_putk hO (by omega) rfl rfl rfl rfl rfl rfl (fun W hO hf1 => ?_)
                  have hT := hf1.at hT (by omega)
                  have hC := hf1.at hC (by omega)
                  have hP := hf1.at hP (by omega)
                  have hB := hf1.at hB (by omega)
                  have hF := hF.tr2 hf1 (fun i e => Or.inl (rdp_ e (by omega)))
                  have hR : RDS tp n st nx 1 nu fa pl mn 1 lw (xn_u C (mn * 5) 1) B L W := ⟨hk.rd5 hF, hO, hT, hC, ⟨P, hP, hL⟩, hB⟩
                  refine xr_stp rfl rfl rfl rfl ?_
                  refine xr_vcps hR.len rfl rfl rfl rfl rfl rfl (fun r1 K2 => rs_adv _ _ _ _ _ _ _ _ _ _ _ _ _ _ _ _ _ _ hR ha r1 (fun W1 hW1 hfW1 => K2 _ _ _ _ ?_))
                  have hF := hF.tr hfW1
                  clear hk hO hT hC hB hP hL hR
                  obtain ⟨hk, hO, hT, hC, ⟨P, hP, hL⟩, hB⟩ := hW1
                  have hF2 : fr rdp W1 W1 := fr.rf
                  refine xr_stp rfl rfl rfl rfl ?_
                  refine xr_j1 rfl rfl rfl rfl rfl (fun h96 => ?_) (fun h96 => ?_)
                  · have z96 := nt1_eq (by omega) h96
                    exact (by omega)
                  · refine xr_stp rfl rfl rfl rfl ?_
                    refine xr_stp rfl rfl rfl rfl ?_
                    refine xr_putk hO (by omega) rfl rfl rfl rfl rfl rfl (fun W hO hf1 => ?_)
                    have hT := hf1.at hT (by omega)
                    have hC := hf1.at hC (by omega)
                    have hP := hf1.at hP (by omega)
                    have hB := hf1.at hB (by omega)
                    have hF2 := hF2.tr2 hf1 (fun i e => Or.inl (rdp_ e (by omega)))
                    refine xr_stp rfl rfl rfl rfl ?_
                    refine xr_getfield hO rfl rfl rfl rfl ?_
                    refine xr_stp rfl rfl rfl rfl ?_
                    refine xr_stp (st' := .int (Int32.ofNat 2) :: _) rfl rfl rfl rfl ?_
                    refine xs_mul rfl ?_
                    refine xr_stp rfl rfl rfl rfl ?_
                    refine xr_getfield hO rfl rfl rfl rfl ?_
                    refine xs_istk hB (by omega) (by omega) (by omega) rfl (fun W hB hf1 => ?_)
                    have hO := hf1.at hO (by omega)
                    have hT := hf1.at hT (by omega)
                    have hC := hf1.at hC (by omega)
                    have hP := hf1.at hP (by omega)
                    have hF2 := hF2.tr2 hf1 (fun i e => Or.inl (rdp_ e (by omega)))
                    have hR : RDS tp n st1 nx1 tk1 nu1 fa pl mn 1 1 (xn_u C (mn * 5) 1) (xn_u B (1 * 2) L.length) L W := ⟨hk.rd5 hF2, hO, hT, hC, ⟨P, hP, hL⟩, hB⟩
                    refine xr_stp rfl rfl rfl rfl ?_
                    refine xr_stp (st' := .int (Int32.ofNat 0) :: _) rfl rfl rfl rfl ?_
                    refine xr_vcps hR.len rfl rfl rfl rfl rfl rfl (fun r1 K2 => hp _ _ _ _ _ _ _ _ _ _ _ _ hlen hR r1 (fun W2 st9 hW2 hfW2 => K2 _ _ _ _ ?_))
                    refine xr_j1 rfl rfl rfl rfl rfl (fun h121 => ?_) (fun h121 => ?_)
                    · have z121 := nt1_eq (by omega) h121
                      exact (by omega)
                    · refine xr_stp rfl rfl rfl rfl ?_
                      refine xr_stp (st' := .int (Int32.ofNat 35) :: _) rfl rfl rfl rfl ?_
                      refine xr_vcps hW2.len rfl rfl rfl rfl rfl rfl (fun r1 K2 => rs_acc _ _ _ _ _ _ _ _ _ _ _ _ _ _ _ _ _ _ hW2 ha2 (by omega) r1 (fun W3 hW3 hfW3 => K2 _ _ _ _ ?_))
                      refine xr_j1 rfl rfl rfl rfl rfl (fun h130 => ?_) (fun h130 => ?_)
                      · have z130 := nt1_eq (by omega) h130
                        exact (by omega)
                      · refine xr_stp (st' := .int (Int32.ofNat 1) :: _) rfl rfl rfl rfl ?_
                        refine xr_stp rfl rfl rfl rfl ?_
                        refine xr_stp rfl rfl rfl rfl ?_
                        have hF := (hF.tr hF2).tr (hfW2.tr hfW3)
                        clear hk hO hT hC hB hP hL hR hF2
                        obtain ⟨hk, hO, hT, hC, ⟨P, hP, hL⟩, hB⟩ := hW3
                        have hF2 : fr rdp W3 W3 := fr.rf
                        refine xr_stp rfl rfl rfl rfl ?_
                        refine xr_getfield hO rfl rfl rfl rfl ?_
                        refine xr_stp rfl rfl rfl rfl ?_
                        refine xr_stp (st' := .int (Int32.ofNat 2) :: _) rfl rfl rfl rfl ?_
                        refine xs_mul rfl ?_
                        refine xr_stp (st' := .int (Int32.ofNat 1) :: _) rfl rfl rfl rfl ?_
                        refine xs_add rfl ?_
                        refine xr_stp rfl rfl rfl rfl ?_
                        refine xr_getfield hO rfl rfl rfl rfl ?_
                        refine xs_istk hB (by omega) (by omega) (by omega) rfl (fun W hB hf1 => ?_)
                        have hO := hf1.at hO (by omega)
                        have hT := hf1.at hT (by omega)
                        have hC := hf1.at hC (by omega)
                        have hP := hf1.at hP (by omega)
                        have hF2 := hF2.tr2 hf1 (fun i e => Or.inl (rdp_ e (by omega)))
                        refine xr_stp rfl rfl rfl rfl ?_
                        refine xr_stp rfl rfl rfl rfl ?_
                        refine xr_stp rfl rfl rfl rfl ?_
                        refine xr_getfield hO rfl rfl rfl rfl ?_
                        refine xr_stp (st' := .int (Int32.ofNat 1) :: _) rfl rfl rfl rfl ?_
                        refine xs_add rfl ?_
                        refine xr_putk hO (by omega) rfl rfl rfl rfl rfl rfl (fun W hO hf1 => ?_)
                        have hT := hf1.at hT (by omega)
                        have hC := hf1.at hC (by omega)
                        have hP := hf1.at hP (by omega)
                        have hB := hf1.at hB (by omega)
                        have hF2 := hF2.tr2 hf1 (fun i e => Or.inl (rdp_ e (by omega)))
                        refine xr_stp rfl rfl rfl rfl ?_
                        exact xr_retb (by omega) rfl rfl (K W ⟨hk.rd5 hF2, hO, hT, hC, ⟨P, hP, hL⟩, by rw [List.length_append] at hB; exact hB⟩ (hF.tr hF2))
                · have z64 := nf_lt (by omega) (by omega) h64
                  exact (by omega)
              · have z49 := nf_eq h49
                exact (by omega)
      · have z12 := nf_le (by omega) (by omega) h12
        exact (by omega)
def PA (kind : Nat) (tp : Nat → Nat) (n lw nx tk nu mn : Nat) (C : Nat → Nat) (nx2 tk2 nu2 pa2 : Nat) (C2 : Nat → Nat) : Prop := ∀ (d c s : Nat) (W0 : xi_W) (st fa pl : Nat) (B : Nat → Nat) (L : List (Nat × Nat)), RDS tp n st nx tk nu fa pl mn 1 lw C B L W0 → ∀ r : xi_R → Prop, (∀ W' st2, RDS tp n st2 nx2 tk2 nu2 fa pl mn pa2 lw C2 B L W' → fr rdp W0 W' → r (some (.int (Int32.ofNat 1)), W', c, s)) → xr (d + 7) 32 0 [(0, .ref 18), (1, .int (Int32.ofNat kind))] [] W0 c s r
theorem rc_act (d c s : Nat) (W0 : xi_W) (tp : Nat → Nat) (n st nx tk nu fa pl mn pa lw : Nat) (C B : Nat → Nat) (L : List (Nat × Nat)) {st1 nx1 tk1 nu1 nx2 nu2 st3 nx3 tk3 nu3 pa2 : Nat} {C2 : Nat → Nat} (h : RDS tp n st nx tk nu fa pl mn pa lw C B L W0) (htk : 2 ≤ tk) (htk2 : tk ≤ 6) (hmn : mn < 24) (ha : adR tp n nx nu st1 nx1 tk1 nu1) (hp : PA tk tp n lw nx1 tk1 nu1 mn (xn_u C (mn * 5) tk) nx2 35 nu2 pa2 C2) (ha2 : adR tp n nx2 nu2 st3 nx3 tk3 nu3) (r : xi_R → Prop) (K : ∀ W', RDS tp n st3 nx3 tk3 nu3 fa pl (mn + 1) pa2 lw C2 B L W' → fr rdp W0 W' → r (some (.int (Int32.ofNat 1)), W', c, s)) : xr (d + 10) 31 0 [(0, .ref 18)] [] W0 c s r := by
  obtain ⟨hk, hO, hT, hC, ⟨P, hP, hL⟩, hB⟩ := h
  have hF : fr rdp W0 W0 := fr.rf
  refine xr_stp rfl rfl rfl rfl ?_
  refine xr_getfield hO rfl rfl rfl rfl ?_
  refine xr_stp rfl rfl rfl rfl ?_
  refine xr_stp rfl rfl rfl rfl ?_
  refine xr_j1 rfl rfl rfl rfl rfl (fun h6 => ?_) (fun h6 => ?_)
  · have z6 := n_lt0 h6
    exact (by omega)
  · refine xr_stp rfl rfl rfl rfl ?_
    refine xr_stp (st' := .int (Int32.ofNat 6) :: _) rfl rfl rfl rfl ?_
    refine xr_j2 rfl rfl rfl rfl rfl (fun h12 => ?_) (fun h12 => ?_)
    · refine xr_stp rfl rfl rfl rfl ?_
      refine xr_j1 rfl rfl rfl rfl rfl (fun h22 => ?_) (fun h22 => ?_)
      · have z22 := nt1_eq (by omega) h22
        exact (by omega)
      · refine xr_stp rfl rfl rfl rfl ?_
        refine xr_stp (st' := .int (Int32.ofNat 1) :: _) rfl rfl rfl rfl ?_
        refine xr_j2 rfl rfl rfl rfl rfl (fun h27 => ?_) (fun h27 => ?_)
        · refine xr_stp (st' := .int (Int32.ofNat 0) :: _) rfl rfl rfl rfl ?_
          refine xr_stp rfl rfl rfl rfl ?_
          refine xr_stp rfl rfl rfl rfl ?_
          refine xr_j1 rfl rfl rfl rfl rfl (fun h37 => ?_) (fun h37 => ?_)
          · refine xr_stp rfl rfl rfl rfl ?_
            refine xr_getfield hO rfl rfl rfl rfl ?_
            refine xr_stp (st' := .int (Int32.ofNat 24) :: _) rfl rfl rfl rfl ?_
            refine xr_j2 rfl rfl rfl rfl rfl (fun h64 => ?_) (fun h64 => ?_)
            · refine xr_stp rfl rfl rfl rfl ?_
              refine xr_getfield hO rfl rfl rfl rfl ?_
              refine xr_stp rfl rfl rfl rfl ?_
              refine xr_getfield hO rfl rfl rfl rfl ?_
              refine xr_stp (st' := .int (Int32.ofNat 5) :: _) rfl rfl rfl rfl ?_
              refine xs_mul rfl ?_
              refine xr_stp rfl rfl rfl rfl ?_
              refine xs_istk hC (by omega) (by omega) (by omega) rfl (fun W hC hf1 => ?_)
              have hO := hf1.at hO (by omega)
              have hT := hf1.at hT (by omega)
              have hP := hf1.at hP (by omega)
              have hB := hf1.at hB (by omega)
              have hF := hF.tr2 hf1 (fun i e => Or.inl (rdp_ e (by omega)))
              refine xr_stp rfl rfl rfl rfl ?_
              refine xr_stp (st' := .int (Int32.ofNat 1) :: _) rfl rfl rfl rfl ?_
              refine xr_putk hO (by omega) rfl rfl rfl rfl rfl rfl (fun W hO hf1 => ?_)
              have hT := hf1.at hT (by omega)
              have hC := hf1.at hC (by omega)
              have hP := hf1.at hP (by omega)
              have hB := hf1.at hB (by omega)
              have hF := hF.tr2 hf1 (fun i e => Or.inl (rdp_ e (by omega)))
              have hR : RDS tp n st nx tk nu fa pl mn 1 lw (xn_u C (mn * 5) tk) B L W := ⟨hk.rd5 hF, hO, hT, hC, ⟨P, hP, hL⟩, hB⟩
              refine xr_stp rfl rfl rfl rfl ?_
              refine xr_vcps hR.len rfl rfl rfl rfl rfl rfl (fun r1 K2 => rs_adv _ _ _ _ _ _ _ _ _ _ _ _ _ _ _ _ _ _ hR ha r1 (fun W1 hW1 hfW1 => K2 _ _ _ _ ?_))
              refine xr_stp rfl rfl rfl rfl ?_
              refine xr_j1 rfl rfl rfl rfl rfl (fun h96 => ?_) (fun h96 => ?_)
              · refine xr_stp rfl rfl rfl rfl ?_
                refine xr_stp rfl rfl rfl rfl ?_
                refine xr_vcps hW1.len rfl rfl rfl rfl rfl rfl (fun r1 K2 => hp _ _ _ _ _ _ _ _ _ hW1 r1 (fun W2 st9 hW2 hfW2 => K2 _ _ _ _ ?_))
                refine xr_j1 rfl rfl rfl rfl rfl (fun h161 => ?_) (fun h161 => ?_)
                · have z161 := nt1_eq (by omega) h161
                  exact (by omega)
                · refine xr_stp rfl rfl rfl rfl ?_
                  refine xr_stp (st' := .int (Int32.ofNat 35) :: _) rfl rfl rfl rfl ?_
                  refine xr_vcps hW2.len rfl rfl rfl rfl rfl rfl (fun r1 K2 => rs_acc _ _ _ _ _ _ _ _ _ _ _ _ _ _ _ _ _ _ hW2 ha2 (by omega) r1 (fun W3 hW3 hfW3 => K2 _ _ _ _ ?_))
                  refine xr_j1 rfl rfl rfl rfl rfl (fun h170 => ?_) (fun h170 => ?_)
                  · have z170 := nt1_eq (by omega) h170
                    exact (by omega)
                  · refine xr_stp (st' := .int (Int32.ofNat 1) :: _) rfl rfl rfl rfl ?_
                    refine xr_stp rfl rfl rfl rfl ?_
                    refine xr_stp rfl rfl rfl rfl ?_
                    have hF := hF.tr (hfW1.tr (hfW2.tr hfW3))
                    clear hk hO hT hC hB hP hL hR
                    obtain ⟨hk, hO, hT, hC, ⟨P, hP, hL⟩, hB⟩ := hW3
                    have hF2 : fr rdp W3 W3 := fr.rf
                    refine xr_stp rfl rfl rfl rfl ?_
                    refine xr_stp rfl rfl rfl rfl ?_
                    refine xr_getfield hO rfl rfl rfl rfl ?_
                    refine xr_stp (st' := .int (Int32.ofNat 1) :: _) rfl rfl rfl rfl ?_
                    refine xs_add rfl ?_
                    refine xr_putk hO (by omega) rfl rfl rfl rfl rfl rfl (fun W hO hf1 => ?_)
                    have hT := hf1.at hT (by omega)
                    have hC := hf1.at hC (by omega)
                    have hP := hf1.at hP (by omega)
                    have hB := hf1.at hB (by omega)
                    have hF2 := hF2.tr2 hf1 (fun i e => Or.inl (rdp_ e (by omega)))
                    refine xr_stp rfl rfl rfl rfl ?_
                    exact xr_retb (by omega) rfl rfl (K W ⟨hk.rd5 hF2, hO, hT, hC, ⟨P, hP, hL⟩, hB⟩ (hF.tr hF2))
              · have z96 := nf1_eq h96
                exact (by omega)
            · have z64 := nf_lt (by omega) (by omega) h64
              exact (by omega)
          · have z37 := nf1_eq h37
            exact (by omega)
        · have z27 := nf_ne (by omega) (by omega) h27
          exact (by omega)
    · have z12 := nf_le (by omega) (by omega) h12
      exact (by omega)
theorem pa_set {tp : Nat → Nat} {n lw nx mn f k t v s0 n0 s1 n1 s2 n2 s3 n3 s4 n4 s5 n5 s6 n6 : Nat} {C : Nat → Nat} (hmn : mn < 24) (hf : f ≤ 2) (hk : k ≤ 3) (ht : t ≤ 3) (hv : v ≤ 99) (ha0 : adR tp n nx f s0 n0 7 f) (ha1 : adR tp n n0 f s1 n1 38 k) (ha2 : adR tp n n1 k s2 n2 8 k) (ha3 : adR tp n n2 k s3 n3 38 t) (ha4 : adR tp n n3 t s4 n4 9 t) (ha5 : adR tp n n4 t s5 n5 38 v) (ha6 : adR tp n n5 v s6 n6 35 v) : PA 2 tp n lw nx 38 f mn C n6 35 v 5 (xn_u (xn_u (xn_u (xn_u C (mn * 5 + 1) f) (mn * 5 + 2) k) (mn * 5 + 3) t) (mn * 5 + 4) v) := by
  intro d c s W0 st fa pl B L h r K
  refine xr_stp rfl rfl rfl rfl ?_
  refine xr_stp rfl rfl rfl rfl ?_
  refine xr_stp rfl rfl rfl rfl ?_
  refine xr_stp (st' := .int (Int32.ofNat 0) :: _) rfl rfl rfl rfl ?_
  refine xr_stp (st' := .int (Int32.ofNat 2) :: _) rfl rfl rfl rfl ?_
  refine xr_vcps h.len rfl rfl rfl rfl rfl rfl (fun r1 K2 => rs_num _ _ _ _ _ _ _ _ _ _ _ _ _ _ _ _ _ _ _ _ h ha0 rfl (by omega) (by omega) (by omega) (by omega) hmn r1 (fun W1 hW1 hfW1 => K2 _ _ _ _ ?_))
  refine xr_j1 rfl rfl rfl rfl rfl (fun h38 => ?_) (fun h38 => ?_)
  · have z38 := nt1_eq (by omega) h38
    exact (by omega)
  · refine xr_stp rfl rfl rfl rfl ?_
    refine xr_stp (st' := .int (Int32.ofNat 7) :: _) rfl rfl rfl rfl ?_
    refine xr_vcps hW1.len rfl rfl rfl rfl rfl rfl (fun r1 K2 => rs_acc _ _ _ _ _ _ _ _ _ _ _ _ _ _ _ _ _ _ hW1 ha1 (by omega) r1 (fun W2 hW2 hfW2 => K2 _ _ _ _ ?_))
    refine xr_j1 rfl rfl rfl rfl rfl (fun h47 => ?_) (fun h47 => ?_)
    · have z47 := nt1_eq (by omega) h47
      exact (by omega)
    · refine xr_stp rfl rfl rfl rfl ?_
      refine xr_stp (st' := .int (Int32.ofNat 0) :: _) rfl rfl rfl rfl ?_
      refine xr_stp (st' := .int (Int32.ofNat 3) :: _) rfl rfl rfl rfl ?_
      refine xr_vcps hW2.len rfl rfl rfl rfl rfl rfl (fun r1 K2 => rs_num _ _ _ _ _ _ _ _ _ _ _ _ _ _ _ _ _ _ _ _ hW2 ha2 rfl (by omega) (by omega) (by omega) (by omega) hmn r1 (fun W3 hW3 hfW3 => K2 _ _ _ _ ?_))
      refine xr_j1 rfl rfl rfl rfl rfl (fun h56 => ?_) (fun h56 => ?_)
      · have z56 := nt1_eq (by omega) h56
        exact (by omega)
      · refine xr_stp rfl rfl rfl rfl ?_
        refine xr_stp (st' := .int (Int32.ofNat 8) :: _) rfl rfl rfl rfl ?_
        refine xr_vcps hW3.len rfl rfl rfl rfl rfl rfl (fun r1 K2 => rs_acc _ _ _ _ _ _ _ _ _ _ _ _ _ _ _ _ _ _ hW3 ha3 (by omega) r1 (fun W4 hW4 hfW4 => K2 _ _ _ _ ?_))
        refine xr_j1 rfl rfl rfl rfl rfl (fun h65 => ?_) (fun h65 => ?_)
        · have z65 := nt1_eq (by omega) h65
          exact (by omega)
        · refine xr_stp rfl rfl rfl rfl ?_
          refine xr_stp (st' := .int (Int32.ofNat 0) :: _) rfl rfl rfl rfl ?_
          refine xr_stp (st' := .int (Int32.ofNat 3) :: _) rfl rfl rfl rfl ?_
          refine xr_vcps hW4.len rfl rfl rfl rfl rfl rfl (fun r1 K2 => rs_num _ _ _ _ _ _ _ _ _ _ _ _ _ _ _ _ _ _ _ _ hW4 ha4 rfl (by omega) (by omega) (by omega) (by omega) hmn r1 (fun W5 hW5 hfW5 => K2 _ _ _ _ ?_))
          refine xr_j1 rfl rfl rfl rfl rfl (fun h74 => ?_) (fun h74 => ?_)
          · have z74 := nt1_eq (by omega) h74
            exact (by omega)
          · refine xr_stp rfl rfl rfl rfl ?_
            refine xr_stp (st' := .int (Int32.ofNat 9) :: _) rfl rfl rfl rfl ?_
            refine xr_vcps hW5.len rfl rfl rfl rfl rfl rfl (fun r1 K2 => rs_acc _ _ _ _ _ _ _ _ _ _ _ _ _ _ _ _ _ _ hW5 ha5 (by omega) r1 (fun W6 hW6 hfW6 => K2 _ _ _ _ ?_))
            refine xr_j1 rfl rfl rfl rfl rfl (fun h83 => ?_) (fun h83 => ?_)
            · have z83 := nt1_eq (by omega) h83
              exact (by omega)
            · refine xr_stp rfl rfl rfl rfl ?_
              refine xr_stp (st' := .int (Int32.ofNat 0) :: _) rfl rfl rfl rfl ?_
              refine xr_stp (st' := .int (Int32.ofNat 99) :: _) rfl rfl rfl rfl ?_
              refine xr_vcps hW6.len rfl rfl rfl rfl rfl rfl (fun r1 K2 => rs_num _ _ _ _ _ _ _ _ _ _ _ _ _ _ _ _ _ _ _ _ hW6 ha6 rfl (by omega) (by omega) (by omega) (by omega) hmn r1 (fun W7 hW7 hfW7 => K2 _ _ _ _ ?_))
              refine xr_j1 rfl rfl rfl rfl rfl (fun h93 => ?_) (fun h93 => ?_)
              · have z93 := nt1_eq (by omega) h93
                exact (by omega)
              · refine xr_stp (st' := .int (Int32.ofNat 1) :: _) rfl rfl rfl rfl ?_
                refine xr_stp rfl rfl rfl rfl ?_
                exact xr_retb (by omega) rfl rfl (K W7 _ hW7 (hfW1.tr (hfW2.tr (hfW3.tr (hfW4.tr (hfW5.tr (hfW6.tr hfW7)))))))
theorem pa_clr {tp : Nat → Nat} {n lw nx mn f k t s0 n0 s1 n1 s2 n2 s3 n3 s4 n4 : Nat} {C : Nat → Nat} (hmn : mn < 24) (hf : f ≤ 2) (hk : k ≤ 3) (ht : t ≤ 3) (ha0 : adR tp n nx f s0 n0 7 f) (ha1 : adR tp n n0 f s1 n1 38 k) (ha2 : adR tp n n1 k s2 n2 8 k) (ha3 : adR tp n n2 k s3 n3 38 t) (ha4 : adR tp n n3 t s4 n4 35 t) : PA 3 tp n lw nx 38 f mn C n4 35 t 4 (xn_u (xn_u (xn_u C (mn * 5 + 1) f) (mn * 5 + 2) k) (mn * 5 + 3) t) := by
  intro d c s W0 st fa pl B L h r K
  refine xr_stp rfl rfl rfl rfl ?_
  refine xr_stp rfl rfl rfl rfl ?_
  refine xr_stp rfl rfl rfl rfl ?_
  refine xr_stp (st' := .int (Int32.ofNat 0) :: _) rfl rfl rfl rfl ?_
  refine xr_stp (st' := .int (Int32.ofNat 2) :: _) rfl rfl rfl rfl ?_
  refine xr_vcps h.len rfl rfl rfl rfl rfl rfl (fun r1 K2 => rs_num _ _ _ _ _ _ _ _ _ _ _ _ _ _ _ _ _ _ _ _ h ha0 rfl (by omega) (by omega) (by omega) (by omega) hmn r1 (fun W1 hW1 hfW1 => K2 _ _ _ _ ?_))
  refine xr_j1 rfl rfl rfl rfl rfl (fun h108 => ?_) (fun h108 => ?_)
  · have z108 := nt1_eq (by omega) h108
    exact (by omega)
  · refine xr_stp rfl rfl rfl rfl ?_
    refine xr_stp (st' := .int (Int32.ofNat 7) :: _) rfl rfl rfl rfl ?_
    refine xr_vcps hW1.len rfl rfl rfl rfl rfl rfl (fun r1 K2 => rs_acc _ _ _ _ _ _ _ _ _ _ _ _ _ _ _ _ _ _ hW1 ha1 (by omega) r1 (fun W2 hW2 hfW2 => K2 _ _ _ _ ?_))
    refine xr_j1 rfl rfl rfl rfl rfl (fun h117 => ?_) (fun h117 => ?_)
    · have z117 := nt1_eq (by omega) h117
      exact (by omega)
    · refine xr_stp rfl rfl rfl rfl ?_
      refine xr_stp (st' := .int (Int32.ofNat 0) :: _) rfl rfl rfl rfl ?_
      refine xr_stp (st' := .int (Int32.ofNat 3) :: _) rfl rfl rfl rfl ?_
      refine xr_vcps hW2.len rfl rfl rfl rfl rfl rfl (fun r1 K2 => rs_num _ _ _ _ _ _ _ _ _ _ _ _ _ _ _ _ _ _ _ _ hW2 ha2 rfl (by omega) (by omega) (by omega) (by omega) hmn r1 (fun W3 hW3 hfW3 => K2 _ _ _ _ ?_))
      refine xr_j1 rfl rfl rfl rfl rfl (fun h126 => ?_) (fun h126 => ?_)
      · have z126 := nt1_eq (by omega) h126
        exact (by omega)
      · refine xr_stp rfl rfl rfl rfl ?_
        refine xr_stp (st' := .int (Int32.ofNat 8) :: _) rfl rfl rfl rfl ?_
        refine xr_vcps hW3.len rfl rfl rfl rfl rfl rfl (fun r1 K2 => rs_acc _ _ _ _ _ _ _ _ _ _ _ _ _ _ _ _ _ _ hW3 ha3 (by omega) r1 (fun W4 hW4 hfW4 => K2 _ _ _ _ ?_))
        refine xr_j1 rfl rfl rfl rfl rfl (fun h135 => ?_) (fun h135 => ?_)
        · have z135 := nt1_eq (by omega) h135
          exact (by omega)
        · refine xr_stp rfl rfl rfl rfl ?_
          refine xr_stp (st' := .int (Int32.ofNat 0) :: _) rfl rfl rfl rfl ?_
          refine xr_stp (st' := .int (Int32.ofNat 3) :: _) rfl rfl rfl rfl ?_
          refine xr_vcps hW4.len rfl rfl rfl rfl rfl rfl (fun r1 K2 => rs_num _ _ _ _ _ _ _ _ _ _ _ _ _ _ _ _ _ _ _ _ hW4 ha4 rfl (by omega) (by omega) (by omega) (by omega) hmn r1 (fun W5 hW5 hfW5 => K2 _ _ _ _ ?_))
          refine xr_j1 rfl rfl rfl rfl rfl (fun h144 => ?_) (fun h144 => ?_)
          · have z144 := nt1_eq (by omega) h144
            exact (by omega)
          · refine xr_stp (st' := .int (Int32.ofNat 1) :: _) rfl rfl rfl rfl ?_
            refine xr_stp rfl rfl rfl rfl ?_
            exact xr_retb (by omega) rfl rfl (K W5 _ hW5 (hfW1.tr (hfW2.tr (hfW3.tr (hfW4.tr hfW5)))))
theorem pa_rst {tp : Nat → Nat} {n lw nx mn k t s0 n0 s1 n1 s2 n2 : Nat} {C : Nat → Nat} (hmn : mn < 24) (hk : k ≤ 3) (ht : t ≤ 3) (ha0 : adR tp n nx k s0 n0 8 k) (ha1 : adR tp n n0 k s1 n1 38 t) (ha2 : adR tp n n1 t s2 n2 35 t) : PA 4 tp n lw nx 38 k mn C n2 35 t 3 (xn_u (xn_u C (mn * 5 + 1) k) (mn * 5 + 2) t) := by
  intro d c s W0 st fa pl B L h r K
  refine xr_stp rfl rfl rfl rfl ?_
  refine xr_stp rfl rfl rfl rfl ?_
  refine xr_stp rfl rfl rfl rfl ?_
  refine xr_stp (st' := .int (Int32.ofNat 0) :: _) rfl rfl rfl rfl ?_
  refine xr_stp (st' := .int (Int32.ofNat 3) :: _) rfl rfl rfl rfl ?_
  refine xr_vcps h.len rfl rfl rfl rfl rfl rfl (fun r1 K2 => rs_num _ _ _ _ _ _ _ _ _ _ _ _ _ _ _ _ _ _ _ _ h ha0 rfl (by omega) (by omega) (by omega) (by omega) hmn r1 (fun W1 hW1 hfW1 => K2 _ _ _ _ ?_))
  refine xr_j1 rfl rfl rfl rfl rfl (fun h159 => ?_) (fun h159 => ?_)
  · have z159 := nt1_eq (by omega) h159
    exact (by omega)
  · refine xr_stp rfl rfl rfl rfl ?_
    refine xr_stp (st' := .int (Int32.ofNat 8) :: _) rfl rfl rfl rfl ?_
    refine xr_vcps hW1.len rfl rfl rfl rfl rfl rfl (fun r1 K2 => rs_acc _ _ _ _ _ _ _ _ _ _ _ _ _ _ _ _ _ _ hW1 ha1 (by omega) r1 (fun W2 hW2 hfW2 => K2 _ _ _ _ ?_))
    refine xr_j1 rfl rfl rfl rfl rfl (fun h168 => ?_) (fun h168 => ?_)
    · have z168 := nt1_eq (by omega) h168
      exact (by omega)
    · refine xr_stp rfl rfl rfl rfl ?_
      refine xr_stp (st' := .int (Int32.ofNat 0) :: _) rfl rfl rfl rfl ?_
      refine xr_stp (st' := .int (Int32.ofNat 3) :: _) rfl rfl rfl rfl ?_
      refine xr_vcps hW2.len rfl rfl rfl rfl rfl rfl (fun r1 K2 => rs_num _ _ _ _ _ _ _ _ _ _ _ _ _ _ _ _ _ _ _ _ hW2 ha2 rfl (by omega) (by omega) (by omega) (by omega) hmn r1 (fun W3 hW3 hfW3 => K2 _ _ _ _ ?_))
      refine xr_j1 rfl rfl rfl rfl rfl (fun h177 => ?_) (fun h177 => ?_)
      · have z177 := nt1_eq (by omega) h177
        exact (by omega)
      · refine xr_stp (st' := .int (Int32.ofNat 1) :: _) rfl rfl rfl rfl ?_
        refine xr_stp rfl rfl rfl rfl ?_
        exact xr_retb (by omega) rfl rfl (K W3 _ hW3 (hfW1.tr (hfW2.tr hfW3)))
theorem pa_snd {tp : Nat → Nat} {n lw nx mn u t s0 n0 s1 n1 s2 n2 : Nat} {C : Nat → Nat} (hmn : mn < 24) (hu : u ≤ 3) (ht : t ≤ 3) (ha0 : adR tp n nx u s0 n0 9 u) (ha1 : adR tp n n0 u s1 n1 38 t) (ha2 : adR tp n n1 t s2 n2 35 t) : PA 5 tp n lw nx 38 u mn C n2 35 t 3 (xn_u (xn_u C (mn * 5 + 1) u) (mn * 5 + 2) t) := by
  intro d c s W0 st fa pl B L h r K
  refine xr_stp rfl rfl rfl rfl ?_
  refine xr_stp rfl rfl rfl rfl ?_
  refine xr_stp rfl rfl rfl rfl ?_
  refine xr_stp (st' := .int (Int32.ofNat 0) :: _) rfl rfl rfl rfl ?_
  refine xr_stp (st' := .int (Int32.ofNat 3) :: _) rfl rfl rfl rfl ?_
  refine xr_vcps h.len rfl rfl rfl rfl rfl rfl (fun r1 K2 => rs_num _ _ _ _ _ _ _ _ _ _ _ _ _ _ _ _ _ _ _ _ h ha0 rfl (by omega) (by omega) (by omega) (by omega) hmn r1 (fun W1 hW1 hfW1 => K2 _ _ _ _ ?_))
  refine xr_j1 rfl rfl rfl rfl rfl (fun h192 => ?_) (fun h192 => ?_)
  · have z192 := nt1_eq (by omega) h192
    exact (by omega)
  · refine xr_stp rfl rfl rfl rfl ?_
    refine xr_stp (st' := .int (Int32.ofNat 9) :: _) rfl rfl rfl rfl ?_
    refine xr_vcps hW1.len rfl rfl rfl rfl rfl rfl (fun r1 K2 => rs_acc _ _ _ _ _ _ _ _ _ _ _ _ _ _ _ _ _ _ hW1 ha1 (by omega) r1 (fun W2 hW2 hfW2 => K2 _ _ _ _ ?_))
    refine xr_j1 rfl rfl rfl rfl rfl (fun h201 => ?_) (fun h201 => ?_)
    · have z201 := nt1_eq (by omega) h201
      exact (by omega)
    · refine xr_stp rfl rfl rfl rfl ?_
      refine xr_stp (st' := .int (Int32.ofNat 0) :: _) rfl rfl rfl rfl ?_
      refine xr_stp (st' := .int (Int32.ofNat 3) :: _) rfl rfl rfl rfl ?_
      refine xr_vcps hW2.len rfl rfl rfl rfl rfl rfl (fun r1 K2 => rs_num _ _ _ _ _ _ _ _ _ _ _ _ _ _ _ _ _ _ _ _ hW2 ha2 rfl (by omega) (by omega) (by omega) (by omega) hmn r1 (fun W3 hW3 hfW3 => K2 _ _ _ _ ?_))
      refine xr_j1 rfl rfl rfl rfl rfl (fun h210 => ?_) (fun h210 => ?_)
      · have z210 := nt1_eq (by omega) h210
        exact (by omega)
      · refine xr_stp (st' := .int (Int32.ofNat 1) :: _) rfl rfl rfl rfl ?_
        refine xr_stp rfl rfl rfl rfl ?_
        exact xr_retb (by omega) rfl rfl (K W3 _ hW3 (hfW1.tr (hfW2.tr hfW3)))
theorem pa_day {tp : Nat → Nat} {n lw nx mn z s0 n0 : Nat} {C : Nat → Nat} (hmn : mn < 24) (hz : z ≤ 12) (hz1 : 1 ≤ z) (ha0 : adR tp n nx z s0 n0 35 z) : PA 6 tp n lw nx 38 z mn C n0 35 z 2 (xn_u C (mn * 5 + 1) z) := by
  intro d c s W0 st fa pl B L h r K
  refine xr_stp rfl rfl rfl rfl ?_
  refine xr_stp rfl rfl rfl rfl ?_
  refine xr_stp rfl rfl rfl rfl ?_
  refine xr_stp (st' := .int (Int32.ofNat 1) :: _) rfl rfl rfl rfl ?_
  refine xr_stp (st' := .int (Int32.ofNat 12) :: _) rfl rfl rfl rfl ?_
  refine xr_vcps h.len rfl rfl rfl rfl rfl rfl (fun r1 K2 => rs_num _ _ _ _ _ _ _ _ _ _ _ _ _ _ _ _ _ _ _ _ h ha0 rfl (by omega) (by omega) (by omega) (by omega) hmn r1 (fun W1 hW1 hfW1 => K2 _ _ _ _ ?_))
  exact xr_retb (by omega) rfl rfl (K W1 _ hW1 hfW1)
