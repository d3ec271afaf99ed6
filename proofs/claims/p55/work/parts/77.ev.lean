/-! the class: one draw of YEARS, in the relation -/
theorem lw_seo {N : Nat} {G : Nat → Nat} (J : lw_J N G) {t : Nat} (q f v : Nat) (ht : t < 4) (h4 : G 4 ≤ 61) {j : Nat} (hj : j < 4 ∨ j = 5) : lw_se G t q f v j = G j := by
  have hc := J.c t ht
  obtain ⟨s4, s0, s1, s2, s3, s5, so⟩ := lw_s3F (G := G) t q f v h4
  unfold lw_se lw_s4
  rw [lw_tso _ _ _ _ (by omega), lw_tko _ t _ _ ht (by omega) (by rw [so _ (by omega) (by omega), so _ (by omega) (by omega)]; exact hc.2.1) (by rw [so _ (by omega) (by omega), so _ (by omega) (by omega)]; exact hc.1), so _ (by omega) (by omega)]
theorem lw_clro {N : Nat} {G : Nat → Nat} (J : lw_J N G) {t : Nat} (q f : Nat) (ht : t < 4) {j : Nat} (hj : j < 4 ∨ j = 5) : lw_clr G t q f j = G j := by
  have hc := J.c t ht
  unfold lw_clr
  split
  · rfl
  · unfold lw_cl
    rw [lw_tso _ _ _ _ (by omega), lw_tko _ t _ _ ht (by omega) hc.2.1 hc.1]
theorem lw_sndo (nn : Nat) (f : Nat → Int32) (q : Nat) (G : Nat → Nat) (u t : Nat) {j : Nat} (hj : j = 0 ∨ j = 5) : lw_snd nn f q G u t j = G j := by
  unfold lw_snd
  split
  · rfl
  · exact lw_poo nn f G q u t _ _ _ _ (by omega) (by omega) (by omega) (by omega)
theorem lw_ms0c (nn : Nat) (f : Nat → Int32) (q : Nat) : ∀ (m N : Nat) (G : Nat → Nat), lw_J N G → N + 2 * m + 2 < 1000000 → lw_ms nn f q m G 0 = G 0
  | 0, _, _, _, _ => rfl
  | m + 1, N, G, J, hN => by
    by_cases z : lw_du G
    · rw [(lw_ms1 z).1]
      have hi : lw_ft G < G 410 := (lw_ftl G).resolve_right z.1
      have k := lw_mknd J (by omega) nn f q z
      rw [lw_ms0c nn f q m (N + 2) _ (J.mk nn f q _ hi (by omega)) (by omega)]
      exact k.2.1
    · rw [(lw_ms0 z).1]
theorem lw_ti0 {N : Nat} {G : Nat → Nat} (J : lw_J N G) (nn : Nat) (f : Nat → Int32) (q : Nat) (hN : N + 60 < 1000000) : lw_ti nn f q 24 G 0 = G 0 + 1 := by
  have y := lw_yo05 nn f q 4 0 (lw_ms nn f q 24 (lw_t0 G))
  unfold lw_ti
  rw [y.1, lw_ms0c nn f q 24 (N + 1) _ (J.t0 (by omega)) (by omega)]
  exact xn_ue _ _ _
theorem kl_ev (d c s b N nn q dl tx sy T : Nat) (f : Nat → Int32) (W0 : xi_W) (F G : Nat → Nat) (hb : wb b) (hq : q < 2) (hw : kw W0 b F) (hrl : rl_ok nn f q dl tx sy T W0) (h : RL (G 0 + 1) N G F) (hdl : dl = G 5) (h4 : G 4 ≤ 61) (hck : G 0 < 9999) (hN : N + 80 < 90000) (r : xi_R → Prop) (K : ∀ W' F', kw W' b F' → rus W' → fr (kr b) W0 W' → RL (lw_ev nn f q G 0 + 1) (N + 65) (lw_ev nn f q G) F' → lw_ev nn f q G 5 = G 5 → lw_ev nn f q G 0 ≤ G 0 + 1 → r (none, W', c, s)) : xr (d + 7) 79 0 [(0, .ref b), (1, .ref 355)] [] W0 c s r := by
  have hl := hrl.1
  have hR := hrl.2.2.2.2.2.2
  have kk := hb.k
  have q56 := h.1.2.2.2.2.2.2.1.2.1
  have q40 := h.1.2.2.2.2.2.2.1.1
  have hx1 := h.j.x
  have d0 := h.j.d0
  have hD : RL (G 0 + 1) N (lw_dr G) (xn_u F 56 ((F 56 * 773 + 641) % 31139)) := by
    refine ⟨?_, h.2.cg h.j.e (fun j z1 z2 => xn_un _ _ (by omega)) (fun s hs => by unfold lw_dr; rw [xn_un _ _ (by omega)]; exact su.rf _) h.e⟩
    unfold lw_dr
    rw [q56, show G 1 * 773 + 641 = 773 * G 1 + 641 by omega]
    exact h.1.scal (k := 1) (m := 56) (by omega) rfl (fun z => by omega) (h.j.dr (by omega))
  have g0 : lw_dr G 0 = G 0 := xn_un _ _ (by omega)
  have g5 : lw_dr G 5 = G 5 := xn_un _ _ (by omega)
  have g4 : lw_dr G 4 = G 4 := lw_dr4 G
  refine xr_stp rfl rfl rfl rfl ?_
  refine xr_vcps (hw.w hb hl hR) rfl rfl rfl rfl rfl rfl (fun r1 K2 => xr_kw hw (cn_draw (hw.B hb hl hR) _ F _ _ (by omega)) (fun W1 hw1 hf1 => K2 _ _ _ _ ?_))
  rw [q56] at hw1 ⊢
  rw [q56] at hD
  have hs1 := hrl.2.2.2.2.2.1.keep hf1 kk.1 kk.2.1
  have hrl1 := hrl.keep hf1 kk.2.2.2 hs1
  have hF1 := krK hf1
  have hl := hrl1.1
  have hR := hrl1.2.2.2.2.2.2
  clear hw
  have hw := hw1
  refine xr_stp rfl rfl rfl rfl ?_
  refine xr_stp rfl rfl rfl rfl ?_
  refine xr_stp (st' := .int (Int32.ofNat 8) :: _) rfl rfl rfl rfl ?_
  refine xs_div (by omega) (by omega) (by omega) rfl ?_
  refine xr_stp (st' := .int (Int32.ofNat 4) :: _) rfl rfl rfl rfl ?_
  refine xs_mod (by omega) (by omega) (by omega) rfl ?_
  refine xr_stp rfl rfl rfl rfl ?_
  refine xr_stp rfl rfl rfl rfl ?_
  refine xr_stp (st' := .int (Int32.ofNat 32) :: _) rfl rfl rfl rfl ?_
  refine xs_div (by omega) (by omega) (by omega) rfl ?_
  refine xr_stp (st' := .int (Int32.ofNat 4) :: _) rfl rfl rfl rfl ?_
  refine xs_mod (by omega) (by omega) (by omega) rfl ?_
  refine xr_stp rfl rfl rfl rfl ?_
  refine xr_stp rfl rfl rfl rfl ?_
  refine xr_stp (st' := .int (Int32.ofNat 8) :: _) rfl rfl rfl rfl ?_
  refine xs_mod (by omega) (by omega) (by omega) rfl ?_
  have h8 : G 1 % 8 < 3 ∨ G 1 % 8 = 3 ∨ (G 1 % 8 = 4 ∨ G 1 % 8 = 5) ∨ (G 1 % 8 = 6 ∨ G 1 % 8 = 7) := by omega
  rcases h8 with h8 | h8 | h8 | h8
  · have e8 : G 1 % 8 = 0 ∨ G 1 % 8 = 1 ∨ G 1 % 8 = 2 := by omega
    have go : ∀ w, w = G 1 % 8 → w < 3 → xr (d + 7) 79 24 [(4, .int (Int32.ofNat (G 1 / 32 % 4))), (3, .int (Int32.ofNat (G 1 / 8 % 4))), (2, .int (Int32.ofNat (G 1))), (0, .ref b), (1, .ref 355)] [.int (Int32.ofNat w)] W1 c s r := fun w ew hw3 => by
      have ej : w = 0 ∨ w = 1 ∨ w = 2 := by omega
      have s64 : xr (d + 7) 79 64 [(4, .int (Int32.ofNat (G 1 / 32 % 4))), (3, .int (Int32.ofNat (G 1 / 8 % 4))), (2, .int (Int32.ofNat (G 1))), (0, .ref b), (1, .ref 355)] [] W1 c s r := by
        refine xr_stp rfl rfl rfl rfl ?_
        refine xr_stp rfl rfl rfl rfl ?_
        refine xr_stp rfl rfl rfl rfl ?_
        refine xr_stp rfl rfl rfl rfl ?_
        refine xr_stp (st' := .int (Int32.ofNat 3) :: _) rfl rfl rfl rfl ?_
        refine xs_mod (by omega) (by omega) (by omega) rfl ?_
        refine xr_stp rfl rfl rfl rfl ?_
        refine xr_stp (st' := .int (Int32.ofNat 100) :: _) rfl rfl rfl rfl ?_
        refine xs_mod (by omega) (by omega) (by omega) rfl ?_
        refine xr_vcps (hw.w hb hl hR) rfl rfl rfl rfl rfl rfl (fun r1 K2 => kl_place _ _ _ b (G 0 + 1) N (G 1 / 8 % 4) (G 1 / 32 % 4) (G 1 % 3) (G 1 % 100) W1 _ (lw_dr G) _ hw hb hl hR hD (by omega) (by rw [g4]; exact h4) (by omega) (by omega) (by omega) (by omega) r1 (fun W2 F2 hw2 hf2 h2 => K2 _ _ _ _ ?_))
        refine xr_stp rfl rfl rfl rfl ?_
        refine xr_stp rfl rfl rfl rfl ?_
        have e0 : lw_ev nn f q G = lw_se (lw_dr G) (G 1 / 8 % 4) (G 1 / 32 % 4) (G 1 % 3) (G 1 % 100) := if_pos h8
        have o0 := lw_seo hD.j (t := (G 1 / 8 % 4)) (G 1 / 32 % 4) (G 1 % 3) (G 1 % 100) (by omega) (by rw [g4]; exact h4) (j := 0) (by omega)
        have o5 := lw_seo hD.j (t := (G 1 / 8 % 4)) (G 1 / 32 % 4) (G 1 % 3) (G 1 % 100) (by omega) (by rw [g4]; exact h4) (j := 5) (by omega)
        exact xr_ret rfl rfl (K W2 F2 hw2 (hs1.keep hf2 kk.1 kk.2.1) (krT hF1 hf2) (by rw [e0, o0, g0]; exact h2.mono (by omega)) (by rw [e0, o5, g5]) (by rw [e0, o0, g0]; omega))
      rcases ej with rfl | rfl | rfl
      all_goals exact xr_stp (pc' := 64) rfl rfl rfl rfl s64
    exact go _ rfl h8
  · rw [h8]
    refine xr_stp (pc' := 82) rfl rfl rfl rfl ?_
    refine xr_stp rfl rfl rfl rfl ?_
    refine xr_stp rfl rfl rfl rfl ?_
    refine xr_stp rfl rfl rfl rfl ?_
    refine xr_stp (st' := .int (Int32.ofNat 4294967295) :: _) rfl rfl rfl rfl ?_
    refine xr_vcps (hw.w hb hl hR) rfl rfl rfl rfl rfl rfl (fun r1 K2 => kl_remove _ _ _ b (G 0 + 1) N (G 1 / 8 % 4) (G 1 / 32 % 4) 4294967295 W1 _ (lw_dr G) _ hw hb hl hR hD (by omega) (by omega) (by omega) (by omega) r1 (fun z => K2 _ _ _ _ ?_) (fun z W2 F2 hw2 hf2 h2 => K2 _ _ _ _ ?_))
    · refine xr_stp rfl rfl rfl rfl ?_
      refine xr_stp rfl rfl rfl rfl ?_
      have e0 : lw_ev nn f q G = lw_clr (lw_dr G) (G 1 / 8 % 4) (G 1 / 32 % 4) 4294967295 := by unfold lw_ev; rw [if_neg (by omega), if_pos h8]
      have o0 := lw_clro hD.j (t := (G 1 / 8 % 4)) (G 1 / 32 % 4) 4294967295 (by omega) (j := 0) (by omega)
      have o5 := lw_clro hD.j (t := (G 1 / 8 % 4)) (G 1 / 32 % 4) 4294967295 (by omega) (j := 5) (by omega)
      have e1 : lw_clr (lw_dr G) (G 1 / 8 % 4) (G 1 / 32 % 4) 4294967295 = lw_dr G := if_pos z
      exact xr_ret rfl rfl (K W1 _ hw hs1 hF1 (by rw [e0, o0, g0, e1]; exact hD.mono (by omega)) (by rw [e0, o5, g5]) (by rw [e0, o0, g0]; omega))
    · refine xr_stp rfl rfl rfl rfl ?_
      refine xr_stp rfl rfl rfl rfl ?_
      have e0 : lw_ev nn f q G = lw_clr (lw_dr G) (G 1 / 8 % 4) (G 1 / 32 % 4) 4294967295 := by unfold lw_ev; rw [if_neg (by omega), if_pos h8]
      have o0 := lw_clro hD.j (t := (G 1 / 8 % 4)) (G 1 / 32 % 4) 4294967295 (by omega) (j := 0) (by omega)
      have o5 := lw_clro hD.j (t := (G 1 / 8 % 4)) (G 1 / 32 % 4) 4294967295 (by omega) (j := 5) (by omega)
      have e1 : lw_clr (lw_dr G) (G 1 / 8 % 4) (G 1 / 32 % 4) 4294967295 = lw_cl (lw_dr G) (G 1 / 8 % 4) (G 1 / 32 % 4) 4294967295 := if_neg z
      exact xr_ret rfl rfl (K W2 F2 hw2 (hs1.keep hf2 kk.1 kk.2.1) (krT hF1 hf2) (by rw [e0, o0, g0, e1]; exact h2.mono (by omega)) (by rw [e0, o5, g5]) (by rw [e0, o0, g0]; omega))
  · have s94 : xr (d + 7) 79 94 [(4, .int (Int32.ofNat (G 1 / 32 % 4))), (3, .int (Int32.ofNat (G 1 / 8 % 4))), (2, .int (Int32.ofNat (G 1))), (0, .ref b), (1, .ref 355)] [] W1 c s r := by
      refine xr_stp rfl rfl rfl rfl ?_
      refine xr_stp rfl rfl rfl rfl ?_
      refine xr_stp rfl rfl rfl rfl ?_
      refine xr_stp rfl rfl rfl rfl ?_
      refine xr_stp rfl rfl rfl rfl ?_
      refine xr_stp (st' := .int (Int32.ofNat 32) :: _) rfl rfl rfl rfl ?_
      refine xs_div (by omega) (by omega) (by omega) rfl ?_
      refine xr_stp (st' := .int (Int32.ofNat 3) :: _) rfl rfl rfl rfl ?_
      refine xs_mod (by omega) (by omega) (by omega) rfl ?_
      refine xs_add rfl ?_
      refine xr_stp (st' := .int (Int32.ofNat 1) :: _) rfl rfl rfl rfl ?_
      refine xs_add rfl ?_
      refine xr_stp (st' := .int (Int32.ofNat 4) :: _) rfl rfl rfl rfl ?_
      refine xs_mod (by omega) (by omega) (by omega) rfl ?_
      rw [show (G 1 / 8 % 4 + G 1 / 32 % 3 + 1) % 4 = (G 1 / 8 % 4 + 1 + G 1 / 32 % 3) % 4 by omega]
      refine xr_vcps (hw.w hb hl hR) rfl rfl rfl rfl rfl rfl (fun r1 K2 => kl_send (d + 1) _ _ b (G 0 + 1) N nn q dl tx sy T f W1 _ (lw_dr G) (G 1 / 8 % 4) ((G 1 / 8 % 4 + 1 + G 1 / 32 % 3) % 4) hw hb hrl1 hD (by rw [g5]; exact hdl) (by omega) (by rw [g0, g5]; omega) hq (by omega) (by omega) (by omega) r1 (fun z => K2 _ _ _ _ ?_) (fun z W2 F2 hw2 hs2 hf2 h2 => K2 _ _ _ _ ?_))
      · refine xr_stp rfl rfl rfl rfl ?_
        refine xr_stp rfl rfl rfl rfl ?_
        have e0 : lw_ev nn f q G = lw_snd nn f q (lw_dr G) (G 1 / 8 % 4) ((G 1 / 8 % 4 + 1 + G 1 / 32 % 3) % 4) := by unfold lw_ev; rw [if_neg (by omega), if_neg (by omega), if_pos (by omega)]
        have o0 := lw_sndo nn f q (lw_dr G) (G 1 / 8 % 4) ((G 1 / 8 % 4 + 1 + G 1 / 32 % 3) % 4) (j := 0) (by omega)
        have o5 := lw_sndo nn f q (lw_dr G) (G 1 / 8 % 4) ((G 1 / 8 % 4 + 1 + G 1 / 32 % 3) % 4) (j := 5) (by omega)
        have e1 : lw_snd nn f q (lw_dr G) (G 1 / 8 % 4) ((G 1 / 8 % 4 + 1 + G 1 / 32 % 3) % 4) = lw_dr G := if_pos z
        exact xr_ret rfl rfl (K W1 _ hw hs1 hF1 (by rw [e0, o0, g0, e1]; exact hD.mono (by omega)) (by rw [e0, o5, g5]) (by rw [e0, o0, g0]; omega))
      · refine xr_stp rfl rfl rfl rfl ?_
        refine xr_stp rfl rfl rfl rfl ?_
        have e0 : lw_ev nn f q G = lw_snd nn f q (lw_dr G) (G 1 / 8 % 4) ((G 1 / 8 % 4 + 1 + G 1 / 32 % 3) % 4) := by unfold lw_ev; rw [if_neg (by omega), if_neg (by omega), if_pos (by omega)]
        have o0 := lw_sndo nn f q (lw_dr G) (G 1 / 8 % 4) ((G 1 / 8 % 4 + 1 + G 1 / 32 % 3) % 4) (j := 0) (by omega)
        have o5 := lw_sndo nn f q (lw_dr G) (G 1 / 8 % 4) ((G 1 / 8 % 4 + 1 + G 1 / 32 % 3) % 4) (j := 5) (by omega)
        have e1 : lw_snd nn f q (lw_dr G) (G 1 / 8 % 4) ((G 1 / 8 % 4 + 1 + G 1 / 32 % 3) % 4) = lw_sn nn f (lw_dr G) q (G 1 / 8 % 4) ((G 1 / 8 % 4 + 1 + G 1 / 32 % 3) % 4) := if_neg z
        exact xr_ret rfl rfl (K W2 F2 hw2 hs2 (hF1.tr hf2) (by rw [e0, o0, g0, e1]; exact h2.mono (by omega)) (by rw [e0, o5, g5]) (by rw [e0, o0, g0]; omega))
    rcases h8 with h8 | h8
    all_goals
      rw [h8]
      exact xr_stp (pc' := 94) rfl rfl rfl rfl s94
  · have q40b : xn_u F 56 ((G 1 * 773 + 641) % 31139) 40 = G 0 := (xn_un _ _ (by omega)).trans q40
    have s116 : xr (d + 7) 79 116 [(4, .int (Int32.ofNat (G 1 / 32 % 4))), (3, .int (Int32.ofNat (G 1 / 8 % 4))), (2, .int (Int32.ofNat (G 1))), (0, .ref b), (1, .ref 355)] [] W1 c s r := by
      refine xr_stp rfl rfl rfl rfl ?_
      refine xr_getfield (hw.w hb hl hR) rfl rfl rfl rfl ?_
      refine xr_stp (st' := .int (Int32.ofNat 9999) :: _) rfl rfl rfl rfl ?_
      refine xr_j2 rfl rfl rfl rfl rfl (fun h123 => ?_) (fun h123 => ?_)
      · exact absurd (nt_ge (by omega) (by omega) h123) (by omega)
      · refine xr_stp rfl rfl rfl rfl ?_
        refine xr_stp rfl rfl rfl rfl ?_
        refine xr_vcps (hw.w hb hl hR) rfl rfl rfl rfl rfl rfl (fun r1 K2 => kl_tick d _ _ b nn q dl tx sy T f hb hq r1 N (lw_dr G) _ W1 hw hrl1 (by rw [g0]; exact hD) (by rw [g5]; exact hdl) (by omega) (fun W2 F2 hw2 hs2 hf2 h2 h5 => K2 _ _ _ _ ?_))
        refine xr_stp rfl rfl rfl rfl ?_
        have e0 : lw_ev nn f q G = lw_ti nn f q 24 (lw_dr G) := by unfold lw_ev; rw [if_neg (by omega), if_neg (by omega), if_neg (by omega)]
        exact xr_ret rfl rfl (K W2 F2 hw2 hs2 (hF1.tr hf2) (by rw [e0]; exact h2) (by rw [e0, h5, g5]) (by rw [e0, lw_ti0 hD.j nn f q (by omega), g0]; exact Nat.le_refl _))
    rcases h8 with h8 | h8
    all_goals
      rw [h8]
      exact xr_stp (pc' := 116) rfl rfl rfl rfl s116
