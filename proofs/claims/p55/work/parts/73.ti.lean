/-! the class: a tick, in the relation -/
def cn_t0 (F : Nat → Nat) : Nat → Nat := xn_u F 40 (F 40 + 1)
theorem tk_1 {b : xi_W} {I : Nat → Nat} {R : Nat × List Value} (B : cn_B b I R) (d c s : Nat) (F : Nat → Nat) (Q : xi_R) (k : xg d 78 14 [(3, .int (Int32.ofNat 0)), (2, .int (Int32.ofNat 0)), (0, .ref (I 0)), (1, .ref (I 2))] [] (cn_w b I (cn_t0 F)) c s Q) : xg d 78 0 [(0, .ref (I 0)), (1, .ref (I 2))] [] (cn_w b I F) c s Q := by
  refine xg_stp rfl rfl rfl rfl ?_
  refine xg_stp rfl rfl rfl rfl ?_
  refine xg_getfield (cn_g0 B _) rfl rfl rfl rfl ?_
  refine xg_stp (st' := .int (Int32.ofNat 1) :: _) rfl rfl rfl rfl ?_
  refine xn_add rfl ?_
  refine cn_pf2 B rfl rfl ?_
  refine xg_stp (st' := .int (Int32.ofNat 0) :: _) rfl rfl rfl rfl ?_
  refine xg_stp rfl rfl rfl rfl ?_
  refine xg_stp (st' := .int (Int32.ofNat 0) :: _) rfl rfl rfl rfl ?_
  refine xg_stp rfl rfl rfl rfl ?_
  exact k
theorem lw_mk5 {N : Nat} {G : Nat → Nat} (J : lw_J N G) (hN : N < 1000000) (h0 : 0 < G 410) (nn : Nat) (f : Nat → Int32) (q : Nat) : lw_mk nn f q G 0 5 = G 5 ∧ lw_mk nn f q G 0 0 = G 0 := by
  have t0 : lw_tm G 0 0 = G (411 + 0) := lw_tmv G 0 (by omega)
  have t1 : lw_tm G 0 1 = G (411 + 1) := lw_tmv G 0 (by omega)
  have t4 : lw_tm G 0 4 = G (411 + 4) := lw_tmv G 0 (by omega)
  have t5 : lw_tm G 0 5 = G (411 + 5) := lw_tmv G 0 (by omega)
  have t6 : lw_tm G 0 6 = G (411 + 6) := lw_tmv G 0 (by omega)
  have t7 : lw_tm G 0 7 = G (411 + 7) := lw_tmv G 0 (by omega)
  obtain ⟨g0, g1, g5, g4⟩ := J.f 0 h0
  have g0 : G (411 + 0) < 4 := g0
  have g1 : G (411 + 1) < 4 := g1
  have g5 : G (411 + 5) < 2 := g5
  have g4 : G (411 + 4) ≤ G (338 + (if G (411 + 5) = 0 then G (411 + 0) else G (411 + 1))) := g4
  have J1 : lw_J N (lw_m2 G 0) := (J.tn 0 h0).ts 4 _ _ (by omega) (by rw [t1]; omega) (by rw [t0]; omega)
  have mo : ∀ j, j < 410 → lw_m2 G 0 j = G j := fun j hj => lw_m2o G hj
  have ct := J1.c (G (411 + 1)) g1
  have key : ∀ j, j < 6 → j ≠ 1 → j ≠ 2 → j ≠ 3 → j ≠ 4 → lw_mk nn f q G 0 j = G j := fun j h1 h2 h3 h4 h5 => by
    unfold lw_mk
    rw [t0, t1, t4, t5, t6, t7]
    split
    · rename_i z
      rw [if_neg (by omega)] at g4
      have A : ∀ j, j ≠ 346 + 4 * G (411 + 1) + G (411 + 0) → lw_a3 (lw_m2 G 0) (G (411 + 0)) (G (411 + 1)) (G (411 + 4)) j = lw_m2 G 0 j := fun j hj => xn_un _ _ hj
      have b1 := A (338 + G (411 + 1)) (by omega)
      have b2 := A (342 + G (411 + 1)) (by omega)
      have hle := lw_lele (lw_a3 (lw_m2 G 0) (G (411 + 0)) (G (411 + 1)) (G (411 + 4))) (G (411 + 1)) 4 0 (lw_a3 (lw_m2 G 0) (G (411 + 0)) (G (411 + 1)) (G (411 + 4)) (338 + G (411 + 1)))
      obtain ⟨a1, a2, a3⟩ := lw_dnF g1 (lw_le (lw_a3 (lw_m2 G 0) (G (411 + 0)) (G (411 + 1)) (G (411 + 4))) (G (411 + 1)) 4 0 (lw_a3 (lw_m2 G 0) (G (411 + 0)) (G (411 + 1)) (G (411 + 4)) (338 + G (411 + 1)))) _ (lw_a3 (lw_m2 G 0) (G (411 + 0)) (G (411 + 1)) (G (411 + 4))) (by omega) (by omega) (by omega) rfl
      exact (a1 j (by omega) (by omega)).trans ((A j (by omega)).trans (mo j (by omega)))
    · rw [lw_poo nn f _ q _ _ _ _ _ _ h2 h3 h4 (by omega), lw_sm.b3 J1 (G (411 + 1)) (G (411 + 6)) (G (411 + 7)) g1 j (by omega), mo j (by omega)]
  exact ⟨key 5 (by omega) (by omega) (by omega) (by omega) (by omega), key 0 (by omega) (by omega) (by omega) (by omega) (by omega)⟩
theorem lw_du0 {N : Nat} {G F : Nat → Nat} {cl : Nat} (h : RL cl N G F) (hcl : G 0 = cl) : (lw_du G ↔ 0 < F 8 ∧ F (16 * 2 + 6) ≤ F 40) ∧ (0 < F 8 → lw_ft G = 0) := by
  obtain ⟨F1, F2⟩ := h.1.2.2.2.2.2.2.2.1
  have Q := h.1.2.2.2.2.2.2.1.1
  have fo := h.iv.2.2.2.2.1
  unfold lw_du
  by_cases z : 0 < G 410
  · have ft := lw_ft0 fo z
    have e2 : F (16 * 2 + 6) = G (411 + 8 * 0 + 2) := (F2 0 z).2.2.2.1
    have lo := (h.iv.2.2.2.1 0 z).2.1
    rw [ft]
    refine ⟨⟨fun y => ?_, fun y => ?_⟩, fun _ => rfl⟩
    · have y2 := y.2; omega
    · exact ⟨by omega, by omega⟩
  · have ft := lw_ftN (G := G) (by omega)
    rw [ft]
    refine ⟨⟨fun y => absurd rfl y.1, fun y => ?_⟩, fun y => ?_⟩
    · omega
    · omega
theorem po_lets {d c s b lo N u t k nn q dl tx sy T : Nat} {f : Nat → Int32} {W0 : xi_W} {F G : Nat → Nat} {E : (Nat → Nat → Nat) → Prop} {law : Value} (hw : kw W0 b F) (hb : wb b) (hrl : rl_ok nn f q dl tx sy T W0) (hK : RK E lo N G F) (hlaw : (q = 0 ∧ law = .null) ∨ (q = 1 ∧ law = .ref T)) (hu : u < 4) (ht : t < 4) (hk : k < 100000) (r : xi_R → Prop) (K : ∀ W', rus W' → fr rin W0 W' → r (some (.int (Int32.ofNat (lw_sp nn f G q u t k))), W', c, s)) : xr (d + 3) 58 0 [(0, .ref 355), (1, law), (2, .ref b), (3, .int (Int32.ofNat u)), (4, .int (Int32.ofNat t)), (5, .int (Int32.ofNat k))] [] W0 c s r := by
  obtain ⟨hl, ⟨RD, h1, h2⟩, h3, h4, h5, h6, h7⟩ := hrl
  rcases hlaw with ⟨rfl, rfl⟩ | ⟨rfl, rfl⟩
  · exact rl_lets0 (d + 3) c s b u t k W0 r (by have e : lw_sp nn f G 0 u t k = 0 := if_pos rfl; rw [← e]; exact K W0 h6 fr.rf)
  · exact rl_lets1 d c s b u t k tx _ dl sy T nn f W0 hK hw hb hl h7 h5 h6 hu ht hk r K
theorem rl_ok.kr {b nn : Nat} {f : Nat → Int32} {q dl tx sy T : Nat} {W W' : xi_W} (hb : wb b) (h : rl_ok nn f q dl tx sy T W) (hf : fr (kr b) W W') (hs : rus W') : rl_ok nn f q dl tx sy T W' := h.keep hf hb.krr hs
/-- what comes in a tick -/
theorem kl_tl (d c s b nn q dl tx sy T : Nat) (f : Nat → Int32) (hb : wb b) (hq : q < 2) (r : xi_R → Prop) (cl : Nat) : ∀ (m k N n : Nat) (G F : Nat → Nat) (W0 : xi_W), k + m = 24 → kw W0 b F → rl_ok nn f q dl tx sy T W0 → RL cl N G F → G 0 = cl → dl = G 5 → N + 2 * m + 2 < 1000000 → lw_me nn f q m G → (∀ W' F' k', kw W' b F' → rus W' → fr (kr b) W0 W' → RL cl (N + 2 * m) (lw_ms nn f q m G) F' → ¬ lw_du (lw_ms nn f q m G) → lw_ms nn f q m G 0 = cl → lw_ms nn f q m G 5 = dl → xr (d + 6) 78 54 [(3, .int (Int32.ofNat k')), (2, .int (Int32.ofNat (n + lw_mc nn f q m G))), (0, .ref b), (1, .ref 355)] [] W' c s r) → xr (d + 6) 78 14 [(3, .int (Int32.ofNat k)), (2, .int (Int32.ofNat n)), (0, .ref b), (1, .ref 355)] [] W0 c s r
  | 0, k, N, n, G, F, W0, hk, hw, hrl, h, hcl, hdl, hN, hme, K => by
    obtain rfl : k = 24 := by omega
    refine xr_stp rfl rfl rfl rfl ?_
    refine xr_stp (st' := .int (Int32.ofNat 24) :: _) rfl rfl rfl rfl ?_
    refine xr_j2 rfl rfl rfl rfl rfl (fun h17 => ?_) (fun h17 => ?_)
    · exact K W0 F 24 hw hrl.2.2.2.2.2.1 fr.rf h hme hcl hdl.symm
    · exact absurd (nf_ge (by omega) (by omega) h17) (by omega)
  | m + 1, k, N, n, G, F, W0, hk, hw, hrl, h, hcl, hdl, hN, hme, K => by
    have hl := hrl.1
    have hR := hrl.2.2.2.2.2.2
    have q40 := h.1.2.2.2.2.2.2.1.1
    have q8 := h.1.2.2.2.2.2.2.2.1.1
    have m24 := h.j.m
    have n0 := h.j.n0
    obtain ⟨du1, du2⟩ := lw_du0 h hcl
    have no : ¬ lw_du G → xr (d + 6) 78 54 [(3, .int (Int32.ofNat k)), (2, .int (Int32.ofNat n)), (0, .ref b), (1, .ref 355)] [] W0 c s r := fun z => by
      obtain ⟨z1, z2⟩ := lw_ms0 (nn := nn) (f := f) (q := q) (m := m + 1) z
      rw [z1, z2] at K
      exact K W0 F k hw hrl.2.2.2.2.2.1 fr.rf (h.mono (by omega)) z hcl hdl.symm
    have tb : 0 < F 8 → F (16 * 2 + 6) < 2147483648 := fun z => by
      have e2 : F (16 * 2 + 6) = G (411 + 8 * 0 + 2) := (h.1.2.2.2.2.2.2.2.1.2 0 (by omega)).2.2.2.1
      have := (h.iv.2.2.2.1 0 (by omega)).2.2.1
      have := h.j.d1
      omega
    refine xr_stp rfl rfl rfl rfl ?_
    refine xr_stp (st' := .int (Int32.ofNat 24) :: _) rfl rfl rfl rfl ?_
    refine xr_j2 rfl rfl rfl rfl rfl (fun h17 => ?_) (fun h17 => ?_)
    · exact absurd (nt_ge (by omega) (by omega) h17) (by omega)
    · refine xr_stp rfl rfl rfl rfl ?_
      refine xr_getfield (hw.w hb hl hR) rfl rfl rfl rfl ?_
      refine xr_j1 rfl rfl rfl rfl rfl (fun h24 => ?_) (fun h24 => ?_)
      · exact no (fun z => by have := du1.mp z; have := nt1_le (by omega) h24; omega)
      · have e24 := nf1_le (by omega) h24
        have tb := tb e24
        refine xr_stp rfl rfl rfl rfl ?_
        refine xr_getfield (hw.w hb hl hR) rfl rfl rfl rfl ?_
        refine xr_stp (st' := .int (Int32.ofNat 2) :: _) rfl rfl rfl rfl ?_
        refine xs_ild (hw.f hb hl hR) (by omega) (by omega) rfl ?_
        refine xr_stp rfl rfl rfl rfl ?_
        refine xr_getfield (hw.w hb hl hR) rfl rfl rfl rfl ?_
        refine xr_j2 rfl rfl rfl rfl rfl (fun h37 => ?_) (fun h37 => ?_)
        · exact no (fun z => by have := du1.mp z; have := nt_gt (by omega) (by omega) h37; omega)
        · have e37 := nf_gt (by omega) (by omega) h37
          refine xr_stp rfl rfl rfl rfl ?_
          refine xr_stp rfl rfl rfl rfl ?_
          have du : lw_du G := du1.mpr ⟨e24, e37⟩
          obtain ⟨z1, z2⟩ := lw_ms1 (nn := nn) (f := f) (q := q) (m := m) du
          have hme2 := hme du
          rw [du2 e24] at z1 z2 hme2
          rw [z1, z2] at K
          obtain ⟨k5, k0⟩ := lw_mk5 h.j (by omega) (show 0 < G 410 by omega) nn f q
          refine xr_vcps (hw.w hb hl hR) rfl rfl rfl rfl rfl rfl (fun r1 K2 => kl_come d _ _ b cl N nn q dl tx sy T f W0 F G hw hb hrl h hdl (by omega) (by omega) hq (by omega) r1 (fun W2 F2 hw2 hs2 hf2 h2 => K2 _ _ _ _ ?_))
          refine xs_inc (e := 1) rfl rfl rfl rfl ?_
          refine xs_inc (e := 1) rfl rfl rfl rfl ?_
          refine xr_stp rfl rfl rfl rfl ?_
          refine kl_tl d c s b nn q dl tx sy T f hb hq r cl m (k + 1) (N + 2) (n + 1) (lw_mk nn f q G 0) F2 W2 (by omega) hw2 (hrl.kr hb hf2 hs2) h2 (by rw [k0]; exact hcl) (by rw [k5]; exact hdl) (by omega) hme2 (fun W3 F3 k3 y1 y2 y3 y4 y5 y6 y7 => ?_)
          have := K W3 F3 k3 y1 y2 (hf2.tr y3) (y4.mono (by omega)) y5 y6 y7
          rw [show n + (lw_mc nn f q m (lw_mk nn f q G 0) + 1) = n + 1 + lw_mc nn f q m (lw_mk nn f q G 0) by omega] at this
          exact this
theorem kl_yi (d c s b nn q dl tx sy T : Nat) (f : Nat → Int32) (hb : wb b) (hq : q < 2) (r : xi_R → Prop) (n lo : Nat) (law : Value) (hlaw : (q = 0 ∧ law = .null) ∨ (q = 1 ∧ law = .ref T)) (u : Nat) (hu : u < 4) : ∀ (m t N : Nat) (G F : Nat → Nat) (W0 : xi_W), t + m = 4 → kw W0 b F → rl_ok nn f q dl tx sy T W0 → RL lo N G F → lo ≤ G 0 + G 5 → dl = G 5 → N + m + 1 < 90000 → (∀ W' F', kw W' b F' → rus W' → fr (kr b) W0 W' → RL lo (N + m) (lw_yi nn f q u m t G) F' → xr (d + 6) 78 136 [(5, .int (Int32.ofNat 4)), (4, .int (Int32.ofNat u)), (3, law), (2, .int (Int32.ofNat n)), (0, .ref b), (1, .ref 355)] [] W' c s r) → xr (d + 6) 78 75 [(5, .int (Int32.ofNat t)), (4, .int (Int32.ofNat u)), (3, law), (2, .int (Int32.ofNat n)), (0, .ref b), (1, .ref 355)] [] W0 c s r
  | 0, t, N, G, F, W0, hm, hw, hrl, h, hlo, hdl, hN, K => by
    obtain rfl : t = 4 := by omega
    refine xr_stp rfl rfl rfl rfl ?_
    refine xr_stp (st' := .int (Int32.ofNat 4) :: _) rfl rfl rfl rfl ?_
    refine xr_j2 rfl rfl rfl rfl rfl (fun h78 => ?_) (fun h78 => ?_)
    · exact K W0 F hw hrl.2.2.2.2.2.1 fr.rf h
    · exact absurd (nf_ge (by omega) (by omega) h78) (by omega)
  | m + 1, t, N, G, F, W0, hm, hw, hrl, h, hlo, hdl, hN, K => by
    have hl := hrl.1
    have hR := hrl.2.2.2.2.2.2
    have q40 := h.1.2.2.2.2.2.2.1.1
    have q8 := h.1.2.2.2.2.2.2.2.1.1
    have m24 := h.j.m
    have n0 := h.j.n0
    unfold lw_yi at K
    have hC := h.1.2.2.2.2.1 u hu
    have hct := h.j.c u hu
    have hA := h.j.a u t hu (by omega)
    have hq3 := hC.2.2 t (by omega)
    have hbe : (if F (16 * (u * 4 + t) + 3) < F (16 * u + 4) then 1 else 0) = if lw_be G u t = 0 then 0 else 1 := by
      rw [hq3, hC.1]
      unfold lw_be
      by_cases z : G (346 + 4 * u + t) < G (338 + u)
      · rw [if_pos z, if_neg (by omega)]
      · rw [if_neg z, if_pos (by omega)]
    have elag : F (16 * u + 4) - F (16 * (u * 4 + t) + 3) = lw_be G u t := by rw [hq3, hC.1]; rfl
    have hlb : lw_be G u t < 100000 := by unfold lw_be; omega
    have e5 : ∀ a b c2 e, lw_po nn f G q u t a b c2 e 0 = G 0 ∧ lw_po nn f G q u t a b c2 e 5 = G 5 := fun a b c2 e => ⟨lw_poo nn f G q u t a b c2 e (by omega) (by omega) (by omega) (by omega), lw_poo nn f G q u t a b c2 e (by omega) (by omega) (by omega) (by omega)⟩
    have hsp := lw_sple nn f G q u t (lw_be G u t)
    rcases hlaw with ⟨rfl, rfl⟩ | ⟨rfl, rfl⟩
    all_goals
      refine xr_stp rfl rfl rfl rfl ?_
      refine xr_stp (st' := .int (Int32.ofNat 4) :: _) rfl rfl rfl rfl ?_
      refine xr_j2 rfl rfl rfl rfl rfl (fun h78 => ?_) (fun h78 => ?_)
      · exact absurd (nt_ge (by omega) (by omega) h78) (by omega)
      · refine xr_stp rfl rfl rfl rfl ?_
        refine xr_stp rfl rfl rfl rfl ?_
        refine xr_j2 rfl rfl rfl rfl rfl (fun h85 => ?_) (fun h85 => ?_)
        · have e85 := nt_eq (by omega) (by omega) h85
          refine xs_inc (e := 1) rfl rfl rfl rfl ?_
          refine xr_stp rfl rfl rfl rfl ?_
          refine kl_yi d c s b nn _ dl tx sy T f hb (by omega) r n lo _ (by first | exact Or.inl ⟨rfl, rfl⟩ | exact Or.inr ⟨rfl, rfl⟩) u hu m (t + 1) (N) (G) F W0 (by omega) hw hrl h hlo hdl (by omega) (fun W5 F5 y1 y2 y3 y4 => ?_)
          have := K W5 F5 y1 y2 (y3)
          rw [show lw_y1 nn f _ G u t = G from if_neg (fun z => z.1 e85)] at this
          exact this (y4.mono (by omega))
        · have e85 := nf_eq h85
          refine xr_stp rfl rfl rfl rfl ?_
          refine xr_stp rfl rfl rfl rfl ?_
          refine xr_stp rfl rfl rfl rfl ?_
          refine xr_vcps (hw.w hb hl hR) rfl rfl rfl rfl rfl rfl (fun r1 K2 => xr_kw0 hw (cn_hasNews (hw.B hb hl hR) (d + 4) F _ _ u t hu (by omega) (by omega) (by omega)) (K2 _ _ _ _ ?_))
          rw [hbe]
          refine xr_j1 rfl rfl rfl rfl rfl (fun h96 => ?_) (fun h96 => ?_)
          · have e96 : lw_be G u t = 0 := by
              by_cases z : lw_be G u t = 0
              · exact z
              · rw [if_neg z] at h96; exact absurd (nt1_eq (by omega) h96) (by omega)
            refine xs_inc (e := 1) rfl rfl rfl rfl ?_
            refine xr_stp rfl rfl rfl rfl ?_
            refine kl_yi d c s b nn _ dl tx sy T f hb (by omega) r n lo _ (by first | exact Or.inl ⟨rfl, rfl⟩ | exact Or.inr ⟨rfl, rfl⟩) u hu m (t + 1) (N) (G) F W0 (by omega) hw hrl h hlo hdl (by omega) (fun W5 F5 y1 y2 y3 y4 => ?_)
            have := K W5 F5 y1 y2 (y3)
            rw [show lw_y1 nn f _ G u t = G from if_neg (fun z => z.2.1 e96)] at this
            exact this (y4.mono (by omega))
          · have e96 : lw_be G u t ≠ 0 := fun z => by rw [if_pos z] at h96; exact absurd rfl (nf1_eq h96)
            refine xr_stp rfl rfl rfl rfl ?_
            refine xr_stp rfl rfl rfl rfl ?_
            refine xr_stp rfl rfl rfl rfl ?_
            refine xr_stp rfl rfl rfl rfl ?_
            refine xr_stp rfl rfl rfl rfl ?_
            refine xr_stp rfl rfl rfl rfl ?_
            refine xr_stp rfl rfl rfl rfl ?_
            refine xr_stp rfl rfl rfl rfl ?_
            refine xr_vcps (hw.w hb hl hR) rfl rfl rfl rfl rfl rfl (fun r1 K2 => xr_kw0 hw (cn_lag (hw.B hb hl hR) (d + 5) F _ _ u t hu (by omega) (by omega)) (K2 _ _ _ _ ?_))
            rw [elag]
            refine xr_vcps hR rfl rfl rfl rfl rfl rfl (fun r1 K2 => po_lets (d := d + 2) hw hb hrl h.1 (by first | exact Or.inl ⟨rfl, rfl⟩ | exact Or.inr ⟨rfl, rfl⟩) hu (by omega) hlb r1 (fun W2 hs2 hf2 => K2 _ _ _ _ ?_))
            have hw2 := hw.keep hb hl hf2 (fun i z1 z2 z3 => hb.rinF z3 z1 z2)
            have hrl2 := hrl.keep hf2 (fun i z => by unfold rin at z; omega) hs2
            have hF2 : fr (kr b) W0 W2 := hf2.weak (fun i _ z => Or.inr z)
            have hl := hrl2.1
            have hR := hrl2.2.2.2.2.2.2
            clear hw
            have hw := hw2
            refine xr_j1 rfl rfl rfl rfl rfl (fun h117 => ?_) (fun h117 => ?_)
            · have e117 := nt1_eq (by omega) h117
              refine xs_inc (e := 1) rfl rfl rfl rfl ?_
              refine xr_stp rfl rfl rfl rfl ?_
              refine kl_yi d c s b nn _ dl tx sy T f hb (by omega) r n lo _ (by first | exact Or.inl ⟨rfl, rfl⟩ | exact Or.inr ⟨rfl, rfl⟩) u hu m (t + 1) (N) (G) F W2 (by omega) hw hrl2 h hlo hdl (by omega) (fun W5 F5 y1 y2 y3 y4 => ?_)
              have := K W5 F5 y1 y2 (hF2.tr y3)
              rw [show lw_y1 nn f _ G u t = G from if_neg (fun z => z.2.2 e117)] at this
              exact this (y4.mono (by omega))
            · have e117 := nf1_eq h117
              refine xr_stp rfl rfl rfl rfl ?_
              refine xr_stp rfl rfl rfl rfl ?_
              refine xr_stp rfl rfl rfl rfl ?_
              refine xr_stp rfl rfl rfl rfl ?_
              refine xr_vcps (hw.w hb hl hR) rfl rfl rfl rfl rfl rfl (fun r1 K2 => kl_send d _ _ b lo N nn _ dl tx sy T f W2 F G u t hw hb hrl2 h hdl (by omega) hlo (by omega) hu (by omega) e85 r1 (fun z => absurd z e96) (fun _ W3 F3 hw3 hs3 hf3 h3 => K2 _ _ _ _ ?_))
              refine xr_stp rfl rfl rfl rfl ?_
              clear hw
              have hw := hw3
              refine xs_inc (e := 1) rfl rfl rfl rfl ?_
              refine xr_stp rfl rfl rfl rfl ?_
              refine kl_yi d c s b nn _ dl tx sy T f hb (by omega) r n lo _ (by first | exact Or.inl ⟨rfl, rfl⟩ | exact Or.inr ⟨rfl, rfl⟩) u hu m (t + 1) (N + 1) (lw_sn nn f G _ u t) F3 W3 (by omega) hw (hrl2.kr hb hf3 hs3) h3 (by unfold lw_sn; rw [(e5 _ _ _ _).1, (e5 _ _ _ _).2]; exact hlo) (by unfold lw_sn; rw [(e5 _ _ _ _).2]; exact hdl) (by omega) (fun W5 F5 y1 y2 y3 y4 => ?_)
              have := K W5 F5 y1 y2 ((hF2.tr hf3).tr y3)
              rw [show lw_y1 nn f _ G u t = lw_sn nn f G _ u t from if_pos ⟨e85, e96, e117⟩] at this
              exact this (y4.mono (by omega))
theorem lw_yi05 (nn : Nat) (f : Nat → Int32) (q u : Nat) : ∀ (m t : Nat) (G : Nat → Nat), lw_yi nn f q u m t G 0 = G 0 ∧ lw_yi nn f q u m t G 5 = G 5
  | 0, _, _ => ⟨rfl, rfl⟩
  | m + 1, t, G => by
    unfold lw_yi
    have := lw_yi05 nn f q u m (t + 1) (lw_y1 nn f q G u t)
    have e : lw_y1 nn f q G u t 0 = G 0 ∧ lw_y1 nn f q G u t 5 = G 5 := by
      unfold lw_y1
      split
      · exact ⟨lw_poo nn f G q u t _ _ _ _ (by omega) (by omega) (by omega) (by omega), lw_poo nn f G q u t _ _ _ _ (by omega) (by omega) (by omega) (by omega)⟩
      · exact ⟨rfl, rfl⟩
    rw [this.1, this.2]
    exact e
theorem lw_yo05 (nn : Nat) (f : Nat → Int32) (q : Nat) : ∀ (m u : Nat) (G : Nat → Nat), lw_yo nn f q m u G 0 = G 0 ∧ lw_yo nn f q m u G 5 = G 5
  | 0, _, _ => ⟨rfl, rfl⟩
  | m + 1, u, G => by
    unfold lw_yo
    have a := lw_yo05 nn f q m (u + 1) (lw_yi nn f q u 4 0 G)
    have b := lw_yi05 nn f q u 4 0 G
    exact ⟨a.1.trans b.1, a.2.trans b.2⟩
theorem kl_yo (d c s b nn q dl tx sy T : Nat) (f : Nat → Int32) (hb : wb b) (hq : q < 2) (r : xi_R → Prop) (n lo : Nat) (law : Value) (hlaw : (q = 0 ∧ law = .null) ∨ (q = 1 ∧ law = .ref T)) : ∀ (m u N : Nat) (G F : Nat → Nat) (W0 : xi_W) (L : xi_L), u + m = 4 → (L = [(4, .int (Int32.ofNat u)), (3, law), (2, .int (Int32.ofNat n)), (0, .ref b), (1, .ref 355)] ∨ L = [(4, .int (Int32.ofNat u)), (5, .int (Int32.ofNat 4)), (3, law), (2, .int (Int32.ofNat n)), (0, .ref b), (1, .ref 355)]) → kw W0 b F → rl_ok nn f q dl tx sy T W0 → RL lo N G F → lo ≤ G 0 + G 5 → dl = G 5 → N + 4 * m + 1 < 90000 → (∀ W' F', kw W' b F' → rus W' → fr (kr b) W0 W' → RL lo (N + 4 * m) (lw_yo nn f q m u G) F' → r (some (.int (Int32.ofNat n)), W', c, s)) → xr (d + 6) 78 66 L [] W0 c s r
  | 0, u, N, G, F, W0, L, hm, hL, hw, hrl, h, hlo, hdl, hN, K => by
    obtain rfl : u = 4 := by omega
    rcases hL with rfl | rfl
    all_goals
      refine xr_stp rfl rfl rfl rfl ?_
      refine xr_stp (st' := .int (Int32.ofNat 4) :: _) rfl rfl rfl rfl ?_
      refine xr_j2 rfl rfl rfl rfl rfl (fun h69 => ?_) (fun h69 => ?_)
      · refine xr_stp rfl rfl rfl rfl ?_
        exact xr_ret rfl rfl (K W0 F hw hrl.2.2.2.2.2.1 fr.rf h)
      · exact absurd (nf_ge (by omega) (by omega) h69) (by omega)
  | m + 1, u, N, G, F, W0, L, hm, hL, hw, hrl, h, hlo, hdl, hN, K => by
    unfold lw_yo at K
    have e5 := lw_yi05 nn f q u 4 0 G
    have hla := hlaw
    rcases hlaw with ⟨rfl, rfl⟩ | ⟨rfl, rfl⟩ <;> rcases hL with rfl | rfl
    all_goals
      refine xr_stp rfl rfl rfl rfl ?_
      refine xr_stp (st' := .int (Int32.ofNat 4) :: _) rfl rfl rfl rfl ?_
      refine xr_j2 rfl rfl rfl rfl rfl (fun h69 => ?_) (fun h69 => ?_)
      · exact absurd (nt_ge (by omega) (by omega) h69) (by omega)
      · refine xr_stp (st' := .int (Int32.ofNat 0) :: _) rfl rfl rfl rfl ?_
        refine xr_stp rfl rfl rfl rfl ?_
        refine kl_yi d c s b nn _ dl tx sy T f hb hq r n lo _ hla u (by omega) 4 0 N G F W0 rfl hw hrl h hlo hdl (by omega) (fun W2 F2 hw2 hs2 hf2 h2 => ?_)
        refine xs_inc (e := 1) rfl rfl rfl rfl ?_
        refine xr_stp rfl rfl rfl rfl ?_
        exact kl_yo d c s b nn _ dl tx sy T f hb hq r n lo _ hla m (u + 1) (N + 4) _ F2 W2 _ (by omega) (Or.inr rfl) hw2 (hrl.kr hb hf2 hs2) h2 (by rw [e5.1, e5.2]; exact hlo) (by rw [e5.2]; exact hdl) (by omega) (fun W3 F3 y1 y2 y3 y4 => K W3 F3 y1 y2 (hf2.tr y3) (y4.mono (by omega)))
theorem kl_tickE (d c s b nn q dl tx sy T : Nat) (f : Nat → Int32) (hb : wb b) (hq : q < 2) (r : xi_R → Prop) (n cl : Nat) (N : Nat) (G F : Nat → Nat) (W0 : xi_W) (k : Nat) (hw : kw W0 b F) (hrl : rl_ok nn f q dl tx sy T W0) (h : RL cl N G F) (hcl : G 0 = cl) (hdl : dl = G 5) (hdu : ¬ lw_du G) (hN : N + 17 < 90000) (K : ∀ W' F', kw W' b F' → rus W' → fr (kr b) W0 W' → RL (cl + 1) (N + 16) (lw_yo nn f q 4 0 G) F' → r (some (.int (Int32.ofNat n)), W', c, s)) : xr (d + 6) 78 54 [(3, .int (Int32.ofNat k)), (2, .int (Int32.ofNat n)), (0, .ref b), (1, .ref 355)] [] W0 c s r := by
  have hl := hrl.1
  have hR := hrl.2.2.2.2.2.2
  have d0 := h.j.d0
  have up : RL (cl + 1) N G F := by
    refine ⟨h.1.lo (fun i hi => ?_), h.2⟩
    have fo := h.iv.2.2.2.2.1
    have i4 := h.iv.2.2.2.1
    have ft := lw_ft0 fo (show 0 < G 410 by omega)
    unfold lw_du at hdu
    rw [ft] at hdu
    have a0 := (i4 0 (by omega)).2.1
    have a1 : G (411 + 8 * 0 + 2) ≠ G 0 := fun z => hdu ⟨by omega, z⟩
    by_cases z : i = 0
    · subst z; omega
    · have := (fo 0 i (by omega) hi).1
      omega
  have go : ∀ law, ((q = 0 ∧ law = .null) ∨ (q = 1 ∧ law = .ref T)) → xr (d + 6) 78 66 [(4, .int (Int32.ofNat 0)), (3, law), (2, .int (Int32.ofNat n)), (0, .ref b), (1, .ref 355)] [] W0 c s r := fun law hlaw => kl_yo d c s b nn q dl tx sy T f hb hq r n (cl + 1) law hlaw 4 0 N G F W0 _ rfl (Or.inl rfl) hw hrl up (by omega) hdl (by omega) K
  obtain ⟨_, ⟨RD, rd1, rd2⟩, hx1, hx2, _⟩ := hrl
  have hqq : q = 0 ∨ q = 1 := by omega
  rcases hqq with rfl | rfl
  · rw [if_pos rfl] at hR
    refine xr_stp rfl rfl rfl rfl ?_
    refine xr_stp rfl rfl rfl rfl ?_
    refine xr_getfield hR rfl rfl rfl rfl ?_
    refine xr_vcps hR rfl rfl rfl rfl rfl rfl (fun r1 K2 => ru_num0 _ _ _ W0 r1 (K2 _ _ _ _ ?_))
    refine xr_stp rfl rfl rfl rfl ?_
    refine xr_stp (st' := .int (Int32.ofNat 0) :: _) rfl rfl rfl rfl ?_
    refine xr_stp rfl rfl rfl rfl ?_
    exact go .null (Or.inl ⟨rfl, rfl⟩)
  · rw [if_neg (by omega)] at hR
    refine xr_stp rfl rfl rfl rfl ?_
    refine xr_stp rfl rfl rfl rfl ?_
    refine xr_getfield hR rfl rfl rfl rfl ?_
    refine xr_vcps hR rfl rfl rfl rfl rfl rfl (fun r1 K2 => ru_num1 _ _ _ 0 tx 0 dl sy T W0 RD hR rd1 rd2 (by omega) hx1 hx2 r1 (K2 _ _ _ _ ?_))
    refine xr_stp rfl rfl rfl rfl ?_
    refine xr_stp (st' := .int (Int32.ofNat 0) :: _) rfl rfl rfl rfl ?_
    refine xr_stp rfl rfl rfl rfl ?_
    exact go (.ref T) (Or.inr ⟨rfl, rfl⟩)
/-- 'tick' -/
theorem kl_tick (d c s b nn q dl tx sy T : Nat) (f : Nat → Int32) (hb : wb b) (hq : q < 2) (r : xi_R → Prop) (N : Nat) (G F : Nat → Nat) (W0 : xi_W) (hw : kw W0 b F) (hrl : rl_ok nn f q dl tx sy T W0) (h : RL (G 0 + 1) N G F) (hdl : dl = G 5) (hN : N + 70 < 90000) (K : ∀ W' F', kw W' b F' → rus W' → fr (kr b) W0 W' → RL (lw_ti nn f q 24 G 0 + 1) (N + 65) (lw_ti nn f q 24 G) F' → lw_ti nn f q 24 G 5 = G 5 → r (some (.int (Int32.ofNat (lw_mc nn f q 24 (lw_t0 G)))), W', c, s)) : xr (d + 6) 78 0 [(0, .ref b), (1, .ref 355)] [] W0 c s r := by
  have hl := hrl.1
  have hR := hrl.2.2.2.2.2.2
  have kk := hb.k
  have q40 := h.1.2.2.2.2.2.2.1.1
  have hJ0 := h.j.t0 (by omega)
  refine xr_kwp hw (fun Q2 z => tk_1 (hw.B hb hl hR) (d + 6) c s F Q2 z) (fun W1 hw1 hf1 => ?_)
  have hs1 := hrl.2.2.2.2.2.1.keep hf1 kk.1 kk.2.1
  have hrl1 := hrl.keep hf1 kk.2.2.2 hs1
  have h1 : RL (G 0 + 1) (N + 1) (lw_t0 G) (cn_t0 F) := by
    refine ⟨?_, h.2.cg h.j.e (fun j z1 z2 => xn_un _ _ (by omega)) (fun s hs => by unfold lw_t0; rw [xn_un _ _ (by omega)]; exact su.rf _) h.e⟩
    unfold lw_t0 cn_t0
    rw [q40]
    exact h.1.scal (k := 0) (m := 40) (by omega) rfl (fun _ => by omega) hJ0
  have e0 : lw_t0 G 0 = G 0 + 1 := xn_ue _ _ _
  have e5 : lw_t0 G 5 = G 5 := xn_un _ _ (by omega)
  refine kl_tl d c s b nn q dl tx sy T f hb hq r (G 0 + 1) 24 0 (N + 1) 0 (lw_t0 G) (cn_t0 F) W1 rfl hw1 hrl1 h1 e0 (by rw [e5]; exact hdl) (by omega) (lw_me24 h.j nn f q (by omega)) (fun W2 F2 k2 hw2 hs2 hf2 h2 hdu c2 d2 => ?_)
  rw [Nat.zero_add]
  refine kl_tickE d c s b nn q dl tx sy T f hb hq r _ (G 0 + 1) (N + 1 + 2 * 24) _ F2 W2 k2 hw2 (hrl1.kr hb hf2 hs2) h2 c2 d2.symm hdu (by omega) (fun W3 F3 hw3 hs3 hf3 h3 => ?_)
  have y := lw_yo05 nn f q 4 0 (lw_ms nn f q 24 (lw_t0 G))
  refine K W3 F3 hw3 hs3 ((krK hf1).tr (hf2.tr hf3)) ?_ (by unfold lw_ti; rw [y.2, d2, hdl])
  have ec : lw_ti nn f q 24 G 0 = G 0 + 1 := by unfold lw_ti; rw [y.1, c2]
  rw [ec]
  exact h3.mono (by omega)
