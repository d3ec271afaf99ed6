/-! the class: what is sent, what comes, in the relation -/
theorem xr_kw0 {d j pc c s : Nat} {av : xi_L} {W : xi_W} {b : Nat} {F : Nat → Nat} {v : Option Value} {r : xi_R → Prop} (h : kw W b F) (hx : xg d j pc av [] (cn_w W (wI b) F) c s (v, cn_w W (wI b) F, c, s)) (k : r (v, W, c, s)) : xr d j pc av [] W c s r := by
  have e : cn_w W (wI b) F = W := h.1
  rw [e] at hx
  exact xr_of hx k
theorem lw_poow {nn : Nat} {f : Nat → Int32} {G : Nat → Nat} {q u t up a h kn : Nat} (hw : ow G) (he : en G (G 4)) (J4 : G 4 ≤ 62) : ow (lw_po nn f G q u t up a h kn) := hw.cg J4 (fun j h1 h2 => lw_poo nn f G q u t up a h kn (by omega) (by omega) (by omega) (by omega)) (fun s hs => by rw [lw_poo nn f G q u t up a h kn (by omega) (by omega) (by omega) (by omega)]; exact su.rf _) he
theorem RL.of {E : (Nat → Nat → Nat) → Prop} {lo N : Nat} {G F : Nat → Nat} (h : RK E lo N G F) (hw : ow G) : RL lo N G F := ⟨h.imp (fun _ _ _ => trivial), hw⟩
theorem krT {b : Nat} {W W' W2 : xi_W} (h : fr (kr b) W W') (h2 : fr (kin b) W' W2) : fr (kr b) W W2 := h.tr (h2.weak (fun i _ z => Or.inl z))
theorem krK {b : Nat} {W W' : xi_W} (h : fr (kin b) W W') : fr (kr b) W W' := h.weak (fun i _ z => Or.inl z)
theorem kr_kin {b i : Nat} (hb : wb b) (h : kr b i) (h2 : ¬ kin b i) : rin i := h.resolve_left h2
/-- 'transmit' -/
theorem kl_send (d c s b lo N nn q dl tx sy T : Nat) (f : Nat → Int32) (W0 : xi_W) (F G : Nat → Nat) (u t : Nat) (hw : kw W0 b F) (hb : wb b) (hrl : rl_ok nn f q dl tx sy T W0) (h : RL lo N G F) (hdl : dl = G 5) (hN : N + 1 < 1000000) (hlo : lo ≤ G 0 + G 5) (hq : q < 2) (hu : u < 4) (ht : t < 4) (hut : u ≠ t) (r : xi_R → Prop) (K0 : lw_be G u t = 0 → r (some (.int (Int32.ofNat 4294967295)), W0, c, s)) (K : lw_be G u t ≠ 0 → ∀ W' F', kw W' b F' → rus W' → fr (kr b) W0 W' → RL lo (N + 1) (lw_sn nn f G q u t) F' → r (some (.int (Int32.ofNat (G (338 + u)))), W', c, s)) : xr (d + 5) 77 0 [(0, .ref b), (1, .ref 355), (2, .int (Int32.ofNat u)), (3, .int (Int32.ofNat t))] [] W0 c s r := by
  have hl := hrl.1
  have hR := hrl.2.2.2.2.2.2
  have kk := hb.k
  have hct := h.j.c u hu
  have hC := h.1.2.2.2.2.1 u hu
  have hA := h.j.a u t hu ht
  have hq3 := hC.2.2 t ht
  have hbe : (if F (16 * (u * 4 + t) + 3) < F (16 * u + 4) then 1 else 0) = if lw_be G u t = 0 then 0 else 1 := by
    rw [hq3, hC.1]
    unfold lw_be
    by_cases z : G (346 + 4 * u + t) < G (338 + u)
    · rw [if_pos z, if_neg (by omega)]
    · rw [if_neg z, if_pos (by omega)]
  refine xr_stp rfl rfl rfl rfl ?_
  refine xr_stp rfl rfl rfl rfl ?_
  refine xr_j2 rfl rfl rfl rfl rfl (fun h2 => ?_) (fun h2 => ?_)
  · exact absurd (nt_eq (by omega) (by omega) h2) hut
  · refine xr_stp rfl rfl rfl rfl ?_
    refine xr_stp rfl rfl rfl rfl ?_
    refine xr_stp rfl rfl rfl rfl ?_
    refine xr_vcps (hw.w hb hl hR) rfl rfl rfl rfl rfl rfl (fun r1 K2 => xr_kw0 hw (cn_hasNews (hw.B hb hl hR) (d + 3) F _ _ u t hu ht (by omega) (by omega)) (K2 _ _ _ _ ?_))
    rw [hbe]
    refine xr_j1 rfl rfl rfl rfl rfl (fun h11 => ?_) (fun h11 => ?_)
    · have h0 : lw_be G u t ≠ 0 := fun z => by rw [if_pos z] at h11; exact absurd rfl (nt1_ne h11)
      have hlt : F (16 * (u * 4 + t) + 3) < F (16 * u + 4) := by rw [hq3, hC.1]; unfold lw_be at h0; omega
      refine xr_stp rfl rfl rfl rfl ?_
      refine xr_stp rfl rfl rfl rfl ?_
      refine xr_stp rfl rfl rfl rfl ?_
      refine xr_vcps (hw.w hb hl hR) rfl rfl rfl rfl rfl rfl (fun r1 K2 => xr_kw hw (cn_compose (hw.B hb hl hR) (d + 1) F _ _ u t hu ht (by omega) (by omega) (by omega)) (fun W1 hw1 hf1 => K2 _ _ _ _ ?_))
      obtain ⟨c1, c2, c3, c4⟩ := h.compose hu ht
      have hs1 := hrl.2.2.2.2.2.1.keep hf1 kk.1 kk.2.1
      have hrl1 := hrl.keep hf1 kk.2.2.2 hs1
      have hF1 := krK hf1
      have hl := hrl1.1
      have hR := hrl1.2.2.2.2.2.2
      clear hw
      have hw := hw1
      have hC1 := c1.1.2.2.2.2.1 u hu
      refine xr_stp rfl rfl rfl rfl ?_
      refine xr_stp rfl rfl rfl rfl ?_
      refine xr_stp rfl rfl rfl rfl ?_
      refine xr_stp rfl rfl rfl rfl ?_
      refine xr_stp (st' := .int (Int32.ofNat 0) :: _) rfl rfl rfl rfl ?_
      refine xr_stp rfl rfl rfl rfl ?_
      refine xr_getfield (hw.w hb hl hR) rfl rfl rfl rfl ?_
      refine xr_stp rfl rfl rfl rfl ?_
      refine xs_ild (hw.m hb hl hR) (by omega) (by omega) rfl ?_
      rw [hC1.1]
      refine xr_vcps (hw.w hb hl hR) rfl rfl rfl rfl rfl rfl (fun r1 K2 => kl_post d _ _ b lo N u t 0 (G (338 + u)) _ _ nn q dl tx sy T f W1 (cn_co F u t) G (fun _ => True) hw hb hrl1 c1.1 hdl hN hlo c2 c3 hq hu ht (by omega) (by rw [if_pos rfl]; exact Nat.le_refl _) (fun _ H hH _ => c4 H hH) (fun z => absurd z (by omega)) r1 (fun W2 F2 hw2 hs2 hf2 hK2 => K2 _ _ _ _ ?_))
      have hrl2 := hrl1.keep hf2 hb.krr hs2
      have hF2 := hF1.tr hf2
      have hl := hrl2.1
      have hR := hrl2.2.2.2.2.2.2
      clear hw
      have hw := hw2
      have hC2 := hK2.2.2.2.2.1 u hu
      refine xr_stp rfl rfl rfl rfl ?_
      refine xr_getfield (hw.w hb hl hR) rfl rfl rfl rfl ?_
      refine xr_stp rfl rfl rfl rfl ?_
      refine xs_ild (hw.m hb hl hR) (by omega) (by omega) rfl ?_
      rw [hC2.1, lw_poo nn f G q u t _ _ _ _ (by omega) (by omega) (by omega) (by omega)]
      exact xr_ret rfl rfl (K h0 W2 F2 hw2 hs2 hF2 (RL.of hK2 (lw_poow h.2 h.e h.j.e)))
    · have h0 : lw_be G u t = 0 := by
        by_cases z : lw_be G u t = 0
        · exact z
        · rw [if_neg z] at h11; exact absurd (nf1_ne (by omega) h11) (by omega)
      refine xr_stp (st' := .int (Int32.ofNat 4294967295) :: _) rfl rfl rfl rfl ?_
      exact xr_ret rfl rfl (K0 h0)
def cn_h1 (F : Nat → Nat) : Nat → Nat := cn_mv F 28 53 1
def cn_h2 (F : Nat → Nat) : Nat → Nat := xn_u (cn_h1 F) 8 (cn_h1 F 8 - 1)
def cn_h3 (F : Nat → Nat) : Nat → Nat := cn_cp 6 (cn_h2 F) 5 0 (cn_h2 F 8 * 5)
def cn_h4 (F : Nat → Nat) : Nat → Nat := cn_mv (cn_h3 F) 29 28 (cn_h3 F 8)
/-- the first in flight is taken out and written down -/
def cn_h5 (F : Nat → Nat) : Nat → Nat := cn_wr (cn_h4 F) 4 (F (16 * 1 + 6)) (F (16 * 0 + 6))
theorem cn_h2a (F : Nat → Nat) : cn_h2 F 8 = F 8 - 1 := by
  unfold cn_h2 cn_h1; rw [xn_ue, cn_mvo _ _ _ _ (by omega)]
theorem cn_h3a (F : Nat → Nat) : cn_h3 F 8 = F 8 - 1 := by
  unfold cn_h3; rw [cn_cpn _ _ _ _ _ (by omega), cn_h2a]
theorem cn_h4a (F : Nat → Nat) : cn_h4 F 24 = F 24 := by
  unfold cn_h4 cn_h3 cn_h2 cn_h1
  rw [cn_mvo _ _ _ _ (by omega), cn_cpn _ _ _ _ _ (by omega), xn_un _ _ (by omega), cn_mvo _ _ _ _ (by omega)]
theorem ce_1 {b : xi_W} {I : Nat → Nat} {R : Nat × List Value} (B : cn_B b I R) (d c s : Nat) (F : Nat → Nat) (k1 : 0 < F 8) (k2 : F 8 ≤ 24) (k3 : F 24 ≤ 25) (Q : xi_R) (k : xg (d + 4) 91 92 [(5, .int (Int32.ofNat (F (16 * 4 + 6)))), (4, .int (Int32.ofNat (F (16 * 3 + 6)))), (3, .int (Int32.ofNat (F (16 * 1 + 6)))), (2, .int (Int32.ofNat (F (16 * 0 + 6)))), (0, .ref (I 0)), (1, .ref (I 2))] [] (cn_w b I (cn_h5 F)) c s Q) : xg (d + 4) 91 0 [(0, .ref (I 0)), (1, .ref (I 2))] [] (cn_w b I F) c s Q := by
  have z1 : cn_mv F 28 53 1 8 = F 8 := cn_mvo _ _ _ _ (by omega)
  have z2 := cn_h2a F
  have z3 := cn_h3a F
  have z4 := cn_h4a F
  have z5 : xn_u (cn_mv F 28 53 1) 8 (cn_mv F 28 53 1 8 - 1) 8 = F 8 - 1 := z2
  refine xg_stp rfl rfl rfl rfl ?_
  refine xg_getfield (cn_g0 B _) rfl rfl rfl rfl ?_
  refine xg_stp (st' := .int (Int32.ofNat 0) :: _) rfl rfl rfl rfl ?_
  refine cn_ld9 B (by omega) rfl ?_
  refine xg_stp rfl rfl rfl rfl ?_
  refine xg_stp rfl rfl rfl rfl ?_
  refine xg_getfield (cn_g0 B _) rfl rfl rfl rfl ?_
  refine xg_stp (st' := .int (Int32.ofNat 1) :: _) rfl rfl rfl rfl ?_
  refine cn_ld9 B (by omega) rfl ?_
  refine xg_stp rfl rfl rfl rfl ?_
  refine xg_stp rfl rfl rfl rfl ?_
  refine xg_getfield (cn_g0 B _) rfl rfl rfl rfl ?_
  refine xg_stp (st' := .int (Int32.ofNat 3) :: _) rfl rfl rfl rfl ?_
  refine cn_ld9 B (by omega) rfl ?_
  refine xg_stp rfl rfl rfl rfl ?_
  refine xg_stp rfl rfl rfl rfl ?_
  refine xg_getfield (cn_g0 B _) rfl rfl rfl rfl ?_
  refine xg_stp (st' := .int (Int32.ofNat 4) :: _) rfl rfl rfl rfl ?_
  refine cn_ld9 B (by omega) rfl ?_
  refine xg_stp rfl rfl rfl rfl ?_
  refine xg_stp rfl rfl rfl rfl ?_
  refine xg_getfield (cn_g0 B _) rfl rfl rfl rfl ?_
  refine xg_stp (st' := .int (Int32.ofNat 53) :: _) rfl rfl rfl rfl ?_
  refine xg_stp (st' := .int (Int32.ofNat 28) :: _) rfl rfl rfl rfl ?_
  refine xg_vcall (cn_g1 B _) rfl rfl rfl rfl rfl rfl (cn_put B (d + 1) F 0 0 53 28 (by omega) (by omega)) ?_
  refine xg_stp rfl rfl rfl rfl ?_
  refine xg_stp rfl rfl rfl rfl ?_
  refine xg_getfield (cn_g0 B _) rfl rfl rfl rfl ?_
  refine xg_stp (st' := .int (Int32.ofNat 1) :: _) rfl rfl rfl rfl ?_
  refine xn_sub (by omega) rfl ?_
  refine cn_pf0 B rfl rfl ?_
  refine xg_stp rfl rfl rfl rfl ?_
  refine xg_getfield (cn_g0 B _) rfl rfl rfl rfl ?_
  refine xg_stp (st' := .int (Int32.ofNat 5) :: _) rfl rfl rfl rfl ?_
  refine xg_stp rfl rfl rfl rfl ?_
  refine xg_getfield (cn_g0 B _) rfl rfl rfl rfl ?_
  refine xg_stp (st' := .int (Int32.ofNat 0) :: _) rfl rfl rfl rfl ?_
  refine xg_stp rfl rfl rfl rfl ?_
  refine xg_getfield (cn_g0 B _) rfl rfl rfl rfl ?_
  refine xg_stp (st' := .int (Int32.ofNat 5) :: _) rfl rfl rfl rfl ?_
  refine xn_mul rfl ?_
  refine cn_ac9 B (by omega) (by omega) rfl rfl rfl ?_
  refine xg_stp rfl rfl rfl rfl ?_
  refine xg_getfield (cn_g0 B _) rfl rfl rfl rfl ?_
  refine xg_stp (st' := .int (Int32.ofNat 29) :: _) rfl rfl rfl rfl ?_
  refine xg_stp (st' := .int (Int32.ofNat 28) :: _) rfl rfl rfl rfl ?_
  refine xg_stp rfl rfl rfl rfl ?_
  refine xg_getfield (cn_g0 B _) rfl rfl rfl rfl ?_
  refine xg_vcall (cn_g1 B _) rfl rfl rfl rfl rfl rfl (cn_move B (d + 2) (cn_h3 F) 0 0 29 28 (cn_h3 F 8) (by omega) (by omega)) ?_
  refine xg_stp rfl rfl rfl rfl ?_
  refine xg_stp (st' := .int (Int32.ofNat 4) :: _) rfl rfl rfl rfl ?_
  refine xg_stp rfl rfl rfl rfl ?_
  refine xg_stp rfl rfl rfl rfl ?_
  refine xg_vcall (cn_g0 B _) rfl rfl rfl rfl rfl rfl (cn_write B (d + 2) (cn_h4 F) 0 0 4 (F (16 * 1 + 6)) (F (16 * 0 + 6)) (by omega)) ?_
  exact k
theorem cn_h4v (G : Nat → Nat) (h24 : G 8 ≤ 24) : cn_h4 G 8 = G 8 - 1 ∧ (∀ j, j < 5 * (G 8 - 1) → cn_h4 G (16 * j + 6) = G (16 * (j + 5) + 6)) ∧
    (∀ i s, i < G 8 - 1 → s < 4 → cn_h4 G (16 * ((28 + i) * 4 + s) + 0) = G (16 * ((29 + i) * 4 + s) + 0) ∧ cn_h4 G (16 * ((28 + i) * 4 + s) + 1) = G (16 * ((29 + i) * 4 + s) + 1)) ∧
    (∀ s, s < 4 → cn_h4 G (16 * (53 * 4 + s) + 0) = G (16 * (28 * 4 + s) + 0) ∧ cn_h4 G (16 * (53 * 4 + s) + 1) = G (16 * (28 * 4 + s) + 1)) ∧
    (∀ j, j ≠ 8 → j % 16 ≠ 6 → (1 < j % 16 ∨ j / 16 < 112) → cn_h4 G j = G j) := by
  have e3 := cn_h3a G
  have m : ∀ j, 1 < j % 16 → cn_h4 G j = cn_h3 G j := fun j hj => cn_mvo _ _ _ _ hj
  have c : ∀ j, j % 16 ≠ 6 → cn_h3 G j = cn_h2 G j := fun j hj => cn_cpn _ _ _ _ _ hj
  have row : ∀ j, j % 16 < 2 → cn_h3 G j = cn_mv G 28 53 1 j := fun j hj => by
    rw [c j (by omega)]
    exact xn_un _ _ (by omega)
  refine ⟨?_, fun j hj => ?_, fun i s hi hs => ?_, fun s hs => ?_, fun j h1 h3 h5 => ?_⟩
  · rw [m 8 (by omega), e3]
  · rw [m _ (by omega)]
    unfold cn_h3
    rw [cn_h2a]
    unfold cn_cp
    rw [if_pos (by omega)]
    unfold cn_h2 cn_h1
    rw [xn_un _ _ (by omega), cn_mvo _ _ _ _ (by omega)]
    exact congrArg _ (by omega)
  · have := cn_mvg (cn_h3 G) 29 28 (cn_h3 G 8) (28 + i) s (by omega) (by omega) hs
    unfold cn_h4
    rw [this.1, this.2, row _ (by omega), row _ (by omega), show 29 + (28 + i - 28) = 29 + i by omega]
    rw [cn_mvn _ _ _ _ (by omega), cn_mvn _ _ _ _ (by omega)]
    exact ⟨rfl, rfl⟩
  · unfold cn_h4
    rw [cn_mvn _ _ _ _ (by omega), cn_mvn _ _ _ _ (by omega), row _ (by omega), row _ (by omega)]
    have := cn_mvg G 28 53 1 53 s (by omega) (by omega) hs
    rw [Nat.sub_self, Nat.add_zero] at this
    exact this
  · unfold cn_h4
    rw [cn_mvn _ _ _ _ (by omega), c j h3]
    unfold cn_h2 cn_h1
    rw [xn_un _ _ h1, cn_mvn _ _ _ _ (by omega)]
