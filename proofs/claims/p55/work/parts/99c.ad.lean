/-! 'advance' -/
theorem ad_bl (d c s : Nat) (W0 : xi_W) (tp : Nat → Nat) (n st tk nu fa pl mn pa cd lw : Nat) (p e : Nat) (hO : W0[18]? = some (rO n st p tk nu fa pl mn pa cd lw)) (hT : W0[19]? = some (lw_b 300 tp)) (h2 : n ≤ 300) (hb : ∀ j, j < n → tp j < 128) (he : e < n) (hsp : p = e ∨ (p + 1 = e ∧ tp p = 32)) (e1 : tp e ≠ 32) (e2 : tp e ≠ 10) (r : xi_R → Prop) (K : ∀ W', W'[18]? = some (rO n e p tk nu fa pl mn pa cd lw) → W'[19]? = some (lw_b 300 tp) → fr (fun i => i = 18) W0 W' → xr (d + 5) 48 58 [(0, .ref 18)] [] W' c s r) : xr (d + 5) 48 0 [(0, .ref 18)] [] W0 c s r := by
  have hbe := hb e he
  have hbp := hb p (by omega)
  have hF : fr (fun i => i = 18) W0 W0 := fr.rf
  refine xr_stp rfl rfl rfl rfl ?_
  refine xr_stp rfl rfl rfl rfl ?_
  refine xr_getfield hO rfl rfl rfl rfl ?_
  refine xr_putk hO (by omega) rfl rfl rfl rfl rfl rfl (fun W hO hf1 => ?_)
  have hT := hf1.at hT (by omega)
  have hF := hF.tr2 hf1 (fun _ e => Or.inl e)
  have hO : _[18]? = some (rO n p p tk nu fa pl mn pa cd lw) := hO
  rcases hsp with rfl | ⟨rfl, e3⟩
  · refine xr_stp rfl rfl rfl rfl ?_
    refine xr_getfield hO rfl rfl rfl rfl ?_
    refine xr_stp rfl rfl rfl rfl ?_
    refine xr_getfield hO rfl rfl rfl rfl ?_
    refine xr_j2 rfl rfl rfl rfl rfl (fun h16 => ?_) (fun h16 => ?_)
    · have z16 := nt_ge (by omega) (by omega) h16
      exact (by omega)
    · refine xr_stp rfl rfl rfl rfl ?_
      refine xr_stp rfl rfl rfl rfl ?_
      refine xr_getfield hO rfl rfl rfl rfl ?_
      refine xr_vcps hO rfl rfl rfl rfl rfl rfl (fun r1 K2 => rd_byte _ _ _ p _ _ _ _ _ _ _ _ _ _ _ tp _ hO hT (by omega) h2 (hb _ (by omega)) r1 (K2 _ _ _ _ ?_))
      refine xr_stp (st' := .int (Int32.ofNat 32) :: _) rfl rfl rfl rfl ?_
      refine xr_j2 rfl rfl rfl rfl rfl (fun h29 => ?_) (fun h29 => ?_)
      · have z29 := nt_eq (by omega) (by omega) h29
        exact (by omega)
      · refine xr_stp rfl rfl rfl rfl ?_
        refine xr_stp rfl rfl rfl rfl ?_
        refine xr_getfield hO rfl rfl rfl rfl ?_
        refine xr_vcps hO rfl rfl rfl rfl rfl rfl (fun r1 K2 => rd_byte _ _ _ p _ _ _ _ _ _ _ _ _ _ _ tp _ hO hT (by omega) h2 (hb _ (by omega)) r1 (K2 _ _ _ _ ?_))
        refine xr_stp (st' := .int (Int32.ofNat 10) :: _) rfl rfl rfl rfl ?_
        refine xr_j2 rfl rfl rfl rfl rfl (fun h42 => ?_) (fun h42 => ?_)
        · exact K W hO hT hF
        · have z42 := nf_ne (by omega) (by omega) h42
          exact (by omega)
  · refine xr_stp rfl rfl rfl rfl ?_
    refine xr_getfield hO rfl rfl rfl rfl ?_
    refine xr_stp rfl rfl rfl rfl ?_
    refine xr_getfield hO rfl rfl rfl rfl ?_
    refine xr_j2 rfl rfl rfl rfl rfl (fun h16 => ?_) (fun h16 => ?_)
    · have z16 := nt_ge (by omega) (by omega) h16
      exact (by omega)
    · refine xr_stp rfl rfl rfl rfl ?_
      refine xr_stp rfl rfl rfl rfl ?_
      refine xr_getfield hO rfl rfl rfl rfl ?_
      refine xr_vcps hO rfl rfl rfl rfl rfl rfl (fun r1 K2 => rd_byte _ _ _ p _ _ _ _ _ _ _ _ _ _ _ tp _ hO hT (by omega) h2 (hb _ (by omega)) r1 (K2 _ _ _ _ ?_))
      refine xr_stp (st' := .int (Int32.ofNat 32) :: _) rfl rfl rfl rfl ?_
      refine xr_j2 rfl rfl rfl rfl rfl (fun h29 => ?_) (fun h29 => ?_)
      · refine xr_stp rfl rfl rfl rfl ?_
        refine xr_stp rfl rfl rfl rfl ?_
        refine xr_getfield hO rfl rfl rfl rfl ?_
        refine xr_stp (st' := .int (Int32.ofNat 1) :: _) rfl rfl rfl rfl ?_
        refine xs_add rfl ?_
        refine xr_putk hO (by omega) rfl rfl rfl rfl rfl rfl (fun W hO hf1 => ?_)
        have hT := hf1.at hT (by omega)
        have hF := hF.tr2 hf1 (fun _ e => Or.inl e)
        refine xr_stp rfl rfl rfl rfl ?_
        have hO : _[18]? = some (rO n (p + 1) p tk nu fa pl mn pa cd lw) := hO
        refine xr_stp rfl rfl rfl rfl ?_
        refine xr_getfield hO rfl rfl rfl rfl ?_
        refine xr_stp rfl rfl rfl rfl ?_
        refine xr_getfield hO rfl rfl rfl rfl ?_
        refine xr_j2 rfl rfl rfl rfl rfl (fun h16 => ?_) (fun h16 => ?_)
        · have z16 := nt_ge (by omega) (by omega) h16
          exact (by omega)
        · refine xr_stp rfl rfl rfl rfl ?_
          refine xr_stp rfl rfl rfl rfl ?_
          refine xr_getfield hO rfl rfl rfl rfl ?_
          refine xr_vcps hO rfl rfl rfl rfl rfl rfl (fun r1 K2 => rd_byte _ _ _ (p + 1) _ _ _ _ _ _ _ _ _ _ _ tp _ hO hT (by omega) h2 (hb _ (by omega)) r1 (K2 _ _ _ _ ?_))
          refine xr_stp (st' := .int (Int32.ofNat 32) :: _) rfl rfl rfl rfl ?_
          refine xr_j2 rfl rfl rfl rfl rfl (fun h29 => ?_) (fun h29 => ?_)
          · have z29 := nt_eq (by omega) (by omega) h29
            exact (by omega)
          · refine xr_stp rfl rfl rfl rfl ?_
            refine xr_stp rfl rfl rfl rfl ?_
            refine xr_getfield hO rfl rfl rfl rfl ?_
            refine xr_vcps hO rfl rfl rfl rfl rfl rfl (fun r1 K2 => rd_byte _ _ _ (p + 1) _ _ _ _ _ _ _ _ _ _ _ tp _ hO hT (by omega) h2 (hb _ (by omega)) r1 (K2 _ _ _ _ ?_))
            refine xr_stp (st' := .int (Int32.ofNat 10) :: _) rfl rfl rfl rfl ?_
            refine xr_j2 rfl rfl rfl rfl rfl (fun h42 => ?_) (fun h42 => ?_)
            · exact K W hO hT hF
            · have z42 := nf_ne (by omega) (by omega) h42
              exact (by omega)
      · have z29 := nf_eq h29
        exact (by omega)
theorem ad_lt (d c s : Nat) (tp : Nat → Nat) (n st tk nu fa pl mn pa cd lw E : Nat) (h2 : n ≤ 300) (hb : ∀ j, j < n → tp j < 128) (hE : E < n) (hE2 : ¬ isl (tp E)) (r : xi_R → Prop) : ∀ (m nx : Nat) (W0 : xi_W), nx + m = E → (∀ j, nx ≤ j → j < E → isl (tp j)) → W0[18]? = some (rO n st nx tk nu fa pl mn pa cd lw) → W0[19]? = some (lw_b 300 tp) → (∀ W', W'[18]? = some (rO n st E tk nu fa pl mn pa cd lw) → W'[19]? = some (lw_b 300 tp) → fr (fun i => i = 18) W0 W' → xr (d + 5) 48 156 [(0, .ref 18)] [] W' c s r) → xr (d + 5) 48 118 [(0, .ref 18)] [] W0 c s r
  | 0, nx, W0, hm, hl, hO, hT, K => by
    obtain rfl : nx = E := by omega
    refine xr_stp rfl rfl rfl rfl ?_
    refine xr_getfield hO rfl rfl rfl rfl ?_
    refine xr_stp rfl rfl rfl rfl ?_
    refine xr_getfield hO rfl rfl rfl rfl ?_
    refine xr_j2 rfl rfl rfl rfl rfl (fun h126 => ?_) (fun h126 => ?_)
    · have z126 := nt_ge (by omega) (by omega) h126
      exact (by omega)
    · refine xr_stp rfl rfl rfl rfl ?_
      refine xr_stp rfl rfl rfl rfl ?_
      refine xr_getfield hO rfl rfl rfl rfl ?_
      refine xr_vcps hO rfl rfl rfl rfl rfl rfl (fun r1 K2 => rd_byte _ _ _ nx _ _ _ _ _ _ _ _ _ _ _ tp _ hO hT (by omega) h2 (hb _ (by omega)) r1 (K2 _ _ _ _ ?_))
      refine xr_cps rfl rfl rfl (fun r1 K2 => rd_let0 _ _ _ _ _ (hb _ (by omega)) hE2 r1 (K2 _ _ _ _ ?_))
      refine xr_j1 rfl rfl rfl rfl rfl (fun h140 => ?_) (fun h140 => ?_)
      · exact K W0 hO hT fr.rf
      · have z140 := nf1_eq h140
        exact (by omega)
  | m + 1, nx, W0, hm, hl, hO, hT, K => by
    have hF : fr (fun i => i = 18) W0 W0 := fr.rf
    refine xr_stp rfl rfl rfl rfl ?_
    refine xr_getfield hO rfl rfl rfl rfl ?_
    refine xr_stp rfl rfl rfl rfl ?_
    refine xr_getfield hO rfl rfl rfl rfl ?_
    refine xr_j2 rfl rfl rfl rfl rfl (fun h126 => ?_) (fun h126 => ?_)
    · have z126 := nt_ge (by omega) (by omega) h126
      exact (by omega)
    · refine xr_stp rfl rfl rfl rfl ?_
      refine xr_stp rfl rfl rfl rfl ?_
      refine xr_getfield hO rfl rfl rfl rfl ?_
      refine xr_vcps hO rfl rfl rfl rfl rfl rfl (fun r1 K2 => rd_byte _ _ _ nx _ _ _ _ _ _ _ _ _ _ _ tp _ hO hT (by omega) h2 (hb _ (by omega)) r1 (K2 _ _ _ _ ?_))
      refine xr_cps rfl rfl rfl (fun r1 K2 => rd_let1 _ _ _ _ _ (hb _ (by omega)) (hl nx (Nat.le_refl _) (by omega)) r1 (K2 _ _ _ _ ?_))
      refine xr_j1 rfl rfl rfl rfl rfl (fun h140 => ?_) (fun h140 => ?_)
      · have z140 := nt1_eq (by omega) h140
        exact (by omega)
      · refine xr_stp rfl rfl rfl rfl ?_
        refine xr_stp rfl rfl rfl rfl ?_
        refine xr_getfield hO rfl rfl rfl rfl ?_
        refine xr_stp (st' := .int (Int32.ofNat 1) :: _) rfl rfl rfl rfl ?_
        refine xs_add rfl ?_
        refine xr_putk hO (by omega) rfl rfl rfl rfl rfl rfl (fun W hO hf1 => ?_)
        have hT := hf1.at hT (by omega)
        have hF := hF.tr2 hf1 (fun _ e => Or.inl e)
        refine xr_stp rfl rfl rfl rfl ?_
        exact ad_lt d c s tp n st tk nu fa pl mn pa cd lw E h2 hb hE hE2 r m (nx + 1) W (by omega) (fun j h1 h3 => hl j (by omega) h3) hO hT (fun W5 k1 k2 k3 => K W5 k1 k2 (hF.tr k3))
def adR (tp : Nat → Nat) (n p nu st nx tk nu' : Nat) : Prop := ∀ (d c s : Nat) (W : xi_W) (st0 tk0 fa pl mn pa cd lw : Nat), kc W → W[18]? = some (rO n st0 p tk0 nu fa pl mn pa cd lw) → W[19]? = some (lw_b 300 tp) → ∀ r : xi_R → Prop, (∀ W', W'[18]? = some (rO n st nx tk nu' fa pl mn pa cd lw) → fr (fun i => i = 18) W W' → r (none, W', c, s)) → xr (d + 5) 48 0 [(0, .ref 18)] [] W c s r
theorem adR_e (tp : Nat → Nat) (n nu : Nat) (h2 : n ≤ 300) : adR tp n n nu n n 39 nu := by
  intro d c s W0 st0 tk0 fa pl mn pa cd lw hk hO hT r K
  have hF : fr (fun i => i = 18) W0 W0 := fr.rf
  refine xr_stp rfl rfl rfl rfl ?_
  refine xr_stp rfl rfl rfl rfl ?_
  refine xr_getfield hO rfl rfl rfl rfl ?_
  refine xr_putk hO (by omega) rfl rfl rfl rfl rfl rfl (fun W hO hf1 => ?_)
  have hT := hf1.at hT (by omega)
  have hF := hF.tr2 hf1 (fun _ e => Or.inl e)
  refine xr_stp rfl rfl rfl rfl ?_
  refine xr_getfield hO rfl rfl rfl rfl ?_
  refine xr_stp rfl rfl rfl rfl ?_
  refine xr_getfield hO rfl rfl rfl rfl ?_
  refine xr_j2 rfl rfl rfl rfl rfl (fun h16 => ?_) (fun h16 => ?_)
  · refine xr_stp rfl rfl rfl rfl ?_
    refine xr_stp rfl rfl rfl rfl ?_
    refine xr_getfield hO rfl rfl rfl rfl ?_
    refine xr_stp (st' := .int (Int32.ofNat 1) :: _) rfl rfl rfl rfl ?_
    refine xs_add rfl ?_
    refine xr_putk hO (by omega) rfl rfl rfl rfl rfl rfl (fun W hO hf1 => ?_)
    have hT := hf1.at hT (by omega)
    have hF := hF.tr2 hf1 (fun _ e => Or.inl e)
    refine xr_stp rfl rfl rfl rfl ?_
    refine xr_getfield hO rfl rfl rfl rfl ?_
    refine xr_stp rfl rfl rfl rfl ?_
    refine xr_getfield hO rfl rfl rfl rfl ?_
    refine xr_j2 rfl rfl rfl rfl rfl (fun h76 => ?_) (fun h76 => ?_)
    · have z76 := nt_lt (by omega) (by omega) h76
      exact (by omega)
    · refine xr_stp rfl rfl rfl rfl ?_
      refine xr_stp rfl rfl rfl rfl ?_
      refine xr_getfield hO rfl rfl rfl rfl ?_
      refine xr_putk hO (by omega) rfl rfl rfl rfl rfl rfl (fun W hO hf1 => ?_)
      have hT := hf1.at hT (by omega)
      have hF := hF.tr2 hf1 (fun _ e => Or.inl e)
      refine xr_stp rfl rfl rfl rfl ?_
      refine xr_stp rfl rfl rfl rfl ?_
      refine xr_getfield hO rfl rfl rfl rfl ?_
      refine xr_putk hO (by omega) rfl rfl rfl rfl rfl rfl (fun W hO hf1 => ?_)
      have hT := hf1.at hT (by omega)
      have hF := hF.tr2 hf1 (fun _ e => Or.inl e)
      refine xr_stp rfl rfl rfl rfl ?_
      refine xr_stp (st' := .int (Int32.ofNat 39) :: _) rfl rfl rfl rfl ?_
      refine xr_putk hO (by omega) rfl rfl rfl rfl rfl rfl (fun W hO hf1 => ?_)
      have hT := hf1.at hT (by omega)
      have hF := hF.tr2 hf1 (fun _ e => Or.inl e)
      refine xr_stp rfl rfl rfl rfl ?_
      exact xr_ret rfl rfl (K W hO hF)
  · have z16 := nf_ge (by omega) (by omega) h16
    exact (by omega)
theorem adR_w (tp : Nat → Nat) (n p nu e : Nat) (h2 : n ≤ 300) (hb : ∀ j, j < n → tp j < 128) (he : e < n) (hsp : p = e ∨ (p + 1 = e ∧ tp p = 32)) (kk w : Nat) (h3 : e + kk < n) (h4 : 0 < kk) (hl : ∀ j, e ≤ j → j < e + kk → isl (tp j)) (hn : ¬ isl (tp (e + kk))) (hw : wbf tp e kk 123 0 0 0 = w) : adR tp n p nu e (e + kk) w nu := by
  have hle := hl e (Nat.le_refl _) (by omega)
  have hle2 : 65 ≤ tp e := by unfold isl at hle; omega
  intro d c s W0 st0 tk0 fa pl mn pa cd lw hk hO hT r K
  refine ad_bl d c s W0 tp n st0 tk0 nu fa pl mn pa cd lw p e hO hT h2 hb he hsp (by omega) (by omega) r (fun W hO hT hF => ?_)
  refine xr_stp rfl rfl rfl rfl ?_
  refine xr_stp rfl rfl rfl rfl ?_
  refine xr_getfield hO rfl rfl rfl rfl ?_
  refine xr_stp (st' := .int (Int32.ofNat 1) :: _) rfl rfl rfl rfl ?_
  refine xs_add rfl ?_
  refine xr_putk hO (by omega) rfl rfl rfl rfl rfl rfl (fun W hO hf1 => ?_)
  have hT := hf1.at hT (by omega)
  have hF := hF.tr2 hf1 (fun _ e => Or.inl e)
  refine xr_stp rfl rfl rfl rfl ?_
  refine xr_getfield hO rfl rfl rfl rfl ?_
  refine xr_stp rfl rfl rfl rfl ?_
  refine xr_getfield hO rfl rfl rfl rfl ?_
  refine xr_j2 rfl rfl rfl rfl rfl (fun h76 => ?_) (fun h76 => ?_)
  · refine xr_stp rfl rfl rfl rfl ?_
    refine xr_stp rfl rfl rfl rfl ?_
    refine xr_getfield hO rfl rfl rfl rfl ?_
    refine xr_vcps hO rfl rfl rfl rfl rfl rfl (fun r1 K2 => rd_byte _ _ _ e _ _ _ _ _ _ _ _ _ _ _ tp _ hO hT (by omega) h2 (hb _ (by omega)) r1 (K2 _ _ _ _ ?_))
    refine xr_cps rfl rfl rfl (fun r1 K2 => rd_let1 _ _ _ _ _ (hb _ (by omega)) hle r1 (K2 _ _ _ _ ?_))
    refine xr_j1 rfl rfl rfl rfl rfl (fun h115 => ?_) (fun h115 => ?_)
    · have z115 := nt1_eq (by omega) h115
      exact (by omega)
    · refine ad_lt d c s tp n e tk0 nu fa pl mn pa cd lw (e + kk) h2 hb h3 hn r (kk - 1) (e + 1) W (by omega) (fun j h5 h6 => hl j (by omega) h6) hO hT (fun W5 hO5 hT5 k3 => ?_)
      have hF := hF.tr k3
      clear hO hT
      have hO := hO5
      have hT := hT5
      have hkW : kc W5 := hk.keep hF (fun i h1 h => by have h : i = 18 := h; omega)
      refine xr_stp rfl rfl rfl rfl ?_
      refine xr_stp rfl rfl rfl rfl ?_
      refine xr_stp rfl rfl rfl rfl ?_
      refine xr_getfield hO rfl rfl rfl rfl ?_
      refine xr_stp rfl rfl rfl rfl ?_
      refine xr_getfield hO rfl rfl rfl rfl ?_
      refine xr_vcps hO rfl rfl rfl rfl rfl rfl (fun r1 K2 => rd_wb _ _ _ kk _ _ _ _ _ _ _ _ _ _ _ tp _ hO hT h2 hb (by omega) hkW r1 (K2 _ _ _ _ ?_))
      rw [hw]
      refine xr_putk hO (by omega) rfl rfl rfl rfl rfl rfl (fun W hO hf1 => ?_)
      have hT := hf1.at hT (by omega)
      have hF := hF.tr2 hf1 (fun _ e => Or.inl e)
      refine xr_stp rfl rfl rfl rfl ?_
      exact xr_ret rfl rfl (K W hO hF)
  · have z76 := nf_lt (by omega) (by omega) h76
    exact (by omega)
theorem ad_t1 (d c s : Nat) (W0 : xi_W) (tp : Nat → Nat) (n tk nu fa pl mn pa cd lw e : Nat) (hO : W0[18]? = some (rO n e (e + 1) tk nu fa pl mn pa cd lw)) (hT : W0[19]? = some (lw_b 300 tp)) (h2 : n ≤ 300) (hb : ∀ j, j < n → tp j < 128) (he : e + 1 < n) (hd : isg (tp e)) (hn : ¬ isg (tp (e + 1))) (r : xi_R → Prop) (K : ∀ W', W'[18]? = some (rO n e (e + 1) 38 (tp e - 48) fa pl mn pa cd lw) → fr (fun i => i = 18) W0 W' → r (none, W', c, s)) : xr (d + 2) 49 0 [(0, .ref 18)] [] W0 c s r := by
  have hd1 : 48 ≤ tp e ∧ tp e ≤ 57 := hd
  have hbe := hb e (by omega)
  have hbf := hb (e + 1) (by omega)
  have hF : fr (fun i => i = 18) W0 W0 := fr.rf
  refine xr_stp rfl rfl rfl rfl ?_
  refine xr_stp (st' := .int (Int32.ofNat 38) :: _) rfl rfl rfl rfl ?_
  refine xr_putk hO (by omega) rfl rfl rfl rfl rfl rfl (fun W hO hf1 => ?_)
  have hT := hf1.at hT (by omega)
  have hF := hF.tr2 hf1 (fun _ e => Or.inl e)
  refine xr_stp rfl rfl rfl rfl ?_
  refine xr_stp rfl rfl rfl rfl ?_
  refine xr_stp rfl rfl rfl rfl ?_
  refine xr_getfield hO rfl rfl rfl rfl ?_
  refine xr_vcps hO rfl rfl rfl rfl rfl rfl (fun r1 K2 => rd_byte _ _ _ e _ _ _ _ _ _ _ _ _ _ _ tp _ hO hT (by omega) h2 (hb _ (by omega)) r1 (K2 _ _ _ _ ?_))
  refine xr_stp (st' := .int (Int32.ofNat 48) :: _) rfl rfl rfl rfl ?_
  refine xs_sub (by omega) rfl ?_
  refine xr_putk hO (by omega) rfl rfl rfl rfl rfl rfl (fun W hO hf1 => ?_)
  have hT := hf1.at hT (by omega)
  have hF := hF.tr2 hf1 (fun _ e => Or.inl e)
  have hO : _[18]? = some (rO n e (e + 1) 38 (tp e - 48) fa pl mn pa cd lw) := hO
  refine xr_stp rfl rfl rfl rfl ?_
  refine xr_getfield hO rfl rfl rfl rfl ?_
  refine xr_stp rfl rfl rfl rfl ?_
  refine xr_getfield hO rfl rfl rfl rfl ?_
  refine xr_j2 rfl rfl rfl rfl rfl (fun h29 => ?_) (fun h29 => ?_)
  · have z29 := nt_ge (by omega) (by omega) h29
    exact (by omega)
  · refine xr_stp rfl rfl rfl rfl ?_
    refine xr_stp rfl rfl rfl rfl ?_
    refine xr_getfield hO rfl rfl rfl rfl ?_
    refine xr_vcps hO rfl rfl rfl rfl rfl rfl (fun r1 K2 => rd_byte _ _ _ (e + 1) _ _ _ _ _ _ _ _ _ _ _ tp _ hO hT (by omega) h2 (hb _ (by omega)) r1 (K2 _ _ _ _ ?_))
    refine xr_cps rfl rfl rfl (fun r1 K2 => rd_dig0 _ _ _ _ _ (hb _ (by omega)) hn r1 (K2 _ _ _ _ ?_))
    refine xr_j1 rfl rfl rfl rfl rfl (fun h43 => ?_) (fun h43 => ?_)
    · exact xr_ret rfl rfl (K W hO hF)
    · have z43 := nf1_eq h43
      exact (by omega)
theorem ad_t2 (d c s : Nat) (W0 : xi_W) (tp : Nat → Nat) (n tk nu fa pl mn pa cd lw e : Nat) (hO : W0[18]? = some (rO n e (e + 1) tk nu fa pl mn pa cd lw)) (hT : W0[19]? = some (lw_b 300 tp)) (h2 : n ≤ 300) (hb : ∀ j, j < n → tp j < 128) (he : e + 2 < n) (hd : isg (tp e)) (hd2 : isg (tp (e + 1))) (hn : ¬ isg (tp (e + 2))) (r : xi_R → Prop) (K : ∀ W', W'[18]? = some (rO n e (e + 2) 38 (10 * (tp e - 48) + (tp (e + 1) - 48)) fa pl mn pa cd lw) → fr (fun i => i = 18) W0 W' → r (none, W', c, s)) : xr (d + 2) 49 0 [(0, .ref 18)] [] W0 c s r := by
  have hd1 : 48 ≤ tp e ∧ tp e ≤ 57 := hd
  have hbe := hb e (by omega)
  have hbf := hb (e + 1) (by omega)
  have hd3 : 48 ≤ tp (e + 1) ∧ tp (e + 1) ≤ 57 := hd2
  have hF : fr (fun i => i = 18) W0 W0 := fr.rf
  refine xr_stp rfl rfl rfl rfl ?_
  refine xr_stp (st' := .int (Int32.ofNat 38) :: _) rfl rfl rfl rfl ?_
  refine xr_putk hO (by omega) rfl rfl rfl rfl rfl rfl (fun W hO hf1 => ?_)
  have hT := hf1.at hT (by omega)
  have hF := hF.tr2 hf1 (fun _ e => Or.inl e)
  refine xr_stp rfl rfl rfl rfl ?_
  refine xr_stp rfl rfl rfl rfl ?_
  refine xr_stp rfl rfl rfl rfl ?_
  refine xr_getfield hO rfl rfl rfl rfl ?_
  refine xr_vcps hO rfl rfl rfl rfl rfl rfl (fun r1 K2 => rd_byte _ _ _ e _ _ _ _ _ _ _ _ _ _ _ tp _ hO hT (by omega) h2 (hb _ (by omega)) r1 (K2 _ _ _ _ ?_))
  refine xr_stp (st' := .int (Int32.ofNat 48) :: _) rfl rfl rfl rfl ?_
  refine xs_sub (by omega) rfl ?_
  refine xr_putk hO (by omega) rfl rfl rfl rfl rfl rfl (fun W hO hf1 => ?_)
  have hT := hf1.at hT (by omega)
  have hF := hF.tr2 hf1 (fun _ e => Or.inl e)
  have hO : _[18]? = some (rO n e (e + 1) 38 (tp e - 48) fa pl mn pa cd lw) := hO
  refine xr_stp rfl rfl rfl rfl ?_
  refine xr_getfield hO rfl rfl rfl rfl ?_
  refine xr_stp rfl rfl rfl rfl ?_
  refine xr_getfield hO rfl rfl rfl rfl ?_
  refine xr_j2 rfl rfl rfl rfl rfl (fun h29 => ?_) (fun h29 => ?_)
  · have z29 := nt_ge (by omega) (by omega) h29
    exact (by omega)
  · refine xr_stp rfl rfl rfl rfl ?_
    refine xr_stp rfl rfl rfl rfl ?_
    refine xr_getfield hO rfl rfl rfl rfl ?_
    refine xr_vcps hO rfl rfl rfl rfl rfl rfl (fun r1 K2 => rd_byte _ _ _ (e + 1) _ _ _ _ _ _ _ _ _ _ _ tp _ hO hT (by omega) h2 (hb _ (by omega)) r1 (K2 _ _ _ _ ?_))
    refine xr_cps rfl rfl rfl (fun r1 K2 => rd_dig1 _ _ _ _ _ (hb _ (by omega)) hd2 r1 (K2 _ _ _ _ ?_))
    refine xr_j1 rfl rfl rfl rfl rfl (fun h43 => ?_) (fun h43 => ?_)
    · have z43 := nt1_eq (by omega) h43
      exact (by omega)
    · refine xr_stp rfl rfl rfl rfl ?_
      refine xr_stp rfl rfl rfl rfl ?_
      refine xr_getfield hO rfl rfl rfl rfl ?_
      refine xr_stp (st' := .int (Int32.ofNat 10) :: _) rfl rfl rfl rfl ?_
      refine xs_mul rfl ?_
      refine xr_stp rfl rfl rfl rfl ?_
      refine xr_stp rfl rfl rfl rfl ?_
      refine xr_getfield hO rfl rfl rfl rfl ?_
      refine xr_vcps hO rfl rfl rfl rfl rfl rfl (fun r1 K2 => rd_byte _ _ _ (e + 1) _ _ _ _ _ _ _ _ _ _ _ tp _ hO hT (by omega) h2 (hb _ (by omega)) r1 (K2 _ _ _ _ ?_))
      refine xs_add rfl ?_
      refine xr_stp (st' := .int (Int32.ofNat 48) :: _) rfl rfl rfl rfl ?_
      refine xs_sub (by omega) rfl ?_
      refine xr_stp (st' := .int (Int32.ofNat 10000) :: _) rfl rfl rfl rfl ?_
      refine xs_min (by omega) (by omega) rfl rfl rfl ?_
      rw [show min ((tp e - 48) * 10 + tp (e + 1) - 48) 10000 = 10 * (tp e - 48) + (tp (e + 1) - 48) by omega]
      refine xr_putk hO (by omega) rfl rfl rfl rfl rfl rfl (fun W hO hf1 => ?_)
      have hT := hf1.at hT (by omega)
      have hF := hF.tr2 hf1 (fun _ e => Or.inl e)
      refine xr_stp rfl rfl rfl rfl ?_
      refine xr_stp rfl rfl rfl rfl ?_
      refine xr_getfield hO rfl rfl rfl rfl ?_
      refine xr_stp (st' := .int (Int32.ofNat 1) :: _) rfl rfl rfl rfl ?_
      refine xs_add rfl ?_
      refine xr_putk hO (by omega) rfl rfl rfl rfl rfl rfl (fun W hO hf1 => ?_)
      have hT := hf1.at hT (by omega)
      have hF := hF.tr2 hf1 (fun _ e => Or.inl e)
      refine xr_stp rfl rfl rfl rfl ?_
      have hO : _[18]? = some (rO n e (e + 1 + 1) 38 (10 * (tp e - 48) + (tp (e + 1) - 48)) fa pl mn pa cd lw) := hO
      refine xr_stp rfl rfl rfl rfl ?_
      refine xr_getfield hO rfl rfl rfl rfl ?_
      refine xr_stp rfl rfl rfl rfl ?_
      refine xr_getfield hO rfl rfl rfl rfl ?_
      refine xr_j2 rfl rfl rfl rfl rfl (fun h29 => ?_) (fun h29 => ?_)
      · have z29 := nt_ge (by omega) (by omega) h29
        exact (by omega)
      · refine xr_stp rfl rfl rfl rfl ?_
        refine xr_stp rfl rfl rfl rfl ?_
        refine xr_getfield hO rfl rfl rfl rfl ?_
        refine xr_vcps hO rfl rfl rfl rfl rfl rfl (fun r1 K2 => rd_byte _ _ _ (e + 1 + 1) _ _ _ _ _ _ _ _ _ _ _ tp _ hO hT (by omega) h2 (hb _ (by omega)) r1 (K2 _ _ _ _ ?_))
        refine xr_cps rfl rfl rfl (fun r1 K2 => rd_dig0 _ _ _ _ _ (hb _ (by omega)) hn r1 (K2 _ _ _ _ ?_))
        refine xr_j1 rfl rfl rfl rfl rfl (fun h43 => ?_) (fun h43 => ?_)
        · exact xr_ret rfl rfl (K W hO hF)
        · have z43 := nf1_eq h43
          exact (by omega)
theorem adR_d (tp : Nat → Nat) (n p nu e : Nat) (h2 : n ≤ 300) (hb : ∀ j, j < n → tp j < 128) (he : e < n) (hsp : p = e ∨ (p + 1 = e ∧ tp p = 32)) (h3 : e + 1 < n) (hd : isg (tp e)) (hn : ¬ isg (tp (e + 1))) : adR tp n p nu e (e + 1) 38 (tp e - 48) := by
  have hd1 : 48 ≤ tp e ∧ tp e ≤ 57 := hd
  have hbe := hb e (by omega)
  have hbf := hb (e + 1) (by omega)
  have hle : ¬ isl (tp e) := by unfold isl; omega
  intro d c s W0 st0 tk0 fa pl mn pa cd lw hk hO hT r K
  refine ad_bl d c s W0 tp n st0 tk0 nu fa pl mn pa cd lw p e hO hT h2 hb he hsp (by omega) (by omega) r (fun W hO hT hF => ?_)
  refine xr_stp rfl rfl rfl rfl ?_
  refine xr_stp rfl rfl rfl rfl ?_
  refine xr_getfield hO rfl rfl rfl rfl ?_
  refine xr_stp (st' := .int (Int32.ofNat 1) :: _) rfl rfl rfl rfl ?_
  refine xs_add rfl ?_
  refine xr_putk hO (by omega) rfl rfl rfl rfl rfl rfl (fun W hO hf1 => ?_)
  have hT := hf1.at hT (by omega)
  have hF := hF.tr2 hf1 (fun _ e => Or.inl e)
  refine xr_stp rfl rfl rfl rfl ?_
  refine xr_getfield hO rfl rfl rfl rfl ?_
  refine xr_stp rfl rfl rfl rfl ?_
  refine xr_getfield hO rfl rfl rfl rfl ?_
  refine xr_j2 rfl rfl rfl rfl rfl (fun h76 => ?_) (fun h76 => ?_)
  · refine xr_stp rfl rfl rfl rfl ?_
    refine xr_stp rfl rfl rfl rfl ?_
    refine xr_getfield hO rfl rfl rfl rfl ?_
    refine xr_vcps hO rfl rfl rfl rfl rfl rfl (fun r1 K2 => rd_byte _ _ _ e _ _ _ _ _ _ _ _ _ _ _ tp _ hO hT (by omega) h2 (hb _ (by omega)) r1 (K2 _ _ _ _ ?_))
    refine xr_cps rfl rfl rfl (fun r1 K2 => rd_let0 _ _ _ _ _ (hb _ (by omega)) hle r1 (K2 _ _ _ _ ?_))
    refine xr_j1 rfl rfl rfl rfl rfl (fun h115 => ?_) (fun h115 => ?_)
    · refine xr_stp rfl rfl rfl rfl ?_
      refine xr_stp rfl rfl rfl rfl ?_
      refine xr_getfield hO rfl rfl rfl rfl ?_
      refine xr_vcps hO rfl rfl rfl rfl rfl rfl (fun r1 K2 => rd_byte _ _ _ e _ _ _ _ _ _ _ _ _ _ _ tp _ hO hT (by omega) h2 (hb _ (by omega)) r1 (K2 _ _ _ _ ?_))
      refine xr_cps rfl rfl rfl (fun r1 K2 => rd_dig1 _ _ _ _ _ (hb _ (by omega)) hd r1 (K2 _ _ _ _ ?_))
      refine xr_j1 rfl rfl rfl rfl rfl (fun h186 => ?_) (fun h186 => ?_)
      · have z186 := nt1_eq (by omega) h186
        exact (by omega)
      · refine xr_stp rfl rfl rfl rfl ?_
        refine xr_vcps hO rfl rfl rfl rfl rfl rfl (fun r1 K2 => ad_t1 _ _ _ _ tp n _ _ fa pl mn pa cd lw e hO hT h2 hb (by omega) hd hn r1 (fun W3 hO3 hf3 => K2 _ _ _ _ ?_))
        refine xr_stp rfl rfl rfl rfl ?_
        exact xr_ret rfl rfl (K W3 hO3 (hF.tr hf3))
    · have z115 := nf1_eq h115
      exact (by omega)
  · have z76 := nf_lt (by omega) (by omega) h76
    exact (by omega)
theorem adR_d2 (tp : Nat → Nat) (n p nu e : Nat) (h2 : n ≤ 300) (hb : ∀ j, j < n → tp j < 128) (he : e < n) (hsp : p = e ∨ (p + 1 = e ∧ tp p = 32)) (h3 : e + 2 < n) (hd : isg (tp e)) (hd2 : isg (tp (e + 1))) (hn : ¬ isg (tp (e + 2))) : adR tp n p nu e (e + 2) 38 (10 * (tp e - 48) + (tp (e + 1) - 48)) := by
  have hd1 : 48 ≤ tp e ∧ tp e ≤ 57 := hd
  have hbe := hb e (by omega)
  have hbf := hb (e + 1) (by omega)
  have hle : ¬ isl (tp e) := by unfold isl; omega
  intro d c s W0 st0 tk0 fa pl mn pa cd lw hk hO hT r K
  refine ad_bl d c s W0 tp n st0 tk0 nu fa pl mn pa cd lw p e hO hT h2 hb he hsp (by omega) (by omega) r (fun W hO hT hF => ?_)
  refine xr_stp rfl rfl rfl rfl ?_
  refine xr_stp rfl rfl rfl rfl ?_
  refine xr_getfield hO rfl rfl rfl rfl ?_
  refine xr_stp (st' := .int (Int32.ofNat 1) :: _) rfl rfl rfl rfl ?_
  refine xs_add rfl ?_
  refine xr_putk hO (by omega) rfl rfl rfl rfl rfl rfl (fun W hO hf1 => ?_)
  have hT := hf1.at hT (by omega)
  have hF := hF.tr2 hf1 (fun _ e => Or.inl e)
  refine xr_stp rfl rfl rfl rfl ?_
  refine xr_getfield hO rfl rfl rfl rfl ?_
  refine xr_stp rfl rfl rfl rfl ?_
  refine xr_getfield hO rfl rfl rfl rfl ?_
  refine xr_j2 rfl rfl rfl rfl rfl (fun h76 => ?_) (fun h76 => ?_)
  · refine xr_stp rfl rfl rfl rfl ?_
    refine xr_stp rfl rfl rfl rfl ?_
    refine xr_getfield hO rfl rfl rfl rfl ?_
    refine xr_vcps hO rfl rfl rfl rfl rfl rfl (fun r1 K2 => rd_byte _ _ _ e _ _ _ _ _ _ _ _ _ _ _ tp _ hO hT (by omega) h2 (hb _ (by omega)) r1 (K2 _ _ _ _ ?_))
    refine xr_cps rfl rfl rfl (fun r1 K2 => rd_let0 _ _ _ _ _ (hb _ (by omega)) hle r1 (K2 _ _ _ _ ?_))
    refine xr_j1 rfl rfl rfl rfl rfl (fun h115 => ?_) (fun h115 => ?_)
    · refine xr_stp rfl rfl rfl rfl ?_
      refine xr_stp rfl rfl rfl rfl ?_
      refine xr_getfield hO rfl rfl rfl rfl ?_
      refine xr_vcps hO rfl rfl rfl rfl rfl rfl (fun r1 K2 => rd_byte _ _ _ e _ _ _ _ _ _ _ _ _ _ _ tp _ hO hT (by omega) h2 (hb _ (by omega)) r1 (K2 _ _ _ _ ?_))
      refine xr_cps rfl rfl rfl (fun r1 K2 => rd_dig1 _ _ _ _ _ (hb _ (by omega)) hd r1 (K2 _ _ _ _ ?_))
      refine xr_j1 rfl rfl rfl rfl rfl (fun h186 => ?_) (fun h186 => ?_)
      · have z186 := nt1_eq (by omega) h186
        exact (by omega)
      · refine xr_stp rfl rfl rfl rfl ?_
        refine xr_vcps hO rfl rfl rfl rfl rfl rfl (fun r1 K2 => ad_t2 _ _ _ _ tp n _ _ fa pl mn pa cd lw e hO hT h2 hb (by omega) hd hd2 hn r1 (fun W3 hO3 hf3 => K2 _ _ _ _ ?_))
        refine xr_stp rfl rfl rfl rfl ?_
        exact xr_ret rfl rfl (K W3 hO3 (hF.tr hf3))
    · have z115 := nf1_eq h115
      exact (by omega)
  · have z76 := nf_lt (by omega) (by omega) h76
    exact (by omega)
theorem ad_sg (d c s : Nat) (W0 : xi_W) (tp : Nat → Nat) (n tk nu fa pl mn pa cd lw e : Nat) (x : Nat) (hk : kc W0) (hO : W0[18]? = some (rO n e (e + 1) tk nu fa pl mn pa cd lw)) (hT : W0[19]? = some (lw_b 300 tp)) (h2 : n ≤ 300) (hb : ∀ j, j < n → tp j < 128) (he : e < n) (hx : 1 < x) (hx3 : x < 11) (hx1 : kb 1 x = tp e) (hx2 : ∀ j, j < x → kb 1 j ≠ tp e) (r : xi_R → Prop) (K : ∀ W', W'[18]? = some (rO n e (e + 1) (25 + x) nu fa pl mn pa cd lw) → fr (fun i => i = 18) W0 W' → r (none, W', c, s)) : xr (d + 4) 50 0 [(0, .ref 18)] [] W0 c s r := by
  have hF : fr (fun i => i = 18) W0 W0 := fr.rf
  refine xr_stp rfl rfl rfl rfl ?_
  refine xr_stp rfl rfl rfl rfl ?_
  refine xr_stp rfl rfl rfl rfl ?_
  refine xr_getfield hO rfl rfl rfl rfl ?_
  refine xr_vcps hO rfl rfl rfl rfl rfl rfl (fun r1 K2 => rd_byte _ _ _ e _ _ _ _ _ _ _ _ _ _ _ tp _ hO hT (by omega) h2 (hb _ (by omega)) r1 (K2 _ _ _ _ ?_))
  refine xs_i2c (hb _ (by omega)) rfl ?_
  refine xr_vcps (hk 1 (by omega)).1 rfl rfl rfl rfl rfl rfl (fun r1 K2 => sg_i1 _ _ _ (tp e) x W0 hk (hb _ (by omega)) hx3 hx1 hx2 r1 (K2 _ _ _ _ ?_))
  refine xr_stp rfl rfl rfl rfl ?_
  refine xr_stp rfl rfl rfl rfl ?_
  refine xr_stp rfl rfl rfl rfl ?_
  refine xr_j1 rfl rfl rfl rfl rfl (fun h17 => ?_) (fun h17 => ?_)
  · refine xr_stp (st' := .int (Int32.ofNat 25) :: _) rfl rfl rfl rfl ?_
    refine xr_stp rfl rfl rfl rfl ?_
    refine xs_add rfl ?_
    refine xr_putk hO (by omega) rfl rfl rfl rfl rfl rfl (fun W hO hf1 => ?_)
    have hT := hf1.at hT (by omega)
    have hF := hF.tr2 hf1 (fun _ e => Or.inl e)
    refine xr_stp rfl rfl rfl rfl ?_
    refine xr_getfield hO rfl rfl rfl rfl ?_
    refine xr_stp (st' := .int (Int32.ofNat 25) :: _) rfl rfl rfl rfl ?_
    refine xr_j2 rfl rfl rfl rfl rfl (fun h38 => ?_) (fun h38 => ?_)
    · have z38 := nt_eq (by omega) (by omega) h38
      exact (by omega)
    · refine xr_stp rfl rfl rfl rfl ?_
      refine xr_getfield hO rfl rfl rfl rfl ?_
      refine xr_stp (st' := .int (Int32.ofNat 26) :: _) rfl rfl rfl rfl ?_
      refine xr_j2 rfl rfl rfl rfl rfl (fun h47 => ?_) (fun h47 => ?_)
      · exact xr_ret rfl rfl (K W hO hF)
      · have z47 := nf_ne (by omega) (by omega) h47
        exact (by omega)
  · exact (n_ge0 (by omega) h17).elim
theorem adR_s (tp : Nat → Nat) (n p nu e : Nat) (h2 : n ≤ 300) (hb : ∀ j, j < n → tp j < 128) (he : e < n) (hsp : p = e ∨ (p + 1 = e ∧ tp p = 32)) (x : Nat) (hx : 1 < x) (hx3 : x < 11) (hx1 : kb 1 x = tp e) (hx2 : ∀ j, j < x → kb 1 j ≠ tp e) (hle : ¬ isl (tp e)) (hd : ¬ isg (tp e)) (e3 : tp e ≠ 32) (e4 : tp e ≠ 10) : adR tp n p nu e (e + 1) (25 + x) nu := by
  intro d c s W0 st0 tk0 fa pl mn pa cd lw hk hO hT r K
  refine ad_bl d c s W0 tp n st0 tk0 nu fa pl mn pa cd lw p e hO hT h2 hb he hsp (by omega) (by omega) r (fun W hO hT hF => ?_)
  refine xr_stp rfl rfl rfl rfl ?_
  refine xr_stp rfl rfl rfl rfl ?_
  refine xr_getfield hO rfl rfl rfl rfl ?_
  refine xr_stp (st' := .int (Int32.ofNat 1) :: _) rfl rfl rfl rfl ?_
  refine xs_add rfl ?_
  refine xr_putk hO (by omega) rfl rfl rfl rfl rfl rfl (fun W hO hf1 => ?_)
  have hT := hf1.at hT (by omega)
  have hF := hF.tr2 hf1 (fun _ e => Or.inl e)
  refine xr_stp rfl rfl rfl rfl ?_
  refine xr_getfield hO rfl rfl rfl rfl ?_
  refine xr_stp rfl rfl rfl rfl ?_
  refine xr_getfield hO rfl rfl rfl rfl ?_
  refine xr_j2 rfl rfl rfl rfl rfl (fun h76 => ?_) (fun h76 => ?_)
  · refine xr_stp rfl rfl rfl rfl ?_
    refine xr_stp rfl rfl rfl rfl ?_
    refine xr_getfield hO rfl rfl rfl rfl ?_
    refine xr_vcps hO rfl rfl rfl rfl rfl rfl (fun r1 K2 => rd_byte _ _ _ e _ _ _ _ _ _ _ _ _ _ _ tp _ hO hT (by omega) h2 (hb _ (by omega)) r1 (K2 _ _ _ _ ?_))
    refine xr_cps rfl rfl rfl (fun r1 K2 => rd_let0 _ _ _ _ _ (hb _ (by omega)) hle r1 (K2 _ _ _ _ ?_))
    refine xr_j1 rfl rfl rfl rfl rfl (fun h115 => ?_) (fun h115 => ?_)
    · refine xr_stp rfl rfl rfl rfl ?_
      refine xr_stp rfl rfl rfl rfl ?_
      refine xr_getfield hO rfl rfl rfl rfl ?_
      refine xr_vcps hO rfl rfl rfl rfl rfl rfl (fun r1 K2 => rd_byte _ _ _ e _ _ _ _ _ _ _ _ _ _ _ tp _ hO hT (by omega) h2 (hb _ (by omega)) r1 (K2 _ _ _ _ ?_))
      refine xr_cps rfl rfl rfl (fun r1 K2 => rd_dig0 _ _ _ _ _ (hb _ (by omega)) hd r1 (K2 _ _ _ _ ?_))
      refine xr_j1 rfl rfl rfl rfl rfl (fun h186 => ?_) (fun h186 => ?_)
      · refine xr_stp rfl rfl rfl rfl ?_
        have hkW : kc W := hk.keep hF (fun i h1 h => by have h : i = 18 := h; omega)
        refine xr_vcps hO rfl rfl rfl rfl rfl rfl (fun r1 K2 => ad_sg _ _ _ _ tp n _ _ fa pl mn pa cd lw e x hkW hO hT h2 hb he hx hx3 hx1 hx2 r1 (fun W3 hO3 hf3 => K2 _ _ _ _ ?_))
        exact xr_ret rfl rfl (K W3 hO3 (hF.tr hf3))
      · have z186 := nf1_eq h186
        exact (by omega)
    · have z115 := nf1_eq h115
      exact (by omega)
  · have z76 := nf_lt (by omega) (by omega) h76
    exact (by omega)
