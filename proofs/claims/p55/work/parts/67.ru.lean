/-! the class: the rules' laws are the law's own -/
theorem xr_vcps {d i pc k j O : Nat} {l : xi_L} {st av rest : List Value} {w : xi_W} {c s : Nat} {r : xi_R → Prop} {o : Nat × List Value} {ps : List Nat} (hw : w[O]? = some (.inr o)) (hc : xt_cd i pc = some (.invokevirtual k)) (hm : xt_mdp (xt_mo i) k = some (0, j, ps)) (hd : st.drop (xt_mp j) = .ref O :: rest) (hav : .ref O :: (st.take (xt_mp j)).reverse = av) (ho : Nat.beq o.1 (xt_mo j) = true) (hr : xi_rm1 j av rest = true) (h : ∀ r1 : xi_R → Prop, (∀ v w' c' s', xr (d + 1) i (pc + 3) l (v.toList ++ rest) w' (c + c') (s + s') r → r1 (v, w', c', s')) → xr d j 0 (lv_args 0 av) [] w 0 0 r1) : xr (d + 1) i pc l st w c s r := by
  subst hav
  refine xr_cps hc rfl ?_ h
  simp only [xi_inv, hm, hd, hw, ho, hr, Bool.and_self, cond_true]
def ruo (W : xi_W) (tx ru dl sy : Nat) : Prop := W[355]? = some (.inr (2, [.ref 356, .int (Int32.ofNat tx), .int (Int32.ofNat ru), .int (Int32.ofNat dl), .ref 357, .int (Int32.ofNat sy), .ref 358, .ref 359]))
def rus (W : xi_W) : Prop := (∃ V, W[358]? = some (lw_i 14 V)) ∧ (∃ g, W[359]? = some (lw_s 64 g))
def rud (W : xi_W) (RD : Nat → Option Nat) : Prop := W[356]? = some (.inl (.object "DeltaNests$Text", 4, .inr (.inr RD)))
/-- what the rules write into -/
def rin (i : Nat) : Prop := i = 358 ∨ i = 359
def txl (nn : Nat) (f : Nat → Int32) (P : Nat → Nat) : Prop := P (2 * (0 + 0)) = 38 ∧ P (2 * (0 + 0) + 1) = lw_dg nn f 0 ∧ P (2 * (0 + 1)) = 41 ∧ P (2 * (0 + 1) + 1) = 4 ∧ P (2 * (0 + 2)) = 38 ∧ P (2 * (0 + 2) + 1) = lw_dg nn f 1 ∧ P (2 * (0 + 3)) = 32 ∧ P (2 * (0 + 4)) = 30 ∧ P (2 * (0 + 5)) = 41 ∧ P (2 * (0 + 5) + 1) = 3 ∧ P (2 * (0 + 6)) = 38 ∧ P (2 * (0 + 6) + 1) = lw_dg nn f 2 ∧ P (2 * (0 + 7)) = 31 ∧ P (2 * (0 + 8)) = 38 ∧ P (2 * (0 + 8) + 1) = 4 ∧ P (2 * (0 + 9)) = 32 ∧ P (2 * (0 + 10)) = 29 ∧ P (2 * (0 + 11)) = 38 ∧ P (2 * (0 + 11) + 1) = 1 ∧ P (2 * (0 + 12)) = 17 ∧ P (2 * (0 + 13)) = 38 ∧ P (2 * (0 + 13) + 1) = lw_dg nn f 3 ∧ P (2 * (0 + 14)) = 32 ∧ P (2 * (0 + 15)) = 30
def txs (nn : Nat) (f : Nat → Int32) (P : Nat → Nat) : Prop := P (2 * (16 + 0)) = 41 ∧ P (2 * (16 + 0) + 1) = 5 ∧ P (2 * (16 + 1)) = 38 ∧ P (2 * (16 + 1) + 1) = lw_dg nn f 4 ∧ P (2 * (16 + 2)) = 31 ∧ P (2 * (16 + 3)) = 41 ∧ P (2 * (16 + 3) + 1) = 1 ∧ P (2 * (16 + 4)) = 30 ∧ P (2 * (16 + 5)) = 41 ∧ P (2 * (16 + 5) + 1) = 2 ∧ P (2 * (16 + 6)) = 38 ∧ P (2 * (16 + 6) + 1) = lw_dg nn f 5 ∧ P (2 * (16 + 7)) = 32 ∧ P (2 * (16 + 8)) = 30 ∧ P (2 * (16 + 9)) = 38 ∧ P (2 * (16 + 9) + 1) = 0 ∧ P (2 * (16 + 10)) = 18 ∧ P (2 * (16 + 11)) = 38 ∧ P (2 * (16 + 11) + 1) = lw_dg nn f 6 ∧ P (2 * (16 + 12)) = 32 ∧ P (2 * (16 + 13)) = 29 ∧ P (2 * (16 + 14)) = 38 ∧ P (2 * (16 + 14) + 1) = lw_dg nn f 7 ∧ P (2 * (16 + 15)) = 30
/-- the text that was read -/
def txt (nn : Nat) (f : Nat → Int32) (W : xi_W) (T : Nat) : Prop := ∃ (CL CO BO : Nat) (P B : Nat → Nat) (v : Value), (687 ≤ T ∧ T < 696) ∧ (687 ≤ CO ∧ CO < 696) ∧ (687 ≤ BO ∧ BO < 696) ∧ W[T]? = some (.inr (4, [v, .ref CL, .ref CO, .ref BO])) ∧ W[CO]? = some (lw_i 64 P) ∧ W[BO]? = some (lw_i 4 B) ∧ B 0 = 0 ∧ B 1 = 16 ∧ B 2 = 16 ∧ B 3 = 32 ∧ txl nn f P ∧ txs nn f P
theorem txt.keep {nn : Nat} {f : Nat → Int32} {W W' : xi_W} {T : Nat} {Q : Nat → Prop} (h : txt nn f W T) (hf : fr Q W W') (hq : ∀ i, 687 ≤ i ∧ i < 696 → ¬ Q i) : txt nn f W' T := by
  obtain ⟨CL, CO, BO, P, B, v, h1, h2, h3, h4, h5, h6, h7⟩ := h
  exact ⟨CL, CO, BO, P, B, v, h1, h2, h3, hf.at h4 (hq _ h1), hf.at h5 (hq _ h2), hf.at h6 (hq _ h3), h7⟩
theorem ru_num0 (d c s : Nat) (W : xi_W) (r : xi_R → Prop) (k : r (some .null, W, c, s)) : xr d 55 0 [(0, .ref 355), (1, .int (Int32.ofNat 4294967295))] [] W c s r := by
  refine xr_stp rfl rfl rfl rfl ?_
  refine xr_j1 rfl rfl rfl rfl rfl (fun h1 => ?_) (fun h1 => ?_)
  · refine xr_stp rfl rfl rfl rfl ?_ -- aconst_null
    exact xr_ret rfl rfl k
  · exact absurd h1 (by decide +kernel)
theorem ru_num1 (d c s x tx ru dl sy T : Nat) (W : xi_W) (RD : Nat → Option Nat) (hr : ruo W tx ru dl sy) (hrd : rud W RD) (eT : RD x = some T) (hx : x < 4) (htx : x < tx) (htx4 : tx ≤ 4) (r : xi_R → Prop) (k : r (some (.ref T), W, c, s)) : xr d 55 0 [(0, .ref 355), (1, .int (Int32.ofNat x))] [] W c s r := by
  unfold ruo at hr
  unfold rud at hrd
  refine xr_stp rfl rfl rfl rfl ?_
  refine xr_j1 rfl rfl rfl rfl rfl (fun h1 => ?_) (fun h1 => ?_)
  · exact absurd (show x < 2147483648 by omega) (n_lt0 h1)
  · refine xr_stp rfl rfl rfl rfl ?_
    refine xr_stp rfl rfl rfl rfl ?_
    refine xr_getfield hr rfl rfl rfl rfl ?_
    refine xr_j2 rfl rfl rfl rfl rfl (fun h9 => ?_) (fun h9 => ?_)
    · exact absurd (nt_ge (by omega) (by omega) h9) (by omega)
    · refine xr_stp rfl rfl rfl rfl ?_
      refine xr_getfield hr rfl rfl rfl rfl ?_
      refine xr_stp rfl rfl rfl rfl ?_
      refine xs_rld hrd (by omega) (by omega) (by omega) rfl ?_
      rw [eT]
      change xr d 55 18 _ [.ref T] W c s r
      refine xr_stp rfl rfl rfl rfl ?_
      exact xr_ret rfl rfl k
theorem ni_geF {off : Int} {z : Int} (h1 : -2147483648 ≤ z) (h2 : z < 0) (h : xg_t1 (.ifCond .ge off) (Int32.ofInt z) = true) : False := by
  have h3 : (0 : Int32) ≤ Int32.ofInt z := of_decide_eq_true h
  rw [Int32.le_iff_toInt_le, ni_int h1 (by omega)] at h3
  have h4 : (0 : Int32).toInt = 0 := by decide
  omega
theorem ds_s {E : (Nat → Nat → Nat) → Prop} {lo N : Nat} {G F : Nat → Nat} (h : RK E lo N G F) : (∀ i, i < 16 → F (16 * i + 0) < 9223372036854775808 ∧ F (16 * i + 1) < 9223372036854775808) ∧ (∀ t, t < 4 → bc 63 (F (16 * (t * 4 + 0) + 1)) + bc 63 (F (16 * (t * 4 + 1) + 1)) + bc 63 (F (16 * (t * 4 + 2) + 1)) + bc 63 (F (16 * (t * 4 + 3) + 1)) = bc 63 (G (330 + 2 * t))) ∧ (∀ t, t < 4 → bc 63 (F (16 * (t * 4 + 0) + 0)) + bc 63 (F (16 * (t * 4 + 1) + 0)) + bc 63 (F (16 * (t * 4 + 2) + 0)) + bc 63 (F (16 * (t * 4 + 3) + 0)) = bc 63 (G (331 + 2 * t))) := by
  have S := h.2.2.2.1
  have he := h.2.1.1
  have m62 := h.1.e
  refine ⟨fun i hi => ?_, fun t ht => ?_, fun t ht => ?_⟩
  · have := S (i / 4) (by omega) (i % 4) (by omega)
    rw [show i / 4 * 4 + i % 4 = i by omega] at this
    rw [this.1, this.2]
    have a := pr_lt62 he m62 (i % 4) (G (331 + 2 * (i / 4)))
    have b := pr_lt62 he m62 (i % 4) (G (330 + 2 * (i / 4)))
    omega
  · rw [(S t ht 0 (by omega)).2, (S t ht 1 (by omega)).2, (S t ht 2 (by omega)).2, (S t ht 3 (by omega)).2]
    exact pr_sum he m62 ((h.2.1.2.1 t ht).1.lt (h.2.1.2.1 t ht).2)
  · rw [(S t ht 0 (by omega)).1, (S t ht 1 (by omega)).1, (S t ht 2 (by omega)).1, (S t ht 3 (by omega)).1]
    exact pr_sum he m62 (h.2.1.2.1 t ht).2
theorem rl_losing0 (d c s b u t a k tx dl sy : Nat) (W : xi_W) (hr : ruo W tx 4294967295 dl sy) (r : xi_R → Prop) (K : r (some (.int (Int32.ofNat 3)), W, c, s)) : xr (d + 1) 57 0 [(0, .ref 355), (1, .ref b), (2, .int (Int32.ofNat u)), (3, .int (Int32.ofNat t)), (4, .int (Int32.ofNat a)), (5, .int (Int32.ofNat k))] [] W c s r := by
  unfold ruo at hr
  refine xr_stp rfl rfl rfl rfl ?_
  refine xr_stp rfl rfl rfl rfl ?_
  refine xr_getfield hr rfl rfl rfl rfl ?_
  refine xr_vcps hr rfl rfl rfl rfl rfl rfl (fun r1 K2 => ru_num0 _ _ _ W r1 (K2 _ _ _ _ ?_))
  refine xr_stp rfl rfl rfl rfl ?_
  refine xr_stp rfl rfl rfl rfl ?_
  refine xr_stp rfl rfl rfl rfl ?_
  refine xr_stp (st' := .int (Int32.ofNat 3) :: _) rfl rfl rfl rfl ?_
  exact xr_ret rfl rfl K
theorem rl_losing1 (d c s b u t a k tx dl sy T nn : Nat) (f : Nat → Int32) (W0 : xi_W) (RD : Nat → Option Nat) {E : (Nat → Nat → Nat) → Prop} {lo N : Nat} {G F : Nat → Nat} (hK : RK E lo N G F) (hw : kw W0 b F) (hb : wb b) (hl : 687 ≤ W0.length) (hr : ruo W0 tx 0 dl sy) (hrd : rud W0 RD) (eT : RD 0 = some T) (htx : 0 < tx) (htx4 : tx ≤ 4) (hT : txt nn f W0 T) (hs : rus W0) (hu : u < 4) (ht : t < 4) (ha : a < 2) (hk : k < 64) (r : xi_R → Prop) (K : ∀ W', rus W' → fr rin W0 W' → r (some (.int (Int32.ofNat (lw_lo nn f G 1 a k))), W', c, s)) : xr (d + 3) 57 0 [(0, .ref 355), (1, .ref b), (2, .int (Int32.ofNat u)), (3, .int (Int32.ofNat t)), (4, .int (Int32.ofNat a)), (5, .int (Int32.ofNat k))] [] W0 c s r := by
  obtain ⟨CL, CO, BO, P, B, v, g1, g2, g3, hT, hc, hbo, hB0, hB1, hB2, hB3, hL, hS⟩ := hT
  obtain ⟨⟨V, hm⟩, ⟨g, hg⟩⟩ := hs
  have hr0 := hr
  unfold ruo at hr
  have y1 : ¬ T = 358 := by omega
  have y2 : ¬ CO = 358 := by omega
  have y3 : ¬ BO = 358 := by omega
  have hb1 := hb.1
  have hb2 := hb.2
  have hds := ds_s hK
  have h7 := hds.2.1 1 (by omega)
  have hbc := bcle 63 (G 332)
  refine xr_stp rfl rfl rfl rfl ?_
  refine xr_stp rfl rfl rfl rfl ?_
  refine xr_getfield hr rfl rfl rfl rfl ?_
  refine xr_vcps hr rfl rfl rfl rfl rfl rfl (fun r1 K2 => ru_num1 _ _ _ 0 tx 0 dl sy T W0 RD hr0 hrd eT (by omega) htx htx4 r1 (K2 _ _ _ _ ?_))
  refine xr_stp rfl rfl rfl rfl ?_
  refine xr_stp rfl rfl rfl rfl ?_
  refine xr_stp rfl rfl rfl rfl ?_
  refine xr_stp rfl rfl rfl rfl ?_
  refine xr_stp (st' := .int (Int32.ofNat 0) :: _) rfl rfl rfl rfl ?_
  refine xr_vcps hT rfl rfl rfl rfl rfl rfl (fun r1 K2 => tx_rules _ _ _ T CL CO BO 0 4 v W0 B hT hbo (by omega) (by omega) (by rw [show 0 * 2 = 0 from rfl, hB0]; omega) r1 (K2 _ _ _ _ ?_))
  refine xr_j1 rfl rfl rfl rfl rfl (fun h21 => ?_) (fun h21 => ?_)
  · refine xr_stp rfl rfl rfl rfl ?_
    refine xr_stp rfl rfl rfl rfl ?_
    refine xr_getfield hr rfl rfl rfl rfl ?_
    refine xr_stp rfl rfl rfl rfl ?_
    refine xr_stp rfl rfl rfl rfl ?_
    refine xr_vcps (hw.w hb hl hr) rfl rfl rfl rfl rfl rfl (fun r1 K2 => ds_run _ _ _ b 358 u t F V W0 (by omega) (by omega) (by omega) (by omega) (by omega) (by omega) hds.1 (hw.w hb hl hr) hw.2 (hw.k hb hl hr) (hw.a hb hl hr) hm r1 (fun W hm hf1 => K2 _ _ _ _ ?_))
    have hr := hf1.at hr (by omega)
    have hg := hf1.at hg (by omega)
    have hT := hf1.at hT y1
    have hc := hf1.at hc y2
    have hbo := hf1.at hbo y3
    have hF : fr rin W0 W := hf1.weak (fun i _ (e : i = 358) => (Or.inl e : rin i))
    refine xr_stp rfl rfl rfl rfl ?_
    refine xr_getfield hr rfl rfl rfl rfl ?_
    refine xr_stp (st' := .int (Int32.ofNat 3) :: _) rfl rfl rfl rfl ?_
    refine xr_stp rfl rfl rfl rfl ?_
    refine xs_istk hm (show 17 ≤ 358 by omega) (by omega) (by omega) rfl (fun W hm hf1 => ?_)
    have hr := hf1.at hr (show ¬ 355 = 358 by omega)
    have hT := hf1.at hT y1
    have hc := hf1.at hc y2
    have hbo := hf1.at hbo y3
    have hg := hf1.at hg (show ¬ 359 = 358 by omega)
    have hF := hF.tr2 hf1 (fun _ e => Or.inl (Or.inl e))
    refine xr_stp rfl rfl rfl rfl ?_
    refine xr_getfield hr rfl rfl rfl rfl ?_
    refine xr_stp (st' := .int (Int32.ofNat 4) :: _) rfl rfl rfl rfl ?_
    refine xr_stp rfl rfl rfl rfl ?_
    refine xs_istk hm (show 17 ≤ 358 by omega) (by omega) (by omega) rfl (fun W hm hf1 => ?_)
    have hr := hf1.at hr (show ¬ 355 = 358 by omega)
    have hT := hf1.at hT y1
    have hc := hf1.at hc y2
    have hbo := hf1.at hbo y3
    have hg := hf1.at hg (show ¬ 359 = 358 by omega)
    have hF := hF.tr2 hf1 (fun _ e => Or.inl (Or.inl e))
    refine xr_stp rfl rfl rfl rfl ?_
    refine xr_stp (st' := .int (Int32.ofNat 0) :: _) rfl rfl rfl rfl ?_
    refine xr_stp rfl rfl rfl rfl ?_
    refine xr_getfield hr rfl rfl rfl rfl ?_
    refine xr_stp rfl rfl rfl rfl ?_
    refine xr_getfield hr rfl rfl rfl rfl ?_
    have V3 : xn_u (xn_u (ds_0 F V u t) 3 a) 4 k 3 = a := rfl
    have V4 : xn_u (xn_u (ds_0 F V u t) 3 a) 4 k 4 = k := rfl
    have V7 : xn_u (xn_u (ds_0 F V u t) 3 a) 4 k 7 = bc 63 (G 332) := by
      rw [xn_un _ _ (by omega), xn_un _ _ (by omega), (ds_v F V u t).2.2.2.2.2.2.1, Nat.zero_add]
      exact h7
    generalize xn_u (xn_u (ds_0 F V u t) 3 a) 4 k = V1 at *
    refine xr_vcps hT rfl rfl rfl rfl rfl rfl (fun r1 K2 => ?_)
    refine tx_start _ _ _ T 358 359 CO CL BO 64 0 v W P hT hc (by omega) B 4 hbo (by omega) (by omega) r1 ?_
    rw [show B (2 * 0) = 0 from hB0, show B (2 * 0 + 1) = 16 from hB1]
    refine tx_loses _ _ _ T 358 359 CO CL BO 64 0 (lw_dg nn f 0) (lw_dg nn f 1) (lw_dg nn f 2) (lw_dg nn f 3) v W P _ _ hT hc (by omega) hg (by omega) hm (by omega) (by omega) (by omega) (by omega) (by omega) hL (lw_dgb nn f _) (lw_dgb nn f _) (lw_dgb nn f _) (lw_dgb nn f _) (by omega) (by omega) (by omega) r1 (fun W g2 hg hf1 => K2 _ _ _ _ ?_) _ (Or.inl rfl)
    have hm := hf1.at hm (by omega)
    have hF := hF.tr (hf1.weak (P2 := rin) (fun i _ e => Or.inr e))
    rw [V3, V4, V7]
    have ez : ((lw_dg nn f 0 : Nat) : Int) - (((k / lw_dg nn f 1) : Nat) : Int) + (((a * lw_dg nn f 2 / 4) : Nat) : Int) - (((bc 63 (G 332) / lw_dg nn f 3) : Nat) : Int) = lw_lz nn f G a k := by
      unfold lw_lz
      have : a = 0 ∨ a = 1 := by omega
      rcases this with rfl | rfl
      · rw [if_pos rfl, Nat.zero_mul]
      · rw [if_neg (by omega), Nat.one_mul]
    have z1 : -1000 ≤ lw_lz nn f G a k ∧ lw_lz nn f G a k < 1000 := by
      have q0 := lw_dgb nn f 0
      have q1 := Nat.div_le_self k (lw_dg nn f 1)
      have q2 := Int.natCast_nonneg (k / lw_dg nn f 1)
      have q3 := Nat.div_le_self (bc 63 (G 332)) (lw_dg nn f 3)
      have q4 := Int.natCast_nonneg (bc 63 (G 332) / lw_dg nn f 3)
      have q5 := lw_dgb nn f 2
      unfold lw_lz
      split <;> omega
    rw [ez]
    have eR : lw_lo nn f G 1 a k = min (lw_lz nn f G a k).toNat 10 := if_neg (by omega)
    rw [eR] at K
    generalize lw_lz nn f G a k = z at *
    by_cases z0 : z < 0
    · refine xr_stp rfl rfl rfl rfl ?_
      refine xr_stp rfl rfl rfl rfl ?_
      refine xr_j1 rfl rfl rfl rfl rfl (fun h70 => ?_) (fun h70 => ?_)
      · exact (ni_geF (by omega) z0 h70).elim
      · refine xr_stp (st' := .int (Int32.ofNat 0) :: _) rfl rfl rfl rfl ?_
        exact xr_ret rfl rfl (by rw [show min z.toNat 10 = 0 by omega] at K; exact K _ ⟨⟨_, hm⟩, ⟨_, hg⟩⟩ hF)
    rw [show Int32.ofInt z = Int32.ofNat z.toNat by rw [← Int32.ofInt_eq_ofNat]; exact congrArg Int32.ofInt (by omega)]
    refine xr_stp rfl rfl rfl rfl ?_
    refine xr_stp rfl rfl rfl rfl ?_
    refine xr_j1 rfl rfl rfl rfl rfl (fun h70 => ?_) (fun h70 => ?_)
    · refine xr_stp rfl rfl rfl rfl ?_
      refine xr_stp (st' := .int (Int32.ofNat 10) :: _) rfl rfl rfl rfl ?_
      refine xr_j2 rfl rfl rfl rfl rfl (fun h79 => ?_) (fun h79 => ?_)
      · rw [Nat.min_eq_left (nt_le (by omega) (by omega) h79)] at K
        refine xr_stp rfl rfl rfl rfl ?_
        exact xr_ret rfl rfl (K _ ⟨⟨_, hm⟩, ⟨_, hg⟩⟩ hF)
      · rw [Nat.min_eq_right (by have := nf_le (by omega) (by omega) h79; omega)] at K
        refine xr_stp (st' := .int (Int32.ofNat 10) :: _) rfl rfl rfl rfl ?_
        refine xr_stp rfl rfl rfl rfl ?_
        exact xr_ret rfl rfl (K _ ⟨⟨_, hm⟩, ⟨_, hg⟩⟩ hF)
    · exact (n_ge0f (by omega) h70).elim
  · exact absurd (nf1_ne (a := 1) (by omega) h21) (by omega)
theorem rl_lets0 (d c s b u t k : Nat) (W : xi_W) (r : xi_R → Prop) (K : r (some (.int (Int32.ofNat 0)), W, c, s)) : xr d 58 0 [(0, .ref 355), (1, .null), (2, .ref b), (3, .int (Int32.ofNat u)), (4, .int (Int32.ofNat t)), (5, .int (Int32.ofNat k))] [] W c s r := by
  refine xr_stp rfl rfl rfl rfl ?_
  refine xr_stp rfl rfl rfl rfl ?_
  refine xr_stp (st' := .int (Int32.ofNat 0) :: _) rfl rfl rfl rfl ?_
  exact xr_retb (by omega) rfl rfl K
theorem rl_lets1 (d c s b u t k tx ru dl sy T nn : Nat) (f : Nat → Int32) (W0 : xi_W) {E : (Nat → Nat → Nat) → Prop} {lo N : Nat} {G F : Nat → Nat} (hK : RK E lo N G F) (hw : kw W0 b F) (hb : wb b) (hl : 687 ≤ W0.length) (hr : ruo W0 tx ru dl sy) (hT : txt nn f W0 T) (hs : rus W0) (hu : u < 4) (ht : t < 4) (hk : k < 100000) (r : xi_R → Prop) (K : ∀ W', rus W' → fr rin W0 W' → r (some (.int (Int32.ofNat (lw_sp nn f G 1 u t k))), W', c, s)) : xr (d + 3) 58 0 [(0, .ref 355), (1, .ref T), (2, .ref b), (3, .int (Int32.ofNat u)), (4, .int (Int32.ofNat t)), (5, .int (Int32.ofNat k))] [] W0 c s r := by
  obtain ⟨CL, CO, BO, P, B, v, g1, g2, g3, hT, hc, hbo, hB0, hB1, hB2, hB3, hL, hS⟩ := hT
  obtain ⟨⟨V, hm⟩, ⟨g, hg⟩⟩ := hs
  unfold ruo at hr
  have y1 : ¬ T = 358 := by omega
  have y2 : ¬ CO = 358 := by omega
  have y3 : ¬ BO = 358 := by omega
  have hb1 := hb.1
  have hb2 := hb.2
  have hds := ds_s hK
  have h10 := hds.2.2 0 (by omega)
  have hbc := bcle 63 (G 331)
  refine xr_stp rfl rfl rfl rfl ?_
  refine xr_stp rfl rfl rfl rfl ?_
  refine xr_stp rfl rfl rfl rfl ?_
  refine xr_stp (st' := .int (Int32.ofNat 1) :: _) rfl rfl rfl rfl ?_
  refine xr_vcps hT rfl rfl rfl rfl rfl rfl (fun r1 K2 => tx_rules _ _ _ T CL CO BO 1 4 v W0 B hT hbo (by omega) (by omega) (by rw [show 1 * 2 = 2 from rfl, hB2]; omega) r1 (K2 _ _ _ _ ?_))
  refine xr_j1 rfl rfl rfl rfl rfl (fun h9 => ?_) (fun h9 => ?_)
  · refine xr_stp rfl rfl rfl rfl ?_
    refine xr_stp rfl rfl rfl rfl ?_
    refine xr_getfield hr rfl rfl rfl rfl ?_
    refine xr_stp rfl rfl rfl rfl ?_
    refine xr_stp rfl rfl rfl rfl ?_
    refine xr_vcps (hw.w hb hl hr) rfl rfl rfl rfl rfl rfl (fun r1 K2 => ds_run _ _ _ b 358 u t F V W0 (by omega) (by omega) (by omega) (by omega) (by omega) (by omega) hds.1 (hw.w hb hl hr) hw.2 (hw.k hb hl hr) (hw.a hb hl hr) hm r1 (fun W hm hf1 => K2 _ _ _ _ ?_))
    have hr := hf1.at hr (by omega)
    have hg := hf1.at hg (by omega)
    have hT := hf1.at hT y1
    have hc := hf1.at hc y2
    have hbo := hf1.at hbo y3
    have hF : fr rin W0 W := hf1.weak (fun i _ (e : i = 358) => (Or.inl e : rin i))
    refine xr_stp rfl rfl rfl rfl ?_
    refine xr_getfield hr rfl rfl rfl rfl ?_
    refine xr_stp (st' := .int (Int32.ofNat 5) :: _) rfl rfl rfl rfl ?_
    refine xr_stp rfl rfl rfl rfl ?_
    refine xs_istk hm (show 17 ≤ 358 by omega) (by omega) (by omega) rfl (fun W hm hf1 => ?_)
    have hr := hf1.at hr (show ¬ 355 = 358 by omega)
    have hT := hf1.at hT y1
    have hc := hf1.at hc y2
    have hbo := hf1.at hbo y3
    have hg := hf1.at hg (show ¬ 359 = 358 by omega)
    have hF := hF.tr2 hf1 (fun _ e => Or.inl (Or.inl e))
    refine xr_stp rfl rfl rfl rfl ?_
    refine xr_stp (st' := .int (Int32.ofNat 1) :: _) rfl rfl rfl rfl ?_
    refine xr_stp rfl rfl rfl rfl ?_
    refine xr_getfield hr rfl rfl rfl rfl ?_
    refine xr_stp rfl rfl rfl rfl ?_
    refine xr_getfield hr rfl rfl rfl rfl ?_
    have V1 : xn_u (ds_0 F V u t) 5 k 1 = u := rfl
    have V2 : xn_u (ds_0 F V u t) 5 k 2 = t := rfl
    have V5 : xn_u (ds_0 F V u t) 5 k 5 = k := rfl
    have V10 : xn_u (ds_0 F V u t) 5 k 10 = bc 63 (G 331) := by
      rw [xn_un _ _ (by omega), (ds_v F V u t).2.2.2.2.2.2.2, Nat.zero_add]
      exact h10
    generalize xn_u (ds_0 F V u t) 5 k = V9 at *
    refine xr_vcps hT rfl rfl rfl rfl rfl rfl (fun r1 K2 => ?_)
    refine tx_start _ _ _ T 358 359 CO CL BO 64 1 v W P hT hc (by omega) B 4 hbo (by omega) (by omega) r1 ?_
    rw [show B (2 * 1) = 16 from hB2, show B (2 * 1 + 1) = 32 from hB3]
    refine tx_speaks _ _ _ T 358 359 CO CL BO 64 16 (lw_dg nn f 4) (lw_dg nn f 5) (lw_dg nn f 6) (lw_dg nn f 7) v W P _ _ hT hc (by omega) hg (by omega) hm (by omega) (by omega) (by omega) (by omega) (by omega) hS (lw_dgb nn f _) (lw_dgb nn f _) (lw_dgb nn f _) (lw_dgb nn f _) (by omega) (by omega) (by omega) (by omega) r1 (fun W g2 hg hf1 => K2 _ _ _ _ ?_) _ (Or.inl rfl)
    have hm := hf1.at hm (by omega)
    have hF := hF.tr (hf1.weak (P2 := rin) (fun i _ e => Or.inr e))
    rw [V1, V2, V5, V10]
    have z1 : -1000000 ≤ lw_sz nn f G u t k ∧ lw_sz nn f G u t k < 1000000 := by
      have q0 := lw_dgb nn f 4
      have q7 := lw_dgb nn f 7
      have m1 : k * lw_dg nn f 4 ≤ 99999 * 9 := Nat.mul_le_mul (by omega) q0.2
      have q1 := Nat.div_le_self t (lw_dg nn f 5)
      have q2 := Int.natCast_nonneg (t / lw_dg nn f 5)
      have q3 := Nat.div_le_self (bc 63 (G 331)) (lw_dg nn f 6)
      have q4 := Int.natCast_nonneg (bc 63 (G 331) / lw_dg nn f 6)
      have q5 := Int.natCast_nonneg (k * lw_dg nn f 4)
      unfold lw_sz
      omega
    have ez : (((k * lw_dg nn f 4) : Nat) : Int) - (u : Int) - (((t / lw_dg nn f 5) : Nat) : Int) + (((bc 63 (G 331) / lw_dg nn f 6) : Nat) : Int) - ((lw_dg nn f 7 : Nat) : Int) = lw_sz nn f G u t k := rfl
    rw [ez]
    have eR : lw_sp nn f G 1 u t k = if lw_sz nn f G u t k ≤ 0 then 0 else 1 := if_neg (by omega)
    rw [eR] at K
    generalize lw_sz nn f G u t k = z at *
    refine xr_j1 rfl rfl rfl rfl rfl (fun h46 => ?_) (fun h46 => ?_)
    · rw [if_pos (ni_le (by omega) (by omega) h46)] at K
      refine xr_stp (st' := .int (Int32.ofNat 0) :: _) rfl rfl rfl rfl ?_
      exact xr_retb (by omega) rfl rfl (K _ ⟨⟨_, hm⟩, ⟨_, hg⟩⟩ hF)
    · rw [if_neg (by have := nif_le (by omega) (by omega) h46; omega)] at K
      refine xr_stp (st' := .int (Int32.ofNat 1) :: _) rfl rfl rfl rfl ?_
      refine xr_stp rfl rfl rfl rfl ?_
      exact xr_retb (by omega) rfl rfl (K _ ⟨⟨_, hm⟩, ⟨_, hg⟩⟩ hF)
  · exact absurd (nf1_ne (a := 1) (by omega) h9) (by omega)
