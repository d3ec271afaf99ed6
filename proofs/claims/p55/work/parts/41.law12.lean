/-! the law: a tick, whole -/
theorem lw_ouL (d A S nn : Nat) (f : Nat → Int32) (hg : 17 ≤ A) (hn : nn < 2147483648) (hSA : S ≠ A) (q : Nat) (hq : q < 2) (r : xi_R → Prop) (n : Nat) (X : xi_L) (hX : lw_tX S q A n X) : ∀ (m u N c s : Nat) (G : Nat → Nat) (W0 : xi_W) (e : Int32), u + m = 4 → lw_J N G → N + 4 * m < 1000000 → W0[A]? = some (lw_a 1804 G) → W0[S]? = some (lw_s nn f) → (∀ W' c' s', c' ≤ c + 8 * m → s' ≤ s + 40 * m → W'[A]? = some (lw_a 1804 (lw_yo nn f q m u G)) → fr (· = A) W0 W' → r (some (.int (Int32.ofNat n)), W', c', s')) → xr (d + 5) 197 315 ((5, .int (Int32.ofNat u)) :: (6, .int e) :: X) [] W0 c s r
  | 0, u, N, c, s, G, W0, e, hm, hJ, hN, hw, hs, K => by
    obtain rfl : u = 4 := by omega
    rcases hX with ⟨_, rfl⟩ | ⟨_, _, _, rfl⟩ | ⟨_, _, _, _, rfl⟩ | ⟨_, _, _, _, _, rfl⟩
    all_goals
      refine xr_stp rfl rfl rfl rfl ?_
      refine xr_stp (st' := .int (Int32.ofNat 4) :: _) rfl rfl rfl rfl ?_
      refine xr_j2 rfl rfl rfl rfl rfl (fun h318 => ?_) (fun h318 => ?_)
      · refine xr_stp rfl rfl rfl rfl ?_
        exact xr_ret rfl rfl (K _ _ _ (by omega) (by omega) hw fr.rf)
      · exact absurd (nf_ge (by omega) (by omega) h318) (by omega)
  | m + 1, u, N, c, s, G, W0, e, hm, hJ, hN, hw, hs, K => by
    unfold lw_yo at K
    have hX2 := hX
    rcases hX2 with ⟨_, rfl⟩ | ⟨_, _, _, rfl⟩ | ⟨_, _, _, _, rfl⟩ | ⟨_, _, _, _, _, rfl⟩
    all_goals
      refine xr_stp rfl rfl rfl rfl ?_
      refine xr_stp (st' := .int (Int32.ofNat 4) :: _) rfl rfl rfl rfl ?_
      refine xr_j2 rfl rfl rfl rfl rfl (fun h318 => ?_) (fun h318 => ?_)
      · exact absurd (nt_ge (by omega) (by omega) h318) (by omega)
      · refine xr_stp (st' := .int (Int32.ofNat 0) :: _) rfl rfl rfl rfl ?_
        refine xr_stp rfl rfl rfl rfl ?_
        refine lw_inL d A S nn f hg hn hSA q hq r n _ hX u (by omega) 4 0 N _ _ G W0 (by omega) hJ (by omega) hw hs (fun W c2 s2 q1 q2 hw hf1 => ?_)
        refine xs_inc (e := 1) rfl rfl rfl rfl ?_
        refine xr_stp rfl rfl rfl rfl ?_
        exact lw_ouL d A S nn f hg hn hSA q hq r n _ hX m (u + 1) (N + 4) _ _ _ W _ (by omega) (lw_J.yi nn f q u (by omega) 4 0 N G rfl hJ (by omega)) (by omega) hw (hf1.at hs hSA) (fun W3 c3 s3 y1 y2 y3 y4 => K W3 c3 s3 (by omega) (by omega) y3 (hf1.tr y4))
theorem lw_tkE (d A S nn : Nat) (f : Nat → Int32) (hg : 17 ≤ A) (hn : nn < 2147483648) (hSA : S ≠ A) (q : Nat) (hq : q < 2) (r : xi_R → Prop) (n i N c s : Nat) (G : Nat → Nat) (W0 : xi_W) (L : xi_L) (hL : lw_tL S q A n i L) (hJ : lw_J N G) (hN : N + 16 < 1000000) (hw : W0[A]? = some (lw_a 1804 G)) (hs : W0[S]? = some (lw_s nn f)) (K : ∀ W' c' s', c' ≤ c + 32 → s' ≤ s + 160 → W'[A]? = some (lw_a 1804 (lw_yo nn f q 4 0 G)) → fr (· = A) W0 W' → r (some (.int (Int32.ofNat n)), W', c', s')) : xr (d + 5) 197 312 L [] W0 c s r := by
  unfold lw_yo at K
  rcases hL with rfl | ⟨_, _, _, _, rfl⟩ | ⟨_, _, _, _, _, rfl⟩ | ⟨_, _, _, _, _, _, rfl⟩
  all_goals
    refine xr_stp (st' := .int (Int32.ofNat 0) :: _) rfl rfl rfl rfl ?_
    refine xr_stp rfl rfl rfl rfl ?_
    refine xr_stp rfl rfl rfl rfl ?_
    refine xr_stp (st' := .int (Int32.ofNat 4) :: _) rfl rfl rfl rfl ?_
    refine xr_j2 rfl rfl rfl rfl rfl (fun h318 => ?_) (fun h318 => ?_)
    · exact absurd (nt_ge (by omega) (by omega) h318) (by omega)
    · refine xr_stp (st' := .int (Int32.ofNat 0) :: _) rfl rfl rfl rfl ?_
      refine xr_stp rfl rfl rfl rfl ?_
      refine lw_inL d A S nn f hg hn hSA q hq r n _ (by first | exact Or.inl ⟨_, rfl⟩ | exact Or.inr (Or.inl ⟨_, _, _, rfl⟩) | exact Or.inr (Or.inr (Or.inl ⟨_, _, _, _, rfl⟩)) | exact Or.inr (Or.inr (Or.inr ⟨_, _, _, _, _, rfl⟩))) 0 (by omega) 4 0 N _ _ G W0 (by omega) hJ (by omega) hw hs (fun W c2 s2 q1 q2 hw hf1 => ?_)
      refine xs_inc (e := 1) rfl rfl rfl rfl ?_
      refine xr_stp rfl rfl rfl rfl ?_
      exact lw_ouL d A S nn f hg hn hSA q hq r n _ (by first | exact Or.inl ⟨_, rfl⟩ | exact Or.inr (Or.inl ⟨_, _, _, rfl⟩) | exact Or.inr (Or.inr (Or.inl ⟨_, _, _, _, rfl⟩)) | exact Or.inr (Or.inr (Or.inr ⟨_, _, _, _, _, rfl⟩))) 3 1 (N + 4) _ _ _ W _ (by omega) (lw_J.yi nn f q 0 (by omega) 4 0 N G rfl hJ (by omega)) (by omega) hw (hf1.at hs hSA) (fun W3 c3 s3 y1 y2 y3 y4 => K W3 c3 s3 (by omega) (by omega) y3 (hf1.tr y4))
def lw_t0 (G : Nat → Nat) : Nat → Nat := xn_u G 0 (G 0 + 1)
/-- a tick -/
def lw_ti (nn : Nat) (f : Nat → Int32) (q m : Nat) (G : Nat → Nat) : Nat → Nat := lw_yo nn f q 4 0 (lw_ms nn f q m (lw_t0 G))
theorem lw_J.ms (nn : Nat) (f : Nat → Int32) (q : Nat) : ∀ (m N : Nat) (G : Nat → Nat), lw_J N G → N + 2 * m < 1000000 → lw_J (N + 2 * m) (lw_ms nn f q m G)
  | 0, _, _, h, _ => h
  | m + 1, N, G, h, hN => by
    by_cases z : lw_du G
    · rw [(lw_ms1 z).1]
      have := lw_J.ms nn f q m (N + 2) _ (h.mk nn f q (lw_ft G) ((lw_ftl G).resolve_right z.1) (by omega)) (by omega)
      rw [show N + 2 + 2 * m = N + 2 * (m + 1) by omega] at this
      exact this
    · rw [(lw_ms0 z).1]
      exact h.mono (by omega)
theorem lw_J.t0 {N : Nat} {G : Nat → Nat} (h : lw_J N G) (hN : N + 1 < 1000000) : lw_J (N + 1) (lw_t0 G) := by
  have := h.n0
  exact h.low 0 _ (by omega) (fun e => absurd e (by omega)) (fun _ => by omega) (by omega) hN
theorem lw_J.ti {N : Nat} {G : Nat → Nat} (h : lw_J N G) (nn : Nat) (f : Nat → Int32) (q m : Nat) (hN : N + 2 * m + 17 < 1000000) : lw_J (N + 2 * m + 17) (lw_ti nn f q m G) := by
  have := lw_J.yo nn f q 4 0 _ _ rfl (lw_J.ms nn f q m _ _ (h.t0 (by omega)) (by omega)) (by omega)
  exact this.mono (by omega)
theorem lw_tick (d A S nn : Nat) (f : Nat → Int32) (hg : 17 ≤ A) (hn : nn < 2147483648) (hSA : S ≠ A) (q : Nat) (hq : q < 2) (r : xi_R → Prop) (m N c s : Nat) (G : Nat → Nat) (W0 : xi_W) (hJ : lw_J N G) (hN : N + 2 * m + 17 < 1000000) (he : lw_me nn f q m (lw_t0 G)) (hw : W0[A]? = some (lw_a 1804 G)) (hs : W0[S]? = some (lw_s nn f)) (K : ∀ W' c' s', c' ≤ c + 2 * m + 32 → s' ≤ s + 16 * m + 160 → W'[A]? = some (lw_a 1804 (lw_ti nn f q m G)) → fr (· = A) W0 W' → r (some (.int (Int32.ofNat (lw_mc nn f q m (lw_t0 G)))), W', c', s')) : xr (d + 5) 197 0 [(0, .ref S), (1, .int (Int32.ofNat q)), (2, .ref A)] [] W0 c s r := by
  have hJ9 := hJ.t0 (by omega)
  have hF : fr (· = A) W0 W0 := fr.rf
  refine xr_stp rfl rfl rfl rfl ?_
  refine xr_stp (st' := .int (Int32.ofNat 0) :: _) rfl rfl rfl rfl ?_
  refine xr_stp rfl rfl rfl rfl ?_
  refine xs_ald hw hg (by omega) (by omega) rfl ?_
  refine xr_stp (st' := .long (Int64.ofNat 1) :: _) rfl rfl rfl rfl ?_
  refine xs_ladd rfl ?_
  refine xs_astk hw hg (by omega) (by omega) rfl (fun W hw hf1 => ?_)
  have hs := hf1.at hs hSA
  have hF := hF.tr2 hf1 (fun _ e => Or.inl e)
  refine xr_stp (st' := .int (Int32.ofNat 0) :: _) rfl rfl rfl rfl ?_
  refine xr_stp rfl rfl rfl rfl ?_
  refine xr_stp rfl rfl rfl rfl ?_
  refine xr_cps rfl rfl rfl (fun r1 K2 => lw_first _ _ _ A W _ hw hg hJ9.b63 hJ9.m r1 (K2 _ _ _ _ ?_))
  refine xr_stp rfl rfl rfl rfl ?_
  change W[A]? = some (lw_a 1804 (lw_t0 G)) at hw
  refine lw_mlL (d + 1) A S nn f hg hn hSA q hq r m 0 (N + 1) _ _ (lw_t0 G) W _ hJ9 (by omega) he (Or.inl rfl) hw hs (fun L2 i2 W2 c2 s2 x1 x2 x3 x4 x5 => ?_)
  refine lw_tkE d A S nn f hg hn hSA q hq r _ i2 (N + 1 + 2 * m) c2 s2 _ W2 L2 x3 (lw_J.ms nn f q m _ _ hJ9 (by omega)) (by omega) x4 (x5.at hs hSA) (fun W3 c3 s3 y1 y2 y3 y4 => ?_)
  rw [Nat.zero_add]
  exact K W3 c3 s3 (by omega) (by omega) y3 (hF.tr (x5.tr y4))
