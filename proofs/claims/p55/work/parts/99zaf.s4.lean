/-! the law's script: all of it -/
theorem scG_ab {N : Nat} {G : Nat → Nat} (h : ab G) (J : lw_J N G) (nn : Nat) (f : Nat → Int32) (q i : Nat) (h4 : G 4 ≤ 61) (hN : N + 400 < 1000000) : ab (scG nn f q i G) := by
  obtain ⟨q1, q2, q3, q4⟩ := swb nn f i
  have e : sw nn f i = 0 ∨ sw nn f i = 1 ∨ sw nn f i = 2 ∨ sw nn f i = 3 ∨ sw nn f i = 4 := by omega
  unfold scG
  rcases e with e | e | e | e | e
  · rw [if_pos e]
    exact h.se J (by omega) _ _ q2 q3 h4
  · rw [if_neg (by omega), if_pos e]
    exact h.cl J (by omega) _ q2 q3
  · rw [if_neg (by omega), if_neg (by omega), if_pos e]
    exact h.cl J (by omega) _ q2 q3
  · rw [if_neg (by omega), if_neg (by omega), if_neg (by omega), if_pos e]
    exact h.sn J (by omega) nn f q _ _ q3 q2
  · rw [if_neg (by omega), if_neg (by omega), if_neg (by omega), if_neg (by omega)]
    exact ab.tk nn f q 2 N G h J (by omega)
theorem scH_ab (nn : Nat) (f : Nat → Int32) (q : Nat) : ∀ (m k N : Nat) (G : Nat → Nat), ab G → lw_J N G → G 4 + m ≤ 62 → N + 130 * m + 400 < 1000000 → ab (scH nn f q m k G) ∧ lw_J (N + 130 * m) (scH nn f q m k G)
  | 0, k, N, G, h, J, h4, hN => ⟨h, J.mono (by omega)⟩
  | m + 1, k, N, G, h, J, h4, hN => by
    by_cases hB : scB nn f k G = 1
    · rw [show scH nn f q (m + 1) k G = G from if_pos hB]
      exact ⟨h, J.mono (by omega)⟩
    · rw [show scH nn f q (m + 1) k G = scH nn f q m (k + 1) (scG nn f q k G) from if_neg hB]
      obtain ⟨b1, b2, b3⟩ := scG_b J nn f q k (by omega) (by omega) hB
      have z := scH_ab nn f q m (k + 1) (N + 130) (scG nn f q k G) (scG_ab h J nn f q k (by omega) (by omega)) b1 (by omega) (by omega)
      exact ⟨z.1, z.2.mono (by omega)⟩
def sP (i : Nat) : Prop := (17 ≤ i ∧ i < 360) ∨ i = 687
theorem cmx_k2 {nn : Nat} {f : Nat → Int32} {q dl tx sy T N fi m mm : Nat} {G : Nat → Nat} {GS : Nat → Nat → Nat} {P : Nat → Prop} {W W' : xi_W} (h : cmx nn f q dl tx sy T N fi m mm G GS W) (hf : fr P W W') (n : ∀ i, i = 17 ∨ 23 ≤ i ∧ i < 360 ∧ i ≠ 357 → ¬ P i) (ht : txt nn f W' T) : cmx nn f q dl tx sy T N fi m mm G GS W' := by
  obtain ⟨⟨b0, ⟨RD0, b1, b2⟩, b3, b4, b5, b6, b7⟩, ⟨lf, lp, a2⟩, a3, ⟨WF, a4, a4b⟩, a5, ⟨F0, a6, a6b⟩, ⟨F3, a7⟩, a8, a9, a10, a11⟩ := h
  have hk : ∀ {b : Nat} {F : Nat → Nat}, kw W b F → wb b → 23 ≤ b → b + 10 ≤ 355 → kw W' b F := fun {b F} hw hb h1 h2 => hw.keep hb b0 hf (fun i z1 z2 => n i (by omega))
  refine ⟨⟨Nat.le_trans b0 hf.1, ⟨RD0, hf.at b1 (n _ (by omega)), b2⟩, b3, b4, ht, b6.keep hf (n _ (by omega)) (n _ (by omega)), hf.at b7 (n _ (by omega))⟩, ⟨lf, lp, hf.at a2 (n _ (by omega))⟩, hf.at a3 (n _ (by omega)), ⟨WF, hf.at a4 (n _ (by omega)), a4b⟩, a5, ⟨F0, hk a6 wb23 (by omega) (by omega), a6b⟩, ⟨F3, hk a7 wb33 (by omega) (by omega)⟩, fun i hi => ?_, a9, a10, a11⟩
  obtain ⟨F, c1, c2⟩ := a8 i hi
  exact ⟨F, hk c1 (wbS hi) (by omega) (by omega), c2⟩
theorem n687 {W : xi_W} {t : Nat → Nat} (hX : W[687]? = some (lw_i 300 t)) {i : Nat} : (∀ L, W[i]? = some (.inr L) → i ≠ 687) ∧ ∀ k P, k ≠ 300 → W[i]? = some (lw_i k P) → i ≠ 687 := by
  constructor
  · rintro L h rfl
    rw [hX] at h
    cases h
  · rintro k P hk h rfl
    rw [hX] at h
    injection h with h
    injection h with h
    injection h with h1 h2
    injection h2 with h2 h3
    exact hk h2.symm
def xP (i : Nat) : Prop := i = 687 ∨ 696 ≤ i
theorem txt.x {nn : Nat} {f : Nat → Int32} {T : Nat} {t : Nat → Nat} {W W' : xi_W} (h : txt nn f W T) (hX : W[687]? = some (lw_i 300 t)) (hf : fr xP W W') : txt nn f W' T := by
  obtain ⟨CL, CO, BO, P, B, v, h1, h2, h3, h4, h5, h6, h7⟩ := h
  have m1 := (n687 hX).1 _ h4
  have m2 := (n687 hX).2 64 _ (by omega) h5
  have m3 := (n687 hX).2 4 _ (by omega) h6
  exact ⟨CL, CO, BO, P, B, v, h1, h2, h3, hf.at h4 (fun z => by unfold xP at z; omega), hf.at h5 (fun z => by unfold xP at z; omega), hf.at h6 (fun z => by unfold xP at z; omega), h7⟩
theorem TX0.x {T : Nat} {t : Nat → Nat} {W W' : xi_W} (h : TX0 W T) (hX : W[687]? = some (lw_i 300 t)) (hf : fr xP W W') : TX0 W' T := by
  obtain ⟨CL, CO, BO, C, h1, h2, h3, h4, h5, h6⟩ := h
  have m1 := (n687 hX).1 _ h1
  have m2 := (n687 hX).2 10 _ (by omega) h2
  exact ⟨CL, CO, BO, C, hf.at h1 (fun z => by unfold xP at z; omega), hf.at h2 (fun z => by unfold xP at z; omega), h3, h4, h5, h6⟩
theorem rex.x {T : Nat} {t : Nat → Nat} {P : Nat → Prop} {W W' : xi_W} (h : rex T W) (hX : W[687]? = some (lw_i 300 t)) (hf : fr P W W') (hp : ∀ i, 17 ≤ i → i < W.length → i ≠ 687 → ¬ P i) : rex T W' := by
  obtain ⟨⟨RD, r1, r2, r3⟩, ⟨TD, r4⟩⟩ := h
  refine ⟨⟨RD, hf.at r1 (hp _ (by omega) (List.getElem?_eq_some_iff.mp r1).1 (by omega)), r2, fun i hi => ?_⟩, ⟨TD, hf.at r4 (hp _ (by omega) (List.getElem?_eq_some_iff.mp r4).1 (by omega))⟩⟩
  rcases r3 i hi with e | ⟨u, L4, e1, e2, e3⟩
  · exact Or.inl e
  · exact Or.inr ⟨u, L4, e1, e2, hf.at e3 (hp u (by omega) (List.getElem?_eq_some_iff.mp e3).1 ((n687 hX).1 _ e3))⟩
theorem scW (d c s : Nat) (nn q dl sy T N fi n lo A : Nat) (f : Nat → Int32) (G : Nat → Nat) (A0 : Nat → Nat → Nat) (r : xi_R → Prop) (hlo : lo ≤ n) (hnl : n - lo ≤ 30) (W0 : xi_W) (hs : scn nn f q dl 1 sy T N fi (n - lo) (n - lo) G (fun k => A0 (lo + k)) A W0) (hx : rex T W0) (hT0 : TX0 W0 T) (n0 : Nat) (tp : Nat → Nat) (hn0 : n0 ≤ 300) (hrd : RDW n0 tp W0) (t : Nat → Nat) (hX : W0[687]? = some (lw_i 300 t)) (h4 : G 4 ≤ 54) (hck : G 0 + 16 ≤ 9999) (hN5 : N + 2000 < 80000) (K : ∀ W' U c' s', c' ≤ c + 1300 → s' ≤ s + 10700 → SCY nn f q dl 2 sy T (N + 1040) (scH nn f q 8 0 G) W' → rex T W' → W'[U]? = some (lw_a 1804 (scH nn f q 8 0 G)) → 696 ≤ U → U ≠ A → fr sP W0 W' → r (some (.ref U), W', c', s')) : xr (d + 13) 203 0 [(0, .ref 17), (1, .ref 16), (2, .int (Int32.ofNat q)), (3, .ref A), (4, .ref 687)] [] W0 c s r := by
  obtain ⟨hc, hA, hS, gA, hz, hN, hnn⟩ := id hs
  obtain ⟨F, hw, hr⟩ := hc.w
  have J := hr.j
  have he := hr.e
  have J4 := J.e
  have b63 := J.b63
  have gA7 : 17 ≤ A := by omega
  obtain ⟨lf, lp, hO⟩ := hc.o
  have lA : A < W0.length := (List.getElem?_eq_some_iff.mp hA).1
  refine xr_stp (st' := .int (Int32.ofNat 0) :: _) rfl rfl rfl rfl ?_
  refine xr_stp rfl rfl rfl rfl ?_
  refine xr_stp (st' := .int (Int32.ofNat 4294967295) :: _) rfl rfl rfl rfl ?_
  refine xr_stp rfl rfl rfl rfl ?_
  refine xr_stp rfl rfl rfl rfl ?_
  refine xs_clo hA (by omega) rfl rfl rfl rfl (fun U W1 eU hU hf1 => ?_)
  have gU : 696 ≤ U := by omega
  have nUA : U ≠ A := by omega
  refine xs_chk hU (by omega) rfl rfl rfl ?_
  refine xr_stp rfl rfl rfl rfl ?_
  refine xr_stp (st' := .int (Int32.ofNat 0) :: _) rfl rfl rfl rfl ?_
  refine xr_stp rfl rfl rfl rfl ?_
  refine xr_loc [(0, .ref 17), (1, .ref 16), (2, .int (Int32.ofNat q)), (3, .ref A), (4, .ref 687), (5, .int (Int32.ofNat 0)), (6, .int (Int32.ofNat 4294967295)), (7, .ref U), (8, .int (Int32.ofNat 0))] ⟨rfl, rfl, rfl, rfl, rfl, rfl, rfl, rfl, rfl, trivial⟩ rfl ?_
  refine scLp d nn q A 687 U f hnn hc.q (by omega) (by omega) (by omega) r 8 0 4294967295 t G N W1 _ _ rfl (hrd.1.keep hf1 (fun _ _ z => z)) (hf1.at hS (fun z => z)) (hf1.at hX (fun z => z)) (fun i hi => absurd hi (Nat.not_lt_zero _)) hU J (by omega) (by omega) (Or.inl rfl) (fun W2 c2 s2 t2 bad G2 kc2 ks2 hX2 hT2 hU2 hb1 hb2 hf2 => ?_)
  obtain ⟨rfl, rfl⟩ := hb1 rfl
  have X2 : fr xP W0 W2 := (hf1.weak (P2 := xP) (fun i _ z => z.elim)).tr (hf2.weak (P2 := xP) (fun i _ z => by have z : i = 687 ∨ i = U := z; unfold xP; omega))
  have O2 : fr (fun i => i = 687) W0 W2 := (hf1.weak (P2 := fun i => i = 687) (fun i _ z => z.elim)).tr2 hf2 (fun i z => by have z : i = 687 ∨ i = U := z; show i = 687 ∨ W0.length ≤ i; omega)
  have F2 : fr sP W0 W2 := O2.weak (fun i _ z => by have z : i = 687 := z; unfold sP; omega)
  have hc2 := cmx_k2 hc X2 (fun i hi z => by unfold xP at z; omega) (hc.1.2.2.2.2.1.x hX X2)
  have hTX2 := hT0.x hX X2
  have hx2 := hx.x hX O2 (fun i h1 h2 h3 z => h3 z)
  have hrd2 := hrd.keep O2 (fun i h1 h2 z => by have z : i = 687 := z; omega) (Or.inr trivial)
  clear hO
  obtain ⟨lf2, lp2, hO⟩ := hc2.o
  have h8 := sofb nn f 8
  refine xr_stp rfl rfl rfl rfl ?_
  refine xr_stp rfl rfl rfl rfl ?_
  refine xr_stp rfl rfl rfl rfl ?_
  refine xr_cps rfl rfl rfl (fun r1 K2 => lw_feeds _ _ _ (sof nn f 8) 687 t2 _ _ (by omega) hT2.lt (by omega) W2 hO n0 tp hn0 hrd2 hX2 r1 (fun W3 tp3 c3 s3 ec3 es3 hrd3 htp3 hf3 => K2 _ _ _ _ ?_))
  have hT3 : TOK nn f 8 tp3 := fun i hi j hj => by
    have e2 := sofm nn f (8 - (i + 1)) (i + 1)
    rw [show i + 1 + (8 - (i + 1)) = 8 by omega] at e2
    have e3 : sof nn f (i + 1) = sof nn f i + sl nn f i := rfl
    rw [htp3 _ (by omega)]
    exact hT2 i hi j hj
  have nr : ∀ i, i < 18 ∨ 22 < i → ¬ rdp i := fun i hi z => by unfold rdp at z; omega
  have hc3 := cmx_k2 hc2 hf3 (fun i hi => nr i (by omega)) (hc2.1.2.2.2.2.1.keep hf3 (fun i hi => nr i (by omega)))
  have hx3 := hx2.keep hf3 (nr _ (by omega)) (nr _ (by omega)) (fun i h1 h2 => nr i (by omega))
  have hl3 := hc3.l
  have hR3 := hc3.R
  obtain ⟨lf3, lp3, hO3⟩ := hc3.o
  obtain ⟨-, ⟨st3, nx3, tk3, nu3, fa3, pl3, mn3, pa3, cd3, lw3, hrr⟩, -⟩ := id hrd3
  obtain ⟨⟨RD, x1, x2, x3⟩, ⟨TD, x4⟩⟩ := id hx3
  clear hO
  have hO := hO3
  refine xr_j1 rfl rfl rfl rfl rfl (fun h393 => ?_) (fun h393 => ?_)
  · have z393 := nt1_eq (by omega) h393
    exact (by omega)
  · refine xr_stp rfl rfl rfl rfl ?_
    refine xr_vcps hO rfl rfl rfl rfl rfl rfl (fun r1 K2 => cl_text _ _ _ W3.length 1 _ dl sy 4 48 W3 RD lf3 lp3 hO3 hR3 x1 hl3 hl3 (by omega) _ st3 nx3 tk3 nu3 fa3 pl3 mn3 pa3 cd3 lw3 hrr (fun W => SCT nn f W W3.length ∧ RDW (sof nn f 8) tp3 W) (fun r2 H => rd_SCR _ _ _ W3 nn f tp3 hrd3 hT3 hl3 r2 H) r1 (fun W4 W5 hP hf4 hf5 h17 h18 hR5 hrd5 => K2 _ _ _ _ ?_))
    have hc5 := hc3.txt hf4 hf5 ⟨_, _, h17⟩ rfl hR5 hrd5 x2 (by omega)
    have n5 : ∀ i, 18 < i → i ≠ 355 → i ≠ 356 → ¬ (i = 17 ∨ i = 18 ∨ i = 355 ∨ i = 356) := fun i h1 h2 h3 z => by omega
    have hS5 := hP.1.keep hf5 (fun i hi => n5 i (by omega) (by omega) (by omega))
    obtain ⟨CL, CO, BO, C, t1_, t2_, t3_, t4_, t5_⟩ := hS5
    clear hO
    have hO := h17
    refine xr_stp (st' := .int (Int32.ofNat 1) :: _) rfl rfl rfl rfl ?_
    refine xr_j2 rfl rfl rfl rfl rfl (fun h401 => ?_) (fun h401 => ?_)
    · have z401 := nt_ne h401
      exact (by omega)
    · refine xr_stp rfl rfl rfl rfl ?_
      refine xr_stp (st' := .int (Int32.ofNat 1) :: _) rfl rfl rfl rfl ?_
      refine xr_vcps hO rfl rfl rfl rfl rfl rfl (fun r1 K2 => cl_play1 _ _ _ nn q dl sy T N f W3.length CL _ _ C t3_ t4_ t5_ G W5 ⟨n, lo, A0, hlo, hnl, fi, hc5⟩ _ hrd5 (if_pos rfl) t1_ t2_ h4 hck (by omega) r1 (fun W6 hY6 hf6 => K2 _ _ _ _ ?_))
      obtain ⟨n6, lo6, A6, b61, b62, fi6, hc6⟩ := id hY6
      obtain ⟨lf6, lp6, hO6⟩ := hc6.o
      have hR6 := hc6.R
      clear hO
      have hO := hO6
      have np : ∀ i, 360 ≤ i ∨ i < 23 ∨ (355 ≤ i ∧ i ≤ 357) → ¬ pq i := fun i h1 z => by unfold pq at z; omega
      have hTX6 : TX0 W6 T := (((hTX2.keep hf3 (fun i hi => nr i (by omega))).keep hf4 (fun i hi => nr i (by omega))).keep hf5 (fun i hi => n5 i (by omega) (by omega) (by omega))).keep hf6 (fun i hi => np i (by omega))
      have t16 := hf6.at t1_ (np _ (by omega))
      have hrd6 := hf6.at hrd5 (np _ (by omega))
      obtain ⟨CL0, CO0, BO0, C0, y1, y2, y3, y4, y5, y6⟩ := id hTX6
      refine xr_stp rfl rfl rfl rfl ?_
      refine xr_j2 rfl rfl rfl rfl rfl (fun h411 => ?_) (fun h411 => ?_)
      · have z411 := nt_ne h411
        exact (by omega)
      · refine xr_stp rfl rfl rfl rfl ?_
        refine xr_stp (st' := .int (Int32.ofNat 2) :: _) rfl rfl rfl rfl ?_
        refine xr_vcps hO rfl rfl rfl rfl rfl rfl (fun r1 K2 => cl_play2 _ _ _ _ dl sy W6 _ _ hO6 hR6 r1 (K2 _ _ _ _ ?_))
        refine xr_stp (st' := .int (Int32.ofNat 4294967294) :: _) rfl rfl rfl rfl ?_
        refine xr_j2 rfl rfl rfl rfl rfl (fun h421 => ?_) (fun h421 => ?_)
        · have z421 := nt_ne h421
          exact (by omega)
        · refine xr_stp rfl rfl rfl rfl ?_
          refine xr_stp (st' := .int (Int32.ofNat 0) :: _) rfl rfl rfl rfl ?_
          refine xr_vcps hO rfl rfl rfl rfl rfl rfl (fun r1 K2 => cl_play0 _ _ _ T CL0 2 _ dl sy _ _ C0 W6 _ _ hO6 hR6 (by omega) (by omega) _ hrd6 ((if_neg (by omega)).trans x2) y1 y2 y3 y4 r1 (K2 _ _ _ _ ?_))
          refine xr_stp (st' := .int (Int32.ofNat 4294967295) :: _) rfl rfl rfl rfl ?_
          refine xr_j2 rfl rfl rfl rfl rfl (fun h430 => ?_) (fun h430 => ?_)
          · have z430 := nt_ne h430
            exact (by omega)
          · refine xr_stp rfl rfl rfl rfl ?_
            refine xr_stp rfl rfl rfl rfl ?_
            have F36 : fr sP W3 W6 := (hf4.weak (P2 := sP) (fun i _ z => by unfold rdp at z; unfold sP; omega)).tr ((hf5.weak (P2 := sP) (fun i _ z => by have z : i = 17 ∨ i = 18 ∨ i = 355 ∨ i = 356 := z; unfold sP; omega)).tr (hf6.weak (P2 := sP) (fun i _ z => by unfold pq at z; unfold sP; omega)))
            have F23 : fr sP W2 W3 := hf3.weak (fun i _ z => by unfold rdp at z; unfold sP; omega)
            have ns : ∀ i, 687 < i → ¬ sP i := fun i h z => by unfold sP at z; omega
            have hx6 : rex T W6 := ⟨⟨_, hrd6, (if_neg (by omega)).trans x2, fun i hi => ?_⟩, ⟨TD, hf6.at (hf5.at (hf4.at x4 (nr _ (by omega))) (n5 _ (by omega) (by omega) (by omega))) (np _ (by omega))⟩⟩
            · exact xr_ret rfl rfl (K W6 U _ _ (by omega) (by omega) hY6 hx6 (F36.at (F23.at hU2 (ns _ (by omega))) (ns _ (by omega))) (by omega) (by omega) (F2.tr (F23.tr F36)))
            · by_cases e : i = 1
              · subst e; exact Or.inr ⟨W3.length, _, if_pos rfl, t4_, t16⟩
              · rcases x3 i hi with e0 | ⟨u, L4, e1, e2, e3⟩
                · exact Or.inl ((if_neg e).trans e0)
                · exact Or.inr ⟨u, L4, (if_neg e).trans e1, e2, hf6.at (hf5.at (hf4.at e3 (nr _ (by omega))) (n5 _ (by omega) (by omega) (by omega))) (np _ (by omega))⟩
