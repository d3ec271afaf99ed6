/-! same: messages, the book, the end -/
def tnI (G : Nat → Nat) : Nat → Nat → Nat
  | 0 => G
  | i + 1 => lw_tn (tnI G i) 0
theorem tnI_v (G : Nat → Nat) : ∀ i, i ≤ G 410 → tnI G i 410 = G 410 - i ∧ ∀ j x, i + j < G 410 → x < 8 → tnI G i (411 + 8 * j + x) = G (411 + 8 * (i + j) + x)
  | 0, _ => ⟨rfl, fun j x _ _ => by rw [Nat.zero_add]; rfl⟩
  | i + 1, h => by
    obtain ⟨a, b⟩ := tnI_v G i (by omega)
    unfold tnI
    refine ⟨by rw [lw_tn4, a]; omega, fun j x h1 h2 => ?_⟩
    rw [lw_tnv _ _ (by omega), a, if_pos (by omega), show 411 + 8 * j + x + 8 = 411 + 8 * (j + 1) + x by omega, b (j + 1) x (by omega) h2, show i + (j + 1) = i + 1 + j by omega]
theorem tnI_b {G : Nat → Nat} (h : ∀ j, G j < 9223372036854775808) : ∀ i j, tnI G i j < 9223372036854775808
  | 0, j => h j
  | i + 1, j => by
    unfold tnI
    by_cases e : j = 410
    · subst e
      rw [lw_tn4]
      have := tnI_b h i 410
      omega
    · rw [lw_tnv _ _ e]
      split
      · exact tnI_b h i _
      · exact tnI_b h i _
theorem tnI_0 {G : Nat → Nat} (h : fo G) (i : Nat) (hi : i < G 410) : lw_fi (tnI G i) (tnI G i 410) 0 4294967295 = 0 := by
  obtain ⟨a, b⟩ := tnI_v G i (by omega)
  refine lw_ft0 (G := tnI G i) (fun x y h1 h2 => ?_) (by omega)
  rw [b x 2 (by omega) (by omega), b y 2 (by omega) (by omega), b x 3 (by omega) (by omega), b y 3 (by omega) (by omega)]
  exact h (i + x) (i + y) (by omega) (by omega)
theorem bc_0 : ∀ n, bc n 0 = 0
  | 0 => rfl
  | n + 1 => by rw [bc_tb, bc_0 n, if_neg (by rw [Nat.zero_testBit]; decide)]
theorem sqI_v {G : Nat → Nat} (t : Nat) : ∀ (m u a : Nat), a = 0 ∨ a = 1 → (sqI G t m u a = 0 ∨ sqI G t m u a = 1) ∧ (sqI G t m u a = 1 ↔ a = 1 ∧ ∀ v, u ≤ v → v < u + m → v ≠ t → lw_be G t v = 0)
  | 0, u, a, h => by
    unfold sqI
    exact ⟨h, ⟨fun e => ⟨e, fun v h1 h2 => by omega⟩, fun e => e.1⟩⟩
  | m + 1, u, a, h => by
    unfold sqI
    have e1 : a &&& 1 = a := by rcases h with rfl | rfl <;> rfl
    by_cases z : u = t
    · rw [if_pos z]
      obtain ⟨i1, i2⟩ := sqI_v (G := G) t m (u + 1) a h
      refine ⟨i1, i2.trans ⟨fun y => ⟨y.1, fun v h1 h2 h3 => y.2 v (by omega) (by omega) h3⟩, fun y => ⟨y.1, fun v h1 h2 h3 => y.2 v (by omega) (by omega) h3⟩⟩⟩
    · rw [if_neg z]
      by_cases y : lw_be G t u = 0
      · rw [if_pos y, e1]
        obtain ⟨i1, i2⟩ := sqI_v (G := G) t m (u + 1) a h
        refine ⟨i1, i2.trans ⟨fun w => ⟨w.1, fun v h1 h2 h3 => ?_⟩, fun w => ⟨w.1, fun v h1 h2 h3 => w.2 v (by omega) (by omega) h3⟩⟩⟩
        by_cases e : v = u
        · rw [e]; exact y
        · exact w.2 v (by omega) (by omega) h3
      · rw [if_neg y, Nat.and_zero]
        obtain ⟨i1, i2⟩ := sqI_v (G := G) t m (u + 1) 0 (Or.inl rfl)
        exact ⟨i1, i2.trans ⟨fun w => absurd w.1 (by omega), fun w => absurd (w.2 u (by omega) (by omega) z) y⟩⟩
theorem sqO_v {G : Nat → Nat} : ∀ (m t a : Nat), a = 0 ∨ a = 1 → (sqO G m t a = 0 ∨ sqO G m t a = 1) ∧ (sqO G m t a = 1 ↔ a = 1 ∧ ∀ x v, t ≤ x → x < t + m → v < 4 → v ≠ x → lw_be G x v = 0)
  | 0, t, a, h => by
    unfold sqO
    exact ⟨h, ⟨fun e => ⟨e, fun x v h1 h2 => by omega⟩, fun e => e.1⟩⟩
  | m + 1, t, a, h => by
    unfold sqO
    obtain ⟨j1, j2⟩ := sqI_v (G := G) t 4 0 a h
    obtain ⟨i1, i2⟩ := sqO_v (G := G) m (t + 1) (sqI G t 4 0 a) j1
    refine ⟨i1, i2.trans ⟨fun w => ⟨(j2.mp w.1).1, fun x v h1 h2 h3 h4 => ?_⟩, fun w => ⟨j2.mpr ⟨w.1, fun v h1 h2 h3 => w.2 t v (Nat.le_refl _) (by omega) (by omega) h3⟩, fun x v h1 h2 h3 h4 => w.2 x v (by omega) (by omega) h3 h4⟩⟩⟩
    by_cases e : x = t
    · rw [e] at h4 ⊢
      exact (j2.mp w.1).2 v (by omega) (by omega) h4
    · exact w.2 x v (by omega) (by omega) h3 h4
theorem sq_qu (G : Nat → Nat) : sqO G 4 0 (if G 410 = 0 then 1 else 0) = qu G := by
  obtain ⟨i1, i2⟩ := sqO_v (G := G) 4 0 (if G 410 = 0 then 1 else 0) (by split <;> omega)
  obtain ⟨q1, q2⟩ := qu_iff G
  have e : sqO G 4 0 (if G 410 = 0 then 1 else 0) = 1 ↔ qu G = 1 := by
    rw [i2, q2]
    constructor
    · rintro ⟨a, b⟩
      refine ⟨?_, fun u t h1 h2 h3 => b u t (by omega) (by omega) h2 (fun e => h3 e.symm)⟩
      by_cases z : G 410 = 0
      · exact z
      · rw [if_neg z] at a; exact absurd a (by omega)
    · rintro ⟨a, b⟩
      exact ⟨if_pos a, fun x v h1 h2 h3 h4 => b x v (by omega) h3 (fun e => h4 e.symm)⟩
  omega
theorem ldg_top (G : Nat → Nat) (k : Nat) : ∀ (m i a : Nat), ldg G k (m + 1) i a = ldg G k m i a + (if G (605 + 4 * (i + m)) = k then 1 else 0)
  | 0, i, a => rfl
  | m + 1, i, a => by
    have ih := ldg_top G k m (i + 1) (a + if G (605 + 4 * i) = k then 1 else 0)
    rw [show i + 1 + m = i + (m + 1) by omega] at ih
    exact ih
theorem sa_f (d : Nat) (nn q dl tx sy T N fi m mm A : Nat) (f : Nat → Int32) (G : Nat → Nat) (GS : Nat → Nat → Nat) (r : xi_R → Prop) (qv fv B : Nat) : ∀ (m1 z : Nat) (W0 : xi_W) (c s : Nat), z + m1 = G 410 → scn nn f q dl tx sy T N fi m mm G GS A W0 → W0[B]? = some (lw_a 1804 (tnI G z)) → 696 ≤ B → B ≠ A → (∀ W' c' s', c' ≤ c + m1 → s' ≤ s + 8 * m1 → scn nn f q dl tx sy T N fi m mm G GS A W' → fr (fun i => i = B) W0 W' → xr (d + 8) 202 809 [(0, .ref 17), (3, .ref A), (4, .int (Int32.ofNat qv)), (5, .int (Int32.ofNat fv))] [] W' c' s' r) → xr (d + 8) 202 626 [(0, .ref 17), (3, .ref A), (4, .int (Int32.ofNat qv)), (5, .int (Int32.ofNat fv)), (6, .ref B), (7, .int (Int32.ofNat z))] [] W0 c s r
  | 0, z, W0, c, s, hz5, hs, hB, gB, nBA, K => by
    obtain ⟨hc, hA, hS, gA, hz, hN, hnn⟩ := id hs
    obtain ⟨F, hw, hr⟩ := hc.w
    have J := hr.j
    have he := hr.e
    have J4 := J.e
    have b63 := J.b63
    have gA7 : 17 ≤ A := by omega
    obtain ⟨lf, lp, hO⟩ := hc.o
    have hm := J.m
    refine xr_stp rfl rfl rfl rfl ?_
    refine xs_i2l (by omega) rfl ?_
    refine xr_stp rfl rfl rfl rfl ?_
    refine xr_stp (st' := .int (Int32.ofNat 410) :: _) rfl rfl rfl rfl ?_
    refine xs_ald hA gA7 (by omega) (by omega) rfl ?_
    refine xs_lc (by omega) (by omega) rfl ?_
    refine xr_j1 rfl rfl rfl rfl rfl (fun h635 => ?_) (fun h635 => ?_)
    · refine xr_loc [(0, .ref 17), (3, .ref A), (4, .int (Int32.ofNat qv)), (5, .int (Int32.ofNat fv))] ⟨rfl, rfl, rfl, rfl, trivial⟩ rfl ?_
      exact K W0 c s (by omega) (by omega) hs fr.rf
    · have z635 := lf_ge h635
      exact (by omega)
  | m1 + 1, z, W0, c, s, hz5, hs, hB, gB, nBA, K => by
    obtain ⟨hc, hA, hS, gA, hz, hN, hnn⟩ := id hs
    obtain ⟨F, hw, hr⟩ := hc.w
    have J := hr.j
    have he := hr.e
    have J4 := J.e
    have b63 := J.b63
    have gA7 : 17 ≤ A := by omega
    obtain ⟨lf, lp, hO⟩ := hc.o
    have hm := J.m
    obtain ⟨t4, tv⟩ := tnI_v G z (by omega)
    have hfm := J.f z (by omega)
    unfold lw_fm at hfm
    have hiv := hr.iv.2.2.2.1 z (by omega)
    have hd1 := J.d1
    have hn0 := J.n0
    have hcc : ∀ x, x < 4 → G (338 + x) ≤ N := fun x hx => (J.c x hx).2.2
    have hup : G (411 + 8 * z + 4) ≤ N := by
      have a := hcc (G (411 + 8 * z)) hfm.1
      have b := hcc (G (411 + 8 * z + 1)) hfm.2.1
      have e := hfm.2.2.2
      split at e <;> omega
    have p0 : lw_tm (tnI G z) 0 0 = G (411 + 8 * z + 0) := by rw [lw_tmv _ _ (by omega)]; exact tv 0 0 (by omega) (by omega)
    have p1 : lw_tm (tnI G z) 0 1 = G (411 + 8 * z + 1) := by rw [lw_tmv _ _ (by omega)]; exact tv 0 1 (by omega) (by omega)
    have p2 : lw_tm (tnI G z) 0 2 = G (411 + 8 * z + 2) := by rw [lw_tmv _ _ (by omega)]; exact tv 0 2 (by omega) (by omega)
    have p3 : lw_tm (tnI G z) 0 3 = G (411 + 8 * z + 3) := by rw [lw_tmv _ _ (by omega)]; exact tv 0 3 (by omega) (by omega)
    have p4 : lw_tm (tnI G z) 0 4 = G (411 + 8 * z + 4) := by rw [lw_tmv _ _ (by omega)]; exact tv 0 4 (by omega) (by omega)
    have p5 : lw_tm (tnI G z) 0 5 = G (411 + 8 * z + 5) := by rw [lw_tmv _ _ (by omega)]; exact tv 0 5 (by omega) (by omega)
    have p6 : lw_tm (tnI G z) 0 6 = G (411 + 8 * z + 6) := by rw [lw_tmv _ _ (by omega)]; exact tv 0 6 (by omega) (by omega)
    have p7 : lw_tm (tnI G z) 0 7 = G (411 + 8 * z + 7) := by rw [lw_tmv _ _ (by omega)]; exact tv 0 7 (by omega) (by omega)
    have b6 := b63 (411 + 8 * z + 6)
    have b7 := b63 (411 + 8 * z + 7)
    have f50 : G (411 + 8 * z + 0) < 4 := hfm.1
    by_cases h5 : G (411 + 8 * z + 5) = 1
    · have a5 := hz.1 z (by omega) h5
      have a6 : bc 63 (G (411 + 8 * z + 6)) = 0 := by rw [a5.1]; exact bc_0 63
      have a7 : bc 63 (G (411 + 8 * z + 7)) = 0 := by rw [a5.2]; exact bc_0 63
      refine xr_stp rfl rfl rfl rfl ?_
      refine xs_i2l (by omega) rfl ?_
      refine xr_stp rfl rfl rfl rfl ?_
      refine xr_stp (st' := .int (Int32.ofNat 410) :: _) rfl rfl rfl rfl ?_
      refine xs_ald hA gA7 (by omega) (by omega) rfl ?_
      refine xs_lc (by omega) (by omega) rfl ?_
      refine xr_j1 rfl rfl rfl rfl rfl (fun h635 => ?_) (fun h635 => ?_)
      · have z635 := lt_ge h635
        exact (by omega)
      · refine xr_stp rfl rfl rfl rfl ?_
        refine xr_stp rfl rfl rfl rfl ?_
        refine xr_cps rfl rfl rfl (fun r1 K2 => lw_first _ _ _ B W0 (tnI G z) hB (by omega) (tnI_b b63 z) (by omega) r1 (K2 _ _ _ _ ?_))
        rw [tnI_0 hr.iv.2.2.2.2.1 z (by omega)]
        refine xr_cps rfl rfl rfl (fun r1 K2 => lw_taken _ _ _ B W0 (tnI G z) hB (by omega) 0 (by omega) (by omega) r1 (fun M W1 zM hM hB1 hf1 => K2 _ _ _ _ ?_))
        have hs1 := hs.oth hf1 (fun i z => by have z : i = B := z; omega)
        have gM : 17 ≤ M := by have := hc.l; omega
        clear hc hA hS hO
        obtain ⟨hc, hA, hS, -⟩ := id hs1
        obtain ⟨lf, lp, hO⟩ := hc.o
        refine xr_stp rfl rfl rfl rfl ?_
        refine xr_stp rfl rfl rfl rfl ?_
        refine xr_stp (st' := .int (Int32.ofNat 5) :: _) rfl rfl rfl rfl ?_
        refine xs_ald hM gM (by omega) (by omega) rfl ?_
        refine xr_stp (st' := .long (Int64.ofNat 1) :: _) rfl rfl rfl rfl ?_
        refine xs_lc (by omega) (by omega) rfl ?_
        refine xr_j1 rfl rfl rfl rfl rfl (fun h656 => ?_) (fun h656 => ?_)
        · have z656 := lt_ne h656
          exact (by omega)
        · refine xr_stp (st' := .int (Int32.ofNat 1) :: _) rfl rfl rfl rfl ?_
          refine xr_stp rfl rfl rfl rfl ?_
          refine xr_stp rfl rfl rfl rfl ?_
          refine xr_stp rfl rfl rfl rfl ?_
          refine xr_stp rfl rfl rfl rfl ?_
          refine xr_stp (st' := .int (Int32.ofNat 0) :: _) rfl rfl rfl rfl ?_
          refine xr_vcps hO rfl rfl rfl rfl rfl rfl (fun r1 K2 => cq_fli0 _ _ _ nn q dl tx sy T N fi m mm f W1 G GS hc z (by omega) r1 (K2 _ _ _ _ ?_))
          refine xs_i2l (by omega) rfl ?_
          refine xr_stp rfl rfl rfl rfl ?_
          refine xr_stp (st' := .int (Int32.ofNat 0) :: _) rfl rfl rfl rfl ?_
          refine xs_ald hM gM (by omega) (by omega) rfl ?_
          refine xs_lc (by omega) (by omega) rfl ?_
          refine xr_j1 rfl rfl rfl rfl rfl (fun h679 => ?_) (fun h679 => ?_)
          · have z679 := lt_ne h679
            exact (by omega)
          · refine xr_stp rfl rfl rfl rfl ?_
            refine xr_stp rfl rfl rfl rfl ?_
            refine xr_stp (st' := .int (Int32.ofNat 1) :: _) rfl rfl rfl rfl ?_
            refine xr_vcps hO rfl rfl rfl rfl rfl rfl (fun r1 K2 => cq_fli1 _ _ _ nn q dl tx sy T N fi m mm f W1 G GS hc z (by omega) r1 (K2 _ _ _ _ ?_))
            refine xs_i2l (by omega) rfl ?_
            refine xr_stp rfl rfl rfl rfl ?_
            refine xr_stp (st' := .int (Int32.ofNat 1) :: _) rfl rfl rfl rfl ?_
            refine xs_ald hM gM (by omega) (by omega) rfl ?_
            refine xs_lc (by omega) (by omega) rfl ?_
            refine xr_j1 rfl rfl rfl rfl rfl (fun h695 => ?_) (fun h695 => ?_)
            · have z695 := lt_ne h695
              exact (by omega)
            · refine xr_stp rfl rfl rfl rfl ?_
              refine xr_stp rfl rfl rfl rfl ?_
              refine xr_stp (st' := .int (Int32.ofNat 2) :: _) rfl rfl rfl rfl ?_
              refine xr_vcps hO rfl rfl rfl rfl rfl rfl (fun r1 K2 => cq_fli2 _ _ _ nn q dl tx sy T N fi m mm f W1 G GS hc z (by omega) r1 (K2 _ _ _ _ ?_))
              refine xs_i2l (by omega) rfl ?_
              refine xr_stp rfl rfl rfl rfl ?_
              refine xr_stp (st' := .int (Int32.ofNat 2) :: _) rfl rfl rfl rfl ?_
              refine xs_ald hM gM (by omega) (by omega) rfl ?_
              refine xs_lc (by omega) (by omega) rfl ?_
              refine xr_j1 rfl rfl rfl rfl rfl (fun h711 => ?_) (fun h711 => ?_)
              · have z711 := lt_ne h711
                exact (by omega)
              · refine xr_stp rfl rfl rfl rfl ?_
                refine xr_stp rfl rfl rfl rfl ?_
                refine xr_stp (st' := .int (Int32.ofNat 3) :: _) rfl rfl rfl rfl ?_
                refine xr_vcps hO rfl rfl rfl rfl rfl rfl (fun r1 K2 => cq_fli3 _ _ _ nn q dl tx sy T N fi m mm f W1 G GS hc z (by omega) r1 (K2 _ _ _ _ ?_))
                refine xs_i2l (by omega) rfl ?_
                refine xr_stp rfl rfl rfl rfl ?_
                refine xr_stp (st' := .int (Int32.ofNat 5) :: _) rfl rfl rfl rfl ?_
                refine xs_ald hM gM (by omega) (by omega) rfl ?_
                refine xs_lc (by omega) (by omega) rfl ?_
                refine xr_j1 rfl rfl rfl rfl rfl (fun h727 => ?_) (fun h727 => ?_)
                · have z727 := lt_ne h727
                  exact (by omega)
                · refine xr_stp rfl rfl rfl rfl ?_
                  refine xr_stp rfl rfl rfl rfl ?_
                  refine xr_stp (st' := .int (Int32.ofNat 4) :: _) rfl rfl rfl rfl ?_
                  refine xr_vcps hO rfl rfl rfl rfl rfl rfl (fun r1 K2 => cq_fli4 _ _ _ nn q dl tx sy T N fi m mm f W1 G GS hc z (by omega) r1 (K2 _ _ _ _ ?_))
                  refine xs_i2l (by omega) rfl ?_
                  refine xr_stp rfl rfl rfl rfl ?_
                  refine xr_stp (st' := .int (Int32.ofNat 4) :: _) rfl rfl rfl rfl ?_
                  refine xs_ald hM gM (by omega) (by omega) rfl ?_
                  refine xs_lc (by omega) (by omega) rfl ?_
                  refine xr_j1 rfl rfl rfl rfl rfl (fun h743 => ?_) (fun h743 => ?_)
                  · have z743 := lt_ne h743
                    exact (by omega)
                  · refine xr_stp rfl rfl rfl rfl ?_
                    refine xr_stp rfl rfl rfl rfl ?_
                    refine xr_stp (st' := .int (Int32.ofNat 5) :: _) rfl rfl rfl rfl ?_
                    refine xr_vcps hO rfl rfl rfl rfl rfl rfl (fun r1 K2 => cq_fli5 _ _ _ nn q dl tx sy T N fi m mm f W1 G GS hc z (by omega) r1 (K2 _ _ _ _ ?_))
                    refine xr_stp rfl rfl rfl rfl ?_
                    refine xr_j1 rfl rfl rfl rfl rfl (fun h755 => ?_) (fun h755 => ?_)
                    · have z755 := nt1_eq (by omega) h755
                      exact (by omega)
                    · refine xr_stp (st' := .int (Int32.ofNat 0) :: _) rfl rfl rfl rfl ?_
                      refine xr_stp rfl rfl rfl rfl ?_
                      refine xr_j2 rfl rfl rfl rfl rfl (fun h770 => ?_) (fun h770 => ?_)
                      · have z770 := nt_ne h770
                        exact (by omega)
                      · refine xr_stp rfl rfl rfl rfl ?_
                        refine xr_stp rfl rfl rfl rfl ?_
                        refine xr_stp (st' := .int (Int32.ofNat 6) :: _) rfl rfl rfl rfl ?_
                        refine xr_vcps hO rfl rfl rfl rfl rfl rfl (fun r1 K2 => cq_fli6 _ _ _ nn q dl tx sy T N fi m mm f W1 G GS hc z (by omega) r1 (K2 _ _ _ _ ?_))
                        refine xr_stp rfl rfl rfl rfl ?_
                        refine xr_j1 rfl rfl rfl rfl rfl (fun h783 => ?_) (fun h783 => ?_)
                        · have z783 := nt1_eq (by omega) h783
                          exact (by omega)
                        · refine xr_stp (st' := .int (Int32.ofNat 0) :: _) rfl rfl rfl rfl ?_
                          refine xr_stp rfl rfl rfl rfl ?_
                          refine xr_j2 rfl rfl rfl rfl rfl (fun h798 => ?_) (fun h798 => ?_)
                          · refine xs_inc (e := 1) rfl rfl rfl rfl ?_
                            refine xr_stp rfl rfl rfl rfl ?_
                            refine xr_loc [(0, .ref 17), (3, .ref A), (4, .int (Int32.ofNat qv)), (5, .int (Int32.ofNat fv)), (6, .ref B), (7, .int (Int32.ofNat (z + 1)))] ⟨rfl, rfl, rfl, rfl, rfl, rfl, trivial⟩ rfl ?_
                            exact sa_f d nn q dl tx sy T N fi m mm A f G GS r qv fv B m1 (z + 1) W1 _ _ (by omega) hs1 hB1 gB nBA (fun W5 c5 s5 k1 k2 k3 k4 => K W5 c5 s5 (by omega) (by omega) k3 ((hf1.weak (P2 := fun i => i = B) (fun i _ z => z)).tr k4))
                          · have z798 := nf_eq h798
                            exact (by omega)
    · have c6 := bcle 63 (G (411 + 8 * z + 6))
      have c7 := bcle 63 (G (411 + 8 * z + 7))
      refine xr_stp rfl rfl rfl rfl ?_
      refine xs_i2l (by omega) rfl ?_
      refine xr_stp rfl rfl rfl rfl ?_
      refine xr_stp (st' := .int (Int32.ofNat 410) :: _) rfl rfl rfl rfl ?_
      refine xs_ald hA gA7 (by omega) (by omega) rfl ?_
      refine xs_lc (by omega) (by omega) rfl ?_
      refine xr_j1 rfl rfl rfl rfl rfl (fun h635 => ?_) (fun h635 => ?_)
      · have z635 := lt_ge h635
        exact (by omega)
      · refine xr_stp rfl rfl rfl rfl ?_
        refine xr_stp rfl rfl rfl rfl ?_
        refine xr_cps rfl rfl rfl (fun r1 K2 => lw_first _ _ _ B W0 (tnI G z) hB (by omega) (tnI_b b63 z) (by omega) r1 (K2 _ _ _ _ ?_))
        rw [tnI_0 hr.iv.2.2.2.2.1 z (by omega)]
        refine xr_cps rfl rfl rfl (fun r1 K2 => lw_taken _ _ _ B W0 (tnI G z) hB (by omega) 0 (by omega) (by omega) r1 (fun M W1 zM hM hB1 hf1 => K2 _ _ _ _ ?_))
        have hs1 := hs.oth hf1 (fun i z => by have z : i = B := z; omega)
        have gM : 17 ≤ M := by have := hc.l; omega
        clear hc hA hS hO
        obtain ⟨hc, hA, hS, -⟩ := id hs1
        obtain ⟨lf, lp, hO⟩ := hc.o
        refine xr_stp rfl rfl rfl rfl ?_
        refine xr_stp rfl rfl rfl rfl ?_
        refine xr_stp (st' := .int (Int32.ofNat 5) :: _) rfl rfl rfl rfl ?_
        refine xs_ald hM gM (by omega) (by omega) rfl ?_
        refine xr_stp (st' := .long (Int64.ofNat 1) :: _) rfl rfl rfl rfl ?_
        refine xs_lc (by omega) (by omega) rfl ?_
        refine xr_j1 rfl rfl rfl rfl rfl (fun h656 => ?_) (fun h656 => ?_)
        · refine xr_stp (st' := .int (Int32.ofNat 0) :: _) rfl rfl rfl rfl ?_
          refine xr_stp rfl rfl rfl rfl ?_
          refine xr_stp rfl rfl rfl rfl ?_
          refine xr_stp rfl rfl rfl rfl ?_
          refine xr_stp (st' := .int (Int32.ofNat 0) :: _) rfl rfl rfl rfl ?_
          refine xr_vcps hO rfl rfl rfl rfl rfl rfl (fun r1 K2 => cq_fli0 _ _ _ nn q dl tx sy T N fi m mm f W1 G GS hc z (by omega) r1 (K2 _ _ _ _ ?_))
          refine xs_i2l (by omega) rfl ?_
          refine xr_stp rfl rfl rfl rfl ?_
          refine xr_stp (st' := .int (Int32.ofNat 0) :: _) rfl rfl rfl rfl ?_
          refine xs_ald hM gM (by omega) (by omega) rfl ?_
          refine xs_lc (by omega) (by omega) rfl ?_
          refine xr_j1 rfl rfl rfl rfl rfl (fun h679 => ?_) (fun h679 => ?_)
          · have z679 := lt_ne h679
            exact (by omega)
          · refine xr_stp rfl rfl rfl rfl ?_
            refine xr_stp rfl rfl rfl rfl ?_
            refine xr_stp (st' := .int (Int32.ofNat 1) :: _) rfl rfl rfl rfl ?_
            refine xr_vcps hO rfl rfl rfl rfl rfl rfl (fun r1 K2 => cq_fli1 _ _ _ nn q dl tx sy T N fi m mm f W1 G GS hc z (by omega) r1 (K2 _ _ _ _ ?_))
            refine xs_i2l (by omega) rfl ?_
            refine xr_stp rfl rfl rfl rfl ?_
            refine xr_stp (st' := .int (Int32.ofNat 1) :: _) rfl rfl rfl rfl ?_
            refine xs_ald hM gM (by omega) (by omega) rfl ?_
            refine xs_lc (by omega) (by omega) rfl ?_
            refine xr_j1 rfl rfl rfl rfl rfl (fun h695 => ?_) (fun h695 => ?_)
            · have z695 := lt_ne h695
              exact (by omega)
            · refine xr_stp rfl rfl rfl rfl ?_
              refine xr_stp rfl rfl rfl rfl ?_
              refine xr_stp (st' := .int (Int32.ofNat 2) :: _) rfl rfl rfl rfl ?_
              refine xr_vcps hO rfl rfl rfl rfl rfl rfl (fun r1 K2 => cq_fli2 _ _ _ nn q dl tx sy T N fi m mm f W1 G GS hc z (by omega) r1 (K2 _ _ _ _ ?_))
              refine xs_i2l (by omega) rfl ?_
              refine xr_stp rfl rfl rfl rfl ?_
              refine xr_stp (st' := .int (Int32.ofNat 2) :: _) rfl rfl rfl rfl ?_
              refine xs_ald hM gM (by omega) (by omega) rfl ?_
              refine xs_lc (by omega) (by omega) rfl ?_
              refine xr_j1 rfl rfl rfl rfl rfl (fun h711 => ?_) (fun h711 => ?_)
              · have z711 := lt_ne h711
                exact (by omega)
              · refine xr_stp rfl rfl rfl rfl ?_
                refine xr_stp rfl rfl rfl rfl ?_
                refine xr_stp (st' := .int (Int32.ofNat 3) :: _) rfl rfl rfl rfl ?_
                refine xr_vcps hO rfl rfl rfl rfl rfl rfl (fun r1 K2 => cq_fli3 _ _ _ nn q dl tx sy T N fi m mm f W1 G GS hc z (by omega) r1 (K2 _ _ _ _ ?_))
                refine xs_i2l (by omega) rfl ?_
                refine xr_stp rfl rfl rfl rfl ?_
                refine xr_stp (st' := .int (Int32.ofNat 5) :: _) rfl rfl rfl rfl ?_
                refine xs_ald hM gM (by omega) (by omega) rfl ?_
                refine xs_lc (by omega) (by omega) rfl ?_
                refine xr_j1 rfl rfl rfl rfl rfl (fun h727 => ?_) (fun h727 => ?_)
                · have z727 := lt_ne h727
                  exact (by omega)
                · refine xr_stp rfl rfl rfl rfl ?_
                  refine xr_stp rfl rfl rfl rfl ?_
                  refine xr_stp (st' := .int (Int32.ofNat 4) :: _) rfl rfl rfl rfl ?_
                  refine xr_vcps hO rfl rfl rfl rfl rfl rfl (fun r1 K2 => cq_fli4 _ _ _ nn q dl tx sy T N fi m mm f W1 G GS hc z (by omega) r1 (K2 _ _ _ _ ?_))
                  refine xs_i2l (by omega) rfl ?_
                  refine xr_stp rfl rfl rfl rfl ?_
                  refine xr_stp (st' := .int (Int32.ofNat 4) :: _) rfl rfl rfl rfl ?_
                  refine xs_ald hM gM (by omega) (by omega) rfl ?_
                  refine xs_lc (by omega) (by omega) rfl ?_
                  refine xr_j1 rfl rfl rfl rfl rfl (fun h743 => ?_) (fun h743 => ?_)
                  · have z743 := lt_ne h743
                    exact (by omega)
                  · refine xr_stp rfl rfl rfl rfl ?_
                    refine xr_stp rfl rfl rfl rfl ?_
                    refine xr_stp (st' := .int (Int32.ofNat 5) :: _) rfl rfl rfl rfl ?_
                    refine xr_vcps hO rfl rfl rfl rfl rfl rfl (fun r1 K2 => cq_fli5 _ _ _ nn q dl tx sy T N fi m mm f W1 G GS hc z (by omega) r1 (K2 _ _ _ _ ?_))
                    refine xr_stp rfl rfl rfl rfl ?_
                    refine xr_j1 rfl rfl rfl rfl rfl (fun h755 => ?_) (fun h755 => ?_)
                    · refine xr_stp rfl rfl rfl rfl ?_
                      refine xr_stp (st' := .int (Int32.ofNat 6) :: _) rfl rfl rfl rfl ?_
                      refine xs_ald hM gM (by omega) (by omega) rfl ?_
                      refine xr_cps rfl rfl rfl (fun r1 K2 => lw_many _ _ _ _ W1 (by omega) r1 (K2 _ _ _ _ ?_))
                      rw [p6]
                      refine xr_j2 rfl rfl rfl rfl rfl (fun h770 => ?_) (fun h770 => ?_)
                      · have z770 := nt_ne h770
                        exact (by omega)
                      · refine xr_stp rfl rfl rfl rfl ?_
                        refine xr_stp rfl rfl rfl rfl ?_
                        refine xr_stp (st' := .int (Int32.ofNat 6) :: _) rfl rfl rfl rfl ?_
                        refine xr_vcps hO rfl rfl rfl rfl rfl rfl (fun r1 K2 => cq_fli6 _ _ _ nn q dl tx sy T N fi m mm f W1 G GS hc z (by omega) r1 (K2 _ _ _ _ ?_))
                        refine xr_stp rfl rfl rfl rfl ?_
                        refine xr_j1 rfl rfl rfl rfl rfl (fun h783 => ?_) (fun h783 => ?_)
                        · refine xr_stp rfl rfl rfl rfl ?_
                          refine xr_stp (st' := .int (Int32.ofNat 7) :: _) rfl rfl rfl rfl ?_
                          refine xs_ald hM gM (by omega) (by omega) rfl ?_
                          refine xr_cps rfl rfl rfl (fun r1 K2 => lw_many _ _ _ _ W1 (by omega) r1 (K2 _ _ _ _ ?_))
                          rw [p7]
                          refine xr_j2 rfl rfl rfl rfl rfl (fun h798 => ?_) (fun h798 => ?_)
                          · refine xs_inc (e := 1) rfl rfl rfl rfl ?_
                            refine xr_stp rfl rfl rfl rfl ?_
                            refine xr_loc [(0, .ref 17), (3, .ref A), (4, .int (Int32.ofNat qv)), (5, .int (Int32.ofNat fv)), (6, .ref B), (7, .int (Int32.ofNat (z + 1)))] ⟨rfl, rfl, rfl, rfl, rfl, rfl, trivial⟩ rfl ?_
                            exact sa_f d nn q dl tx sy T N fi m mm A f G GS r qv fv B m1 (z + 1) W1 _ _ (by omega) hs1 hB1 gB nBA (fun W5 c5 s5 k1 k2 k3 k4 => K W5 c5 s5 (by omega) (by omega) k3 ((hf1.weak (P2 := fun i => i = B) (fun i _ z => z)).tr k4))
                          · have z798 := nf_eq h798
                            exact (by omega)
                        · have z783 := nf1_eq h783
                          exact (by omega)
                    · have z755 := nf1_eq h755
                      exact (by omega)
        · have z656 := lf_ne h656
          exact (by omega)

