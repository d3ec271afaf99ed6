/-! the law itself: a step's clear, reset, send -/
theorem mClr7 (d c s : Nat) (nn q dl T N n lo A : Nat) (f : Nat → Int32) (G : Nat → Nat) (AA : Nat → Nat → Nat) (r : xi_R → Prop) (k Gr x op a b g : Nat) (W0 : xi_W) (WS : Nat → Option Nat) (hn : n < 150) (hk : k < 44) (hq : q < 2) (gG : 696 ≤ Gr) (nG : Gr ≠ 697) (hN : N + 900 < 80000) (hnn : nn < 2147483648) (hx : x < 2147483648) (ha : a < 4) (hb : b < 2) (hg : g < 3) (hY : CY nn f q dl 1 0 T N n lo G AA W0) (hmw : mw 697 n lo AA k WS W0) (hA : W0[A]? = some (lw_a 1804 G)) (gA : 696 ≤ A) (nA : A ≠ 697) (nGA : Gr ≠ A) (hG : mG k G) (hGr : W0[Gr]? = some (lw_a 1804 G)) (hS : W0[16]? = some (lw_s nn f)) (K : (∀ (n' A' : Nat) G' AA' WS' (N' : Nat) W' c' s', lo ≤ n' → n' ≤ n + 3 → N ≤ N' → N' ≤ N + 600 → c' ≤ c + 730 → s' ≤ s + 10400 → CY nn f q dl 1 0 T N' n' (max lo (n' - 30)) G' AA' W' → mw 697 n' lo AA' (k + 1) WS' W' → W'[A']? = some (lw_a 1804 G') → 696 ≤ A' → A' ≠ 697 → mG (k + 1) G' → W'[16]? = some (lw_s nn f) → fr (fun i => mP i ∨ i = Gr) W0 W' → xr (d + 14) 199 633 [(0, .ref 16), (1, .ref 17), (2, .ref 687), (3, .int (Int32.ofNat q)), (4, .ref A'), (5, .ref 697), (6, .int (Int32.ofNat n')), (7, .int (Int32.ofNat lo)), (8, .int (Int32.ofNat k))] [] W' c' s' r)) (hop : op = 7) (hkG : ∀ i, lo ≤ i → i < n → WS i ≠ some Gr) : xr (d + 14) 199 230 [(0, .ref 16), (1, .ref 17), (2, .ref 687), (3, .int (Int32.ofNat q)), (4, .ref A), (5, .ref 697), (6, .int (Int32.ofNat n)), (7, .int (Int32.ofNat lo)), (8, .int (Int32.ofNat k)), (9, .int (Int32.ofNat x)), (10, .int (Int32.ofNat op)), (11, .int (Int32.ofNat a)), (12, .int (Int32.ofNat b)), (13, .int (Int32.ofNat g)), (14, .ref Gr)] [] W0 c s r := by
  subst hop
  obtain ⟨hlo, hnl, fi, hc⟩ := id hY
  obtain ⟨F, hw, hr⟩ := hc.w
  have J := hr.j
  have hok := J.ok (show N < 1000000 by omega)
  obtain ⟨lf, lp, hO⟩ := hc.o
  have np : ∀ i, 360 ≤ i ∨ i < 23 → ¬ pq i := fun i h z => by unfold pq at z; omega
  obtain ⟨hG1, hG2, hG3⟩ := id hG
  have hbc := bcle 63 (lw_cx G a b g)
  have e30 : max lo (n - 30) = lo := by omega
  by_cases h0 : lw_cx G a b g = 0
  · refine xr_stp rfl rfl rfl rfl ?_
    refine xr_stp (st' := .int (Int32.ofNat 7) :: _) rfl rfl rfl rfl ?_
    refine xr_j2 rfl rfl rfl rfl rfl (fun h234 => ?_) (fun h234 => ?_)
    · refine xr_stp rfl rfl rfl rfl ?_
      refine xr_stp (st' := .int (Int32.ofNat 9) :: _) rfl rfl rfl rfl ?_
      refine xr_j2 rfl rfl rfl rfl rfl (fun h277 => ?_) (fun h277 => ?_)
      · have z277 := nt_ge (by omega) (by omega) h277
        exact (by omega)
      · refine xr_stp rfl rfl rfl rfl ?_
        refine xr_stp rfl rfl rfl rfl ?_
        refine xr_stp rfl rfl rfl rfl ?_
        refine xr_stp rfl rfl rfl rfl ?_
        refine xr_stp (st' := .int (Int32.ofNat 7) :: _) rfl rfl rfl rfl ?_
        refine xr_j2 rfl rfl rfl rfl rfl (fun h290 => ?_) (fun h290 => ?_)
        · have z290 := nt_ne h290
          exact (by omega)
        · refine xr_stp rfl rfl rfl rfl ?_
          refine xr_stp rfl rfl rfl rfl ?_
          refine xr_cps rfl rfl rfl (fun r1 K2 => lw_clears0 _ _ _ Gr W0 G hGr (by omega) hok a b g ha (by omega) (Or.inl hg) h0 r1 (K2 _ _ _ _ ?_))
          refine xr_stp rfl rfl rfl rfl ?_
          refine xr_stp rfl rfl rfl rfl ?_
          refine xr_stp (st' := .int (Int32.ofNat 7) :: _) rfl rfl rfl rfl ?_
          refine xr_j2 rfl rfl rfl rfl rfl (fun h308 => ?_) (fun h308 => ?_)
          · have z308 := nt_ne h308
            exact (by omega)
          · refine xr_stp rfl rfl rfl rfl ?_
            refine xr_stp rfl rfl rfl rfl ?_
            refine xr_stp rfl rfl rfl rfl ?_
            refine xr_stp rfl rfl rfl rfl ?_
            refine xr_vcps hO rfl rfl rfl rfl rfl rfl (fun r1 K2 => cl_clear _ _ _ nn q dl 1 0 T N fi (n - lo) f W0 G _ a b g hc ha (by omega) hg (by omega) r1 (fun _ W1 hc1 hf1 => K2 _ _ _ _ ?_) (fun h => absurd h0 h))
            refine xr_stp rfl rfl rfl rfl ?_
            refine xr_stp rfl rfl rfl rfl ?_
            refine xr_j2 rfl rfl rfl rfl rfl (fun h334 => ?_) (fun h334 => ?_)
            · refine xr_stp rfl rfl rfl rfl ?_
              refine xr_j1 rfl rfl rfl rfl rfl (fun h341 => ?_) (fun h341 => ?_)
              · exact absurd h341 (by decide)
              · refine xr_stp rfl rfl rfl rfl ?_
                refine xr_stp rfl rfl rfl rfl ?_
                refine xr_stp rfl rfl rfl rfl ?_
                refine xr_loc [(0, .ref 16), (1, .ref 17), (2, .ref 687), (3, .int (Int32.ofNat q)), (4, .ref A), (5, .ref 697), (6, .int (Int32.ofNat n)), (7, .int (Int32.ofNat lo)), (8, .int (Int32.ofNat k)), (14, .null)] ⟨rfl, rfl, rfl, rfl, rfl, rfl, rfl, rfl, rfl, rfl, trivial⟩ rfl ?_
                exact mNull c s d nn q dl T N n lo A f G AA r k Gr W0 W1 _ _ N WS hn hk gG nG K n A G AA hlo (by omega) (by omega) (by omega) (by omega) (by omega) (by rw [e30]; exact ⟨hlo, hnl, fi, hc1⟩) (hmw.s.keep (by omega) hf1 (fun i h1 h2 => np i (by omega))) (hf1.at hA (np _ (by omega))) gA nA hG.s (hf1.at hS (np _ (by omega))) (hf1.weak (P2 := fun i => mP i ∨ i = Gr) (fun i _ z => Or.inl (Or.inl z)))
            · have z334 := nf_eq h334
              exact (by omega)
    · have z234 := nf_ge (by omega) (by omega) h234
      exact (by omega)
  · have o0 := lw_clro J b g ha (j := 0) (by omega)
    rw [show lw_clr G a b g = lw_cl G a b g from if_neg h0] at o0
    refine xr_stp rfl rfl rfl rfl ?_
    refine xr_stp (st' := .int (Int32.ofNat 7) :: _) rfl rfl rfl rfl ?_
    refine xr_j2 rfl rfl rfl rfl rfl (fun h234 => ?_) (fun h234 => ?_)
    · refine xr_stp rfl rfl rfl rfl ?_
      refine xr_stp (st' := .int (Int32.ofNat 9) :: _) rfl rfl rfl rfl ?_
      refine xr_j2 rfl rfl rfl rfl rfl (fun h277 => ?_) (fun h277 => ?_)
      · have z277 := nt_ge (by omega) (by omega) h277
        exact (by omega)
      · refine xr_stp rfl rfl rfl rfl ?_
        refine xr_stp rfl rfl rfl rfl ?_
        refine xr_stp rfl rfl rfl rfl ?_
        refine xr_stp rfl rfl rfl rfl ?_
        refine xr_stp (st' := .int (Int32.ofNat 7) :: _) rfl rfl rfl rfl ?_
        refine xr_j2 rfl rfl rfl rfl rfl (fun h290 => ?_) (fun h290 => ?_)
        · have z290 := nt_ne h290
          exact (by omega)
        · refine xr_stp rfl rfl rfl rfl ?_
          refine xr_stp rfl rfl rfl rfl ?_
          refine xr_cps rfl rfl rfl (fun r1 K2 => lw_clears _ _ _ Gr W0 G hGr (by omega) hok a b g ha (by omega) (Or.inl hg) h0 r1 (fun W1 hGr1 hf1 => K2 _ _ _ _ ?_))
          have hA1 := hf1.at hA (fun z => by have z : A = Gr := z; omega)
          have hS1 := hf1.at hS (fun z => by have z : 16 = Gr := z; omega)
          have hmw1 := hmw.keepG hf1 (by omega) hkG
          have hc1 := hc.keep hf1 (fun i h1 z => by have z : i = Gr := z; omega)
          clear hO
          obtain ⟨lf, lp, hO⟩ := hc1.o
          refine xr_stp rfl rfl rfl rfl ?_
          refine xr_stp rfl rfl rfl rfl ?_
          refine xr_stp (st' := .int (Int32.ofNat 7) :: _) rfl rfl rfl rfl ?_
          refine xr_j2 rfl rfl rfl rfl rfl (fun h308 => ?_) (fun h308 => ?_)
          · have z308 := nt_ne h308
            exact (by omega)
          · refine xr_stp rfl rfl rfl rfl ?_
            refine xr_stp rfl rfl rfl rfl ?_
            refine xr_stp rfl rfl rfl rfl ?_
            refine xr_stp rfl rfl rfl rfl ?_
            refine xr_vcps hO rfl rfl rfl rfl rfl rfl (fun r1 K2 => cl_clear _ _ _ nn q dl 1 0 T N fi (n - lo) f W1 G _ a b g hc1 ha (by omega) hg (by omega) r1 (fun h => absurd h h0) (fun _ W2 fi2 hc2 hf2 => K2 _ _ _ _ ?_))
            have hY2 := CY.push hlo hnl hc2
            refine xr_stp rfl rfl rfl rfl ?_
            refine xr_stp rfl rfl rfl rfl ?_
            refine xr_j2 rfl rfl rfl rfl rfl (fun h334 => ?_) (fun h334 => ?_)
            · refine xr_stp rfl rfl rfl rfl ?_
              refine xr_j1 rfl rfl rfl rfl rfl (fun h341 => ?_) (fun h341 => ?_)
              · refine xr_stp rfl rfl rfl rfl ?_
                refine xr_loc [(0, .ref 16), (1, .ref 17), (2, .ref 687), (3, .int (Int32.ofNat q)), (4, .ref A), (5, .ref 697), (6, .int (Int32.ofNat n)), (7, .int (Int32.ofNat lo)), (8, .int (Int32.ofNat k)), (14, .ref Gr)] ⟨rfl, rfl, rfl, rfl, rfl, rfl, rfl, rfl, rfl, rfl, trivial⟩ rfl ?_
                exact mPush c s d nn q dl T N n lo A f G AA r k Gr W0 W2 _ _ (N + 1) WS hn hk gG nG K _ hlo (by omega) (by omega) (by omega) (by omega) hY2 (hmw1.keep (by omega) hf2 (fun i h1 h2 => np i (by omega))) (hf2.at hA1 (np _ (by omega))) gA nA hG (hf2.at hGr1 (np _ (by omega))) ⟨hG.1.cl J (by omega) g ha (by omega), by omega, by have := (J.cl a b g ha (by omega) (by omega)).2; omega⟩ (hf2.at hS1 (np _ (by omega))) ((hf1.weak (P2 := fun i => mP i ∨ i = Gr) (fun i _ z => Or.inr z)).tr (hf2.weak (P2 := fun i => mP i ∨ i = Gr) (fun i _ z => Or.inl (Or.inl z))))
              · exact (n_ge0 (by omega) h341).elim
            · have z334 := nf_eq h334
              exact (by omega)
    · have z234 := nf_ge (by omega) (by omega) h234
      exact (by omega)
theorem mClr8 (d c s : Nat) (nn q dl T N n lo A : Nat) (f : Nat → Int32) (G : Nat → Nat) (AA : Nat → Nat → Nat) (r : xi_R → Prop) (k Gr x op a b g : Nat) (W0 : xi_W) (WS : Nat → Option Nat) (hn : n < 150) (hk : k < 44) (hq : q < 2) (gG : 696 ≤ Gr) (nG : Gr ≠ 697) (hN : N + 900 < 80000) (hnn : nn < 2147483648) (hx : x < 2147483648) (ha : a < 4) (hb : b < 2) (hg : g < 3) (hY : CY nn f q dl 1 0 T N n lo G AA W0) (hmw : mw 697 n lo AA k WS W0) (hA : W0[A]? = some (lw_a 1804 G)) (gA : 696 ≤ A) (nA : A ≠ 697) (nGA : Gr ≠ A) (hG : mG k G) (hGr : W0[Gr]? = some (lw_a 1804 G)) (hS : W0[16]? = some (lw_s nn f)) (K : (∀ (n' A' : Nat) G' AA' WS' (N' : Nat) W' c' s', lo ≤ n' → n' ≤ n + 3 → N ≤ N' → N' ≤ N + 600 → c' ≤ c + 730 → s' ≤ s + 10400 → CY nn f q dl 1 0 T N' n' (max lo (n' - 30)) G' AA' W' → mw 697 n' lo AA' (k + 1) WS' W' → W'[A']? = some (lw_a 1804 G') → 696 ≤ A' → A' ≠ 697 → mG (k + 1) G' → W'[16]? = some (lw_s nn f) → fr (fun i => mP i ∨ i = Gr) W0 W' → xr (d + 14) 199 633 [(0, .ref 16), (1, .ref 17), (2, .ref 687), (3, .int (Int32.ofNat q)), (4, .ref A'), (5, .ref 697), (6, .int (Int32.ofNat n')), (7, .int (Int32.ofNat lo)), (8, .int (Int32.ofNat k))] [] W' c' s' r)) (hop : op = 8) (hkG : ∀ i, lo ≤ i → i < n → WS i ≠ some Gr) : xr (d + 14) 199 230 [(0, .ref 16), (1, .ref 17), (2, .ref 687), (3, .int (Int32.ofNat q)), (4, .ref A), (5, .ref 697), (6, .int (Int32.ofNat n)), (7, .int (Int32.ofNat lo)), (8, .int (Int32.ofNat k)), (9, .int (Int32.ofNat x)), (10, .int (Int32.ofNat op)), (11, .int (Int32.ofNat a)), (12, .int (Int32.ofNat b)), (13, .int (Int32.ofNat g)), (14, .ref Gr)] [] W0 c s r := by
  subst hop
  obtain ⟨hlo, hnl, fi, hc⟩ := id hY
  obtain ⟨F, hw, hr⟩ := hc.w
  have J := hr.j
  have hok := J.ok (show N < 1000000 by omega)
  obtain ⟨lf, lp, hO⟩ := hc.o
  have np : ∀ i, 360 ≤ i ∨ i < 23 → ¬ pq i := fun i h z => by unfold pq at z; omega
  obtain ⟨hG1, hG2, hG3⟩ := id hG
  have hbc := bcle 63 (lw_cx G a b 4294967295)
  have e30 : max lo (n - 30) = lo := by omega
  by_cases h0 : lw_cx G a b 4294967295 = 0
  · refine xr_stp rfl rfl rfl rfl ?_
    refine xr_stp (st' := .int (Int32.ofNat 7) :: _) rfl rfl rfl rfl ?_
    refine xr_j2 rfl rfl rfl rfl rfl (fun h234 => ?_) (fun h234 => ?_)
    · refine xr_stp rfl rfl rfl rfl ?_
      refine xr_stp (st' := .int (Int32.ofNat 9) :: _) rfl rfl rfl rfl ?_
      refine xr_j2 rfl rfl rfl rfl rfl (fun h277 => ?_) (fun h277 => ?_)
      · have z277 := nt_ge (by omega) (by omega) h277
        exact (by omega)
      · refine xr_stp rfl rfl rfl rfl ?_
        refine xr_stp rfl rfl rfl rfl ?_
        refine xr_stp rfl rfl rfl rfl ?_
        refine xr_stp rfl rfl rfl rfl ?_
        refine xr_stp (st' := .int (Int32.ofNat 7) :: _) rfl rfl rfl rfl ?_
        refine xr_j2 rfl rfl rfl rfl rfl (fun h290 => ?_) (fun h290 => ?_)
        · refine xr_stp (st' := .int (Int32.ofNat 4294967295) :: _) rfl rfl rfl rfl ?_
          refine xr_cps rfl rfl rfl (fun r1 K2 => lw_clears0 _ _ _ Gr W0 G hGr (by omega) hok a b 4294967295 ha (by omega) (Or.inr rfl) h0 r1 (K2 _ _ _ _ ?_))
          refine xr_stp rfl rfl rfl rfl ?_
          refine xr_stp rfl rfl rfl rfl ?_
          refine xr_stp (st' := .int (Int32.ofNat 7) :: _) rfl rfl rfl rfl ?_
          refine xr_j2 rfl rfl rfl rfl rfl (fun h308 => ?_) (fun h308 => ?_)
          · refine xr_stp rfl rfl rfl rfl ?_
            refine xr_stp rfl rfl rfl rfl ?_
            refine xr_stp rfl rfl rfl rfl ?_
            refine xr_vcps hO rfl rfl rfl rfl rfl rfl (fun r1 K2 => cl_reset _ _ _ nn q dl 1 0 T N fi (n - lo) f W0 G _ a b hc ha (by omega) (by omega) r1 (fun _ W1 hc1 hf1 => K2 _ _ _ _ ?_) (fun h => absurd h0 h))
            refine xr_stp rfl rfl rfl rfl ?_
            refine xr_j2 rfl rfl rfl rfl rfl (fun h334 => ?_) (fun h334 => ?_)
            · refine xr_stp rfl rfl rfl rfl ?_
              refine xr_j1 rfl rfl rfl rfl rfl (fun h341 => ?_) (fun h341 => ?_)
              · exact absurd h341 (by decide)
              · refine xr_stp rfl rfl rfl rfl ?_
                refine xr_stp rfl rfl rfl rfl ?_
                refine xr_stp rfl rfl rfl rfl ?_
                refine xr_loc [(0, .ref 16), (1, .ref 17), (2, .ref 687), (3, .int (Int32.ofNat q)), (4, .ref A), (5, .ref 697), (6, .int (Int32.ofNat n)), (7, .int (Int32.ofNat lo)), (8, .int (Int32.ofNat k)), (14, .null)] ⟨rfl, rfl, rfl, rfl, rfl, rfl, rfl, rfl, rfl, rfl, trivial⟩ rfl ?_
                exact mNull c s d nn q dl T N n lo A f G AA r k Gr W0 W1 _ _ N WS hn hk gG nG K n A G AA hlo (by omega) (by omega) (by omega) (by omega) (by omega) (by rw [e30]; exact ⟨hlo, hnl, fi, hc1⟩) (hmw.s.keep (by omega) hf1 (fun i h1 h2 => np i (by omega))) (hf1.at hA (np _ (by omega))) gA nA hG.s (hf1.at hS (np _ (by omega))) (hf1.weak (P2 := fun i => mP i ∨ i = Gr) (fun i _ z => Or.inl (Or.inl z)))
            · have z334 := nf_eq h334
              exact (by omega)
          · have z308 := nf_ne (by omega) (by omega) h308
            exact (by omega)
        · have z290 := nf_ne (by omega) (by omega) h290
          exact (by omega)
    · have z234 := nf_ge (by omega) (by omega) h234
      exact (by omega)
  · have o0 := lw_clro J b 4294967295 ha (j := 0) (by omega)
    rw [show lw_clr G a b 4294967295 = lw_cl G a b 4294967295 from if_neg h0] at o0
    refine xr_stp rfl rfl rfl rfl ?_
    refine xr_stp (st' := .int (Int32.ofNat 7) :: _) rfl rfl rfl rfl ?_
    refine xr_j2 rfl rfl rfl rfl rfl (fun h234 => ?_) (fun h234 => ?_)
    · refine xr_stp rfl rfl rfl rfl ?_
      refine xr_stp (st' := .int (Int32.ofNat 9) :: _) rfl rfl rfl rfl ?_
      refine xr_j2 rfl rfl rfl rfl rfl (fun h277 => ?_) (fun h277 => ?_)
      · have z277 := nt_ge (by omega) (by omega) h277
        exact (by omega)
      · refine xr_stp rfl rfl rfl rfl ?_
        refine xr_stp rfl rfl rfl rfl ?_
        refine xr_stp rfl rfl rfl rfl ?_
        refine xr_stp rfl rfl rfl rfl ?_
        refine xr_stp (st' := .int (Int32.ofNat 7) :: _) rfl rfl rfl rfl ?_
        refine xr_j2 rfl rfl rfl rfl rfl (fun h290 => ?_) (fun h290 => ?_)
        · refine xr_stp (st' := .int (Int32.ofNat 4294967295) :: _) rfl rfl rfl rfl ?_
          refine xr_cps rfl rfl rfl (fun r1 K2 => lw_clears _ _ _ Gr W0 G hGr (by omega) hok a b 4294967295 ha (by omega) (Or.inr rfl) h0 r1 (fun W1 hGr1 hf1 => K2 _ _ _ _ ?_))
          have hA1 := hf1.at hA (fun z => by have z : A = Gr := z; omega)
          have hS1 := hf1.at hS (fun z => by have z : 16 = Gr := z; omega)
          have hmw1 := hmw.keepG hf1 (by omega) hkG
          have hc1 := hc.keep hf1 (fun i h1 z => by have z : i = Gr := z; omega)
          clear hO
          obtain ⟨lf, lp, hO⟩ := hc1.o
          refine xr_stp rfl rfl rfl rfl ?_
          refine xr_stp rfl rfl rfl rfl ?_
          refine xr_stp (st' := .int (Int32.ofNat 7) :: _) rfl rfl rfl rfl ?_
          refine xr_j2 rfl rfl rfl rfl rfl (fun h308 => ?_) (fun h308 => ?_)
          · refine xr_stp rfl rfl rfl rfl ?_
            refine xr_stp rfl rfl rfl rfl ?_
            refine xr_stp rfl rfl rfl rfl ?_
            refine xr_vcps hO rfl rfl rfl rfl rfl rfl (fun r1 K2 => cl_reset _ _ _ nn q dl 1 0 T N fi (n - lo) f W1 G _ a b hc1 ha (by omega) (by omega) r1 (fun h => absurd h h0) (fun _ W2 fi2 hc2 hf2 => K2 _ _ _ _ ?_))
            have hY2 := CY.push hlo hnl hc2
            refine xr_stp rfl rfl rfl rfl ?_
            refine xr_j2 rfl rfl rfl rfl rfl (fun h334 => ?_) (fun h334 => ?_)
            · refine xr_stp rfl rfl rfl rfl ?_
              refine xr_j1 rfl rfl rfl rfl rfl (fun h341 => ?_) (fun h341 => ?_)
              · refine xr_stp rfl rfl rfl rfl ?_
                refine xr_loc [(0, .ref 16), (1, .ref 17), (2, .ref 687), (3, .int (Int32.ofNat q)), (4, .ref A), (5, .ref 697), (6, .int (Int32.ofNat n)), (7, .int (Int32.ofNat lo)), (8, .int (Int32.ofNat k)), (14, .ref Gr)] ⟨rfl, rfl, rfl, rfl, rfl, rfl, rfl, rfl, rfl, rfl, trivial⟩ rfl ?_
                exact mPush c s d nn q dl T N n lo A f G AA r k Gr W0 W2 _ _ (N + 1) WS hn hk gG nG K _ hlo (by omega) (by omega) (by omega) (by omega) hY2 (hmw1.keep (by omega) hf2 (fun i h1 h2 => np i (by omega))) (hf2.at hA1 (np _ (by omega))) gA nA hG (hf2.at hGr1 (np _ (by omega))) ⟨hG.1.cl J (by omega) 4294967295 ha (by omega), by omega, by have := (J.cl a b 4294967295 ha (by omega) (by omega)).2; omega⟩ (hf2.at hS1 (np _ (by omega))) ((hf1.weak (P2 := fun i => mP i ∨ i = Gr) (fun i _ z => Or.inr z)).tr (hf2.weak (P2 := fun i => mP i ∨ i = Gr) (fun i _ z => Or.inl (Or.inl z))))
              · exact (n_ge0 (by omega) h341).elim
            · have z334 := nf_eq h334
              exact (by omega)
          · have z308 := nf_ne (by omega) (by omega) h308
            exact (by omega)
        · have z290 := nf_ne (by omega) (by omega) h290
          exact (by omega)
    · have z234 := nf_ge (by omega) (by omega) h234
      exact (by omega)
theorem mSnd (d c s : Nat) (nn q dl T N n lo A : Nat) (f : Nat → Int32) (G : Nat → Nat) (AA : Nat → Nat → Nat) (r : xi_R → Prop) (k Gr x op a b g : Nat) (W0 : xi_W) (WS : Nat → Option Nat) (hn : n < 150) (hk : k < 44) (hq : q < 2) (gG : 696 ≤ Gr) (nG : Gr ≠ 697) (hN : N + 900 < 80000) (hnn : nn < 2147483648) (hx : x < 2147483648) (ha : a < 4) (hb : b < 2) (hg : g < 3) (hY : CY nn f q dl 1 0 T N n lo G AA W0) (hmw : mw 697 n lo AA k WS W0) (hA : W0[A]? = some (lw_a 1804 G)) (gA : 696 ≤ A) (nA : A ≠ 697) (nGA : Gr ≠ A) (hG : mG k G) (hGr : W0[Gr]? = some (lw_a 1804 G)) (hS : W0[16]? = some (lw_s nn f)) (K : (∀ (n' A' : Nat) G' AA' WS' (N' : Nat) W' c' s', lo ≤ n' → n' ≤ n + 3 → N ≤ N' → N' ≤ N + 600 → c' ≤ c + 730 → s' ≤ s + 10400 → CY nn f q dl 1 0 T N' n' (max lo (n' - 30)) G' AA' W' → mw 697 n' lo AA' (k + 1) WS' W' → W'[A']? = some (lw_a 1804 G') → 696 ≤ A' → A' ≠ 697 → mG (k + 1) G' → W'[16]? = some (lw_s nn f) → fr (fun i => mP i ∨ i = Gr) W0 W' → xr (d + 14) 199 633 [(0, .ref 16), (1, .ref 17), (2, .ref 687), (3, .int (Int32.ofNat q)), (4, .ref A'), (5, .ref 697), (6, .int (Int32.ofNat n')), (7, .int (Int32.ofNat lo)), (8, .int (Int32.ofNat k))] [] W' c' s' r)) (hop : 9 ≤ op) (hop2 : op < 15) (hkG : ∀ i, lo ≤ i → i < n → WS i ≠ some Gr) : xr (d + 14) 199 230 [(0, .ref 16), (1, .ref 17), (2, .ref 687), (3, .int (Int32.ofNat q)), (4, .ref A), (5, .ref 697), (6, .int (Int32.ofNat n)), (7, .int (Int32.ofNat lo)), (8, .int (Int32.ofNat k)), (9, .int (Int32.ofNat x)), (10, .int (Int32.ofNat op)), (11, .int (Int32.ofNat a)), (12, .int (Int32.ofNat b)), (13, .int (Int32.ofNat g)), (14, .ref Gr)] [] W0 c s r := by
  obtain ⟨hlo, hnl, fi, hc⟩ := id hY
  obtain ⟨F, hw, hr⟩ := hc.w
  have J := hr.j
  have hok := J.ok (show N < 1000000 by omega)
  obtain ⟨lf, lp, hO⟩ := hc.o
  have np : ∀ i, 360 ≤ i ∨ i < 23 → ¬ pq i := fun i h z => by unfold pq at z; omega
  obtain ⟨hG1, hG2, hG3⟩ := id hG
  have e30 : max lo (n - 30) = lo := by omega
  refine xr_stp rfl rfl rfl rfl ?_
  refine xr_stp (st' := .int (Int32.ofNat 7) :: _) rfl rfl rfl rfl ?_
  refine xr_j2 rfl rfl rfl rfl rfl (fun h234 => ?_) (fun h234 => ?_)
  · refine xr_stp rfl rfl rfl rfl ?_
    refine xr_stp (st' := .int (Int32.ofNat 9) :: _) rfl rfl rfl rfl ?_
    refine xr_j2 rfl rfl rfl rfl rfl (fun h277 => ?_) (fun h277 => ?_)
    · refine xr_stp rfl rfl rfl rfl ?_
      refine xr_stp (st' := .int (Int32.ofNat 15) :: _) rfl rfl rfl rfl ?_
      refine xr_j2 rfl rfl rfl rfl rfl (fun h354 => ?_) (fun h354 => ?_)
      · have z354 := nt_ge (by omega) (by omega) h354
        exact (by omega)
      · refine xr_stp rfl rfl rfl rfl ?_
        refine xr_stp (st' := .int (Int32.ofNat 1) :: _) rfl rfl rfl rfl ?_
        refine xs_add rfl ?_
        refine xr_stp rfl rfl rfl rfl ?_
        refine xr_stp (st' := .int (Int32.ofNat 5) :: _) rfl rfl rfl rfl ?_
        refine xs_shr (by omega) (by omega) rfl ?_
        refine xr_stp (st' := .int (Int32.ofNat 3) :: _) rfl rfl rfl rfl ?_
        refine xs_mod (by omega) (by omega) (by omega) rfl ?_
        refine xs_add rfl ?_
        refine xr_stp (st' := .int (Int32.ofNat 4) :: _) rfl rfl rfl rfl ?_
        refine xs_mod (by omega) (by omega) (by omega) rfl ?_
        refine xr_stp rfl rfl rfl rfl ?_
        obtain ⟨t, et⟩ : ∃ t, t = ((a + 1 + x / 2 ^ 5 % 3) % 4) := ⟨_, rfl⟩
        have ht : t < 4 := by omega
        have hta : a ≠ t := by omega
        refine xr_loc [(0, .ref 16), (1, .ref 17), (2, .ref 687), (3, .int (Int32.ofNat q)), (4, .ref A), (5, .ref 697), (6, .int (Int32.ofNat n)), (7, .int (Int32.ofNat lo)), (8, .int (Int32.ofNat k)), (9, .int (Int32.ofNat x)), (10, .int (Int32.ofNat op)), (11, .int (Int32.ofNat a)), (14, .ref Gr), (15, .int (Int32.ofNat t))] ⟨rfl, rfl, rfl, rfl, rfl, rfl, rfl, rfl, rfl, rfl, rfl, rfl, rfl, (by rw [et]; rfl), trivial⟩ rfl ?_
        by_cases h0 : lw_be G a t = 0
        · refine xr_stp rfl rfl rfl rfl ?_
          refine xr_stp rfl rfl rfl rfl ?_
          refine xr_stp rfl rfl rfl rfl ?_
          refine xr_stp rfl rfl rfl rfl ?_
          refine xr_stp rfl rfl rfl rfl ?_
          refine xr_cps rfl rfl rfl (fun r1 K2 => lw_sends0 _ _ _ Gr 16 nn W0 G f hGr (by omega) hS hnn (by omega) q a t ha ht (J.a _ _ ha ht) h0 r1 (fun W1 hGr1 hf1 => K2 _ _ _ _ ?_))
          have hA1 := hf1.at hA (fun z => by have z : A = Gr := z; omega)
          have hS1 := hf1.at hS (fun z => by have z : 16 = Gr := z; omega)
          have hmw1 := hmw.keepG hf1 (by omega) hkG
          have hc1 := hc.keep hf1 (fun i h1 z => by have z : i = Gr := z; omega)
          clear hO
          obtain ⟨lf, lp, hO⟩ := hc1.o
          refine xr_stp rfl rfl rfl rfl ?_
          refine xr_stp rfl rfl rfl rfl ?_
          refine xr_stp rfl rfl rfl rfl ?_
          refine xr_stp rfl rfl rfl rfl ?_
          refine xr_vcps hO rfl rfl rfl rfl rfl rfl (fun r1 K2 => cl_send _ _ _ nn q dl 1 0 T N fi (n - lo) f W1 G _ a t hc1 ha ht hta (by omega) r1 (fun _ W2 hc2 hf2 => K2 _ _ _ _ ?_) (fun h => absurd h0 h))
          refine xr_stp rfl rfl rfl rfl ?_
          refine xr_j2 rfl rfl rfl rfl rfl (fun h395 => ?_) (fun h395 => ?_)
          · refine xr_stp rfl rfl rfl rfl ?_
            refine xr_j1 rfl rfl rfl rfl rfl (fun h402 => ?_) (fun h402 => ?_)
            · exact absurd h402 (by decide)
            · refine xr_stp rfl rfl rfl rfl ?_
              refine xr_stp rfl rfl rfl rfl ?_
              refine xr_stp rfl rfl rfl rfl ?_
              refine xr_loc [(0, .ref 16), (1, .ref 17), (2, .ref 687), (3, .int (Int32.ofNat q)), (4, .ref A), (5, .ref 697), (6, .int (Int32.ofNat n)), (7, .int (Int32.ofNat lo)), (8, .int (Int32.ofNat k)), (14, .null)] ⟨rfl, rfl, rfl, rfl, rfl, rfl, rfl, rfl, rfl, rfl, trivial⟩ rfl ?_
              exact mNull c s d nn q dl T N n lo A f G AA r k Gr W0 W2 _ _ N WS hn hk gG nG K n A G AA hlo (by omega) (by omega) (by omega) (by omega) (by omega) (by rw [e30]; exact ⟨hlo, hnl, fi, hc2⟩) (hmw1.s.keep (by omega) hf2 (fun i h1 h2 => np i (by omega))) (hf2.at hA1 (np _ (by omega))) gA nA hG.s (hf2.at hS1 (np _ (by omega))) ((hf1.weak (P2 := fun i => mP i ∨ i = Gr) (fun i _ z => Or.inr z)).tr (hf2.weak (P2 := fun i => mP i ∨ i = Gr) (fun i _ z => Or.inl (Or.inl z))))
          · have z395 := nf_eq h395
            exact (by omega)
        · have hcn := (J.c _ ha).2.2
          have hx1 := J.x
          refine xr_stp rfl rfl rfl rfl ?_
          refine xr_stp rfl rfl rfl rfl ?_
          refine xr_stp rfl rfl rfl rfl ?_
          refine xr_stp rfl rfl rfl rfl ?_
          refine xr_stp rfl rfl rfl rfl ?_
          refine xr_cps rfl rfl rfl (fun r1 K2 => lw_sends _ _ _ Gr 16 nn W0 G f hGr (by omega) hS hnn (by omega) J.b63 q a t hq ha ht (J.a _ _ ha ht) (J.c _ ha).2.1 (by omega) h0 (by omega) J.m J.k r1 (fun W1 c1 s1 kc1 ks1 hGr1 hf1 => K2 _ _ _ _ ?_))
          have hA1 := hf1.at hA (fun z => by have z : A = Gr := z; omega)
          have hS1 := hf1.at hS (fun z => by have z : 16 = Gr := z; omega)
          have hmw1 := hmw.keepG hf1 (by omega) hkG
          have hc1 := hc.keep hf1 (fun i h1 z => by have z : i = Gr := z; omega)
          clear hO
          obtain ⟨lf, lp, hO⟩ := hc1.o
          refine xr_stp rfl rfl rfl rfl ?_
          refine xr_stp rfl rfl rfl rfl ?_
          refine xr_stp rfl rfl rfl rfl ?_
          refine xr_stp rfl rfl rfl rfl ?_
          refine xr_vcps hO rfl rfl rfl rfl rfl rfl (fun r1 K2 => cl_send _ _ _ nn q dl 1 0 T N fi (n - lo) f W1 G _ a t hc1 ha ht hta (by omega) r1 (fun h => absurd h h0) (fun _ W2 fi2 hc2 hf2 => K2 _ _ _ _ ?_))
          have hY2 := CY.push hlo hnl hc2
          have ec : lw_snd nn f q G a t = lw_sn nn f G q a t := if_neg h0
          have j4 := (J.snd nn f q a t ha ht (by omega)).2
          have o0 := lw_sndo nn f q G a t (j := 0) (by omega)
          rw [ec] at j4 o0
          refine xr_stp rfl rfl rfl rfl ?_
          refine xr_j2 rfl rfl rfl rfl rfl (fun h395 => ?_) (fun h395 => ?_)
          · refine xr_stp rfl rfl rfl rfl ?_
            refine xr_j1 rfl rfl rfl rfl rfl (fun h402 => ?_) (fun h402 => ?_)
            · refine xr_stp rfl rfl rfl rfl ?_
              refine xr_loc [(0, .ref 16), (1, .ref 17), (2, .ref 687), (3, .int (Int32.ofNat q)), (4, .ref A), (5, .ref 697), (6, .int (Int32.ofNat n)), (7, .int (Int32.ofNat lo)), (8, .int (Int32.ofNat k)), (14, .ref Gr)] ⟨rfl, rfl, rfl, rfl, rfl, rfl, rfl, rfl, rfl, rfl, trivial⟩ rfl ?_
              exact mPush c s d nn q dl T N n lo A f G AA r k Gr W0 W2 _ _ (N + 1) WS hn hk gG nG K _ hlo (by omega) (by omega) (by omega) (by omega) hY2 (hmw1.keep (by omega) hf2 (fun i h1 h2 => np i (by omega))) (hf2.at hA1 (np _ (by omega))) gA nA hG (hf2.at hGr1 (np _ (by omega))) ⟨hG.1.sn J (by omega) nn f q a t ha ht, by omega, by omega⟩ (hf2.at hS1 (np _ (by omega))) ((hf1.weak (P2 := fun i => mP i ∨ i = Gr) (fun i _ z => Or.inr z)).tr (hf2.weak (P2 := fun i => mP i ∨ i = Gr) (fun i _ z => Or.inl (Or.inl z))))
            · exact (n_ge0 (by omega) h402).elim
          · have z395 := nf_eq h395
            exact (by omega)
    · have z277 := nf_ge (by omega) (by omega) h277
      exact (by omega)
  · have z234 := nf_ge (by omega) (by omega) h234
    exact (by omega)
