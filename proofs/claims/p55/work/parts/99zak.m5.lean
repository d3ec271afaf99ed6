/-! the law itself: a step's days, years, undo: all of it -/
theorem mDay (d c s : Nat) (nn q dl T N n lo A : Nat) (f : Nat → Int32) (G : Nat → Nat) (AA : Nat → Nat → Nat) (r : xi_R → Prop) (k Gr x op a b g : Nat) (W0 : xi_W) (WS : Nat → Option Nat) (hn : n < 150) (hk : k < 44) (hq : q < 2) (gG : 696 ≤ Gr) (nG : Gr ≠ 697) (hN : N + 900 < 80000) (hnn : nn < 2147483648) (hx : x < 2147483648) (ha : a < 4) (hb : b < 2) (hg : g < 3) (hY : CY nn f q dl 1 0 T N n lo G AA W0) (hmw : mw 697 n lo AA k WS W0) (hA : W0[A]? = some (lw_a 1804 G)) (gA : 696 ≤ A) (nA : A ≠ 697) (nGA : Gr ≠ A) (hG : mG k G) (hGr : W0[Gr]? = some (lw_a 1804 G)) (hS : W0[16]? = some (lw_s nn f)) (K : (∀ (n' A' : Nat) G' AA' WS' (N' : Nat) W' c' s', lo ≤ n' → n' ≤ n + 3 → N ≤ N' → N' ≤ N + 600 → c' ≤ c + 730 → s' ≤ s + 10400 → CY nn f q dl 1 0 T N' n' (max lo (n' - 30)) G' AA' W' → mw 697 n' lo AA' (k + 1) WS' W' → W'[A']? = some (lw_a 1804 G') → 696 ≤ A' → A' ≠ 697 → mG (k + 1) G' → W'[16]? = some (lw_s nn f) → fr (fun i => mP i ∨ i = Gr) W0 W' → xr (d + 14) 199 633 [(0, .ref 16), (1, .ref 17), (2, .ref 687), (3, .int (Int32.ofNat q)), (4, .ref A'), (5, .ref 697), (6, .int (Int32.ofNat n')), (7, .int (Int32.ofNat lo)), (8, .int (Int32.ofNat k))] [] W' c' s' r)) (hop : 15 ≤ op) (hop2 : op < 20) : xr (d + 14) 199 230 [(0, .ref 16), (1, .ref 17), (2, .ref 687), (3, .int (Int32.ofNat q)), (4, .ref A), (5, .ref 697), (6, .int (Int32.ofNat n)), (7, .int (Int32.ofNat lo)), (8, .int (Int32.ofNat k)), (9, .int (Int32.ofNat x)), (10, .int (Int32.ofNat op)), (11, .int (Int32.ofNat a)), (12, .int (Int32.ofNat b)), (13, .int (Int32.ofNat g)), (14, .ref Gr)] [] W0 c s r := by
  obtain ⟨hlo, hnl, fi, hc⟩ := id hY
  obtain ⟨F, hw, hr⟩ := hc.w
  have J := hr.j
  have hok := J.ok (show N < 1000000 by omega)
  obtain ⟨lf, lp, hO⟩ := hc.o
  have np : ∀ i, 360 ≤ i ∨ i < 23 → ¬ pq i := fun i h z => by unfold pq at z; omega
  obtain ⟨hG1, hG2, hG3⟩ := id hG
  refine xr_stp rfl rfl rfl rfl ?_
  refine xr_stp (st' := .int (Int32.ofNat 7) :: _) rfl rfl rfl rfl ?_
  refine xr_j2 rfl rfl rfl rfl rfl (fun h234 => ?_) (fun h234 => ?_)
  · refine xr_stp rfl rfl rfl rfl ?_
    refine xr_stp (st' := .int (Int32.ofNat 9) :: _) rfl rfl rfl rfl ?_
    refine xr_j2 rfl rfl rfl rfl rfl (fun h277 => ?_) (fun h277 => ?_)
    · refine xr_stp rfl rfl rfl rfl ?_
      refine xr_stp (st' := .int (Int32.ofNat 15) :: _) rfl rfl rfl rfl ?_
      refine xr_j2 rfl rfl rfl rfl rfl (fun h354 => ?_) (fun h354 => ?_)
      · refine xr_stp rfl rfl rfl rfl ?_
        refine xr_stp (st' := .int (Int32.ofNat 20) :: _) rfl rfl rfl rfl ?_
        refine xr_j2 rfl rfl rfl rfl rfl (fun h415 => ?_) (fun h415 => ?_)
        · have z415 := nt_ge (by omega) (by omega) h415
          exact (by omega)
        · refine xr_stp (st' := .int (Int32.ofNat 1) :: _) rfl rfl rfl rfl ?_
          refine xr_stp rfl rfl rfl rfl ?_
          refine xr_stp (st' := .int (Int32.ofNat 3) :: _) rfl rfl rfl rfl ?_
          refine xs_shr (by omega) (by omega) rfl ?_
          refine xr_stp (st' := .int (Int32.ofNat 3) :: _) rfl rfl rfl rfl ?_
          refine xs_mod (by omega) (by omega) (by omega) rfl ?_
          refine xs_add rfl ?_
          refine xr_stp rfl rfl rfl rfl ?_
          obtain ⟨d0, ed⟩ : ∃ d0, d0 = (1 + x / 2 ^ 3 % 3) := ⟨_, rfl⟩
          have h1d : 1 ≤ d0 := by omega
          have h3d : d0 ≤ 3 := by omega
          refine xr_loc [(0, .ref 16), (1, .ref 17), (2, .ref 687), (3, .int (Int32.ofNat q)), (4, .ref A), (5, .ref 697), (6, .int (Int32.ofNat n)), (7, .int (Int32.ofNat lo)), (8, .int (Int32.ofNat k)), (15, .int (Int32.ofNat d0))] ⟨rfl, rfl, rfl, rfl, rfl, rfl, rfl, rfl, rfl, (by rw [ed]; rfl), trivial⟩ rfl ?_
          refine xr_stp (st' := .int (Int32.ofNat 0) :: _) rfl rfl rfl rfl ?_
          refine xr_stp rfl rfl rfl rfl ?_
          refine xr_stp (st' := .int (Int32.ofNat 0) :: _) rfl rfl rfl rfl ?_
          refine xr_stp rfl rfl rfl rfl ?_
          refine xr_loc [(0, .ref 16), (1, .ref 17), (2, .ref 687), (3, .int (Int32.ofNat q)), (4, .ref A), (5, .ref 697), (6, .int (Int32.ofNat n)), (7, .int (Int32.ofNat lo)), (8, .int (Int32.ofNat k)), (15, .int (Int32.ofNat d0)), (16, .int (Int32.ofNat 0)), (17, .int (Int32.ofNat 0))] ⟨rfl, rfl, rfl, rfl, rfl, rfl, rfl, rfl, rfl, rfl, rfl, rfl, trivial⟩ rfl ?_
          refine mDL d q nn T lo dl k d0 (k + 1) f hnn hq r d0 0 0 n A N G AA WS W0 _ _ (by omega) (by omega) h3d hS hmw.s hA gA nA J (by omega) hG.s (by omega) (fun W1 A1 WS1 c1 s1 kc1 ks1 hmw1 hA1 gA1 nA1 hG1 hf1 => ?_)
          have hY1 := hY.keep hf1 (fun i h1 z => by have z : i = 697 := z; omega)
          clear hO
          obtain ⟨y1, y2, fi1, hc1⟩ := id hY1
          obtain ⟨lf, lp, hO⟩ := hc1.o
          refine xr_stp rfl rfl rfl rfl ?_
          refine xr_stp rfl rfl rfl rfl ?_
          refine xr_vcps hO rfl rfl rfl rfl rfl rfl (fun r1 K2 => cl_day _ _ _ nn q dl 1 0 T N n lo f W1 G AA d0 hY1 (by omega) (by omega) (by omega) (by omega) r1 (fun W2 hY2 hf2 => K2 _ _ _ _ ?_))
          refine xr_stp rfl rfl rfl rfl ?_
          refine xr_j2 rfl rfl rfl rfl rfl (fun h487 => ?_) (fun h487 => ?_)
          · refine xr_stp rfl rfl rfl rfl ?_
            refine xr_stp rfl rfl rfl rfl ?_
            refine xr_stp rfl rfl rfl rfl ?_
            refine xr_loc [(0, .ref 16), (1, .ref 17), (2, .ref 687), (3, .int (Int32.ofNat q)), (4, .ref A1), (5, .ref 697), (6, .int (Int32.ofNat ((n + d0)))), (7, .int (Int32.ofNat lo)), (8, .int (Int32.ofNat k)), (14, .null)] ⟨rfl, rfl, rfl, rfl, rfl, rfl, rfl, rfl, rfl, rfl, trivial⟩ rfl ?_
            exact mNull c s d nn q dl T N n lo A f G AA r k Gr W0 W2 _ _ (N + 65 * d0) WS1 hn hk gG nG K (n + d0) A1 (tk_ nn f q d0 G) (tkA nn f q d0 n G AA) (by omega) (by omega) (by omega) (by omega) (by omega) (by omega) hY2 (hmw1.keep (by omega) hf2 (fun i h1 h2 => np i (by omega))) (hf2.at hA1 (np _ (by omega))) gA1 nA1 hG1 (hf2.at (hf1.at hS (by omega)) (np _ (by omega))) ((hf1.weak (P2 := fun i => mP i ∨ i = Gr) (fun i _ z => Or.inl (Or.inr z))).tr (hf2.weak (P2 := fun i => mP i ∨ i = Gr) (fun i _ z => Or.inl (Or.inl z))))
          · have z487 := nf_eq h487
            exact (by omega)
      · have z354 := nf_ge (by omega) (by omega) h354
        exact (by omega)
    · have z277 := nf_ge (by omega) (by omega) h277
      exact (by omega)
  · have z234 := nf_ge (by omega) (by omega) h234
    exact (by omega)
theorem mYrs (d c s : Nat) (nn q dl T N n lo A : Nat) (f : Nat → Int32) (G : Nat → Nat) (AA : Nat → Nat → Nat) (r : xi_R → Prop) (k Gr x op a b g : Nat) (W0 : xi_W) (WS : Nat → Option Nat) (hn : n < 150) (hk : k < 44) (hq : q < 2) (gG : 696 ≤ Gr) (nG : Gr ≠ 697) (hN : N + 900 < 80000) (hnn : nn < 2147483648) (hx : x < 2147483648) (ha : a < 4) (hb : b < 2) (hg : g < 3) (hY : CY nn f q dl 1 0 T N n lo G AA W0) (hmw : mw 697 n lo AA k WS W0) (hA : W0[A]? = some (lw_a 1804 G)) (gA : 696 ≤ A) (nA : A ≠ 697) (nGA : Gr ≠ A) (hG : mG k G) (hGr : W0[Gr]? = some (lw_a 1804 G)) (hS : W0[16]? = some (lw_s nn f)) (K : (∀ (n' A' : Nat) G' AA' WS' (N' : Nat) W' c' s', lo ≤ n' → n' ≤ n + 3 → N ≤ N' → N' ≤ N + 600 → c' ≤ c + 730 → s' ≤ s + 10400 → CY nn f q dl 1 0 T N' n' (max lo (n' - 30)) G' AA' W' → mw 697 n' lo AA' (k + 1) WS' W' → W'[A']? = some (lw_a 1804 G') → 696 ≤ A' → A' ≠ 697 → mG (k + 1) G' → W'[16]? = some (lw_s nn f) → fr (fun i => mP i ∨ i = Gr) W0 W' → xr (d + 14) 199 633 [(0, .ref 16), (1, .ref 17), (2, .ref 687), (3, .int (Int32.ofNat q)), (4, .ref A'), (5, .ref 697), (6, .int (Int32.ofNat n')), (7, .int (Int32.ofNat lo)), (8, .int (Int32.ofNat k))] [] W' c' s' r)) (hop : op = 20) (h40 : G 4 ≤ 40) (hkG : ∀ i, lo ≤ i → i < n → WS i ≠ some Gr) : xr (d + 14) 199 230 [(0, .ref 16), (1, .ref 17), (2, .ref 687), (3, .int (Int32.ofNat q)), (4, .ref A), (5, .ref 697), (6, .int (Int32.ofNat n)), (7, .int (Int32.ofNat lo)), (8, .int (Int32.ofNat k)), (9, .int (Int32.ofNat x)), (10, .int (Int32.ofNat op)), (11, .int (Int32.ofNat a)), (12, .int (Int32.ofNat b)), (13, .int (Int32.ofNat g)), (14, .ref Gr)] [] W0 c s r := by
  subst hop
  obtain ⟨hlo, hnl, fi, hc⟩ := id hY
  obtain ⟨F, hw, hr⟩ := hc.w
  have J := hr.j
  have hok := J.ok (show N < 1000000 by omega)
  obtain ⟨lf, lp, hO⟩ := hc.o
  have np : ∀ i, 360 ≤ i ∨ i < 23 → ¬ pq i := fun i h z => by unfold pq at z; omega
  obtain ⟨hG1, hG2, hG3⟩ := id hG
  refine xr_stp rfl rfl rfl rfl ?_
  refine xr_stp (st' := .int (Int32.ofNat 7) :: _) rfl rfl rfl rfl ?_
  refine xr_j2 rfl rfl rfl rfl rfl (fun h234 => ?_) (fun h234 => ?_)
  · refine xr_stp rfl rfl rfl rfl ?_
    refine xr_stp (st' := .int (Int32.ofNat 9) :: _) rfl rfl rfl rfl ?_
    refine xr_j2 rfl rfl rfl rfl rfl (fun h277 => ?_) (fun h277 => ?_)
    · refine xr_stp rfl rfl rfl rfl ?_
      refine xr_stp (st' := .int (Int32.ofNat 15) :: _) rfl rfl rfl rfl ?_
      refine xr_j2 rfl rfl rfl rfl rfl (fun h354 => ?_) (fun h354 => ?_)
      · refine xr_stp rfl rfl rfl rfl ?_
        refine xr_stp (st' := .int (Int32.ofNat 20) :: _) rfl rfl rfl rfl ?_
        refine xr_j2 rfl rfl rfl rfl rfl (fun h415 => ?_) (fun h415 => ?_)
        · refine xr_stp rfl rfl rfl rfl ?_
          refine xr_stp (st' := .int (Int32.ofNat 20) :: _) rfl rfl rfl rfl ?_
          refine xr_j2 rfl rfl rfl rfl rfl (fun h502 => ?_) (fun h502 => ?_)
          · have z502 := nt_ne h502
            exact (by omega)
          · refine xr_stp rfl rfl rfl rfl ?_
            refine xr_stp (st' := .int (Int32.ofNat 3) :: _) rfl rfl rfl rfl ?_
            refine xs_shr (by omega) (by omega) rfl ?_
            refine xr_stp (st' := .int (Int32.ofNat 10000) :: _) rfl rfl rfl rfl ?_
            refine xs_mod (by omega) (by omega) (by omega) rfl ?_
            refine xr_stp rfl rfl rfl rfl ?_
            refine xr_stp (st' := .int (Int32.ofNat 1) :: _) rfl rfl rfl rfl ?_
            refine xr_stp rfl rfl rfl rfl ?_
            refine xr_stp (st' := .int (Int32.ofNat 2) :: _) rfl rfl rfl rfl ?_
            refine xs_shr (by omega) (by omega) rfl ?_
            refine xr_stp (st' := .int (Int32.ofNat 9) :: _) rfl rfl rfl rfl ?_
            refine xs_mod (by omega) (by omega) (by omega) rfl ?_
            refine xs_add rfl ?_
            refine xr_stp rfl rfl rfl rfl ?_
            obtain ⟨sd, es⟩ : ∃ sd, sd = x / 2 ^ 3 % 10000 := ⟨_, rfl⟩
            obtain ⟨cn, ec⟩ : ∃ cn, cn = 1 + x / 2 ^ 2 % 9 := ⟨_, rfl⟩
            have hsd : sd ≤ 9999 := by omega
            have hcn1 : 1 ≤ cn := by omega
            have hcn9 : cn ≤ 9 := by omega
            refine xr_loc [(0, .ref 16), (1, .ref 17), (2, .ref 687), (3, .int (Int32.ofNat q)), (4, .ref A), (5, .ref 697), (6, .int (Int32.ofNat n)), (7, .int (Int32.ofNat lo)), (8, .int (Int32.ofNat k)), (14, .ref Gr), (15, .int (Int32.ofNat sd)), (16, .int (Int32.ofNat cn))] ⟨rfl, rfl, rfl, rfl, rfl, rfl, rfl, rfl, rfl, rfl, (by rw [es]; rfl), (by rw [ec]; rfl), trivial⟩ rfl ?_
            refine xr_stp rfl rfl rfl rfl ?_
            refine xr_stp rfl rfl rfl rfl ?_
            refine xr_stp rfl rfl rfl rfl ?_
            refine xr_vcps hO rfl rfl rfl rfl rfl rfl (fun r1 K2 => cl_years _ _ _ nn q dl 1 0 T N n lo f W0 G AA sd cn hY hsd hcn1 (by omega) (by omega) (by omega) (by omega) r1 (fun W1 hY1 hf1 hy0 => K2 _ _ _ _ ?_))
            have hGr1 := hf1.at hGr (np _ (by omega))
            have hA1 := hf1.at hA (np _ (by omega))
            have hS1 := hf1.at hS (np _ (by omega))
            have hmw1 := hmw.keep (by omega) hf1 (fun i h1 h2 => np i (by omega))
            refine xr_stp rfl rfl rfl rfl ?_
            refine xr_stp rfl rfl rfl rfl ?_
            refine xr_stp rfl rfl rfl rfl ?_
            refine xr_stp rfl rfl rfl rfl ?_
            refine xr_stp rfl rfl rfl rfl ?_
            refine xr_cps rfl rfl rfl (fun r1 K2 => lw_years _ Gr 16 nn f (by omega) hnn (by omega) q hq r1 sd cn (by omega) (by omega) N _ _ G W1 J (by omega) (by omega) hGr1 hS1 (fun W2 c2 s2 kc2 ks2 hGr2 hf2 => K2 _ _ _ _ ?_))
            refine xr_j2 rfl rfl rfl rfl rfl (fun h545 => ?_) (fun h545 => ?_)
            · refine xr_stp rfl rfl rfl rfl ?_
              refine xr_loc [(0, .ref 16), (1, .ref 17), (2, .ref 687), (3, .int (Int32.ofNat q)), (4, .ref A), (5, .ref 697), (6, .int (Int32.ofNat n)), (7, .int (Int32.ofNat lo)), (8, .int (Int32.ofNat k)), (14, .ref Gr)] ⟨rfl, rfl, rfl, rfl, rfl, rfl, rfl, rfl, rfl, rfl, trivial⟩ rfl ?_
              have J1 : lw_J N (xn_u G 1 (2 * sd + 509)) := J.low 1 _ (by omega) (fun _ => by omega) (fun e => absurd rfl e) (Nat.le_refl _) (by omega)
              have e4 : xn_u G 1 (2 * sd + 509) 4 = G 4 := xn_un _ _ (by omega)
              have y4 : lw_ys nn f q G sd cn 4 ≤ xn_u G 1 (2 * sd + 509) 4 + cn := yr4 nn f q cn N _ J1 (by omega) (by omega)
              have yab : ab (lw_ys nn f q G sd cn) := ab.yr nn f q cn N _ (hG1.lo J.m (fun j hj => xn_un _ _ (by omega))) J1 (by omega) (by omega)
              exact mPush c s d nn q dl T N n lo A f G AA r k Gr W0 W2 _ _ (N + 65 * cn) WS hn hk gG nG K _ hlo (by omega) (by omega) (by omega) (by omega) (hY1.keep hf2 (fun i h1 z => by have z : i = Gr := z; omega)) (hmw1.keepG hf2 (by omega) hkG) (hf2.at hA1 (fun z => by have z : A = Gr := z; omega)) gA nA hG hGr2 ⟨yab, by omega, by omega⟩ (hf2.at hS1 (fun z => by have z : 16 = Gr := z; omega)) ((hf1.weak (P2 := fun i => mP i ∨ i = Gr) (fun i _ z => Or.inl (Or.inl z))).tr (hf2.weak (P2 := fun i => mP i ∨ i = Gr) (fun i _ z => Or.inr z)))
            · have z545 := nf_eq h545
              exact (by omega)
        · have z415 := nf_ge (by omega) (by omega) h415
          exact (by omega)
      · have z354 := nf_ge (by omega) (by omega) h354
        exact (by omega)
    · have z277 := nf_ge (by omega) (by omega) h277
      exact (by omega)
  · have z234 := nf_ge (by omega) (by omega) h234
    exact (by omega)
theorem mUnd (d c s : Nat) (nn q dl T N n lo A : Nat) (f : Nat → Int32) (G : Nat → Nat) (AA : Nat → Nat → Nat) (r : xi_R → Prop) (k Gr x op a b g : Nat) (W0 : xi_W) (WS : Nat → Option Nat) (hn : n < 150) (hk : k < 44) (hq : q < 2) (gG : 696 ≤ Gr) (nG : Gr ≠ 697) (hN : N + 900 < 80000) (hnn : nn < 2147483648) (hx : x < 2147483648) (ha : a < 4) (hb : b < 2) (hg : g < 3) (hY : CY nn f q dl 1 0 T N n lo G AA W0) (hmw : mw 697 n lo AA k WS W0) (hA : W0[A]? = some (lw_a 1804 G)) (gA : 696 ≤ A) (nA : A ≠ 697) (nGA : Gr ≠ A) (hG : mG k G) (hGr : W0[Gr]? = some (lw_a 1804 G)) (hS : W0[16]? = some (lw_s nn f)) (K : (∀ (n' A' : Nat) G' AA' WS' (N' : Nat) W' c' s', lo ≤ n' → n' ≤ n + 3 → N ≤ N' → N' ≤ N + 600 → c' ≤ c + 730 → s' ≤ s + 10400 → CY nn f q dl 1 0 T N' n' (max lo (n' - 30)) G' AA' W' → mw 697 n' lo AA' (k + 1) WS' W' → W'[A']? = some (lw_a 1804 G') → 696 ≤ A' → A' ≠ 697 → mG (k + 1) G' → W'[16]? = some (lw_s nn f) → fr (fun i => mP i ∨ i = Gr) W0 W' → xr (d + 14) 199 633 [(0, .ref 16), (1, .ref 17), (2, .ref 687), (3, .int (Int32.ofNat q)), (4, .ref A'), (5, .ref 697), (6, .int (Int32.ofNat n')), (7, .int (Int32.ofNat lo)), (8, .int (Int32.ofNat k))] [] W' c' s' r)) (hop : 21 ≤ op) (hop2 : op < 23) (hw0 : WS n = none ∨ WS n = some A) : xr (d + 14) 199 230 [(0, .ref 16), (1, .ref 17), (2, .ref 687), (3, .int (Int32.ofNat q)), (4, .ref A), (5, .ref 697), (6, .int (Int32.ofNat n)), (7, .int (Int32.ofNat lo)), (8, .int (Int32.ofNat k)), (9, .int (Int32.ofNat x)), (10, .int (Int32.ofNat op)), (11, .int (Int32.ofNat a)), (12, .int (Int32.ofNat b)), (13, .int (Int32.ofNat g)), (14, .ref Gr)] [] W0 c s r := by
  obtain ⟨hlo, hnl, fi, hc⟩ := id hY
  obtain ⟨F, hw, hr⟩ := hc.w
  have J := hr.j
  have hok := J.ok (show N < 1000000 by omega)
  obtain ⟨lf, lp, hO⟩ := hc.o
  have np : ∀ i, 360 ≤ i ∨ i < 23 → ¬ pq i := fun i h z => by unfold pq at z; omega
  obtain ⟨hG1, hG2, hG3⟩ := id hG
  have e30 : max lo (n - 30) = lo := by omega
  by_cases hnl0 : n = lo
  · have e0 : n - lo = 0 := by omega
    refine xr_stp rfl rfl rfl rfl ?_
    refine xr_stp (st' := .int (Int32.ofNat 7) :: _) rfl rfl rfl rfl ?_
    refine xr_j2 rfl rfl rfl rfl rfl (fun h234 => ?_) (fun h234 => ?_)
    · refine xr_stp rfl rfl rfl rfl ?_
      refine xr_stp (st' := .int (Int32.ofNat 9) :: _) rfl rfl rfl rfl ?_
      refine xr_j2 rfl rfl rfl rfl rfl (fun h277 => ?_) (fun h277 => ?_)
      · refine xr_stp rfl rfl rfl rfl ?_
        refine xr_stp (st' := .int (Int32.ofNat 15) :: _) rfl rfl rfl rfl ?_
        refine xr_j2 rfl rfl rfl rfl rfl (fun h354 => ?_) (fun h354 => ?_)
        · refine xr_stp rfl rfl rfl rfl ?_
          refine xr_stp (st' := .int (Int32.ofNat 20) :: _) rfl rfl rfl rfl ?_
          refine xr_j2 rfl rfl rfl rfl rfl (fun h415 => ?_) (fun h415 => ?_)
          · refine xr_stp rfl rfl rfl rfl ?_
            refine xr_stp (st' := .int (Int32.ofNat 20) :: _) rfl rfl rfl rfl ?_
            refine xr_j2 rfl rfl rfl rfl rfl (fun h502 => ?_) (fun h502 => ?_)
            · refine xr_stp rfl rfl rfl rfl ?_
              refine xr_vcps hO rfl rfl rfl rfl rfl rfl (fun r1 K2 => cl_undo0 _ _ _ nn q dl 1 0 T N fi (n - lo) f W0 G _ (by rw [← e0]; rw [e0] at hc ⊢; exact hc) r1 (K2 _ _ _ _ ?_))
              refine xr_stp rfl rfl rfl rfl ?_
              refine xr_stp rfl rfl rfl rfl ?_
              refine xr_j2 rfl rfl rfl rfl rfl (fun h561 => ?_) (fun h561 => ?_)
              · have z561 := nt_ne h561
                exact (by omega)
              · refine xr_stp (st' := .int (Int32.ofNat 4294967295) :: _) rfl rfl rfl rfl ?_
                refine xr_stp rfl rfl rfl rfl ?_
                rcases hw0 with hw0 | hw0
                · refine xr_j2 rfl rfl rfl rfl rfl (fun h575 => ?_) (fun h575 => ?_)
                  · refine xr_stp rfl rfl rfl rfl ?_
                    refine xr_stp rfl rfl rfl rfl ?_
                    refine xr_stp (st' := .int (Int32.ofNat 1) :: _) rfl rfl rfl rfl ?_
                    refine xs_smx (by omega) (by omega) (by omega) rfl rfl rfl rfl ?_
                    rw [show max lo (n - 1) = n by omega]
                    refine xr_stp rfl rfl rfl rfl ?_
                    refine xr_stp rfl rfl rfl rfl ?_
                    refine xr_stp rfl rfl rfl rfl ?_
                    refine xs_ala hmw.1 (by omega) (by omega) (by omega) rfl ?_
                    rw [hw0]
                    refine xr_stp rfl rfl rfl rfl ?_
                    refine xr_stp rfl rfl rfl rfl ?_
                    refine xr_stp rfl rfl rfl rfl ?_
                    refine xr_stp rfl rfl rfl rfl ?_
                    refine xr_stp rfl rfl rfl rfl ?_
                    refine xr_stp rfl rfl rfl rfl ?_
                    refine xr_loc [(0, .ref 16), (1, .ref 17), (2, .ref 687), (3, .int (Int32.ofNat q)), (4, .ref A), (5, .ref 697), (6, .int (Int32.ofNat n)), (7, .int (Int32.ofNat lo)), (8, .int (Int32.ofNat k)), (14, .null)] ⟨rfl, rfl, rfl, rfl, rfl, rfl, rfl, rfl, rfl, rfl, trivial⟩ rfl ?_
                    exact mNull c s d nn q dl T N n lo A f G AA r k Gr W0 W0 _ _ N WS hn hk gG nG K n A G AA (by omega) (by omega) (by omega) (by omega) (by omega) (by omega) (by rw [e30]; exact hY) hmw.s hA gA nA hG.s hS fr.rf
                  · have z575 := nf_eq h575
                    exact (by omega)
                · refine xr_j2 rfl rfl rfl rfl rfl (fun h575 => ?_) (fun h575 => ?_)
                  · refine xr_stp rfl rfl rfl rfl ?_
                    refine xr_stp rfl rfl rfl rfl ?_
                    refine xr_stp (st' := .int (Int32.ofNat 1) :: _) rfl rfl rfl rfl ?_
                    refine xs_smx (by omega) (by omega) (by omega) rfl rfl rfl rfl ?_
                    rw [show max lo (n - 1) = n by omega]
                    refine xr_stp rfl rfl rfl rfl ?_
                    refine xr_stp rfl rfl rfl rfl ?_
                    refine xr_stp rfl rfl rfl rfl ?_
                    refine xs_ala hmw.1 (by omega) (by omega) (by omega) rfl ?_
                    rw [hw0]
                    refine xr_stp rfl rfl rfl rfl ?_
                    refine xr_stp rfl rfl rfl rfl ?_
                    refine xr_stp rfl rfl rfl rfl ?_
                    refine xs_ala hmw.1 (by omega) (by omega) (by omega) rfl ?_
                    rw [hw0]
                    refine xr_stp rfl rfl rfl rfl ?_
                    refine xr_stp rfl rfl rfl rfl ?_
                    refine xr_stp rfl rfl rfl rfl ?_
                    refine xr_loc [(0, .ref 16), (1, .ref 17), (2, .ref 687), (3, .int (Int32.ofNat q)), (4, .ref A), (5, .ref 697), (6, .int (Int32.ofNat n)), (7, .int (Int32.ofNat lo)), (8, .int (Int32.ofNat k)), (14, .null)] ⟨rfl, rfl, rfl, rfl, rfl, rfl, rfl, rfl, rfl, rfl, trivial⟩ rfl ?_
                    exact mNull c s d nn q dl T N n lo A f G AA r k Gr W0 W0 _ _ N WS hn hk gG nG K n A G AA (by omega) (by omega) (by omega) (by omega) (by omega) (by omega) (by rw [e30]; exact hY) hmw.s hA gA nA hG.s hS fr.rf
                  · have z575 := nf_eq h575
                    exact (by omega)
            · have z502 := nf_ne (by omega) (by omega) h502
              exact (by omega)
          · have z415 := nf_ge (by omega) (by omega) h415
            exact (by omega)
        · have z354 := nf_ge (by omega) (by omega) h354
          exact (by omega)
      · have z277 := nf_ge (by omega) (by omega) h277
        exact (by omega)
    · have z234 := nf_ge (by omega) (by omega) h234
      exact (by omega)
  · rw [show n - lo = n - 1 - lo + 1 by omega] at hc
    refine xr_stp rfl rfl rfl rfl ?_
    refine xr_stp (st' := .int (Int32.ofNat 7) :: _) rfl rfl rfl rfl ?_
    refine xr_j2 rfl rfl rfl rfl rfl (fun h234 => ?_) (fun h234 => ?_)
    · refine xr_stp rfl rfl rfl rfl ?_
      refine xr_stp (st' := .int (Int32.ofNat 9) :: _) rfl rfl rfl rfl ?_
      refine xr_j2 rfl rfl rfl rfl rfl (fun h277 => ?_) (fun h277 => ?_)
      · refine xr_stp rfl rfl rfl rfl ?_
        refine xr_stp (st' := .int (Int32.ofNat 15) :: _) rfl rfl rfl rfl ?_
        refine xr_j2 rfl rfl rfl rfl rfl (fun h354 => ?_) (fun h354 => ?_)
        · refine xr_stp rfl rfl rfl rfl ?_
          refine xr_stp (st' := .int (Int32.ofNat 20) :: _) rfl rfl rfl rfl ?_
          refine xr_j2 rfl rfl rfl rfl rfl (fun h415 => ?_) (fun h415 => ?_)
          · refine xr_stp rfl rfl rfl rfl ?_
            refine xr_stp (st' := .int (Int32.ofNat 20) :: _) rfl rfl rfl rfl ?_
            refine xr_j2 rfl rfl rfl rfl rfl (fun h502 => ?_) (fun h502 => ?_)
            · refine xr_stp rfl rfl rfl rfl ?_
              refine xr_vcps hO rfl rfl rfl rfl rfl rfl (fun r1 K2 => cl_undo _ _ _ nn q dl 1 0 T N fi (n - 1 - lo) f W0 G _ hc r1 (fun W1 hc1 hf1 => K2 _ _ _ _ ?_))
              have hmw1 := hmw.keep (by omega) hf1 (fun i h1 h2 => np i (by omega))
              obtain ⟨R, w1, w2, w3, w4, w5⟩ := hmw1.2 (n - 1) (by omega) (by omega)
              have hY1 : CY nn f q dl 1 0 T N (n - 1) lo (AA (n - 1)) AA W1 := ⟨by omega, by omega, fi, by rw [show lo + (n - 1 - lo) = n - 1 by omega] at hc1; exact hc1⟩
              refine xr_stp rfl rfl rfl rfl ?_
              refine xr_stp rfl rfl rfl rfl ?_
              refine xr_j2 rfl rfl rfl rfl rfl (fun h561 => ?_) (fun h561 => ?_)
              · refine xr_stp rfl rfl rfl rfl ?_
                refine xr_stp (st' := .int (Int32.ofNat 1) :: _) rfl rfl rfl rfl ?_
                refine xs_sub (by omega) rfl ?_
                refine xr_stp rfl rfl rfl rfl ?_
                refine xs_sub (by omega) rfl ?_
                refine xr_j2 rfl rfl rfl rfl rfl (fun h575 => ?_) (fun h575 => ?_)
                · refine xr_stp rfl rfl rfl rfl ?_
                  refine xr_stp rfl rfl rfl rfl ?_
                  refine xr_stp (st' := .int (Int32.ofNat 1) :: _) rfl rfl rfl rfl ?_
                  refine xs_smx (by omega) (by omega) (by omega) rfl rfl rfl rfl ?_
                  rw [show max lo (n - 1) = (n - 1) by omega]
                  refine xr_stp rfl rfl rfl rfl ?_
                  refine xr_stp rfl rfl rfl rfl ?_
                  refine xr_stp rfl rfl rfl rfl ?_
                  refine xs_ala hmw1.1 (by omega) (by omega) (by omega) rfl ?_
                  rw [w1]
                  refine xr_stp rfl rfl rfl rfl ?_
                  refine xr_stp rfl rfl rfl rfl ?_
                  refine xr_stp rfl rfl rfl rfl ?_
                  refine xs_ala hmw1.1 (by omega) (by omega) (by omega) rfl ?_
                  rw [w1]
                  refine xr_stp rfl rfl rfl rfl ?_
                  refine xr_stp rfl rfl rfl rfl ?_
                  refine xr_stp rfl rfl rfl rfl ?_
                  refine xr_loc [(0, .ref 16), (1, .ref 17), (2, .ref 687), (3, .int (Int32.ofNat q)), (4, .ref R), (5, .ref 697), (6, .int (Int32.ofNat ((n - 1)))), (7, .int (Int32.ofNat lo)), (8, .int (Int32.ofNat k)), (14, .null)] ⟨rfl, rfl, rfl, rfl, rfl, rfl, rfl, rfl, rfl, rfl, trivial⟩ rfl ?_
                  have hmq : mw 697 (n - 1) lo AA (k + 1) WS W1 := ⟨hmw1.1, fun i h1 h2 => by
                    obtain ⟨R2, e1, e2, e3, e4, e5⟩ := hmw1.2 i h1 (by omega)
                    exact ⟨R2, e1, e2, e3, e4, e5.s⟩⟩
                  exact mNull c s d nn q dl T N n lo A f G AA r k Gr W0 W1 _ _ N WS hn hk gG nG K (n - 1) R (AA (n - 1)) AA (by omega) (by omega) (by omega) (by omega) (by omega) (by omega) (by rw [show max lo (n - 1 - 30) = lo by omega]; exact hY1) hmq w4 w2 w3 w5.s (hf1.at hS (np _ (by omega))) ((hf1.weak (P2 := fun i => mP i ∨ i = Gr) (fun i _ z => Or.inl (Or.inl z))))
                · have z575 := nf_eq h575
                  exact (by omega)
              · have z561 := nf_ne (by omega) (by omega) h561
                exact (by omega)
            · have z502 := nf_ne (by omega) (by omega) h502
              exact (by omega)
          · have z415 := nf_ge (by omega) (by omega) h415
            exact (by omega)
        · have z354 := nf_ge (by omega) (by omega) h354
          exact (by omega)
      · have z277 := nf_ge (by omega) (by omega) h277
        exact (by omega)
    · have z234 := nf_ge (by omega) (by omega) h234
      exact (by omega)
