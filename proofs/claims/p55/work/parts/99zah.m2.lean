/-! the law itself: what a step does: set, clear, reset, send -/
theorem mPush (c s : Nat) (d : Nat) (nn q dl T N n lo A : Nat) (f : Nat → Int32) (G : Nat → Nat) (AA : Nat → Nat → Nat) (r : xi_R → Prop) (k Gr : Nat) (W0 W1 : xi_W) (c1 s1 N' : Nat) (WS : Nat → Option Nat) (hn : n < 150) (hk : k < 44) (gG : 696 ≤ Gr) (nG : Gr ≠ 697) (K : (∀ (n' A' : Nat) G' AA' WS' (N' : Nat) W' c' s', lo ≤ n' → n' ≤ n + 3 → N ≤ N' → N' ≤ N + 600 → c' ≤ c + 730 → s' ≤ s + 10400 → CY nn f q dl 1 0 T N' n' (max lo (n' - 30)) G' AA' W' → mw 697 n' lo AA' (k + 1) WS' W' → W'[A']? = some (lw_a 1804 G') → 696 ≤ A' → A' ≠ 697 → mG (k + 1) G' → W'[16]? = some (lw_s nn f) → fr (fun i => mP i ∨ i = Gr) W0 W' → xr (d + 14) 199 633 [(0, .ref 16), (1, .ref 17), (2, .ref 687), (3, .int (Int32.ofNat q)), (4, .ref A'), (5, .ref 697), (6, .int (Int32.ofNat n')), (7, .int (Int32.ofNat lo)), (8, .int (Int32.ofNat k))] [] W' c' s' r)) (G' : Nat → Nat) (hlo : lo ≤ n) (hN1 : N ≤ N') (hN2 : N' ≤ N + 600) (hc1 : c1 ≤ c + 730) (hs1 : s1 ≤ s + 10400) (hY : CY nn f q dl 1 0 T N' (n + 1) (max lo (n + 1 - 30)) G' (uPd AA n G) W1) (hmw : mw 697 n lo AA k WS W1) (hA : W1[A]? = some (lw_a 1804 G)) (gA : 696 ≤ A) (nA : A ≠ 697) (hG : mG k G) (hGr : W1[Gr]? = some (lw_a 1804 G')) (hG' : mG (k + 1) G') (hS : W1[16]? = some (lw_s nn f)) (hF : fr (fun i => mP i ∨ i = Gr) W0 W1) : xr (d + 14) 199 614 [(0, .ref 16), (1, .ref 17), (2, .ref 687), (3, .int (Int32.ofNat q)), (4, .ref A), (5, .ref 697), (6, .int (Int32.ofNat n)), (7, .int (Int32.ofNat lo)), (8, .int (Int32.ofNat k)), (14, .ref Gr)] [] W1 c1 s1 r := by
  refine xr_stp rfl rfl rfl rfl ?_
  refine xr_stp rfl rfl rfl rfl ?_
  refine xr_stp rfl rfl rfl rfl ?_
  refine xr_stp rfl rfl rfl rfl ?_
  refine xr_stp rfl rfl rfl rfl ?_
  refine xs_asl hmw.1 hA (by omega) (by omega) (by omega) (by omega) rfl (fun W2 hB2 hf2 => ?_)
  refine xs_inc (e := 1) rfl rfl rfl rfl ?_
  refine xr_stp rfl rfl rfl rfl ?_
  refine xr_stp rfl rfl rfl rfl ?_
  refine xr_loc [(0, .ref 16), (1, .ref 17), (2, .ref 687), (3, .int (Int32.ofNat q)), (4, .ref Gr), (5, .ref 697), (6, .int (Int32.ofNat ((n + 1)))), (7, .int (Int32.ofNat lo)), (8, .int (Int32.ofNat k))] ⟨rfl, rfl, rfl, rfl, rfl, rfl, rfl, rfl, rfl, trivial⟩ rfl ?_
  exact K (n + 1) Gr G' (uPd AA n G) (va_up WS n (some A)) N' W2 c1 s1 (by omega) (by omega) hN1 hN2 hc1 hs1 (hY.keep hf2 (fun i h1 z => by have z : i = 697 := z; omega)) ((mw.put hmw hB2 hf2 gA nA hA hG).s) (hf2.at hGr (by omega)) gG nG hG' (hf2.at hS (by omega)) (hF.tr (hf2.weak (P2 := fun i => mP i ∨ i = Gr) (fun i _ z => Or.inl (Or.inr z))))
theorem mNull (c s : Nat) (d : Nat) (nn q dl T N n lo A : Nat) (f : Nat → Int32) (G : Nat → Nat) (AA : Nat → Nat → Nat) (r : xi_R → Prop) (k Gr : Nat) (W0 W1 : xi_W) (c1 s1 N' : Nat) (WS : Nat → Option Nat) (hn : n < 150) (hk : k < 44) (gG : 696 ≤ Gr) (nG : Gr ≠ 697) (K : (∀ (n' A' : Nat) G' AA' WS' (N' : Nat) W' c' s', lo ≤ n' → n' ≤ n + 3 → N ≤ N' → N' ≤ N + 600 → c' ≤ c + 730 → s' ≤ s + 10400 → CY nn f q dl 1 0 T N' n' (max lo (n' - 30)) G' AA' W' → mw 697 n' lo AA' (k + 1) WS' W' → W'[A']? = some (lw_a 1804 G') → 696 ≤ A' → A' ≠ 697 → mG (k + 1) G' → W'[16]? = some (lw_s nn f) → fr (fun i => mP i ∨ i = Gr) W0 W' → xr (d + 14) 199 633 [(0, .ref 16), (1, .ref 17), (2, .ref 687), (3, .int (Int32.ofNat q)), (4, .ref A'), (5, .ref 697), (6, .int (Int32.ofNat n')), (7, .int (Int32.ofNat lo)), (8, .int (Int32.ofNat k))] [] W' c' s' r)) (n' A' : Nat) (G' : Nat → Nat) (AA' : Nat → Nat → Nat) (hlo : lo ≤ n') (hn3 : n' ≤ n + 3) (hN1 : N ≤ N') (hN2 : N' ≤ N + 600) (hc1 : c1 ≤ c + 730) (hs1 : s1 ≤ s + 10400) (hY : CY nn f q dl 1 0 T N' n' (max lo (n' - 30)) G' AA' W1) (hmw : mw 697 n' lo AA' (k + 1) WS W1) (hA : W1[A']? = some (lw_a 1804 G')) (gA : 696 ≤ A') (nA : A' ≠ 697) (hG : mG (k + 1) G') (hS : W1[16]? = some (lw_s nn f)) (hF : fr (fun i => mP i ∨ i = Gr) W0 W1) : xr (d + 14) 199 614 [(0, .ref 16), (1, .ref 17), (2, .ref 687), (3, .int (Int32.ofNat q)), (4, .ref A'), (5, .ref 697), (6, .int (Int32.ofNat n')), (7, .int (Int32.ofNat lo)), (8, .int (Int32.ofNat k)), (14, .null)] [] W1 c1 s1 r := by
  refine xr_stp rfl rfl rfl rfl ?_
  refine xr_stp rfl rfl rfl rfl ?_
  refine xr_loc [(0, .ref 16), (1, .ref 17), (2, .ref 687), (3, .int (Int32.ofNat q)), (4, .ref A'), (5, .ref 697), (6, .int (Int32.ofNat n')), (7, .int (Int32.ofNat lo)), (8, .int (Int32.ofNat k))] ⟨rfl, rfl, rfl, rfl, rfl, rfl, rfl, rfl, rfl, trivial⟩ rfl ?_
  exact K n' A' G' AA' WS N' W1 c1 s1 hlo hn3 hN1 hN2 hc1 hs1 hY hmw hA gA nA hG hS hF
theorem mw.keepG {Bw n lo k Gr : Nat} {AA : Nat → Nat → Nat} {WS : Nat → Option Nat} {W W' : xi_W} (h : mw Bw n lo AA k WS W) (hf : fr (· = Gr) W W') (nG : Bw ≠ Gr) (hk : ∀ i, lo ≤ i → i < n → WS i ≠ some Gr) : mw Bw n lo AA k WS W' := by
  refine ⟨hf.at h.1 nG, fun i h1 h2 => ?_⟩
  obtain ⟨R, e1, e2, e3, e4, e5⟩ := h.2 i h1 h2
  exact ⟨R, e1, e2, e3, hf.at e4 (fun z => hk i h1 h2 (by have z : R = Gr := z; rw [e1, z])), e5⟩
theorem mSet (d c s : Nat) (nn q dl T N n lo A : Nat) (f : Nat → Int32) (G : Nat → Nat) (AA : Nat → Nat → Nat) (r : xi_R → Prop) (k Gr x op a b g : Nat) (W0 : xi_W) (WS : Nat → Option Nat) (hn : n < 150) (hk : k < 44) (hq : q < 2) (gG : 696 ≤ Gr) (nG : Gr ≠ 697) (hN : N + 900 < 80000) (hnn : nn < 2147483648) (hx : x < 2147483648) (ha : a < 4) (hb : b < 2) (hg : g < 3) (hY : CY nn f q dl 1 0 T N n lo G AA W0) (hmw : mw 697 n lo AA k WS W0) (hA : W0[A]? = some (lw_a 1804 G)) (gA : 696 ≤ A) (nA : A ≠ 697) (nGA : Gr ≠ A) (hG : mG k G) (hGr : W0[Gr]? = some (lw_a 1804 G)) (hS : W0[16]? = some (lw_s nn f)) (K : (∀ (n' A' : Nat) G' AA' WS' (N' : Nat) W' c' s', lo ≤ n' → n' ≤ n + 3 → N ≤ N' → N' ≤ N + 600 → c' ≤ c + 730 → s' ≤ s + 10400 → CY nn f q dl 1 0 T N' n' (max lo (n' - 30)) G' AA' W' → mw 697 n' lo AA' (k + 1) WS' W' → W'[A']? = some (lw_a 1804 G') → 696 ≤ A' → A' ≠ 697 → mG (k + 1) G' → W'[16]? = some (lw_s nn f) → fr (fun i => mP i ∨ i = Gr) W0 W' → xr (d + 14) 199 633 [(0, .ref 16), (1, .ref 17), (2, .ref 687), (3, .int (Int32.ofNat q)), (4, .ref A'), (5, .ref 697), (6, .int (Int32.ofNat n')), (7, .int (Int32.ofNat lo)), (8, .int (Int32.ofNat k))] [] W' c' s' r)) (hop : op < 7) (h40 : G 4 ≤ 40) (hkG : ∀ i, lo ≤ i → i < n → WS i ≠ some Gr) : xr (d + 14) 199 230 [(0, .ref 16), (1, .ref 17), (2, .ref 687), (3, .int (Int32.ofNat q)), (4, .ref A), (5, .ref 697), (6, .int (Int32.ofNat n)), (7, .int (Int32.ofNat lo)), (8, .int (Int32.ofNat k)), (9, .int (Int32.ofNat x)), (10, .int (Int32.ofNat op)), (11, .int (Int32.ofNat a)), (12, .int (Int32.ofNat b)), (13, .int (Int32.ofNat g)), (14, .ref Gr)] [] W0 c s r := by
  obtain ⟨hlo, hnl, fi, hc⟩ := id hY
  obtain ⟨F, hw, hr⟩ := hc.w
  have J := hr.j
  have hok := J.ok (show N < 1000000 by omega)
  obtain ⟨lf, lp, hO⟩ := hc.o
  have np : ∀ i, 360 ≤ i ∨ i < 23 → ¬ pq i := fun i h z => by unfold pq at z; omega
  obtain ⟨hG1, hG2, hG3⟩ := id hG
  refine xr_stp rfl rfl rfl rfl ?_
  refine xr_stp (st' := .int (Int32.ofNat 7) :: _) rfl rfl rfl rfl ?_
  refine xr_j2 rfl rfl rfl rfl rfl (fun h234 => ?_) (fun h234 => ?_)
  · have z234 := nt_ge (by omega) (by omega) h234
    exact (by omega)
  · refine xr_stp rfl rfl rfl rfl ?_
    refine xr_stp rfl rfl rfl rfl ?_
    refine xr_stp rfl rfl rfl rfl ?_
    refine xr_stp rfl rfl rfl rfl ?_
    refine xr_stp rfl rfl rfl rfl ?_
    refine xr_stp (st' := .int (Int32.ofNat 100) :: _) rfl rfl rfl rfl ?_
    refine xs_mod (by omega) (by omega) (by omega) rfl ?_
    refine xr_vcps hO rfl rfl rfl rfl rfl rfl (fun r1 K2 => cl_set _ _ _ nn q dl 1 0 T N fi (n - lo) f W0 G _ a b g (x % 100) hc (by have := hG.2.2; omega) ha (by omega) hg (by omega) (by omega) r1 (fun W1 fi1 hc1 hf1 => K2 _ _ _ _ ?_))
    have hY1 := CY.push hlo hnl hc1
    have hGr1 := hf1.at hGr (np _ (by omega))
    have hA1 := hf1.at hA (np _ (by omega))
    have hS1 := hf1.at hS (np _ (by omega))
    have hmw1 := hmw.keep (by omega) hf1 (fun i h1 h2 => np i (by omega))
    refine xr_stp rfl rfl rfl rfl ?_
    refine xr_stp rfl rfl rfl rfl ?_
    refine xr_stp rfl rfl rfl rfl ?_
    refine xr_stp rfl rfl rfl rfl ?_
    refine xr_stp rfl rfl rfl rfl ?_
    refine xr_stp (st' := .int (Int32.ofNat 100) :: _) rfl rfl rfl rfl ?_
    refine xs_mod (by omega) (by omega) (by omega) rfl ?_
    refine xr_cps rfl rfl rfl (fun r1 K2 => lw_sets _ _ _ Gr W1 G hGr1 (by omega) hok a b g (x % 100) ha (by omega) hg (by omega) r1 (fun W2 hGr2 hf2 => K2 _ _ _ _ ?_))
    refine xr_j2 rfl rfl rfl rfl rfl (fun h268 => ?_) (fun h268 => ?_)
    · refine xr_loc [(0, .ref 16), (1, .ref 17), (2, .ref 687), (3, .int (Int32.ofNat q)), (4, .ref A), (5, .ref 697), (6, .int (Int32.ofNat n)), (7, .int (Int32.ofNat lo)), (8, .int (Int32.ofNat k)), (14, .ref Gr)] ⟨rfl, rfl, rfl, rfl, rfl, rfl, rfl, rfl, rfl, rfl, trivial⟩ rfl ?_
      exact mPush c s d nn q dl T N n lo A f G AA r k Gr W0 W2 _ _ (N + 1) WS hn hk gG nG K _ hlo (by omega) (by omega) (by omega) (by omega) (hY1.keep hf2 (fun i h1 z => by have z : i = Gr := z; omega)) (hmw1.keepG hf2 (by omega) hkG) (hf2.at hA1 (fun z => nGA (by have z : A = Gr := z; exact z.symm))) gA nA hG hGr2 ⟨hG.1.se J (by omega) g (x % 100) ha (by omega) (by omega), by rw [lw_seo J _ _ _ ha (by omega) (by omega)]; omega, by rw [(J.se a b g (x % 100) ha (by omega) hg (by omega) (by omega) (by omega)).2]; omega⟩ (hf2.at hS1 (fun z => by have z : 16 = Gr := z; omega)) ((hf1.weak (P2 := fun i => mP i ∨ i = Gr) (fun i _ z => Or.inl (Or.inl z))).tr (hf2.weak (P2 := fun i => mP i ∨ i = Gr) (fun i _ z => Or.inr z)))
    · have z268 := nf_eq h268
      exact (by omega)
