/-! the law itself: a step's days, years, undo -/
theorem yr4 (nn : Nat) (f : Nat → Int32) (q : Nat) : ∀ (m N : Nat) (G : Nat → Nat), lw_J N G → G 4 + m ≤ 62 → N + 65 * m + 80 < 1000000 → lw_yr nn f q m G 4 ≤ G 4 + m
  | 0, _, _, _, _, _ => Nat.le_refl _
  | m + 1, N, G, J, h4, hN => by
    have e := J.ev nn f q (by omega) (by omega)
    have z := yr4 nn f q m (N + 65) _ e.1 (by omega) (by omega)
    have z2 : lw_yr nn f q (m + 1) G 4 = lw_yr nn f q m (lw_ev nn f q G) 4 := rfl
    omega
theorem mDL (d q nn T lo dl k d0 k1 : Nat) (f : Nat → Int32) (hnn : nn < 2147483648) (hq : q < 2) (r : xi_R → Prop) : ∀ (m i S n A N : Nat) (G : Nat → Nat) (AA : Nat → Nat → Nat) (WS : Nat → Option Nat) (W0 : xi_W) (c s : Nat), i + m = d0 → n + m < 160 → d0 ≤ 3 → W0[16]? = some (lw_s nn f) → mw 697 n lo AA k1 WS W0 → W0[A]? = some (lw_a 1804 G) → 696 ≤ A → A ≠ 697 → lw_J N G → N + 65 * m + 100 < 1000000 → mG k1 G → G 0 + m ≤ 9 * k1 → (∀ W' (A' : Nat) WS' c' s', c' ≤ c + 81 * m → s' ≤ s + 2348 * m → mw 697 (n + m) lo (tkA nn f q m n G AA) k1 WS' W' → W'[A']? = some (lw_a 1804 (tk_ nn f q m G)) → 696 ≤ A' → A' ≠ 697 → mG k1 (tk_ nn f q m G) → fr (fun i => i = 697) W0 W' → xr (d + 14) 199 479 [(0, .ref 16), (1, .ref 17), (2, .ref 687), (3, .int (Int32.ofNat q)), (4, .ref A'), (5, .ref 697), (6, .int (Int32.ofNat ((n + m)))), (7, .int (Int32.ofNat lo)), (8, .int (Int32.ofNat k)), (15, .int (Int32.ofNat d0)), (16, .int (Int32.ofNat ((S + tkS nn f q m G))))] [] W' c' s' r) → xr (d + 14) 199 434 [(0, .ref 16), (1, .ref 17), (2, .ref 687), (3, .int (Int32.ofNat q)), (4, .ref A), (5, .ref 697), (6, .int (Int32.ofNat n)), (7, .int (Int32.ofNat lo)), (8, .int (Int32.ofNat k)), (15, .int (Int32.ofNat d0)), (16, .int (Int32.ofNat S)), (17, .int (Int32.ofNat i))] [] W0 c s r
  | 0, i, S, n, A, N, G, AA, WS, W0, c, s, hi, hn, hd0, hS, hmw, hA, gA, nA, J, hN, hG, h0, K => by
    refine xr_stp rfl rfl rfl rfl ?_
    refine xr_stp rfl rfl rfl rfl ?_
    refine xr_j2 rfl rfl rfl rfl rfl (fun h438 => ?_) (fun h438 => ?_)
    · refine xr_loc [(0, .ref 16), (1, .ref 17), (2, .ref 687), (3, .int (Int32.ofNat q)), (4, .ref A), (5, .ref 697), (6, .int (Int32.ofNat n)), (7, .int (Int32.ofNat lo)), (8, .int (Int32.ofNat k)), (15, .int (Int32.ofNat d0)), (16, .int (Int32.ofNat S))] ⟨rfl, rfl, rfl, rfl, rfl, rfl, rfl, rfl, rfl, rfl, rfl, trivial⟩ rfl ?_
      exact K W0 A WS c s (by omega) (by omega) hmw hA gA nA hG fr.rf
    · have z438 := nf_ge (by omega) (by omega) h438
      exact (by omega)
  | m + 1, i, S, n, A, N, G, AA, WS, W0, c, s, hi, hn, hd0, hS, hmw, hA, gA, nA, J, hN, hG, h0, K => by
    rw [show tkS nn f q (m + 1) G = lw_mc nn f q 24 (lw_t0 G) + tkS nn f q m (lw_ti nn f q 24 G) from rfl, ← Nat.add_assoc S, show n + (m + 1) = n + 1 + m by omega] at K
    have hF16 : ∀ {W3 : xi_W}, fr (fun i => i = 697) W0 W3 → W3[16]? = some (lw_s nn f) := fun h => h.at hS (by omega)
    have hmc := lw_mcl nn f q 24 (lw_t0 G)
    refine xr_stp rfl rfl rfl rfl ?_
    refine xr_stp rfl rfl rfl rfl ?_
    refine xr_j2 rfl rfl rfl rfl rfl (fun h438 => ?_) (fun h438 => ?_)
    · have z438 := nt_ge (by omega) (by omega) h438
      exact (by omega)
    · refine xr_stp rfl rfl rfl rfl ?_
      refine xr_stp rfl rfl rfl rfl ?_
      refine xr_stp rfl rfl rfl rfl ?_
      refine xs_asl hmw.1 hA (by omega) (by omega) (by omega) (by omega) rfl (fun W1 hB1 hf1 => ?_)
      have hmw1 := mw.put hmw hB1 hf1 gA nA hA hG
      have hA1 := hf1.at hA nA
      refine xs_inc (e := 1) rfl rfl rfl rfl ?_
      refine xr_stp rfl rfl rfl rfl ?_
      refine xs_clo hA1 (by omega) rfl rfl rfl rfl (fun B W2 eB hB hf2 => ?_)
      have lA1 : A < W1.length := (List.getElem?_eq_some_iff.mp hA1).1
      have lB1 : 697 < W1.length := (List.getElem?_eq_some_iff.mp hB1).1
      have gB : 696 ≤ B := by omega
      refine xs_chk hB (by omega) rfl rfl rfl ?_
      refine xr_stp rfl rfl rfl rfl ?_
      refine xr_stp rfl rfl rfl rfl ?_
      refine xr_stp rfl rfl rfl rfl ?_
      refine xr_stp rfl rfl rfl rfl ?_
      refine xr_stp rfl rfl rfl rfl ?_
      refine xr_cps rfl rfl rfl (fun r1 K2 => lw_tick _ B 16 nn f (by omega) hnn (by omega) q hq r1 24 N _ _ G W2 J (by omega) (lw_me24 J nn f q (by omega)) hB (hf2.at (hf1.at hS (by omega)) (fun z => z)) (fun W3 c3 s3 kc3 ks3 hB3 hf3 => K2 _ _ _ _ ?_))
      refine xs_add rfl ?_
      refine xr_stp rfl rfl rfl rfl ?_
      refine xs_inc (e := 1) rfl rfl rfl rfl ?_
      refine xr_stp rfl rfl rfl rfl ?_
      refine xr_loc [(0, .ref 16), (1, .ref 17), (2, .ref 687), (3, .int (Int32.ofNat q)), (4, .ref B), (5, .ref 697), (6, .int (Int32.ofNat ((n + 1)))), (7, .int (Int32.ofNat lo)), (8, .int (Int32.ofNat k)), (15, .int (Int32.ofNat d0)), (16, .int (Int32.ofNat ((S + lw_mc nn f q 24 (lw_t0 G))))), (17, .int (Int32.ofNat ((i + 1))))] ⟨rfl, rfl, rfl, rfl, rfl, rfl, rfl, rfl, rfl, rfl, rfl, rfl, trivial⟩ rfl ?_
      have f13 : fr (fun i => i = B) W1 W3 := (hf2.weak (P2 := fun i => i = B) (fun i _ z => z.elim)).tr (hf3.weak (fun i _ z => z))
      have o13 : fr (fun _ => False) W1 W3 := (fr.rf (P := fun _ => False)).tr2 f13 (fun i z => by have z : i = B := z; exact Or.inr (by omega))
      have F3 : fr (fun i => i = 697) W0 W3 := (hf1.weak (P2 := fun i => i = 697) (fun i _ z => z)).tr (o13.weak (fun i _ z => z.elim))
      have hmw3 := hmw1.keep (by omega) o13 (fun i _ _ z => z)
      refine mDL d q nn T lo dl k d0 k1 f hnn hq r m (i + 1) (S + lw_mc nn f q 24 (lw_t0 G)) (n + 1) B (N + 2 * 24 + 17) (lw_ti nn f q 24 G) (uPd AA n G) _ W3 _ _ (by omega) (by omega) hd0 (hF16 F3) hmw3 hB3 gB (by omega) (J.ti nn f q 24 (by omega)) (by omega) ⟨hG.1.ti J nn f q (by omega), by rw [lw_ti0 J nn f q (by omega)]; omega, by rw [lw_ti4 J nn f q 24 (by omega)]; exact hG.2.2⟩ (by rw [lw_ti0 J nn f q (by omega)]; omega) (fun W9 A9 WS9 c9 s9 k1_ k2_ k3_ k4_ k5_ k6_ k7_ k8_ => K W9 A9 WS9 c9 s9 (by omega) (by omega) k3_ k4_ k5_ k6_ k7_ (F3.tr k8_))
