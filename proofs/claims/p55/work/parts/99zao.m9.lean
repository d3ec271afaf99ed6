/-! the law itself: from the last step to its end -/
theorem mEnd (d c s : Nat) (nn q dl T N n lo A : Nat) (f : Nat → Int32) (G : Nat → Nat) (AA : Nat → Nat → Nat) (r : xi_R → Prop) (WS : Nat → Option Nat) (W0 : xi_W) (hN : N ≤ 27000) (hnn : nn < 2147483648) (hn : n ≤ 132) (hY : CY nn f q dl 1 0 T N n lo G AA W0) (hmw : mw 697 n lo AA 44 WS W0) (hA : W0[A]? = some (lw_a 1804 G)) (gA : 696 ≤ A) (hG : mG 44 G) (hS : W0[16]? = some (lw_s nn f)) (hib : imb W0) (hx : rex T W0) (hT0 : TX0 W0 T) (n0 : Nat) (tp : Nat → Nat) (hn0 : n0 ≤ 300) (hrd : RDW n0 tp W0) (t : Nat → Nat) (hX : W0[687]? = some (lw_i 300 t)) (K : ∀ W' c' s', c' ≤ c + 9000 → s' ≤ s + 150000 → r (some (.int (Int32.ofNat 1)), W', c', s')) : xr (d + 14) 199 684 [(0, .ref 16), (1, .ref 17), (2, .ref 687), (3, .int (Int32.ofNat q)), (4, .ref A), (5, .ref 697), (6, .int (Int32.ofNat n)), (7, .int (Int32.ofNat lo))] [] W0 c s r := by
  obtain ⟨hlo, hnl, fi, hc⟩ := id hY
  obtain ⟨F, hw, hr⟩ := hc.w
  have J := hr.j
  have hdl : G 5 = dl := hc.2.2.2.2.2.2.2.2.1
  have jd := J.d1
  obtain ⟨hG1, hG2, hG3⟩ := id hG
  have hA0 := hA
  have gA7 : 17 ≤ A := by omega
  obtain ⟨lf, lp, hO⟩ := hc.o
  obtain ⟨-, ⟨TD, hTD⟩⟩ := id hx
  have hs : scn nn f q dl 1 0 T N fi (n - lo) (n - lo) G (fun k => AA (lo + k)) A W0 := ⟨hc, hA, hS, gA, hG.1, by omega, hnn⟩
  refine xr_stp rfl rfl rfl rfl ?_
  refine xr_stp rfl rfl rfl rfl ?_
  refine xr_stp rfl rfl rfl rfl ?_
  refine xr_stp rfl rfl rfl rfl ?_
  refine xr_cps rfl rfl rfl (fun r1 K2 => asL _ _ _ nn q dl 1 T N fi (n - lo) (n - lo) A f G _ r1 rfl (by omega) TD W0 hs hTD (fun W1 c1 s1 TD1 kc1 ks1 hs1 hTD1 hf1 => K2 _ _ _ _ ?_))
  have a1 : ∀ i, i < 23 ∨ i = 356 ∨ 360 ≤ i → ¬ aP i := fun i h z => by unfold aP pq pS at z; omega
  have hib1 := hib.keep hc.l hf1 (fun i h1 h2 => a1 i (by omega))
  obtain ⟨⟨RD, x1, x2, x3⟩, x4⟩ := id hx
  have hx1 : rex T W1 := ⟨⟨RD, hf1.at x1 (a1 _ (by omega)), x2, x3.keep hf1 (fun i u e hi => a1 u (by rcases x3 i hi with e0 | ⟨u2, L4, e1, e2, e3⟩; rw [e0] at e; cases e; rw [e1] at e; cases e; omega))⟩, ⟨TD1, hTD1⟩⟩
  clear hO
  obtain ⟨lf1, lp1, hO⟩ := hs1.1.o
  refine xr_j1 rfl rfl rfl rfl rfl (fun h692 => ?_) (fun h692 => ?_)
  · have z692 := nt1_eq (by omega) h692
    exact (by omega)
  · refine xr_stp rfl rfl rfl rfl ?_
    refine xr_vcps hO rfl rfl rfl rfl rfl rfl (fun r1 K2 => cl_image _ _ _ nn q dl 1 2 T N fi (n - lo) f W1 G _ hs1.1 hib1 hx1 r1 (fun W2 hc2 hi2 hf2 => K2 _ _ _ _ ?_))
    have a2 : ∀ i, i < 360 ∨ 687 ≤ i → ¬ (360 ≤ i ∧ i < 687) := fun i h z => by omega
    have hx2 := hx1.keep hf2 (a2 _ (by omega)) (a2 _ (by omega)) (fun i h1 h2 => a2 i (by omega))
    have f02 : ∀ i, i < 23 ∨ 687 ≤ i → ¬ aP i ∧ ¬ (360 ≤ i ∧ i < 687) := fun i h => ⟨a1 i (by omega), a2 i (by omega)⟩
    have hs2 : scn nn f q dl 1 2 T N fi (n - lo) (n - lo) G (fun k => AA (lo + k)) A W2 := ⟨hc2, hf2.at hs1.2.1 (a2 _ (by omega)), hf2.at hs1.2.2.1 (a2 _ (by omega)), hs1.2.2.2⟩
    have hA := hs2.2.1
    have hX2 := hf2.at (hf1.at hX (a1 _ (by omega))) (a2 _ (by omega))
    have hT2 := (hT0.keep hf1 (fun i hi => a1 i (by omega))).keep hf2 (fun i hi => a2 i (by omega))
    have hrd2 := (hrd.keep hf1 (fun i h1 _ => a1 i (by omega)) (Or.inr trivial)).keep hf2 (fun i h1 _ => a2 i (by omega)) (Or.inr trivial)
    clear hO
    obtain ⟨lf2, lp2, hO⟩ := hc2.o
    refine xs_i2l (by omega) rfl ?_
    refine xr_stp rfl rfl rfl rfl ?_
    refine xr_stp (st' := .int (Int32.ofNat 0) :: _) rfl rfl rfl rfl ?_
    refine xs_ald hA gA7 (by omega) (by omega) rfl ?_
    refine xs_lc (by exact J.b63 _) (by exact J.b63 _) rfl ?_
    refine xr_j1 rfl rfl rfl rfl rfl (fun h705 => ?_) (fun h705 => ?_)
    · refine xr_stp rfl rfl rfl rfl ?_
      refine xr_stp rfl rfl rfl rfl ?_
      refine xr_stp rfl rfl rfl rfl ?_
      refine xr_stp rfl rfl rfl rfl ?_
      refine xr_stp rfl rfl rfl rfl ?_
      refine xr_cps rfl rfl rfl (fun r1 K2 => scW _ _ _ nn q dl 2 T N fi n lo A f G AA r1 hlo hnl W2 hs2 hx2 hT2 n0 tp hn0 hrd2 t hX2 (by omega) (by omega) (by omega) (fun W3 U c3 s3 kc3 ks3 hY3 hx3 hU3 gU nUA hf3 => K2 _ _ _ _ ?_))
      have a3 : ∀ i, i < 17 ∨ (360 ≤ i ∧ i ≠ 687) → ¬ sP i := fun i h z => by unfold sP at z; omega
      obtain ⟨n6, lo6, A6, z1, z2, fi6, hc3⟩ := id hY3
      obtain ⟨hab, hJ3⟩ := scH_ab nn f q 8 0 N G hG.1 J (by omega) (by omega)
      have hs3 : scn nn f q dl 2 2 T (N + 1040) fi6 (n6 - lo6) (n6 - lo6) (scH nn f q 8 0 G) (fun k => A6 (lo6 + k)) U W3 := ⟨hc3, hU3, hf3.at hs2.2.2.1 (a3 _ (by omega)), gU, hab, by omega, hnn⟩
      have hi3 := hi2.keep hc2.l hf3 (fun i h1 h2 => a3 i (by omega)) (fun i h1 h2 ⟨L4, e⟩ => a3 i (by have := (n687 hX2).1 _ e; omega))
      clear hO
      obtain ⟨lf3, lp3, hO⟩ := hc3.o
      refine xr_stp rfl rfl rfl rfl ?_
      refine xr_stp rfl rfl rfl rfl ?_
      refine xr_stp rfl rfl rfl rfl ?_
      refine xr_stp rfl rfl rfl rfl ?_
      refine xr_stp rfl rfl rfl rfl ?_
      refine xr_stp rfl rfl rfl rfl ?_
      refine xr_stp rfl rfl rfl rfl ?_
      refine xr_cps rfl rfl rfl (fun r1 K2 => sa_same _ _ _ nn q dl 2 2 T (N + 1040) fi6 _ _ U f _ _ r1 W3 hs3 (fun W4 c4 s4 kc4 ks4 hs4 hf4 => K2 _ _ _ _ ?_))
      have a4 : ∀ i, i < 23 ∨ 360 ≤ i ∨ (355 ≤ i ∧ i ≤ 357) → ¬ pq i := fun i h z => by unfold pq at z; omega
      have hx4 := hx3.keep hf4 (a4 _ (by omega)) (a4 _ (by omega)) (fun i h1 h2 => a4 i (by omega))
      have hi4 := hi3.keep hc3.l hf4 (fun i h1 h2 => a4 i (by omega)) (fun i h1 h2 _ => a4 i (by omega))
      clear hO
      obtain ⟨lf4, lp4, hO⟩ := hs4.1.o
      refine xr_j1 rfl rfl rfl rfl rfl (fun h734 => ?_) (fun h734 => ?_)
      · have z734 := nt1_eq (by omega) h734
        exact (by omega)
      · refine xr_stp rfl rfl rfl rfl ?_
        refine xr_stp (st' := .int (Int32.ofNat 4294967295) :: _) rfl rfl rfl rfl ?_
        refine xr_vcps hO rfl rfl rfl rfl rfl rfl (fun r1 K2 => cq_byN _ _ _ 2 _ dl 2 W4 _ _ hO hs4.1.R r1 (fun W5 hR5 hf5 => K2 _ _ _ _ ?_))
        have hO := hf5.at hO (by omega)
        refine xr_j1 rfl rfl rfl rfl rfl (fun h742 => ?_) (fun h742 => ?_)
        · have z742 := nt1_eq (by omega) h742
          exact (by omega)
        · refine xr_stp rfl rfl rfl rfl ?_
          refine xr_stp (st' := .int (Int32.ofNat 9) :: _) rfl rfl rfl rfl ?_
          refine xr_vcps hO rfl rfl rfl rfl rfl rfl (fun r1 K2 => cq_dly _ _ _ 2 _ dl 2 W5 _ _ hO hR5 9 (by omega) (by omega) r1 (fun W6 hR6 hf6 => K2 _ _ _ _ ?_))
          have hO := hf6.at hO (by omega)
          refine xr_j1 rfl rfl rfl rfl rfl (fun h751 => ?_) (fun h751 => ?_)
          · have z751 := nt1_eq (by omega) h751
            exact (by omega)
          · refine xr_stp rfl rfl rfl rfl ?_
            refine xr_stp (st' := .int (Int32.ofNat 4294967295) :: _) rfl rfl rfl rfl ?_
            refine xr_stp (st' := .int (Int32.ofNat 0) :: _) rfl rfl rfl rfl ?_
            refine xr_stp (st' := .int (Int32.ofNat 0) :: _) rfl rfl rfl rfl ?_
            refine xr_stp (st' := .int (Int32.ofNat 0) :: _) rfl rfl rfl rfl ?_
            refine xr_vcps hO rfl rfl rfl rfl rfl rfl (fun r1 K2 => cq_sai0 _ _ _ 2 _ 9 2 W6 _ _ hO hR6 0 0 0 r1 (fun W7 hR7 hf7 => K2 _ _ _ _ ?_))
            refine xr_j1 rfl rfl rfl rfl rfl (fun h762 => ?_) (fun h762 => ?_)
            · refine xr_loc [(0, .ref 16), (1, .ref 17), (2, .ref 687), (3, .int (Int32.ofNat q)), (4, .ref A), (5, .ref 697), (6, .int (Int32.ofNat n)), (7, .int (Int32.ofNat lo))] ⟨rfl, rfl, rfl, rfl, rfl, rfl, rfl, rfl, trivial⟩ rfl ?_
              have f47 : fr (fun i => i = 355) W4 W7 := hf5.tr (hf6.tr hf7)
              have hw7 := hs4.1.cmw hx4 f47 hR7
              have hi7 := hi4.keep hs4.1.l f47 (fun i h1 h2 z => by have z : i = 355 := z; omega) (fun i h1 h2 _ z => by have z : i = 355 := z; omega)
              have u1 := hf1.u (fun i z => by unfold aP pq pS at z; omega)
              have u2 := hf2.u (fun i z => by have z : 360 ≤ i ∧ i < 687 := z; omega)
              have u3 := hf3.u (fun i z => by unfold sP at z; omega)
              have u4 := hf4.u (fun i z => by unfold pq at z; omega)
              have u7 := f47.u (fun i z => by have z : i = 355 := z; omega)
              have uu : fr uP W0 W7 := u1.tr (u2.tr (u3.tr (u4.tr u7)))
              have hu : ∀ i, 696 ≤ i → ¬ uP i := fun i h z => by unfold uP at z; omega
              have hS7 := f47.at hs4.2.2.1 (by omega)
              exact mBack d _ _ nn q dl T N n lo A f G AA r WS (by omega) hnn (by omega) hlo hnl W7 hw7 hi7 (uu.at hA0 (hu _ gA)) gA (hmw.keep (by omega) uu (fun i h1 _ => hu i h1)) hG hS7 hdl J.b63 (by omega) (by omega) hc.q (fun W9 c9 s9 p1_ p2_ => K W9 c9 s9 (by omega) (by omega))
            · have z762 := nf1_eq h762
              exact (by omega)
    · have z705 := lf_eq h705
      exact (by omega)
