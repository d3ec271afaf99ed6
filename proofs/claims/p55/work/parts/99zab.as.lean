/-! asks: all of it -/
def aP (i : Nat) : Prop := pq i ∨ pS i
theorem asL2 (d : Nat) (nn q dl tx T N fi m mm A : Nat) (f : Nat → Int32) (G : Nat → Nat) (GS : Nat → Nat → Nat) (r : xi_R → Prop) (htx : tx = 1) (tm B : Nat) (gB : 696 ≤ B) (nBA : B ≠ A) (ht1 : 1 ≤ tm) (ht2 : tm ≤ 12) (hck : G 0 + 12 ≤ 9999) (TD : Nat → Nat) (W0 W5 : xi_W) (c s : Nat) (hs5 : scn nn f q dl tx 0 T N fi m mm G GS A W5) (hB5 : W5[B]? = some (lw_a 1804 (tk_ nn f q tm G))) (hTD5 : W5[357]? = some (lw_i 32 TD)) (hf5 : fr aP W0 W5) (K : (∀ W' c' s' TD', c' ≤ c + 102 → s' ≤ s + 5400 → scn nn f q dl tx 2 T N fi m mm G GS A W' → W'[357]? = some (lw_i 32 TD') → fr aP W0 W' → r (some (.int (Int32.ofNat 1)), W', c', s'))) : xr (d + 9) 204 203 [(0, .ref 17), (1, .ref 16), (2, .int (Int32.ofNat q)), (3, .ref A), (4, .int (Int32.ofNat tm)), (5, .ref B)] [] W5 c s r := by
  refine xr_stp (st' := .long (Int64.ofNat 0) :: _) rfl rfl rfl rfl ?_
  refine xr_stp rfl rfl rfl rfl ?_
  refine xr_stp (st' := .long (Int64.ofNat 0) :: _) rfl rfl rfl rfl ?_
  refine xr_stp rfl rfl rfl rfl ?_
  refine xr_stp (st' := .long (Int64.ofNat 0) :: _) rfl rfl rfl rfl ?_
  refine xr_stp rfl rfl rfl rfl ?_
  refine xr_stp (st' := .long (Int64.ofNat 0) :: _) rfl rfl rfl rfl ?_
  refine xr_stp rfl rfl rfl rfl ?_
  refine xr_stp (st' := .int (Int32.ofNat 0) :: _) rfl rfl rfl rfl ?_
  refine xr_stp rfl rfl rfl rfl ?_
  refine xr_loc [(0, .ref 17), (1, .ref 16), (2, .int (Int32.ofNat q)), (3, .ref A), (4, .int (Int32.ofNat tm)), (5, .ref B), (9, .long (Int64.ofNat (aH G 0))), (11, .long (Int64.ofNat (aK G 0))), (13, .long (Int64.ofNat (oH G 0))), (15, .long (Int64.ofNat (oK G 0))), (17, .int (Int32.ofNat 0))] ⟨rfl, rfl, rfl, rfl, rfl, rfl, rfl, rfl, rfl, rfl, rfl, trivial⟩ rfl ?_
  refine agL d c s tm B nn q dl tx 0 T N fi m mm A f G GS r W5 hs5 4 0 rfl ?_
  refine ag_E d c s tm B nn q dl tx 0 T N fi m mm A f G GS r W5 hs5 (fun W6 c6 s6 q1 q2 hs6 hf6 => ?_)
  have hB6 := hf6.at hB5 (by unfold pq; omega)
  refine xr_stp (st' := .int (Int32.ofNat 0) :: _) rfl rfl rfl rfl ?_
  refine xr_stp rfl rfl rfl rfl ?_
  refine xr_loc [(0, .ref 17), (1, .ref 16), (2, .int (Int32.ofNat q)), (3, .ref A), (4, .int (Int32.ofNat tm)), (5, .ref B), (9, .long (Int64.ofNat (aH G 4))), (11, .long (Int64.ofNat (aK G 4))), (17, .int (Int32.ofNat 0))] ⟨rfl, rfl, rfl, rfl, rfl, rfl, rfl, rfl, rfl, trivial⟩ rfl ?_
  refine aaL d tm B nn q dl tx 0 T N fi m mm A f G GS r nBA gB ht1 ht2 hck 4 0 W6 c6 s6 rfl hs6 hB6 (fun W7 c7 s7 q3 q4 hs7 hf7 => ?_)
  have hTD7 := hf7.at (hf6.at hTD5 (by unfold pq; omega)) (by unfold pq; omega)
  refine xr_stp (st' := .int (Int32.ofNat 1) :: _) rfl rfl rfl rfl ?_
  refine xr_stp rfl rfl rfl rfl ?_
  refine xr_stp (st' := .int (Int32.ofNat 0) :: _) rfl rfl rfl rfl ?_
  refine xr_stp rfl rfl rfl rfl ?_
  refine xr_loc [(0, .ref 17), (1, .ref 16), (2, .int (Int32.ofNat q)), (3, .ref A), (17, .int (Int32.ofNat 1)), (18, .int (Int32.ofNat 0))] ⟨rfl, rfl, rfl, rfl, rfl, rfl, trivial⟩ rfl ?_
  refine syL d c7 s7 nn q dl tx T N fi m mm A f G GS r htx 2 0 1 TD W7 rfl hs7 hTD7 (fun i hi => by omega) (by omega) ⟨fun _ i hi => by omega, fun _ => rfl⟩ (fun W8 TD8 l8 hs8 hTD8 hl8 hf8 => ?_)
  refine rfL d c7 s7 nn q dl tx 2 T N fi m mm A f G GS r l8 W8 hs8 (fun W9 hs9 hf9 => ?_)
  refine K W9 c7 s7 TD8 (by omega) (by omega) hs9 (hf9.at hTD8 (by unfold pq; omega)) (hf5.tr ((hf6.weak (P2 := aP) (fun i _ z => Or.inl z)).tr ((hf7.weak (P2 := aP) (fun i _ z => Or.inl z)).tr ((hf8.weak (P2 := aP) (fun i _ z => Or.inr z)).tr (hf9.weak (P2 := aP) (fun i _ z => Or.inl z))))))
theorem asL (d c s : Nat) (nn q dl tx T N fi m mm A : Nat) (f : Nat → Int32) (G : Nat → Nat) (GS : Nat → Nat → Nat) (r : xi_R → Prop) (htx : tx = 1) (hck : G 0 + 12 ≤ 9999) (TD : Nat → Nat) (W0 : xi_W) (hs : scn nn f q dl tx 0 T N fi m mm G GS A W0) (hTD : W0[357]? = some (lw_i 32 TD)) (K : (∀ W' c' s' TD', c' ≤ c + 5950 → s' ≤ s + 48800 → scn nn f q dl tx 2 T N fi m mm G GS A W' → W'[357]? = some (lw_i 32 TD') → fr aP W0 W' → r (some (.int (Int32.ofNat 1)), W', c', s'))) : xr (d + 9) 204 0 [(0, .ref 17), (1, .ref 16), (2, .int (Int32.ofNat q)), (3, .ref A)] [] W0 c s r := by
  obtain ⟨hc, hA, hS, gA, hz, hN, hnn⟩ := id hs
  obtain ⟨F, hw, hr⟩ := hc.w
  have J := hr.j
  have he := hr.e
  have J4 := J.e
  have b63 := J.b63
  have gA7 : 17 ≤ A := by omega
  obtain ⟨lf, lp, hO⟩ := hc.o
  have lA : A < W0.length := (List.getElem?_eq_some_iff.mp hA).1
  have hpk := lw_pkb nn f 64
  refine xr_stp (st' := .int (Int32.ofNat 1) :: _) rfl rfl rfl rfl ?_
  refine xr_stp rfl rfl rfl rfl ?_
  refine xr_stp (st' := .int (Int32.ofNat 64) :: _) rfl rfl rfl rfl ?_
  refine xr_cps rfl rfl rfl (fun r1 K2 => lw_pick _ _ _ 16 nn W0 f hS hnn 64 (by omega) r1 (K2 _ _ _ _ ?_))
  refine xr_stp (st' := .int (Int32.ofNat 12) :: _) rfl rfl rfl rfl ?_
  refine xs_mod (by omega) (by omega) (by omega) rfl ?_
  refine xs_add rfl ?_
  refine xr_stp rfl rfl rfl rfl ?_
  obtain ⟨tm, htm⟩ : ∃ tm, tm = 1 + lw_pk nn f 64 % 12 := ⟨_, rfl⟩
  have ht1 : 1 ≤ tm := by omega
  have ht2 : tm ≤ 12 := by omega
  refine xr_loc [(0, .ref 17), (1, .ref 16), (2, .int (Int32.ofNat q)), (3, .ref A), (4, .int (Int32.ofNat tm))] ⟨rfl, rfl, rfl, rfl, (by rw [htm]; rfl), trivial⟩ rfl ?_
  refine xr_stp rfl rfl rfl rfl ?_
  refine xs_clo hA (by omega) rfl rfl rfl rfl (fun B W1 eB hB hf1 => ?_)
  have gB : 696 ≤ B := by omega
  have nBA : B ≠ A := by omega
  have hs1 := hs.new hf1
  refine xs_chk hB (by omega) rfl rfl rfl ?_
  refine xr_stp rfl rfl rfl rfl ?_
  refine xr_stp (st' := .int (Int32.ofNat 0) :: _) rfl rfl rfl rfl ?_
  refine xr_stp rfl rfl rfl rfl ?_
  refine xr_loc [(0, .ref 17), (1, .ref 16), (2, .int (Int32.ofNat q)), (3, .ref A), (4, .int (Int32.ofNat tm)), (5, .ref B), (6, .int (Int32.ofNat 0))] ⟨rfl, rfl, rfl, rfl, rfl, rfl, rfl, trivial⟩ rfl ?_
  refine utL d tm nn q dl tx 0 T N fi m mm A f G GS r B gB nBA hnn tm 0 N G W1 _ _ (by omega) ht2 hs1 hB J (by omega) (fun W2 c2 s2 k1 k2 hs2 hB2 hf2 => ?_)
  refine xr_stp rfl rfl rfl rfl ?_
  refine xs_clo hs2.2.1 (by omega) rfl rfl rfl rfl (fun R W3 eR hR hf3 => ?_)
  have lB : B < W2.length := (List.getElem?_eq_some_iff.mp hB2).1
  have lA2 : A < W2.length := (List.getElem?_eq_some_iff.mp hs2.2.1).1
  have l02 : W0.length ≤ W2.length := Nat.le_trans hf1.1 hf2.1
  have gR : 696 ≤ R := by omega
  have nRA : R ≠ A := by omega
  have hs3 := hs2.new hf3
  refine xs_chk hR (by omega) rfl rfl rfl ?_
  refine xr_stp rfl rfl rfl rfl ?_
  refine xr_stp (st' := .int (Int32.ofNat 0) :: _) rfl rfl rfl rfl ?_
  refine xr_stp rfl rfl rfl rfl ?_
  refine xr_stp (st' := .int (Int32.ofNat 0) :: _) rfl rfl rfl rfl ?_
  refine xr_stp rfl rfl rfl rfl ?_
  refine xr_loc [(0, .ref 17), (1, .ref 16), (2, .int (Int32.ofNat q)), (3, .ref A), (4, .int (Int32.ofNat tm)), (5, .ref B), (6, .ref R), (7, .int (Int32.ofNat 0)), (8, .int (Int32.ofNat 0))] ⟨rfl, rfl, rfl, rfl, rfl, rfl, rfl, rfl, rfl, trivial⟩ rfl ?_
  refine tiL d tm B nn q dl tx 0 T N fi m mm A f G GS r R gR nRA hnn 61 0 N G W3 _ _ rfl hs3 hR J (by omega) (fun W4 c4 s4 i4 z4 k3 k4 hs4 hf4 hi4 hz4 => ?_)
  have hB4 := hf4.at (hf3.at hB2 (fun z => z)) (fun z => by have z : B = R := z; omega)
  have hTD4 := hf4.at (hf3.at (hf2.at (hf1.at hTD (fun z => z)) (fun z => by have z : 357 = B := z; omega)) (fun z => z)) (fun z => by have z : 357 = R := z; omega)
  have f2 : fr aP W0 W2 := (hf1.weak (P2 := aP) (fun i _ z => z.elim)).tr2 hf2 (fun i z => Or.inr (by have z : i = B := z; omega))
  have f4 : fr aP W0 W4 := (f2.tr (hf3.weak (P2 := aP) (fun i _ z => z.elim))).tr2 hf4 (fun i z => Or.inr (by have z : i = R := z; omega))
  clear hO
  obtain ⟨lf, lp, hO⟩ := hs4.1.o
  rcases hz4 with ⟨rfl, hz5⟩ | ⟨rfl, hz5⟩
  · refine xr_stp rfl rfl rfl rfl ?_
    refine xr_vcps hO rfl rfl rfl rfl rfl rfl (fun r1 K2 => cq_til _ _ _ nn q dl tx 0 T N fi m mm f W4 G GS hs4.1 (by omega) r1 (fun W5 hc5 hf5 => K2 _ _ _ _ ?_))
    rw [hz5]
    have hs5 := hs4.cls hc5 hf5
    refine xr_stp rfl rfl rfl rfl ?_
    refine xr_j1 rfl rfl rfl rfl rfl (fun h189 => ?_) (fun h189 => ?_)
    · have z189 := nt1_eq (by omega) h189
      exact (by omega)
    · refine xr_stp rfl rfl rfl rfl ?_
      refine xr_stp rfl rfl rfl rfl ?_
      refine xr_j2 rfl rfl rfl rfl rfl (fun h198 => ?_) (fun h198 => ?_)
      · refine xr_loc [(0, .ref 17), (1, .ref 16), (2, .int (Int32.ofNat q)), (3, .ref A), (4, .int (Int32.ofNat tm)), (5, .ref B)] ⟨rfl, rfl, rfl, rfl, rfl, rfl, trivial⟩ rfl ?_
        have f5 : fr aP W0 W5 := f4.tr (hf5.weak (P2 := aP) (fun i _ z => Or.inl z))
        exact asL2 d nn q dl tx T N fi m mm A f G GS r htx tm B gB nBA ht1 ht2 hck TD W0 W5 _ _ hs5 (hf5.at hB4 (by unfold pq; omega)) (hf5.at hTD4 (by unfold pq; omega)) f5 (fun W9 c9 s9 TD9 q1 q2 q3 q4 q5 => K W9 c9 s9 TD9 (by omega) (by omega) q3 q4 q5)
      · have z198 := nf_eq h198
        exact (by omega)
  · refine xr_stp rfl rfl rfl rfl ?_
    refine xr_vcps hO rfl rfl rfl rfl rfl rfl (fun r1 K2 => cq_til _ _ _ nn q dl tx 0 T N fi m mm f W4 G GS hs4.1 (by omega) r1 (fun W5 hc5 hf5 => K2 _ _ _ _ ?_))
    rw [hz5]
    have hs5 := hs4.cls hc5 hf5
    refine xr_stp rfl rfl rfl rfl ?_
    refine xr_j1 rfl rfl rfl rfl rfl (fun h189 => ?_) (fun h189 => ?_)
    · refine xr_stp (st' := .int (Int32.ofNat 4294967295) :: _) rfl rfl rfl rfl ?_
      refine xr_j2 rfl rfl rfl rfl rfl (fun h198 => ?_) (fun h198 => ?_)
      · refine xr_loc [(0, .ref 17), (1, .ref 16), (2, .int (Int32.ofNat q)), (3, .ref A), (4, .int (Int32.ofNat tm)), (5, .ref B)] ⟨rfl, rfl, rfl, rfl, rfl, rfl, trivial⟩ rfl ?_
        have f5 : fr aP W0 W5 := f4.tr (hf5.weak (P2 := aP) (fun i _ z => Or.inl z))
        exact asL2 d nn q dl tx T N fi m mm A f G GS r htx tm B gB nBA ht1 ht2 hck TD W0 W5 _ _ hs5 (hf5.at hB4 (by unfold pq; omega)) (hf5.at hTD4 (by unfold pq; omega)) f5 (fun W9 c9 s9 TD9 q1 q2 q3 q4 q5 => K W9 c9 s9 TD9 (by omega) (by omega) q3 q4 q5)
      · have z198 := nf_eq h198
        exact (by omega)
    · have z189 := nf1_eq h189
      exact (by omega)
