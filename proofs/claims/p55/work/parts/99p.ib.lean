/-! image, back -/
def imb (W : xi_W) : Prop := (∃ F, kw W 360 F) ∧ (∃ a b : Int32, W[370]? = some (.inr (3, [.ref 371, .int a, .int b]))) ∧ (∃ WF : Nat → Option Nat, W[371]? = some (.inl (.object "DeltaNests$World", 31, .inr (.inr WF))) ∧ ∀ i, i < 31 → WF i = some (372 + 10 * i)) ∧ (∀ i, i < 31 → ∃ F, kw W (372 + 10 * i) F) ∧ (∃ a b c e : Int32, W[682]? = some (.inr (2, [.ref 683, .int a, .int b, .int c, .ref 684, .int e, .ref 685, .ref 686]))) ∧ (∃ RD : Nat → Option Nat, W[683]? = some (.inl (.object "DeltaNests$Text", 4, .inr (.inr RD)))) ∧ ∃ TD, W[684]? = some (lw_i 32 TD)
theorem imb.keep {P : Nat → Prop} {W W' : xi_W} (h : imb W) (hl : 687 ≤ W.length) (hf : fr P W W') (hp : ∀ i, 360 ≤ i → i < 687 → ¬ P i) : imb W' := by
  obtain ⟨⟨F, h1⟩, ⟨a, b, h2⟩, ⟨WF, h3, h3b⟩, h4, ⟨a5, b5, c5, e5, h5⟩, ⟨RD, h6⟩, ⟨TD, h7⟩⟩ := h
  refine ⟨⟨F, h1.keep (by unfold wb; omega) hl hf (fun i z1 z2 => hp i (by omega) (by omega))⟩, ⟨a, b, hf.at h2 (hp _ (by omega) (by omega))⟩, ⟨WF, hf.at h3 (hp _ (by omega) (by omega)), h3b⟩, fun i hi => ?_, ⟨a5, b5, c5, e5, hf.at h5 (hp _ (by omega) (by omega))⟩, ⟨RD, hf.at h6 (hp _ (by omega) (by omega))⟩, ⟨TD, hf.at h7 (hp _ (by omega) (by omega))⟩⟩
  obtain ⟨F, k1⟩ := h4 i hi
  exact ⟨F, k1.keep (by unfold wb; omega) hl hf (fun i z1 z2 => hp i (by omega) (by omega))⟩
def rex (T : Nat) (W : xi_W) : Prop := (∃ RD, rud W RD ∧ RD 0 = some T ∧ RDok W RD) ∧ ∃ TD, W[357]? = some (lw_i 32 TD)
theorem rex.keep {T : Nat} {P : Nat → Prop} {W W' : xi_W} (h : rex T W) (hf : fr P W W') (h6 : ¬ P 356) (h7 : ¬ P 357) (hp : ∀ i, 687 ≤ i → i < W.length → ¬ P i) : rex T W' := by
  obtain ⟨⟨RD, r1, r2, r3⟩, ⟨TD, r4⟩⟩ := h
  refine ⟨⟨RD, hf.at r1 h6, r2, fun i hi => ?_⟩, ⟨TD, hf.at r4 h7⟩⟩
  rcases r3 i hi with e | ⟨t, L4, e1, e2, e3⟩
  · exact Or.inl e
  · exact Or.inr ⟨t, L4, e1, e2, hf.at e3 (hp t e2 (List.getElem?_eq_some_iff.mp e3).1)⟩
def imx (nn : Nat) (f : Nat → Int32) (q dl tx sy T N m : Nat) (G : Nat → Nat) (GS : Nat → Nat → Nat) (W : xi_W) : Prop := (∃ F, kw W 360 F ∧ RL (G 0 + 1) N G F) ∧ W[370]? = some (.inr (3, [.ref 371, .int (Int32.ofNat 0), .int (Int32.ofNat m)])) ∧ (∃ WF : Nat → Option Nat, W[371]? = some (.inl (.object "DeltaNests$World", 31, .inr (.inr WF))) ∧ ∀ i, i < 31 → WF i = some (372 + 10 * i)) ∧ (∀ j, j < 31 → ∃ F, kw W (372 + 10 * j) F ∧ (j < m → RL (GS j 0 + 1) N (GS j) F)) ∧ W[682]? = some (.inr (2, [.ref 683, .int (Int32.ofNat tx), .int (Int32.ofNat (if q = 0 then 4294967295 else 0)), .int (Int32.ofNat dl), .ref 684, .int (Int32.ofNat sy), .ref 685, .ref 686])) ∧ (∃ RD : Nat → Option Nat, W[683]? = some (.inl (.object "DeltaNests$Text", 4, .inr (.inr RD))) ∧ RD 0 = some T ∧ RDok W RD) ∧ (∃ TD, W[684]? = some (lw_i 32 TD)) ∧ G 5 = dl ∧ (∀ k, k < m → GS k 5 = dl) ∧ q < 2 ∧ m ≤ 30 ∧ 0 < tx ∧ tx ≤ 4
theorem imx.keep {nn : Nat} {f : Nat → Int32} {q dl tx sy T N m : Nat} {G : Nat → Nat} {GS : Nat → Nat → Nat} {P : Nat → Prop} {W W' : xi_W} (h : imx nn f q dl tx sy T N m G GS W) (hl : 687 ≤ W.length) (hf : fr P W W') (hp : ∀ i, 360 ≤ i → i < 687 → ¬ P i) (hp2 : ∀ i, 687 ≤ i → i < W.length → (∃ L4, W[i]? = some (.inr (4, L4))) → ¬ P i) : imx nn f q dl tx sy T N m G GS W' := by
  obtain ⟨⟨F, h1, h1b⟩, h2, ⟨WF, h3, h3b⟩, h4, h5, ⟨RD, h6, h6b, h6c⟩, ⟨TD, h7⟩, h8⟩ := h
  refine ⟨⟨F, h1.keep (by unfold wb; omega) hl hf (fun i z1 z2 => hp i (by omega) (by omega)), h1b⟩, hf.at h2 (hp _ (by omega) (by omega)), ⟨WF, hf.at h3 (hp _ (by omega) (by omega)), h3b⟩, fun i hi => ?_, hf.at h5 (hp _ (by omega) (by omega)), ⟨RD, hf.at h6 (hp _ (by omega) (by omega)), h6b, fun i hi => ?_⟩, ⟨TD, hf.at h7 (hp _ (by omega) (by omega))⟩, h8⟩
  · obtain ⟨F, k1, k2⟩ := h4 i hi
    exact ⟨F, k1.keep (by unfold wb; omega) hl hf (fun i z1 z2 => hp i (by omega) (by omega)), k2⟩
  · rcases h6c i hi with e | ⟨t, L4, e1, e2, e3⟩
    · exact Or.inl e
    · exact Or.inr ⟨t, L4, e1, e2, hf.at e3 (hp2 t e2 (List.getElem?_eq_some_iff.mp e3).1 ⟨L4, e3⟩)⟩
theorem cl_image (d c s nn q dl tx sy T N fi m : Nat) (f : Nat → Int32) (W0 : xi_W) (G : Nat → Nat) (GS : Nat → Nat → Nat) (hc : cmx nn f q dl tx sy T N fi m m G GS W0) (hi : imb W0) (hx : rex T W0) (r : xi_R → Prop) (K : ∀ W', cmx nn f q dl tx sy T N fi m m G GS W' → imx nn f q dl tx sy T N m G GS W' → fr (fun i => 360 ≤ i ∧ i < 687) W0 W' → r (some (.int (Int32.ofNat (G 0))), W', c, s)) : xr (d + 4) 144 0 [(0, .ref 17)] [] W0 c s r := by
  obtain ⟨lf, lp, hO⟩ := hc.o
  obtain ⟨F, hw, hr⟩ := hc.w
  have hl := hc.l
  have hR := hc.R
  refine xr_stp rfl rfl rfl rfl ?_
  refine xr_getfield hO rfl rfl rfl rfl ?_
  refine xr_stp rfl rfl rfl rfl ?_
  refine xr_getfield hO rfl rfl rfl rfl ?_
  obtain ⟨⟨F6, i1⟩, ⟨a2, b2, i2⟩, ⟨WF3, i3, i3b⟩, i4, ⟨a5, b5, c5, e5, i5⟩, ⟨RD6, i6⟩, ⟨TD7, i7⟩⟩ := hi
  refine xr_vcps (i1.w (by unfold wb; omega) hl hR) rfl rfl rfl rfl rfl rfl (fun r1 K2 => kl_copy _ _ _ 360 23 W0 F6 F _ i1 hw (by unfold wb; omega) wb23 (by omega) hl hR r1 (fun W1 F1 hw1 hf1 hag => K2 _ _ _ _ ?_))
  have k1 : ∀ j, kin 360 j → 360 ≤ j ∧ j < 370 := fun j z => ⟨z.1, z.2.1⟩
  have hc1 := hc.keep hf1 (fun i _ z => Or.inl (by have := k1 _ z; omega))
  obtain ⟨lf1, lp1, hO⟩ := hc1.o
  refine xr_stp rfl rfl rfl rfl ?_
  refine xr_getfield hO rfl rfl rfl rfl ?_
  refine xr_stp rfl rfl rfl rfl ?_
  refine xr_getfield hO rfl rfl rfl rfl ?_
  obtain ⟨-, -, hS1, ⟨WFE, hA1, hA1b⟩, hb1, -, -, hEW, -⟩ := id hc1
  refine xr_vcps (hf1.at i2 (fun z => by have := k1 _ z; omega)) rfl rfl rfl rfl rfl rfl (fun r1 K2 => st_cpi _ _ _ fi m N GS _ a2 b2 WF3 WFE i3b hA1b hb1.1 hb1.2.2.2 W1 hc1.l hc1.R (hf1.at i2 (fun z => by have := k1 _ z; omega)) (hf1.at i3 (fun z => by have := k1 _ z; omega)) hS1 hA1 (fun i hi => by obtain ⟨F, q1⟩ := i4 i hi; exact ⟨F, q1.keep (by unfold wb; omega) hl hf1 (fun x z1 z2 z => by have := k1 _ z; omega)⟩) hEW r1 (fun W2 q1 q2 hf2 => K2 _ _ _ _ ?_))
  have k2 : ∀ j, (j = 370 ∨ (372 ≤ j ∧ j < 372 + 310)) → 370 ≤ j ∧ j < 682 := fun j z => by omega
  have hc2 := hc1.keep hf2 (fun i _ z => Or.inl (by have := k2 _ z; omega))
  obtain ⟨lf2, lp2, hO⟩ := hc2.o
  have hx2 : rex T W2 := (hx.keep hf1 (fun z => by have := k1 _ z; omega) (fun z => by have := k1 _ z; omega) (fun i h1 _ z => by have := k1 _ z; omega)).keep hf2 (fun z => by have := k2 _ z; omega) (fun z => by have := k2 _ z; omega) (fun i h1 _ z => by have := k2 _ z; omega)
  refine xr_stp rfl rfl rfl rfl ?_
  refine xr_getfield hO rfl rfl rfl rfl ?_
  refine xr_stp rfl rfl rfl rfl ?_
  refine xr_getfield hO rfl rfl rfl rfl ?_
  obtain ⟨⟨RDE, r1_, r2_, r3_⟩, ⟨TDE, r4_⟩⟩ := id hx2
  have n5 := hf2.at (hf1.at i5 (fun z => by have := k1 _ z; omega)) (fun z => by have := k2 _ z; omega)
  have n6 := hf2.at (hf1.at i6 (fun z => by have := k1 _ z; omega)) (fun z => by have := k2 _ z; omega)
  have n7 := hf2.at (hf1.at i7 (fun z => by have := k1 _ z; omega)) (fun z => by have := k2 _ z; omega)
  refine xr_vcps n5 rfl rfl rfl rfl rfl rfl (fun r1 K2 => ru_cpi _ _ _ _ _ _ _ a5 b5 c5 e5 RDE RD6 TDE TD7 W2 hc2.R r1_ r4_ n5 n6 n7 r3_ r1 (fun W3 RD3 w1 w2 w3 w4 hf3 => K2 _ _ _ _ ?_))
  have k3 : ∀ j, (j = 682 ∨ j = 683 ∨ j = 684) → 682 ≤ j ∧ j < 687 := fun j z => by omega
  have hc3 := hc2.keep hf3 (fun i _ z => Or.inl (by have := k3 _ z; omega))
  obtain ⟨lf3, lp3, hO⟩ := hc3.o
  obtain ⟨F9, hw9, hr9⟩ := hc3.w
  have hW := hw9.w wb23 hc3.l hc3.R
  rw [show F9 40 = G 0 from hr9.1.2.2.2.2.2.2.1.1] at hW
  refine xr_stp rfl rfl rfl rfl ?_
  refine xr_getfield hO rfl rfl rfl rfl ?_
  refine xr_getfield hW rfl rfl rfl rfl ?_
  refine xr_ret rfl rfl (K W3 hc3 ⟨⟨F1, (hw1.keep (by unfold wb; omega) hc1.l hf2 (fun x z1 z2 z => by have := k2 _ z; omega)).keep (by unfold wb; omega) hc2.l hf3 (fun x z1 z2 z => by have := k3 _ z; omega), hr.ag hag⟩, hf3.at q1 (fun z => by have := k3 _ z; omega), ⟨WF3, hf3.at (hf2.at (hf1.at i3 (fun z => by have := k1 _ z; omega)) (fun z => by have := k2 _ z; omega)) (fun z => by have := k3 _ z; omega), i3b⟩, fun j hj => ?_, w1, ⟨RD3, w2, by rw [w3 0 (by omega)]; exact r2_, fun i hi => ?_⟩, ⟨_, w4⟩, hc3.d, hc3.2.2.2.2.2.2.2.2.2.1, hc3.q, hb1.2.2.2, hc3.1.2.2.1, hc3.1.2.2.2.1⟩ (((hf1.weak (fun j _ z => by have := k1 _ z; show 360 ≤ j ∧ j < 687; omega)).tr (hf2.weak (fun j _ z => by have := k2 _ z; show 360 ≤ j ∧ j < 687; omega))).tr (hf3.weak (fun j _ z => by have := k3 _ z; show 360 ≤ j ∧ j < 687; omega))))
  · obtain ⟨F, u1, u2⟩ := q2 j hj
    exact ⟨F, u1.keep (by unfold wb; omega) hc2.l hf3 (fun x z1 z2 z => by have := k3 _ z; omega), u2⟩
  · rw [w3 i hi]
    rcases r3_ i hi with e | ⟨t, L4, e1, e2, e3⟩
    · exact Or.inl e
    · exact Or.inr ⟨t, L4, e1, e2, hf3.at e3 (fun z => by have := k3 _ z; omega)⟩
/-- what 'back' needs of the class -/
def cmw (nn : Nat) (f : Nat → Int32) (T : Nat) (W : xi_W) : Prop := 687 ≤ W.length ∧ txt nn f W T ∧ rus W ∧ (∃ lf lp : Int32, W[17]? = some (.inr (6, [.ref 18, .int lf, .int lp, .ref 23, .ref 33, .ref 43, .ref 355, .ref 360, .ref 370, .ref 682]))) ∧ (∃ a b : Int32, W[43]? = some (.inr (3, [.ref 44, .int a, .int b]))) ∧ (∃ WF : Nat → Option Nat, W[44]? = some (.inl (.object "DeltaNests$World", 31, .inr (.inr WF))) ∧ ∀ i, i < 31 → WF i = some (45 + 10 * i)) ∧ (∃ F, kw W 23 F) ∧ (∃ F, kw W 33 F) ∧ (∀ i, i < 31 → ∃ F, kw W (45 + 10 * i) F) ∧ (∃ a b c e : Nat, ruo W a b c e) ∧ (∃ RD, rud W RD) ∧ ∃ TD, W[357]? = some (lw_i 32 TD)
theorem cmx.cmw {nn : Nat} {f : Nat → Int32} {q dl tx sy T N fi m mm : Nat} {G : Nat → Nat} {GS : Nat → Nat → Nat} {W W' : xi_W} (h : cmx nn f q dl tx sy T N fi m mm G GS W) (hx : rex T W) (hf : fr (fun i => i = 355) W W') {a b c e : Nat} (hR : ruo W' a b c e) : cmw nn f T W' := by
  obtain ⟨⟨b0, ⟨RD, b1, b2⟩, b3, b4, b5, b6, b7⟩, ⟨lf, lp, a2⟩, a3, ⟨WF, a4, a4b⟩, a5, ⟨F0, a6, a6b⟩, ⟨F3, a7⟩, a8, a9⟩ := h
  have hk : ∀ {b : Nat} {F : Nat → Nat}, kw W b F → wb b → b + 10 ≤ 355 → kw W' b F := fun {b F} hw hb h2 => hw.keep hb b0 hf (fun i z1 z2 (z : i = 355) => by omega)
  refine ⟨Nat.le_trans b0 hf.1, b5.keep hf (fun i hi (z : i = 355) => by omega), b6.keep hf (by omega) (by omega), ⟨lf, lp, hf.at a2 (by omega)⟩, ⟨_, _, hf.at a3 (by omega)⟩, ⟨WF, hf.at a4 (by omega), a4b⟩, ⟨F0, hk a6 wb23 (by omega)⟩, ⟨F3, hk a7 wb33 (by omega)⟩, fun i hi => ?_, ⟨_, _, _, _, hR⟩, ⟨RD, hf.at b1 (by omega)⟩, ?_⟩
  · obtain ⟨F, c1, c2⟩ := a8 i hi
    exact ⟨F, hk c1 (wbS hi) (by omega)⟩
  · obtain ⟨-, TD, h7⟩ := hx
    exact ⟨TD, hf.at h7 (by omega)⟩
theorem cl_bck (d c s nn q dl tx sy T N m : Nat) (f : Nat → Int32) (W0 : xi_W) (G : Nat → Nat) (GS : Nat → Nat → Nat) (hw : cmw nn f T W0) (hi : imx nn f q dl tx sy T N m G GS W0) (r : xi_R → Prop) (K : ∀ W', cmx nn f q dl tx sy T N 0 m m G GS W' → imx nn f q dl tx sy T N m G GS W' → rex T W' → fr (fun i => 23 ≤ i ∧ i < 358) W0 W' → r (some (.int (Int32.ofNat (G 0))), W', c, s)) : xr (d + 4) 145 0 [(0, .ref 17)] [] W0 c s r := by
  obtain ⟨hl, wT, wU, ⟨lf, lp, hO⟩, ⟨aS, bS, wS⟩, ⟨WFE, wA44, wAb⟩, ⟨FA, wA⟩, ⟨F33, w33⟩, wW, ⟨a9, b9, c9, e9, hR⟩, ⟨RDW_, wRD⟩, ⟨TDW, wTD⟩⟩ := hw
  obtain ⟨⟨FI, j1, j1b⟩, j2, ⟨WFI, j3, j3b⟩, j4, j5, ⟨RDI, j6, j6b, j6c⟩, ⟨TDI, j7⟩, j9, j10, j11, j12, j13, j14⟩ := id hi
  refine xr_stp rfl rfl rfl rfl ?_
  refine xr_getfield hO rfl rfl rfl rfl ?_
  refine xr_stp rfl rfl rfl rfl ?_
  refine xr_getfield hO rfl rfl rfl rfl ?_
  refine xr_vcps (wA.w wb23 hl hR) rfl rfl rfl rfl rfl rfl (fun r1 K2 => kl_copy _ _ _ 23 360 W0 FA FI _ wA j1 wb23 (by unfold wb; omega) (by omega) hl hR r1 (fun W1 F1 hw1 hf1 hag => K2 _ _ _ _ ?_))
  have k1 : ∀ j, kin 23 j → 23 ≤ j ∧ j < 33 := fun j z => ⟨z.1, z.2.1⟩
  have hO := hf1.at hO (fun z => by have := k1 _ z; omega)
  refine xr_stp rfl rfl rfl rfl ?_
  refine xr_getfield hO rfl rfl rfl rfl ?_
  refine xr_stp rfl rfl rfl rfl ?_
  refine xr_getfield hO rfl rfl rfl rfl ?_
  have hl1 : 687 ≤ W1.length := Nat.le_trans hl hf1.1
  refine xr_vcps (hf1.at wS (fun z => by have := k1 _ z; omega)) rfl rfl rfl rfl rfl rfl (fun r1 K2 => st_cpb _ _ _ 0 m N GS _ aS bS WFE WFI wAb j3b (by omega) j12 W1 hl1 (hf1.at hR (fun z => by have := k1 _ z; omega)) (hf1.at wS (fun z => by have := k1 _ z; omega)) (hf1.at wA44 (fun z => by have := k1 _ z; omega)) (hf1.at j2 (fun z => by have := k1 _ z; omega)) (hf1.at j3 (fun z => by have := k1 _ z; omega)) (fun i hi => by obtain ⟨F, q1⟩ := wW i hi; exact ⟨F, q1.keep (by unfold wb; omega) hl hf1 (fun x z1 z2 z => by have := k1 _ z; omega)⟩) (fun i hi => by obtain ⟨F, q1, q2⟩ := j4 i hi; exact ⟨F, q1.keep (by unfold wb; omega) hl hf1 (fun x z1 z2 z => by have := k1 _ z; omega), fun k hk e => by have e : k = i := (by omega); subst e; exact q2 hk⟩) r1 (fun W2 q1 q2 hf2 => K2 _ _ _ _ ?_))
  have k2 : ∀ j, (j = 43 ∨ (45 ≤ j ∧ j < 45 + 310)) → 43 ≤ j ∧ j < 355 ∧ j ≠ 44 := fun j z => by omega
  have hO := hf2.at hO (fun z => by have := k2 _ z; omega)
  have hl2 : 687 ≤ W2.length := Nat.le_trans hl1 hf2.1
  refine xr_stp rfl rfl rfl rfl ?_
  refine xr_getfield hO rfl rfl rfl rfl ?_
  refine xr_stp rfl rfl rfl rfl ?_
  refine xr_getfield hO rfl rfl rfl rfl ?_
  have hR2 : W2[355]? = _ := (hf2.at (hf1.at hR (fun z => by have := k1 _ z; omega)) (fun z => by have := k2 _ z; omega))
  have n5 := (hf2.at (hf1.at j5 (fun z => by have := k1 _ z; omega)) (fun z => by have := k2 _ z; omega))
  have n6 := (hf2.at (hf1.at j6 (fun z => by have := k1 _ z; omega)) (fun z => by have := k2 _ z; omega))
  have n7 := (hf2.at (hf1.at j7 (fun z => by have := k1 _ z; omega)) (fun z => by have := k2 _ z; omega))
  have nrd : W2[356]? = _ := (hf2.at (hf1.at wRD (fun z => by have := k1 _ z; omega)) (fun z => by have := k2 _ z; omega))
  have ntd := (hf2.at (hf1.at wTD (fun z => by have := k1 _ z; omega)) (fun z => by have := k2 _ z; omega))
  have nok : RDok W2 RDI := (j6c.k687 hf1 (fun j z => by have := k1 _ z; omega)).k687 hf2 (fun j z => by have := k2 _ z; omega)
  refine xr_vcps hR2 rfl rfl rfl rfl rfl rfl (fun r1 K2 => ru_cpb _ _ _ _ _ _ _ _ _ _ _ RDI RDW_ TDI TDW W2 n5 n6 n7 hR2 nrd ntd nok r1 (fun W3 RD3 w1 w2 w3 w4 hf3 => K2 _ _ _ _ ?_))
  have k3 : ∀ j, (j = 355 ∨ j = 356 ∨ j = 357) → 355 ≤ j ∧ j < 358 := fun j z => by omega
  have hO := hf3.at hO (fun z => by have := k3 _ z; omega)
  have hF : fr (fun i => 23 ≤ i ∧ i < 358) W0 W3 := ((hf1.weak (fun j _ z => by have := k1 _ z; show 23 ≤ j ∧ j < 358; omega)).tr (hf2.weak (fun j _ z => by have := k2 _ z; show 23 ≤ j ∧ j < 358; omega))).tr (hf3.weak (fun j _ z => by have := k3 _ z; show 23 ≤ j ∧ j < 358; omega))
  have hl3 : 687 ≤ W3.length := Nat.le_trans hl2 hf3.1
  have hw3 : kw W3 23 F1 := (hw1.keep wb23 hl1 hf2 (fun x z1 z2 z => by have := k2 _ z; omega)).keep wb23 hl2 hf3 (fun x z1 z2 z => by have := k3 _ z; omega)
  have hr3 : RL (G 0 + 1) N G F1 := j1b.ag hag
  have hW := hw3.w wb23 hl3 w1
  rw [show F1 40 = G 0 from hr3.1.2.2.2.2.2.2.1.1] at hW
  have ok3 : RDok W3 RD3 := fun i hi => by
    rw [w3 i hi]
    exact (nok.k687 hf3 (fun j z => by have := k3 _ z; omega)) i hi
  have np : ∀ i, i < 23 ∨ 358 ≤ i → ¬ (23 ≤ i ∧ i < 358) := fun i h z => by omega
  refine xr_stp rfl rfl rfl rfl ?_
  refine xr_getfield hO rfl rfl rfl rfl ?_
  refine xr_getfield hW rfl rfl rfl rfl ?_
  refine xr_ret rfl rfl (K W3 ⟨⟨hl3, ⟨RD3, w2, by rw [w3 0 (by omega)]; exact j6b⟩, j13, j14, wT.keep hF (fun i hi => np i (by omega)), wU.keep hF (np _ (by omega)) (np _ (by omega)), w1⟩, ⟨_, _, hO⟩, hf3.at q1 (fun z => by have := k3 _ z; omega), ⟨WFE, (hf3.at (hf2.at (hf1.at wA44 (fun z => by have := k1 _ z; omega)) (fun z => by have := k2 _ z; omega)) (fun z => by have := k3 _ z; omega)), wAb⟩, ⟨by omega, Nat.le_refl _, by omega, j12⟩, ⟨F1, hw3, hr3⟩, ⟨F33, w33.keep wb33 hl ⟨hF.1, fun i hi hp => ?_⟩ (P := fun i => (23 ≤ i ∧ i < 33) ∨ (43 ≤ i ∧ i < 358)) (fun x z1 z2 z => by omega)⟩, fun i hi => ?_, j9, j10, j11⟩ ?_ ⟨⟨RD3, w2, by rw [w3 0 (by omega)]; exact j6b, ok3⟩, ⟨_, w4⟩⟩ hF)
  · exact (hf3.2 i (by have := hf1.1; have := hf2.1; omega) (fun z => by have := k3 _ z; omega)).trans ((hf2.2 i (by have := hf1.1; omega) (fun z => by have := k2 _ z; omega)).trans (hf1.2 i hi (fun z => by have := k1 _ z; omega)))
  · obtain ⟨F, u1, u2⟩ := q2 i hi
    exact ⟨F, u1.keep (wbS hi) hl2 hf3 (fun x z1 z2 z => by have := k3 _ z; omega), fun k hk e => by have e : k = i := (by omega); subst e; exact u2 hk⟩
  · exact hi.keep hl hF (fun i h1 h2 => np i (by omega)) (fun i h1 h2 _ => np i (by omega))
