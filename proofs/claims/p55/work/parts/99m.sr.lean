/-! the script is read -/
theorem cl_rd (d c s : Nat) (W0 : xi_W) (nn : Nat) (f : Nat → Int32) (t : Nat → Nat) (h : TOK nn f 8 t) (i : Nat) (hi : i < 8) (st nu pa lw : Nat) (C B : Nat → Nat) (hS : RDS t (sof nn f 8) st (HDk nn f i) (HDt nn f i) nu 0 4294967295 i pa lw C B [] W0) (hC : CLK nn f i C) (r : xi_R → Prop) (K : ∀ W' st nu pa C', CLK nn f (i + 1) C' → RDS t (sof nn f 8) st (HDk nn f (i + 1)) (HDt nn f (i + 1)) nu 0 4294967295 (i + 1) pa lw C' B [] W' → fr rdp W0 W' → r (some (.int (Int32.ofNat 1)), W', c, s)) : xr (d + 10) 31 0 [(0, .ref 18)] [] W0 c s r := by
  have q := (swb nn f i).1
  have e : sw nn f i = 0 ∨ sw nn f i = 1 ∨ sw nn f i = 2 ∨ sw nn f i = 3 ∨ sw nn f i = 4 := by omega
  rcases e with e | e | e | e | e
  · exact cl_rd0 d c s W0 nn f t h i hi e st nu pa lw C B hS hC r K
  · exact cl_rd1 d c s W0 nn f t h i hi e st nu pa lw C B hS hC r K
  · exact cl_rd2 d c s W0 nn f t h i hi e st nu pa lw C B hS hC r K
  · exact cl_rd3 d c s W0 nn f t h i hi e st nu pa lw C B hS hC r K
  · exact cl_rd4 d c s W0 nn f t h i hi e st nu pa lw C B hS hC r K
theorem rd_scL (d : Nat) (nn : Nat) (f : Nat → Int32) (t : Nat → Nat) (h : TOK nn f 8 t) (lw : Nat) (B : Nat → Nat) (r : xi_R → Prop) : ∀ (m i : Nat) (W0 : xi_W) (c s st nu pa : Nat) (C : Nat → Nat), i + m = 8 → RDS t (sof nn f 8) st (HDk nn f i) (HDt nn f i) nu 0 4294967295 i pa lw C B [] W0 → CLK nn f i C → (∀ W' st nu pa C', CLK nn f 8 C' → RDS t (sof nn f 8) st (sof nn f 8) 39 nu 0 4294967295 8 pa lw C' B [] W' → fr rdp W0 W' → xr (d + 11) 29 77 [(0, .ref 18), (1, .int (Int32.ofNat 8))] [] W' c s r) → xr (d + 11) 29 47 [(0, .ref 18), (1, .int (Int32.ofNat i))] [] W0 c s r
  | 0, i, W0, c, s, st, nu, pa, C, hi, hS, hC, K => by
    obtain rfl : i = 8 := by omega
    refine rd_out d c s W0 t (sof nn f 8) _ _ _ _ _ _ _ _ _ _ _ _ 8 hS (by omega) rfl _ ?_
    exact K W0 st nu pa C hC hS fr.rf
  | m + 1, i, W0, c, s, st, nu, pa, C, hi, hS, hC, K => by
    have q := (swb nn f i).1
    refine rd_stp d c s W0 t (sof nn f 8) _ _ _ _ _ _ _ _ _ _ _ _ i hS (by omega) (by unfold HDt; split <;> omega) _ (fun r1 H => cl_rd d _ _ W0 nn f t h i (by omega) st nu pa lw C B hS hC r1 (fun W1 st1 nu1 pa1 C1 hC1 hS1 hf1 => H W1 _ _ ?_))
    exact rd_scL d nn f t h lw B r m (i + 1) W1 _ _ st1 nu1 pa1 C1 (by omega) hS1 hC1 (fun W5 st5 nu5 pa5 C5 k1 k2 k3 => K W5 st5 nu5 pa5 C5 k1 k2 (hf1.tr k3))
/-- the text of the script, as it was read -/
def SCT (nn : Nat) (f : Nat → Int32) (W : xi_W) (T : Nat) : Prop := ∃ (CL CO BO : Nat) (C : Nat → Nat), W[T]? = some (.inr (4, [.int (Int32.ofNat 8), .ref CL, .ref CO, .ref BO])) ∧ W[CL]? = some (lw_i 40 C) ∧ CLK nn f 8 C ∧ 687 ≤ T ∧ 687 ≤ CL
theorem SCT.keep {nn : Nat} {f : Nat → Int32} {P : Nat → Prop} {W W' : xi_W} {T : Nat} (h : SCT nn f W T) (hf : fr P W W') (hp : ∀ i, 687 ≤ i → ¬ P i) : SCT nn f W' T := by
  obtain ⟨CL, CO, BO, C, h1, h2, h3, h4, h5⟩ := h
  exact ⟨CL, CO, BO, C, hf.at h1 (hp _ h4), hf.at h2 (hp _ h5), h3, h4, h5⟩
theorem rd_SCR (d c s : Nat) (W0 : xi_W) (nn : Nat) (f : Nat → Int32) (t : Nat → Nat) (h : RDW (sof nn f 8) t W0) (hT : TOK nn f 8 t) (hl : 687 ≤ W0.length) (r : xi_R → Prop) (K : ∀ W', (SCT nn f W' W0.length ∧ RDW (sof nn f 8) t W') → (∃ n st nx tk nu mn pa cd lw, W'[18]? = some (rO n st nx tk nu 0 4294967295 mn pa cd lw)) → (∃ L4, W'[W0.length]? = some (.inr (4, L4))) → fr rdp W0 W' → r (some (.ref W0.length), W', c + 4, s + 48)) : xr (d + 11) 29 0 [(0, .ref 18)] [] W0 c s r := by
  refine xr_cnt ?_
  refine rd_beg d c s W0 t (sof nn f 8) h (nu1 := fun nu => nu) (fun nu => HD_ad hT nu 0 (by omega)) _ (fun W1 nu pa lw C B hS1 hf1 => ?_)
  refine rd_scL d nn f t hT lw _ _ 8 0 W1 _ _ _ nu pa _ rfl hS1 (fun i hi => absurd hi (Nat.not_lt_zero _)) (fun W3 st3 nu3 pa3 C3 hC3 hS3 hf3 => ?_)
  have hf13 : fr rdp W0 W3 := hf1.tr hf3
  refine xr_cnt ?_
  have hge := hf13.1
  refine rd_fin d _ _ W3 t (sof nn f 8) _ _ _ _ _ _ _ _ _ _ _ _ 8 hS3 (by omega) (by show 0 < 300; omega) (by omega) _ (fun W4 P q1 q2 q3 hL q4 hf4 => ?_)
  intro e1 e2
  have hl3 : W3.length = W0.length := by
    dsimp only at e1 e2
    omega
  rw [hl3] at q1 q2 q3 q4
  rw [hl3]
  have hS4 : RDW (sof nn f 8) t W4 := hS3.rw.keep hf4 (fun i _ _ z => z) (Or.inr trivial)
  refine K W4 ⟨⟨_, _, _, _, q1, q2, fun i hi p hp => ?_, by omega, by omega⟩, hS4⟩ ⟨_, _, _, _, _, _, _, _, _, hf4.at hS3.len (fun z => z)⟩ ⟨_, q1⟩ (hf13.tr2 hf4 (fun _ z => z.elim))
  have hp4 := cpm_4 (sw nn f i)
  unfold cpN
  rw [if_pos (show i * 5 + p < 8 * 5 by omega)]
  exact hC3 i hi p hp
theorem cmx.txt {nn : Nat} {f : Nat → Int32} {q dl tx sy T T2 N fi m mm : Nat} {G : Nat → Nat} {GS : Nat → Nat → Nat} {W W1 W' : xi_W} {RD : Nat → Option Nat} {ru : Nat} (h : cmx nn f q dl tx sy T N fi m mm G GS W) (hf1 : fr rdp W W1) (hf2 : fr (fun i => i = 17 ∨ i = 18 ∨ i = 355 ∨ i = 356) W1 W') (h17 : ∃ lf lp : Int32, W'[17]? = some (.inr (6, [.ref 18, .int lf, .int lp, .ref 23, .ref 33, .ref 43, .ref 355, .ref 360, .ref 370, .ref 682]))) (hru : ru = if q = 0 then 4294967295 else 0) (hR : ruo W' (tx + 1) ru dl sy) (hrd : rud W' (va_up RD tx (some T2))) (hRD : RD 0 = some T) (htx : tx + 1 ≤ 4) : cmx nn f q dl (tx + 1) sy T N fi m mm G GS W' := by
  obtain ⟨⟨b0, ⟨RD0, b1, b2⟩, b3, b4, b5, b6, b7⟩, _, a3, ⟨WF, a4, a4b⟩, a5, ⟨F0, a6, a6b⟩, ⟨F3, a7⟩, a8, a9, a10, a11⟩ := h
  have hf : fr (fun i => (17 ≤ i ∧ i ≤ 22) ∨ i = 355 ∨ i = 356) W W' := (hf1.weak (fun i _ z => Or.inl (by unfold rdp at z; omega))).tr (hf2.weak (fun i _ z => by have z : i = 17 ∨ i = 18 ∨ i = 355 ∨ i = 356 := z; show (17 ≤ i ∧ i ≤ 22) ∨ i = 355 ∨ i = 356; omega))
  have n : ∀ i, 23 ≤ i → i ≠ 355 → i ≠ 356 → ¬ ((17 ≤ i ∧ i ≤ 22) ∨ i = 355 ∨ i = 356) := fun i h1 h2 h3 z => by omega
  have hk : ∀ {b : Nat} {F : Nat → Nat}, kw W b F → wb b → 23 ≤ b → b + 10 ≤ 355 → kw W' b F := fun {b F} hw hb h1 h2 => hw.keep hb b0 hf (fun i z1 z2 => n i (by omega) (by omega) (by omega))
  refine ⟨⟨Nat.le_trans b0 hf.1, ⟨_, hrd, ?_⟩, by omega, htx, b5.keep hf (fun i hi => n i (by omega) (by omega) (by omega)), b6.keep hf (n _ (by omega) (by omega) (by omega)) (n _ (by omega) (by omega) (by omega)), by rw [← hru]; exact hR⟩, h17, hf.at a3 (n _ (by omega) (by omega) (by omega)), ⟨WF, hf.at a4 (n _ (by omega) (by omega) (by omega)), a4b⟩, a5, ⟨F0, hk a6 wb23 (by omega) (by omega), a6b⟩, ⟨F3, hk a7 wb33 (by omega) (by omega)⟩, fun i hi => ?_, a9, a10, a11⟩
  · unfold va_up
    rw [if_neg (by omega)]
    exact hRD
  · obtain ⟨F, c1, c2⟩ := a8 i hi
    exact ⟨F, hk c1 (wbS hi) (by omega) (by omega), c2⟩
