/-! the numbers at the start -/
def G00 (dl : Nat) : Nat → Nat := xn_u (xn_u (fun _ => 0) 1 509) 5 dl
theorem G00z (dl : Nat) {j : Nat} (h1 : j ≠ 1) (h5 : j ≠ 5) : G00 dl j = 0 := by
  unfold G00
  rw [xn_un _ _ h5, xn_un _ _ h1]
theorem G00_1 (dl : Nat) : G00 dl 1 = 509 := by
  unfold G00
  rw [xn_un _ _ (by omega), xn_ue]
theorem G00_5 (dl : Nat) : G00 dl 5 = dl := xn_ue _ _ _
theorem F00z {k : Nat} (h : k ≠ 56) : F00 k = 0 := if_neg h
theorem tb0 (i : Nat) : ¬ (0 : Nat).testBit i = true := by rw [Nat.zero_testBit]; decide
theorem G00_J (dl : Nat) (h1 : 1 ≤ dl) (h4 : dl ≤ 4) : lw_J 0 (G00 dl) := by
  have z : ∀ j, j ≠ 1 → j ≠ 5 → G00 dl j = 0 := fun j a b => G00z dl a b
  refine ⟨fun j => ?_, by rw [G00_1]; omega, by rw [z 4 (by omega) (by omega)]; omega, by rw [G00_5]; exact h1, by rw [G00_5]; exact h4, by rw [z 0 (by omega) (by omega)]; omega, by rw [z 2 (by omega) (by omega)]; omega, by rw [z 3 (by omega) (by omega)]; omega, by rw [z 410 (by omega) (by omega)]; omega, by rw [z 603 (by omega) (by omega)]; omega, fun t ht => ?_, fun u t hu ht => ?_, fun i hi => ?_⟩
  · by_cases e1 : j = 1
    · rw [e1, G00_1]; omega
    · by_cases e5 : j = 5
      · rw [e5, G00_5]; omega
      · rw [z j e1 e5]; omega
  · rw [z (342 + t) (by omega) (by omega), z (338 + t) (by omega) (by omega)]; omega
  · rw [z (346 + 4 * u + t) (by omega) (by omega)]; omega
  · rw [z 410 (by omega) (by omega)] at hi; omega
theorem pr00 (G : Nat → Nat) (r : Nat) (h : G 4 = 0) (x : Nat) : pr G r (G 4) x = 0 := by rw [h]; rfl
theorem G00_R (dl : Nat) (h1 : 1 ≤ dl) (h4 : dl ≤ 4) : RL (G00 dl 0 + 1) 0 (G00 dl) F00 := by
  have z : ∀ j, j ≠ 1 → j ≠ 5 → G00 dl j = 0 := fun j a b => G00z dl a b
  have z4 := z 4 (by omega) (by omega)
  have z410 := z 410 (by omega) (by omega)
  have z603 := z 603 (by omega) (by omega)
  have su0 : ∀ b, su 0 b := fun b i h => absurd h (tb0 i)
  have ro0 : ∀ X h k, X < 1000 → ro (G00 dl) F00 X h k := fun X h k hX r hr => ⟨by rw [pr00 _ _ z4, F00z (by omega)], by rw [pr00 _ _ z4, F00z (by omega)]⟩
  refine ⟨⟨G00_J dl h1 h4, ⟨fun i hi => by omega, fun t ht => ?_, fun t n ht ha hb => ?_, fun i hi => by omega, fun i j hij hj => by omega, fun i hi => by omega, fun _ _ => 0, ⟨fun u hu => ?_, fun u n hu hn => su0 _, fun u n hu hn i j hij hj => by omega, fun u n hu ha hb => ?_, fun u t hu ht => su0 _, fun i hi => by omega, fun i hi => by omega⟩, trivial⟩, ⟨fun i hi => by omega, fun u hu => by rw [F00z (by omega)]; omega⟩, fun t ht => ro0 t _ _ (by omega), fun t ht => ⟨?_, ?_, fun q hq => ?_⟩, fun t n ht ha hb => ?_, ⟨?_, ?_, ?_, ?_⟩, ⟨?_, fun i hi => by omega⟩, ⟨?_, fun i k hi hk => ?_⟩⟩, fun i hi => by omega⟩
  · rw [z (330 + 2 * t) (by omega) (by omega), z (331 + 2 * t) (by omega) (by omega)]
    exact ⟨su0 _, by rw [z4]; decide⟩
  · rw [z (338 + t) (by omega) (by omega)] at hb; omega
  · exact (z (331 + 2 * u) (by omega) (by omega)).symm
  · rw [z (338 + u) (by omega) (by omega)] at hb; omega
  · rw [F00z (by omega), z (338 + t) (by omega) (by omega)]
  · rw [F00z (by omega), z (342 + t) (by omega) (by omega)]
  · rw [F00z (by omega), z (346 + 4 * t + q) (by omega) (by omega)]
  · rw [z (338 + t) (by omega) (by omega)] at hb; omega
  · rw [F00z (by omega), z 0 (by omega) (by omega)]
  · rw [G00_1]; rfl
  · rw [F00z (by omega), z 2 (by omega) (by omega)]
  · rw [F00z (by omega), z 3 (by omega) (by omega)]
  · rw [F00z (by omega), z410]
  · rw [F00z (by omega), z603]; rfl
  · rw [F00z (by omega)] at hi; omega
theorem G00_m (dl : Nat) : mG 0 (G00 dl) := by
  have z : ∀ j, j ≠ 1 → j ≠ 5 → G00 dl j = 0 := fun j a b => G00z dl a b
  have z410 := z 410 (by omega) (by omega)
  have z603 := z 603 (by omega) (by omega)
  exact ⟨⟨fun i hi => by omega, fun i k hi => by omega, fun i hi => by omega⟩, by rw [z 0 (by omega) (by omega)]; omega, by rw [z 4 (by omega) (by omega)]; omega⟩
theorem xs_lsl {d i pc a n j v : Nat} {l : xi_L} {st : List Value} {w : xi_W} {c s : Nat} {r : xi_R → Prop} {G : Nat → Nat} (hw : w[a]? = some (lw_a n G)) (hg : 17 ≤ a) (hj : j < n) (hn : n < 2147483648) (hc : xt_cd i pc = some .lastore) (h : ∀ w', w'[a]? = some (lw_a n (xn_u G j v)) → fr (· = a) w w' → w'.length = w.length → xr d i (pc + 1) l st w' c s r) : xr d i pc l (.long (Int64.ofNat v) :: .int (Int32.ofNat j) :: .ref a :: st) w c s r :=
  xs_ast hw hg hj hn hc (h _ (xi_setat hw) (fr.set rfl) (by rw [List.length_set]))
/-- the class is ready, no clock has ticked: all that the steps want -/
theorem fsh.cmx {nn : Nat} {f : Nat → Int32} {q dl T : Nat} {W0 W : xi_W} (h : fsh W0) (hf : fr (fun i => (17 ≤ i ∧ i ≤ 22) ∨ i = 355 ∨ i = 356 ∨ 687 ≤ i) W0 W) (hl : 687 ≤ W.length) (hq : q < 2) (h1 : 1 ≤ dl) (h4 : dl ≤ 4) {lf lp : Int32} (hO : W[17]? = some (.inr (6, [.ref 18, .int lf, .int lp, .ref 23, .ref 33, .ref 43, .ref 355, .ref 360, .ref 370, .ref 682]))) (hR : ruo W 1 (if q = 0 then 4294967295 else 0) dl 0) {RD : Nat → Option Nat} (hrd : rud W RD) (hRD : RD 0 = some T) (ht : txt nn f W T) (GS : Nat → Nat → Nat) : cmx nn f q dl 1 0 T 0 0 0 0 (G00 dl) GS W := by
  obtain ⟨-, -, -, -, -, -, w23, w33, s43, ⟨WF, s44, s44b⟩, wS, -, -, -, r358, r359, -⟩ := h
  have n : ∀ i, 23 ≤ i → i < 687 → i ≠ 355 → i ≠ 356 → ¬ ((17 ≤ i ∧ i ≤ 22) ∨ i = 355 ∨ i = 356 ∨ 687 ≤ i) := fun i a b c d z => by omega
  have hk : ∀ {b}, wr W0 b → 23 ≤ b → b + 10 ≤ 355 → kw W b F00 := fun {b} h a c => (h.keep hf (fun i z1 z2 => n i (by omega) (by omega) (by omega) (by omega))).kw ⟨by omega, by omega, Or.inl c⟩
  exact ⟨⟨hl, ⟨RD, hrd, hRD⟩, by omega, by omega, ht, ⟨⟨_, hf.at r358 (n _ (by omega) (by omega) (by omega) (by omega))⟩, ⟨_, hf.at r359 (n _ (by omega) (by omega) (by omega) (by omega))⟩⟩, hR⟩, ⟨lf, lp, hO⟩, hf.at s43 (n _ (by omega) (by omega) (by omega) (by omega)), ⟨WF, hf.at s44 (n _ (by omega) (by omega) (by omega) (by omega)), s44b⟩, ⟨by omega, by omega, by omega, by omega⟩, ⟨F00, hk w23 (by omega) (by omega), G00_R dl h1 h4⟩, ⟨F00, hk w33 (by omega) (by omega)⟩, fun i hi => ⟨F00, hk (wS i hi) (by omega) (by omega), fun k hk => by omega⟩, G00_5 dl, fun k hk => by omega, hq⟩
theorem fsh.imb {W0 W : xi_W} (h : fsh W0) (hf : fr (fun i => (17 ≤ i ∧ i ≤ 22) ∨ i = 355 ∨ i = 356 ∨ 687 ≤ i) W0 W) : imb W := by
  obtain ⟨-, -, -, -, -, -, -, -, -, -, -, -, -, -, -, -, w360, s370, ⟨WF, s371, s371b⟩, wS, r682, r683, r684⟩ := h
  have n : ∀ i, 23 ≤ i → i < 687 → i ≠ 355 → i ≠ 356 → ¬ ((17 ≤ i ∧ i ≤ 22) ∨ i = 355 ∨ i = 356 ∨ 687 ≤ i) := fun i a b c d z => by omega
  have hk : ∀ {b}, wr W0 b → 360 ≤ b → b + 10 ≤ 687 → kw W b F00 := fun {b} h a c => (h.keep hf (fun i z1 z2 => n i (by omega) (by omega) (by omega) (by omega))).kw ⟨by omega, by omega, Or.inr a⟩
  exact ⟨⟨F00, hk w360 (by omega) (by omega)⟩, ⟨_, _, hf.at s370 (n _ (by omega) (by omega) (by omega) (by omega))⟩, ⟨WF, hf.at s371 (n _ (by omega) (by omega) (by omega) (by omega)), s371b⟩, fun i hi => ⟨F00, hk (wS i hi) (by omega) (by omega)⟩, ⟨_, _, _, _, hf.at r682 (n _ (by omega) (by omega) (by omega) (by omega))⟩, ⟨_, hf.at r683 (n _ (by omega) (by omega) (by omega) (by omega))⟩, ⟨_, hf.at r684 (n _ (by omega) (by omega) (by omega) (by omega))⟩⟩
