/-! the image: rules copied, steps copied -/
def RDok (W : xi_W) (RD : Nat → Option Nat) : Prop := ∀ i, i < 4 → RD i = none ∨ ∃ t L4, RD i = some t ∧ 687 ≤ t ∧ W[t]? = some (.inr (4, L4))
theorem RDok.keep {P : Nat → Prop} {W W' : xi_W} {RD : Nat → Option Nat} (h : RDok W RD) (hf : fr P W W') (hp : ∀ i t, RD i = some t → i < 4 → ¬ P t) : RDok W' RD := fun i hi => by
  rcases h i hi with e | ⟨t, L4, e1, e2, e3⟩
  · exact Or.inl e
  · exact Or.inr ⟨t, L4, e1, e2, hf.at e3 (hp i t e1 hi)⟩
theorem RDok.k687 {P : Nat → Prop} {W W' : xi_W} {RD : Nat → Option Nat} (h : RDok W RD) (hf : fr P W W') (hp : ∀ i, P i → i < 687) : RDok W' RD := fun i hi => by
  rcases h i hi with e | ⟨t, L4, e1, e2, e3⟩
  · exact Or.inl e
  · exact Or.inr ⟨t, L4, e1, e2, hf.at e3 (fun z => by have := hp t z; omega)⟩
theorem xs_rsn {d i pc a n j : Nat} {C : String} {f : Nat → Option Nat} {l : xi_L} {st : List Value} {w : xi_W} {c s : Nat} {r : xi_R → Prop} (hw : w[a]? = some (.inl (.object C, n, .inr (.inr f)))) (hg : 17 ≤ a) (hj : j < n) (hn : n < 2147483648) (hc : xt_cd i pc = some .aastore) (h : ∀ w', w'[a]? = some (.inl (.object C, n, .inr (.inr (va_up f j none)))) → fr (· = a) w w' → xr d i (pc + 1) l st w' c s r) : xr d i pc l (.null :: .int (Int32.ofNat j) :: .ref a :: st) w c s r := by
  refine xr_stp (pc' := pc + 1) (l' := l) (st' := st) (w' := w.set a (.inl (.object C, n, .inr (.inr (va_up f j none))))) (c' := c) (s' := s) hc rfl rfl ?_ (h _ (xi_setat hw) (fr.set rfl))
  simp only [xi_stp, hw, Nat.ble_eq.mpr hg, n_ix hj hn, Bool.and_self, cond_true, n_nat (show j < 2147483648 by omega)]
theorem ru_cpiL (d c s : Nat) (tx ru dl sy tx2 ru2 dl2 sy2 : Int32) (RD : Nat → Option Nat) (r : xi_R → Prop) : ∀ (m i : Nat) (W0 : xi_W) (RD2 : Nat → Option Nat), i + m = 4 → W0[355]? = some (.inr (2, [.ref 356, .int tx, .int ru, .int dl, .ref 357, .int sy, .ref 358, .ref 359])) → W0[356]? = some (.inl (.object "DeltaNests$Text", 4, .inr (.inr RD))) → W0[682]? = some (.inr (2, [.ref 683, .int tx2, .int ru2, .int dl2, .ref 684, .int sy2, .ref 685, .ref 686])) → W0[683]? = some (.inl (.object "DeltaNests$Text", 4, .inr (.inr RD2))) → RDok W0 RD → (∀ j, j < i → RD2 j = RD j) → (∀ W' RD3, W'[683]? = some (.inl (.object "DeltaNests$Text", 4, .inr (.inr RD3))) → (∀ j, j < 4 → RD3 j = RD j) → fr (fun i => i = 683) W0 W' → xr d 53 25 [(0, .ref 682), (1, .ref 355)] [] W' c s r) → xr d 53 2 [(0, .ref 682), (1, .ref 355), (2, .int (Int32.ofNat i))] [] W0 c s r
  | 0, i, W0, RD2, hi, hE, hEA, hD, hDA, hok, hRD, K => by
    obtain rfl : i = 4 := by omega
    refine xr_stp rfl rfl rfl rfl ?_
    refine xr_stp (st' := .int (Int32.ofNat 4) :: _) rfl rfl rfl rfl ?_
    refine xr_j2 rfl rfl rfl rfl rfl (fun h4 => ?_) (fun h4 => ?_)
    · refine xr_loc [(0, .ref 682), (1, .ref 355)] ⟨rfl, rfl, trivial⟩ rfl ?_
      exact K W0 RD2 hDA hRD fr.rf
    · have z4 := nf_ge (by omega) (by omega) h4
      exact (by omega)
  | m + 1, i, W0, RD2, hi, hE, hEA, hD, hDA, hok, hRD, K => by
    refine xr_stp rfl rfl rfl rfl ?_
    refine xr_stp (st' := .int (Int32.ofNat 4) :: _) rfl rfl rfl rfl ?_
    refine xr_j2 rfl rfl rfl rfl rfl (fun h4 => ?_) (fun h4 => ?_)
    · exact absurd (nt_ge (by omega) (by omega) h4) (by omega)
    · refine xr_stp rfl rfl rfl rfl ?_
      refine xr_getfield hD rfl rfl rfl rfl ?_
      refine xr_stp rfl rfl rfl rfl ?_
      refine xr_stp rfl rfl rfl rfl ?_
      refine xr_getfield hE rfl rfl rfl rfl ?_
      refine xr_stp rfl rfl rfl rfl ?_
      refine xs_rld hEA (by omega) (by omega) (by omega) rfl ?_
      rcases hok i (by omega) with e | ⟨t, L4, e, e2, e3⟩
      · rw [e]
        refine xs_rsn hDA (by omega) (by omega) (by omega) rfl (fun W1 hDA1 hf1 => ?_)
        refine xs_inc (e := 1) rfl rfl rfl rfl ?_
        refine xr_stp rfl rfl rfl rfl ?_
        refine xr_loc [(0, .ref 682), (1, .ref 355), (2, .int (Int32.ofNat (i + 1)))] ⟨rfl, rfl, rfl, trivial⟩ rfl ?_
        refine ru_cpiL d c s tx ru dl sy tx2 ru2 dl2 sy2 RD r m (i + 1) W1 _ (by omega) (hf1.at hE (by omega)) (hf1.at hEA (by omega)) (hf1.at hD (by omega)) hDA1 (hok.k687 hf1 (fun j z => by have z : j = 683 := z; omega)) ?_ (fun W5 RD5 q1 q2 q3 => K W5 RD5 q1 q2 ((hf1.weak (P2 := fun i => i = 683) (fun i _ z => z)).tr q3))
        intro j hj
        unfold va_up
        by_cases e5 : j = i
        · rw [if_pos e5, e5, e]
        · rw [if_neg e5]; exact hRD j (by omega)
      · rw [e]
        refine xs_rst hDA e3 (by omega) (by omega) (by omega) (by omega) rfl rfl (fun W1 hDA1 hf1 => ?_)
        refine xs_inc (e := 1) rfl rfl rfl rfl ?_
        refine xr_stp rfl rfl rfl rfl ?_
        refine xr_loc [(0, .ref 682), (1, .ref 355), (2, .int (Int32.ofNat (i + 1)))] ⟨rfl, rfl, rfl, trivial⟩ rfl ?_
        refine ru_cpiL d c s tx ru dl sy tx2 ru2 dl2 sy2 RD r m (i + 1) W1 _ (by omega) (hf1.at hE (by omega)) (hf1.at hEA (by omega)) (hf1.at hD (by omega)) hDA1 (hok.k687 hf1 (fun j z => by have z : j = 683 := z; omega)) ?_ (fun W5 RD5 q1 q2 q3 => K W5 RD5 q1 q2 ((hf1.weak (P2 := fun i => i = 683) (fun i _ z => z)).tr q3))
        intro j hj
        unfold va_up
        by_cases e5 : j = i
        · rw [if_pos e5, e5, e]
        · rw [if_neg e5]; exact hRD j (by omega)
theorem ru_cpi (d c s : Nat) (tx ru dl sy tx2 ru2 dl2 sy2 : Int32) (RD RD2 : Nat → Option Nat) (TD TD2 : Nat → Nat) (W0 : xi_W) (hE : W0[355]? = some (.inr (2, [.ref 356, .int tx, .int ru, .int dl, .ref 357, .int sy, .ref 358, .ref 359]))) (hEA : W0[356]? = some (.inl (.object "DeltaNests$Text", 4, .inr (.inr RD)))) (hET : W0[357]? = some (lw_i 32 TD)) (hD : W0[682]? = some (.inr (2, [.ref 683, .int tx2, .int ru2, .int dl2, .ref 684, .int sy2, .ref 685, .ref 686]))) (hDA : W0[683]? = some (.inl (.object "DeltaNests$Text", 4, .inr (.inr RD2)))) (hDT : W0[684]? = some (lw_i 32 TD2)) (hok : RDok W0 RD) (r : xi_R → Prop) (K : ∀ W' RD3, W'[682]? = some (.inr (2, [.ref 683, .int tx, .int ru, .int dl, .ref 684, .int sy, .ref 685, .ref 686])) → W'[683]? = some (.inl (.object "DeltaNests$Text", 4, .inr (.inr RD3))) → (∀ j, j < 4 → RD3 j = RD j) → W'[684]? = some (lw_i 32 (cpN 32 TD TD2)) → fr (fun i => i = 682 ∨ i = 683 ∨ i = 684) W0 W' → r (none, W', c, s)) : xr (d + 1) 53 0 [(0, .ref 682), (1, .ref 355)] [] W0 c s r := by
  refine xr_stp (st' := .int (Int32.ofNat 0) :: _) rfl rfl rfl rfl ?_
  refine xr_stp rfl rfl rfl rfl ?_
  refine xr_loc [(0, .ref 682), (1, .ref 355), (2, .int (Int32.ofNat 0))] ⟨rfl, rfl, rfl, trivial⟩ rfl ?_
  refine ru_cpiL (d + 1) c s tx ru dl sy tx2 ru2 dl2 sy2 RD r 4 0 W0 RD2 rfl hE hEA hD hDA hok (fun j hj => absurd hj (Nat.not_lt_zero _)) (fun W1 RD3 hDA1 q2 hf1 => ?_)
  have hE := hf1.at hE (by omega)
  have hD := hf1.at hD (by omega)
  have hET := hf1.at hET (by omega)
  have hDT := hf1.at hDT (by omega)
  have hDA := hDA1
  have hF0 : fr (fun i => i = 682 ∨ i = 683 ∨ i = 684) W0 W1 := hf1.weak (fun i _ z => Or.inr (Or.inl z))
  have hF : fr (fun i => i = 682 ∨ i = 683 ∨ i = 684) W1 W1 := fr.rf
  refine xr_stp rfl rfl rfl rfl ?_
  refine xr_stp rfl rfl rfl rfl ?_
  refine xr_getfield hE rfl rfl rfl rfl ?_
  refine xr_putk hD (by omega) rfl rfl rfl rfl rfl rfl (fun W hD hf1 => ?_)
  have hE := hf1.at hE (by omega)
  have hDA := hf1.at hDA (by omega)
  have hET := hf1.at hET (by omega)
  have hDT := hf1.at hDT (by omega)
  have hF := hF.tr2 hf1 (fun i e => Or.inl (Or.inl e))
  refine xr_stp rfl rfl rfl rfl ?_
  refine xr_stp rfl rfl rfl rfl ?_
  refine xr_getfield hE rfl rfl rfl rfl ?_
  refine xr_putk hD (by omega) rfl rfl rfl rfl rfl rfl (fun W hD hf1 => ?_)
  have hE := hf1.at hE (by omega)
  have hDA := hf1.at hDA (by omega)
  have hET := hf1.at hET (by omega)
  have hDT := hf1.at hDT (by omega)
  have hF := hF.tr2 hf1 (fun i e => Or.inl (Or.inl e))
  refine xr_stp rfl rfl rfl rfl ?_
  refine xr_stp rfl rfl rfl rfl ?_
  refine xr_getfield hE rfl rfl rfl rfl ?_
  refine xr_putk hD (by omega) rfl rfl rfl rfl rfl rfl (fun W hD hf1 => ?_)
  have hE := hf1.at hE (by omega)
  have hDA := hf1.at hDA (by omega)
  have hET := hf1.at hET (by omega)
  have hDT := hf1.at hDT (by omega)
  have hF := hF.tr2 hf1 (fun i e => Or.inl (Or.inl e))
  refine xr_stp rfl rfl rfl rfl ?_
  refine xr_getfield hE rfl rfl rfl rfl ?_
  refine xr_stp (st' := .int (Int32.ofNat 0) :: _) rfl rfl rfl rfl ?_
  refine xr_stp rfl rfl rfl rfl ?_
  refine xr_getfield hD rfl rfl rfl rfl ?_
  refine xr_stp (st' := .int (Int32.ofNat 0) :: _) rfl rfl rfl rfl ?_
  refine xr_stp rfl rfl rfl rfl ?_
  refine xr_getfield hD rfl rfl rfl rfl ?_
  refine xs_iln hDT rfl ?_
  refine xs_acI hET hDT (by omega) (by omega) (by omega) rfl rfl rfl (fun W9 hDT hf9 => ?_)
  have hD := hf9.at hD (by omega)
  have hE := hf9.at hE (by omega)
  have hET := hf9.at hET (by omega)
  have hDA := hf9.at hDA (by omega)
  have hF := hF.tr2 hf9 (fun i e => Or.inl (Or.inr (Or.inr e)))
  refine xr_stp rfl rfl rfl rfl ?_
  refine xr_stp rfl rfl rfl rfl ?_
  refine xr_getfield hE rfl rfl rfl rfl ?_
  refine xr_putk hD (by omega) rfl rfl rfl rfl rfl rfl (fun W hD hf1 => ?_)
  have hE := hf1.at hE (by omega)
  have hDA := hf1.at hDA (by omega)
  have hET := hf1.at hET (by omega)
  have hDT := hf1.at hDT (by omega)
  have hF := hF.tr2 hf1 (fun i e => Or.inl (Or.inl e))
  exact xr_ret rfl rfl (K W RD3 hD hDA q2 hDT (hF0.tr hF))
theorem ru_cpbL (d c s : Nat) (tx ru dl sy tx2 ru2 dl2 sy2 : Int32) (RD : Nat → Option Nat) (r : xi_R → Prop) : ∀ (m i : Nat) (W0 : xi_W) (RD2 : Nat → Option Nat), i + m = 4 → W0[682]? = some (.inr (2, [.ref 683, .int tx, .int ru, .int dl, .ref 684, .int sy, .ref 685, .ref 686])) → W0[683]? = some (.inl (.object "DeltaNests$Text", 4, .inr (.inr RD))) → W0[355]? = some (.inr (2, [.ref 356, .int tx2, .int ru2, .int dl2, .ref 357, .int sy2, .ref 358, .ref 359])) → W0[356]? = some (.inl (.object "DeltaNests$Text", 4, .inr (.inr RD2))) → RDok W0 RD → (∀ j, j < i → RD2 j = RD j) → (∀ W' RD3, W'[356]? = some (.inl (.object "DeltaNests$Text", 4, .inr (.inr RD3))) → (∀ j, j < 4 → RD3 j = RD j) → fr (fun i => i = 356) W0 W' → xr d 53 25 [(0, .ref 355), (1, .ref 682)] [] W' c s r) → xr d 53 2 [(0, .ref 355), (1, .ref 682), (2, .int (Int32.ofNat i))] [] W0 c s r
  | 0, i, W0, RD2, hi, hE, hEA, hD, hDA, hok, hRD, K => by
    obtain rfl : i = 4 := by omega
    refine xr_stp rfl rfl rfl rfl ?_
    refine xr_stp (st' := .int (Int32.ofNat 4) :: _) rfl rfl rfl rfl ?_
    refine xr_j2 rfl rfl rfl rfl rfl (fun h4 => ?_) (fun h4 => ?_)
    · refine xr_loc [(0, .ref 355), (1, .ref 682)] ⟨rfl, rfl, trivial⟩ rfl ?_
      exact K W0 RD2 hDA hRD fr.rf
    · have z4 := nf_ge (by omega) (by omega) h4
      exact (by omega)
  | m + 1, i, W0, RD2, hi, hE, hEA, hD, hDA, hok, hRD, K => by
    refine xr_stp rfl rfl rfl rfl ?_
    refine xr_stp (st' := .int (Int32.ofNat 4) :: _) rfl rfl rfl rfl ?_
    refine xr_j2 rfl rfl rfl rfl rfl (fun h4 => ?_) (fun h4 => ?_)
    · exact absurd (nt_ge (by omega) (by omega) h4) (by omega)
    · refine xr_stp rfl rfl rfl rfl ?_
      refine xr_getfield hD rfl rfl rfl rfl ?_
      refine xr_stp rfl rfl rfl rfl ?_
      refine xr_stp rfl rfl rfl rfl ?_
      refine xr_getfield hE rfl rfl rfl rfl ?_
      refine xr_stp rfl rfl rfl rfl ?_
      refine xs_rld hEA (by omega) (by omega) (by omega) rfl ?_
      rcases hok i (by omega) with e | ⟨t, L4, e, e2, e3⟩
      · rw [e]
        refine xs_rsn hDA (by omega) (by omega) (by omega) rfl (fun W1 hDA1 hf1 => ?_)
        refine xs_inc (e := 1) rfl rfl rfl rfl ?_
        refine xr_stp rfl rfl rfl rfl ?_
        refine xr_loc [(0, .ref 355), (1, .ref 682), (2, .int (Int32.ofNat (i + 1)))] ⟨rfl, rfl, rfl, trivial⟩ rfl ?_
        refine ru_cpbL d c s tx ru dl sy tx2 ru2 dl2 sy2 RD r m (i + 1) W1 _ (by omega) (hf1.at hE (by omega)) (hf1.at hEA (by omega)) (hf1.at hD (by omega)) hDA1 (hok.k687 hf1 (fun j z => by have z : j = 356 := z; omega)) ?_ (fun W5 RD5 q1 q2 q3 => K W5 RD5 q1 q2 ((hf1.weak (P2 := fun i => i = 356) (fun i _ z => z)).tr q3))
        intro j hj
        unfold va_up
        by_cases e5 : j = i
        · rw [if_pos e5, e5, e]
        · rw [if_neg e5]; exact hRD j (by omega)
      · rw [e]
        refine xs_rst hDA e3 (by omega) (by omega) (by omega) (by omega) rfl rfl (fun W1 hDA1 hf1 => ?_)
        refine xs_inc (e := 1) rfl rfl rfl rfl ?_
        refine xr_stp rfl rfl rfl rfl ?_
        refine xr_loc [(0, .ref 355), (1, .ref 682), (2, .int (Int32.ofNat (i + 1)))] ⟨rfl, rfl, rfl, trivial⟩ rfl ?_
        refine ru_cpbL d c s tx ru dl sy tx2 ru2 dl2 sy2 RD r m (i + 1) W1 _ (by omega) (hf1.at hE (by omega)) (hf1.at hEA (by omega)) (hf1.at hD (by omega)) hDA1 (hok.k687 hf1 (fun j z => by have z : j = 356 := z; omega)) ?_ (fun W5 RD5 q1 q2 q3 => K W5 RD5 q1 q2 ((hf1.weak (P2 := fun i => i = 356) (fun i _ z => z)).tr q3))
        intro j hj
        unfold va_up
        by_cases e5 : j = i
        · rw [if_pos e5, e5, e]
        · rw [if_neg e5]; exact hRD j (by omega)
theorem ru_cpb (d c s : Nat) (tx ru dl sy tx2 ru2 dl2 sy2 : Int32) (RD RD2 : Nat → Option Nat) (TD TD2 : Nat → Nat) (W0 : xi_W) (hE : W0[682]? = some (.inr (2, [.ref 683, .int tx, .int ru, .int dl, .ref 684, .int sy, .ref 685, .ref 686]))) (hEA : W0[683]? = some (.inl (.object "DeltaNests$Text", 4, .inr (.inr RD)))) (hET : W0[684]? = some (lw_i 32 TD)) (hD : W0[355]? = some (.inr (2, [.ref 356, .int tx2, .int ru2, .int dl2, .ref 357, .int sy2, .ref 358, .ref 359]))) (hDA : W0[356]? = some (.inl (.object "DeltaNests$Text", 4, .inr (.inr RD2)))) (hDT : W0[357]? = some (lw_i 32 TD2)) (hok : RDok W0 RD) (r : xi_R → Prop) (K : ∀ W' RD3, W'[355]? = some (.inr (2, [.ref 356, .int tx, .int ru, .int dl, .ref 357, .int sy, .ref 358, .ref 359])) → W'[356]? = some (.inl (.object "DeltaNests$Text", 4, .inr (.inr RD3))) → (∀ j, j < 4 → RD3 j = RD j) → W'[357]? = some (lw_i 32 (cpN 32 TD TD2)) → fr (fun i => i = 355 ∨ i = 356 ∨ i = 357) W0 W' → r (none, W', c, s)) : xr (d + 1) 53 0 [(0, .ref 355), (1, .ref 682)] [] W0 c s r := by
  refine xr_stp (st' := .int (Int32.ofNat 0) :: _) rfl rfl rfl rfl ?_
  refine xr_stp rfl rfl rfl rfl ?_
  refine xr_loc [(0, .ref 355), (1, .ref 682), (2, .int (Int32.ofNat 0))] ⟨rfl, rfl, rfl, trivial⟩ rfl ?_
  refine ru_cpbL (d + 1) c s tx ru dl sy tx2 ru2 dl2 sy2 RD r 4 0 W0 RD2 rfl hE hEA hD hDA hok (fun j hj => absurd hj (Nat.not_lt_zero _)) (fun W1 RD3 hDA1 q2 hf1 => ?_)
  have hE := hf1.at hE (by omega)
  have hD := hf1.at hD (by omega)
  have hET := hf1.at hET (by omega)
  have hDT := hf1.at hDT (by omega)
  have hDA := hDA1
  have hF0 : fr (fun i => i = 355 ∨ i = 356 ∨ i = 357) W0 W1 := hf1.weak (fun i _ z => Or.inr (Or.inl z))
  have hF : fr (fun i => i = 355 ∨ i = 356 ∨ i = 357) W1 W1 := fr.rf
  refine xr_stp rfl rfl rfl rfl ?_
  refine xr_stp rfl rfl rfl rfl ?_
  refine xr_getfield hE rfl rfl rfl rfl ?_
  refine xr_putk hD (by omega) rfl rfl rfl rfl rfl rfl (fun W hD hf1 => ?_)
  have hE := hf1.at hE (by omega)
  have hDA := hf1.at hDA (by omega)
  have hET := hf1.at hET (by omega)
  have hDT := hf1.at hDT (by omega)
  have hF := hF.tr2 hf1 (fun i e => Or.inl (Or.inl e))
  refine xr_stp rfl rfl rfl rfl ?_
  refine xr_stp rfl rfl rfl rfl ?_
  refine xr_getfield hE rfl rfl rfl rfl ?_
  refine xr_putk hD (by omega) rfl rfl rfl rfl rfl rfl (fun W hD hf1 => ?_)
  have hE := hf1.at hE (by omega)
  have hDA := hf1.at hDA (by omega)
  have hET := hf1.at hET (by omega)
  have hDT := hf1.at hDT (by omega)
  have hF := hF.tr2 hf1 (fun i e => Or.inl (Or.inl e))
  refine xr_stp rfl rfl rfl rfl ?_
  refine xr_stp rfl rfl rfl rfl ?_
  refine xr_getfield hE rfl rfl rfl rfl ?_
  refine xr_putk hD (by omega) rfl rfl rfl rfl rfl rfl (fun W hD hf1 => ?_)
  have hE := hf1.at hE (by omega)
  have hDA := hf1.at hDA (by omega)
  have hET := hf1.at hET (by omega)
  have hDT := hf1.at hDT (by omega)
  have hF := hF.tr2 hf1 (fun i e => Or.inl (Or.inl e))
  refine xr_stp rfl rfl rfl rfl ?_
  refine xr_getfield hE rfl rfl rfl rfl ?_
  refine xr_stp (st' := .int (Int32.ofNat 0) :: _) rfl rfl rfl rfl ?_
  refine xr_stp rfl rfl rfl rfl ?_
  refine xr_getfield hD rfl rfl rfl rfl ?_
  refine xr_stp (st' := .int (Int32.ofNat 0) :: _) rfl rfl rfl rfl ?_
  refine xr_stp rfl rfl rfl rfl ?_
  refine xr_getfield hD rfl rfl rfl rfl ?_
  refine xs_iln hDT rfl ?_
  refine xs_acI hET hDT (by omega) (by omega) (by omega) rfl rfl rfl (fun W9 hDT hf9 => ?_)
  have hD := hf9.at hD (by omega)
  have hE := hf9.at hE (by omega)
  have hET := hf9.at hET (by omega)
  have hDA := hf9.at hDA (by omega)
  have hF := hF.tr2 hf9 (fun i e => Or.inl (Or.inr (Or.inr e)))
  refine xr_stp rfl rfl rfl rfl ?_
  refine xr_stp rfl rfl rfl rfl ?_
  refine xr_getfield hE rfl rfl rfl rfl ?_
  refine xr_putk hD (by omega) rfl rfl rfl rfl rfl rfl (fun W hD hf1 => ?_)
  have hE := hf1.at hE (by omega)
  have hDA := hf1.at hDA (by omega)
  have hET := hf1.at hET (by omega)
  have hDT := hf1.at hDT (by omega)
  have hF := hF.tr2 hf1 (fun i e => Or.inl (Or.inl e))
  exact xr_ret rfl rfl (K W RD3 hD hDA q2 hDT (hF0.tr hF))
theorem st_cpiL (d c s fi m N : Nat) (GS : Nat → Nat → Nat) (L : List Value) (WFSA WFEA : Nat → Option Nat) (hSAw : ∀ i, i < 31 → WFSA i = some (372 + 10 * i)) (hEAw : ∀ i, i < 31 → WFEA i = some (45 + 10 * i)) (hfi : fi < 31) (hm : m ≤ 30) (r : xi_R → Prop) : ∀ (mm i : Nat) (W0 : xi_W), i + mm = m → 687 ≤ W0.length → W0[355]? = some (.inr (2, L)) → W0[370]? = some (.inr (3, [.ref 371, .int (Int32.ofNat 0), .int (Int32.ofNat m)])) → W0[371]? = some (.inl (.object "DeltaNests$World", 31, .inr (.inr WFSA))) → W0[43]? = some (.inr (3, [.ref 44, .int (Int32.ofNat fi), .int (Int32.ofNat m)])) → W0[44]? = some (.inl (.object "DeltaNests$World", 31, .inr (.inr WFEA))) → (∀ j, j < 31 → ∃ F, kw W0 (372 + 10 * j) F ∧ (j < i → RL (GS j 0 + 1) N (GS j) F)) → (∀ i, i < 31 → ∃ F, kw W0 (45 + 10 * i) F ∧ ∀ k, k < m → (fi + k) % 31 = i → RL (GS k 0 + 1) N (GS k) F) → (∀ W', (∀ j, j < 31 → ∃ F, kw W' (372 + 10 * j) F ∧ (j < m → RL (GS j 0 + 1) N (GS j) F)) → fr (fun i => 372 ≤ i ∧ i < 682) W0 W' → r (none, W', c, s)) → xr (d + 3) 65 15 [(0, .ref 370), (1, .ref 43), (2, .int (Int32.ofNat i))] [] W0 c s r
  | 0, i, W0, hi, hl, hR, hS, hSA, hE, hEA, hSW, hEW, K => by
    obtain rfl : i = m := by omega
    refine xr_stp rfl rfl rfl rfl ?_
    refine xr_stp rfl rfl rfl rfl ?_
    refine xr_getfield hS rfl rfl rfl rfl ?_
    refine xr_j2 rfl rfl rfl rfl rfl (fun h20 => ?_) (fun h20 => ?_)
    · exact xr_ret rfl rfl (K W0 hSW fr.rf)
    · have z20 := nf_ge (by omega) (by omega) h20
      exact (by omega)
  | mm + 1, i, W0, hi, hl, hR, hS, hSA, hE, hEA, hSW, hEW, K => by
    refine xr_stp rfl rfl rfl rfl ?_
    refine xr_stp rfl rfl rfl rfl ?_
    refine xr_getfield hS rfl rfl rfl rfl ?_
    refine xr_j2 rfl rfl rfl rfl rfl (fun h20 => ?_) (fun h20 => ?_)
    · have z20 := nt_ge (by omega) (by omega) h20
      exact (by omega)
    · refine xr_stp rfl rfl rfl rfl ?_
      refine xr_getfield hS rfl rfl rfl rfl ?_
      refine xr_stp rfl rfl rfl rfl ?_
      refine xs_rld hSA (by omega) (by omega) (by omega) rfl ?_
      rw [hSAw i (by omega)]
      change xr _ _ _ _ (.ref (372 + 10 * i) :: _) _ _ _ _
      refine xr_stp rfl rfl rfl rfl ?_
      refine xr_getfield hE rfl rfl rfl rfl ?_
      refine xr_stp rfl rfl rfl rfl ?_
      refine xr_stp rfl rfl rfl rfl ?_
      refine xr_vcps hE rfl rfl rfl rfl rfl rfl (fun r1 K2 => st_slot _ _ _ 43 44 fi m i W0 WFEA hE hEA hfi (by omega) r1 (K2 _ _ _ _ ?_))
      refine xs_rld hEA (by omega) (by omega) (by omega) rfl ?_
      rw [hEAw _ (by omega)]
      change xr _ _ _ _ (.ref (45 + 10 * ((fi + i) % 31)) :: _) _ _ _ _
      have hi31 : (fi + i) % 31 < 31 := Nat.mod_lt _ (by omega)
      obtain ⟨Fe, he1, he2⟩ := hEW _ hi31
      obtain ⟨Fs, hs1, -⟩ := hSW i (by omega)
      refine xr_vcps (hs1.w (by unfold wb; omega) hl hR) rfl rfl rfl rfl rfl rfl (fun r1 K2 => kl_copy _ _ _ (372 + 10 * i) (45 + 10 * ((fi + i) % 31)) W0 Fs Fe L hs1 he1 (by unfold wb; omega) (by unfold wb; omega) (by omega) hl hR r1 (fun W1 F1 hw1 hf1 hag => K2 _ _ _ _ ?_))
      refine xs_inc (e := 1) rfl rfl rfl rfl ?_
      refine xr_stp rfl rfl rfl rfl ?_
      refine xr_loc [(0, .ref 370), (1, .ref 43), (2, .int (Int32.ofNat (i + 1)))] ⟨rfl, rfl, rfl, trivial⟩ rfl ?_
      have kk : ∀ j, kin (372 + 10 * i) j → 372 + 10 * i ≤ j ∧ j < 372 + 10 * i + 10 := fun j z => ⟨z.1, z.2.1⟩
      refine st_cpiL d c s fi m N GS L WFSA WFEA hSAw hEAw hfi hm r mm (i + 1) W1 (by omega) (by have := hf1.1; omega) (hf1.at hR (fun z => by have := kk _ z; omega)) (hf1.at hS (fun z => by have := kk _ z; omega)) (hf1.at hSA (fun z => by have := kk _ z; omega)) (hf1.at hE (fun z => by have := kk _ z; omega)) (hf1.at hEA (fun z => by have := kk _ z; omega)) (fun j hj => ?_) (fun j hj => ?_) (fun W5 q1 q2 => K W5 q1 ((hf1.weak (P2 := fun i => 372 ≤ i ∧ i < 682) (fun j _ z => by have := kk _ z; show 372 ≤ j ∧ j < 682; omega)).tr q2))
      · by_cases e5 : j = i
        · subst e5
          exact ⟨F1, hw1, fun _ => (he2 j (by omega) rfl).ag hag⟩
        · obtain ⟨F, a1, a2⟩ := hSW j hj
          exact ⟨F, a1.keep (by unfold wb; omega) hl hf1 (fun x z1 z2 z => by have := kk _ z; omega), fun h => a2 (by omega)⟩
      · obtain ⟨F, a1, a2⟩ := hEW j hj
        exact ⟨F, a1.keep (by unfold wb; omega) hl hf1 (fun x z1 z2 z => by have := kk _ z; omega), a2⟩
theorem st_cpi (d c s fi m N : Nat) (GS : Nat → Nat → Nat) (L : List Value) (a b : Int32) (WFSA WFEA : Nat → Option Nat) (hSAw : ∀ i, i < 31 → WFSA i = some (372 + 10 * i)) (hEAw : ∀ i, i < 31 → WFEA i = some (45 + 10 * i)) (hfi : fi < 31) (hm : m ≤ 30) (W0 : xi_W) (hl : 687 ≤ W0.length) (hR : W0[355]? = some (.inr (2, L))) (hS : W0[370]? = some (.inr (3, [.ref 371, .int a, .int b]))) (hSA : W0[371]? = some (.inl (.object "DeltaNests$World", 31, .inr (.inr WFSA)))) (hE : W0[43]? = some (.inr (3, [.ref 44, .int (Int32.ofNat fi), .int (Int32.ofNat m)]))) (hEA : W0[44]? = some (.inl (.object "DeltaNests$World", 31, .inr (.inr WFEA)))) (hSW : ∀ i, i < 31 → ∃ F, kw W0 (372 + 10 * i) F) (hEW : ∀ i, i < 31 → ∃ F, kw W0 (45 + 10 * i) F ∧ ∀ k, k < m → (fi + k) % 31 = i → RL (GS k 0 + 1) N (GS k) F) (r : xi_R → Prop) (K : ∀ W', W'[370]? = some (.inr (3, [.ref 371, .int (Int32.ofNat 0), .int (Int32.ofNat m)])) → (∀ j, j < 31 → ∃ F, kw W' (372 + 10 * j) F ∧ (j < m → RL (GS j 0 + 1) N (GS j) F)) → fr (fun i => i = 370 ∨ (372 ≤ i ∧ i < 682)) W0 W' → r (none, W', c, s)) : xr (d + 3) 65 0 [(0, .ref 370), (1, .ref 43)] [] W0 c s r := by
  have hF : fr (fun i => i = 370 ∨ (372 ≤ i ∧ i < 682)) W0 W0 := fr.rf
  have hF3 : fr (fun i => i = 370) W0 W0 := fr.rf
  refine xr_stp rfl rfl rfl rfl ?_
  refine xr_stp (st' := .int (Int32.ofNat 0) :: _) rfl rfl rfl rfl ?_
  refine xr_putk hS (by omega) rfl rfl rfl rfl rfl rfl (fun W hS hf1 => ?_)
  have hE := hf1.at hE (by omega)
  have hSA := hf1.at hSA (by omega)
  have hEA := hf1.at hEA (by omega)
  have hR := hf1.at hR (by omega)
  have hF := hF.tr2 hf1 (fun i e => Or.inl (Or.inl e))
  have hF3 := hF3.tr2 hf1 (fun i e => Or.inl e)
  refine xr_stp rfl rfl rfl rfl ?_
  refine xr_stp rfl rfl rfl rfl ?_
  refine xr_getfield hE rfl rfl rfl rfl ?_
  refine xr_putk hS (by omega) rfl rfl rfl rfl rfl rfl (fun W hS hf1 => ?_)
  have hE := hf1.at hE (by omega)
  have hSA := hf1.at hSA (by omega)
  have hEA := hf1.at hEA (by omega)
  have hR := hf1.at hR (by omega)
  have hF := hF.tr2 hf1 (fun i e => Or.inl (Or.inl e))
  have hF3 := hF3.tr2 hf1 (fun i e => Or.inl e)
  refine xr_stp (st' := .int (Int32.ofNat 0) :: _) rfl rfl rfl rfl ?_
  refine xr_stp rfl rfl rfl rfl ?_
  refine xr_loc [(0, .ref 370), (1, .ref 43), (2, .int (Int32.ofNat 0))] ⟨rfl, rfl, rfl, trivial⟩ rfl ?_
  have hl2 : 687 ≤ W.length := by have := hF.1; omega
  have kp : ∀ {b : Nat} {F : Nat → Nat}, kw W0 b F → wb b → (b + 10 ≤ 370 ∨ 370 < b) → kw W b F := fun hw hb hne => hw.keep hb hl (P := fun i => i = 370) hF3 (fun i z1 z2 (z : i = 370) => by omega)
  refine st_cpiL d c s fi m N GS L WFSA WFEA hSAw hEAw hfi hm r m 0 W (Nat.zero_add _) hl2 hR hS hSA hE hEA (fun j hj => ?_) (fun j hj => ?_) (fun W5 q1 q2 => K W5 (q2.at hS (by omega)) q1 (hF.tr2 q2 (fun i z => Or.inl (Or.inr z))))
  · obtain ⟨F, a1⟩ := hSW j hj
    exact ⟨F, kp a1 (by unfold wb; omega) (by omega), fun h => absurd h (Nat.not_lt_zero _)⟩
  · obtain ⟨F, a1, a2⟩ := hEW j hj
    exact ⟨F, kp a1 (by unfold wb; omega) (by omega), a2⟩
theorem st_cpbL (d c s fi m N : Nat) (GS : Nat → Nat → Nat) (L : List Value) (WFSA WFEA : Nat → Option Nat) (hSAw : ∀ i, i < 31 → WFSA i = some (45 + 10 * i)) (hEAw : ∀ i, i < 31 → WFEA i = some (372 + 10 * i)) (hfi : fi < 31) (hm : m ≤ 30) (r : xi_R → Prop) : ∀ (mm i : Nat) (W0 : xi_W), i + mm = m → 687 ≤ W0.length → W0[355]? = some (.inr (2, L)) → W0[43]? = some (.inr (3, [.ref 44, .int (Int32.ofNat 0), .int (Int32.ofNat m)])) → W0[44]? = some (.inl (.object "DeltaNests$World", 31, .inr (.inr WFSA))) → W0[370]? = some (.inr (3, [.ref 371, .int (Int32.ofNat fi), .int (Int32.ofNat m)])) → W0[371]? = some (.inl (.object "DeltaNests$World", 31, .inr (.inr WFEA))) → (∀ j, j < 31 → ∃ F, kw W0 (45 + 10 * j) F ∧ (j < i → RL (GS j 0 + 1) N (GS j) F)) → (∀ i, i < 31 → ∃ F, kw W0 (372 + 10 * i) F ∧ ∀ k, k < m → (fi + k) % 31 = i → RL (GS k 0 + 1) N (GS k) F) → (∀ W', (∀ j, j < 31 → ∃ F, kw W' (45 + 10 * j) F ∧ (j < m → RL (GS j 0 + 1) N (GS j) F)) → fr (fun i => 45 ≤ i ∧ i < 355) W0 W' → r (none, W', c, s)) → xr (d + 3) 65 15 [(0, .ref 43), (1, .ref 370), (2, .int (Int32.ofNat i))] [] W0 c s r
  | 0, i, W0, hi, hl, hR, hS, hSA, hE, hEA, hSW, hEW, K => by
    obtain rfl : i = m := by omega
    refine xr_stp rfl rfl rfl rfl ?_
    refine xr_stp rfl rfl rfl rfl ?_
    refine xr_getfield hS rfl rfl rfl rfl ?_
    refine xr_j2 rfl rfl rfl rfl rfl (fun h20 => ?_) (fun h20 => ?_)
    · exact xr_ret rfl rfl (K W0 hSW fr.rf)
    · have z20 := nf_ge (by omega) (by omega) h20
      exact (by omega)
  | mm + 1, i, W0, hi, hl, hR, hS, hSA, hE, hEA, hSW, hEW, K => by
    refine xr_stp rfl rfl rfl rfl ?_
    refine xr_stp rfl rfl rfl rfl ?_
    refine xr_getfield hS rfl rfl rfl rfl ?_
    refine xr_j2 rfl rfl rfl rfl rfl (fun h20 => ?_) (fun h20 => ?_)
    · have z20 := nt_ge (by omega) (by omega) h20
      exact (by omega)
    · refine xr_stp rfl rfl rfl rfl ?_
      refine xr_getfield hS rfl rfl rfl rfl ?_
      refine xr_stp rfl rfl rfl rfl ?_
      refine xs_rld hSA (by omega) (by omega) (by omega) rfl ?_
      rw [hSAw i (by omega)]
      change xr _ _ _ _ (.ref (45 + 10 * i) :: _) _ _ _ _
      refine xr_stp rfl rfl rfl rfl ?_
      refine xr_getfield hE rfl rfl rfl rfl ?_
      refine xr_stp rfl rfl rfl rfl ?_
      refine xr_stp rfl rfl rfl rfl ?_
      refine xr_vcps hE rfl rfl rfl rfl rfl rfl (fun r1 K2 => st_slot _ _ _ 370 371 fi m i W0 WFEA hE hEA hfi (by omega) r1 (K2 _ _ _ _ ?_))
      refine xs_rld hEA (by omega) (by omega) (by omega) rfl ?_
      rw [hEAw _ (by omega)]
      change xr _ _ _ _ (.ref (372 + 10 * ((fi + i) % 31)) :: _) _ _ _ _
      have hi31 : (fi + i) % 31 < 31 := Nat.mod_lt _ (by omega)
      obtain ⟨Fe, he1, he2⟩ := hEW _ hi31
      obtain ⟨Fs, hs1, -⟩ := hSW i (by omega)
      refine xr_vcps (hs1.w (by unfold wb; omega) hl hR) rfl rfl rfl rfl rfl rfl (fun r1 K2 => kl_copy _ _ _ (45 + 10 * i) (372 + 10 * ((fi + i) % 31)) W0 Fs Fe L hs1 he1 (by unfold wb; omega) (by unfold wb; omega) (by omega) hl hR r1 (fun W1 F1 hw1 hf1 hag => K2 _ _ _ _ ?_))
      refine xs_inc (e := 1) rfl rfl rfl rfl ?_
      refine xr_stp rfl rfl rfl rfl ?_
      refine xr_loc [(0, .ref 43), (1, .ref 370), (2, .int (Int32.ofNat (i + 1)))] ⟨rfl, rfl, rfl, trivial⟩ rfl ?_
      have kk : ∀ j, kin (45 + 10 * i) j → 45 + 10 * i ≤ j ∧ j < 45 + 10 * i + 10 := fun j z => ⟨z.1, z.2.1⟩
      refine st_cpbL d c s fi m N GS L WFSA WFEA hSAw hEAw hfi hm r mm (i + 1) W1 (by omega) (by have := hf1.1; omega) (hf1.at hR (fun z => by have := kk _ z; omega)) (hf1.at hS (fun z => by have := kk _ z; omega)) (hf1.at hSA (fun z => by have := kk _ z; omega)) (hf1.at hE (fun z => by have := kk _ z; omega)) (hf1.at hEA (fun z => by have := kk _ z; omega)) (fun j hj => ?_) (fun j hj => ?_) (fun W5 q1 q2 => K W5 q1 ((hf1.weak (P2 := fun i => 45 ≤ i ∧ i < 355) (fun j _ z => by have := kk _ z; show 45 ≤ j ∧ j < 355; omega)).tr q2))
      · by_cases e5 : j = i
        · subst e5
          exact ⟨F1, hw1, fun _ => (he2 j (by omega) rfl).ag hag⟩
        · obtain ⟨F, a1, a2⟩ := hSW j hj
          exact ⟨F, a1.keep (by unfold wb; omega) hl hf1 (fun x z1 z2 z => by have := kk _ z; omega), fun h => a2 (by omega)⟩
      · obtain ⟨F, a1, a2⟩ := hEW j hj
        exact ⟨F, a1.keep (by unfold wb; omega) hl hf1 (fun x z1 z2 z => by have := kk _ z; omega), a2⟩
theorem st_cpb (d c s fi m N : Nat) (GS : Nat → Nat → Nat) (L : List Value) (a b : Int32) (WFSA WFEA : Nat → Option Nat) (hSAw : ∀ i, i < 31 → WFSA i = some (45 + 10 * i)) (hEAw : ∀ i, i < 31 → WFEA i = some (372 + 10 * i)) (hfi : fi < 31) (hm : m ≤ 30) (W0 : xi_W) (hl : 687 ≤ W0.length) (hR : W0[355]? = some (.inr (2, L))) (hS : W0[43]? = some (.inr (3, [.ref 44, .int a, .int b]))) (hSA : W0[44]? = some (.inl (.object "DeltaNests$World", 31, .inr (.inr WFSA)))) (hE : W0[370]? = some (.inr (3, [.ref 371, .int (Int32.ofNat fi), .int (Int32.ofNat m)]))) (hEA : W0[371]? = some (.inl (.object "DeltaNests$World", 31, .inr (.inr WFEA)))) (hSW : ∀ i, i < 31 → ∃ F, kw W0 (45 + 10 * i) F) (hEW : ∀ i, i < 31 → ∃ F, kw W0 (372 + 10 * i) F ∧ ∀ k, k < m → (fi + k) % 31 = i → RL (GS k 0 + 1) N (GS k) F) (r : xi_R → Prop) (K : ∀ W', W'[43]? = some (.inr (3, [.ref 44, .int (Int32.ofNat 0), .int (Int32.ofNat m)])) → (∀ j, j < 31 → ∃ F, kw W' (45 + 10 * j) F ∧ (j < m → RL (GS j 0 + 1) N (GS j) F)) → fr (fun i => i = 43 ∨ (45 ≤ i ∧ i < 355)) W0 W' → r (none, W', c, s)) : xr (d + 3) 65 0 [(0, .ref 43), (1, .ref 370)] [] W0 c s r := by
  have hF : fr (fun i => i = 43 ∨ (45 ≤ i ∧ i < 355)) W0 W0 := fr.rf
  have hF3 : fr (fun i => i = 43) W0 W0 := fr.rf
  refine xr_stp rfl rfl rfl rfl ?_
  refine xr_stp (st' := .int (Int32.ofNat 0) :: _) rfl rfl rfl rfl ?_
  refine xr_putk hS (by omega) rfl rfl rfl rfl rfl rfl (fun W hS hf1 => ?_)
  have hE := hf1.at hE (by omega)
  have hSA := hf1.at hSA (by omega)
  have hEA := hf1.at hEA (by omega)
  have hR := hf1.at hR (by omega)
  have hF := hF.tr2 hf1 (fun i e => Or.inl (Or.inl e))
  have hF3 := hF3.tr2 hf1 (fun i e => Or.inl e)
  refine xr_stp rfl rfl rfl rfl ?_
  refine xr_stp rfl rfl rfl rfl ?_
  refine xr_getfield hE rfl rfl rfl rfl ?_
  refine xr_putk hS (by omega) rfl rfl rfl rfl rfl rfl (fun W hS hf1 => ?_)
  have hE := hf1.at hE (by omega)
  have hSA := hf1.at hSA (by omega)
  have hEA := hf1.at hEA (by omega)
  have hR := hf1.at hR (by omega)
  have hF := hF.tr2 hf1 (fun i e => Or.inl (Or.inl e))
  have hF3 := hF3.tr2 hf1 (fun i e => Or.inl e)
  refine xr_stp (st' := .int (Int32.ofNat 0) :: _) rfl rfl rfl rfl ?_
  refine xr_stp rfl rfl rfl rfl ?_
  refine xr_loc [(0, .ref 43), (1, .ref 370), (2, .int (Int32.ofNat 0))] ⟨rfl, rfl, rfl, trivial⟩ rfl ?_
  have hl2 : 687 ≤ W.length := by have := hF.1; omega
  have kp : ∀ {b : Nat} {F : Nat → Nat}, kw W0 b F → wb b → (b + 10 ≤ 43 ∨ 43 < b) → kw W b F := fun hw hb hne => hw.keep hb hl (P := fun i => i = 43) hF3 (fun i z1 z2 (z : i = 43) => by omega)
  refine st_cpbL d c s fi m N GS L WFSA WFEA hSAw hEAw hfi hm r m 0 W (Nat.zero_add _) hl2 hR hS hSA hE hEA (fun j hj => ?_) (fun j hj => ?_) (fun W5 q1 q2 => K W5 (q2.at hS (by omega)) q1 (hF.tr2 q2 (fun i z => Or.inl (Or.inr z))))
  · obtain ⟨F, a1⟩ := hSW j hj
    exact ⟨F, kp a1 (by unfold wb; omega) (by omega), fun h => absurd h (Nat.not_lt_zero _)⟩
  · obtain ⟨F, a1, a2⟩ := hEW j hj
    exact ⟨F, kp a1 (by unfold wb; omega) (by omega), a2⟩
