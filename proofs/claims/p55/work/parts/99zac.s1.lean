/-! the law's script: one clause is written -/
theorem TOK.s {nn : Nat} {f : Nat → Int32} {k : Nat} {t t' : Nat → Nat} (h : TOK nn f k t) (h2 : ∀ j, j < sof nn f k → t' j = t j) (h3 : ∀ j, j < sl nn f k → t' (sof nn f k + j) = sch nn f k j) : TOK nn f (k + 1) t' := fun i hi j hj => by
  by_cases e : i = k
  · subst e; exact h3 j hj
  · have h5 := sofm nn f (k - (i + 1)) (i + 1)
    rw [show i + 1 + (k - (i + 1)) = k by omega] at h5
    have h6 : sof nn f (i + 1) = sof nn f i + sl nn f i := rfl
    rw [h2 _ (by omega)]
    exact h i (by omega) j hj
theorem adt_lo (nn : Nat) (f : Nat → Int32) (k n : Nat) (t : Nat → Nat) (m : Nat) {j : Nat} (h : j < n) : adt nn f k n t m j = t j := if_neg (fun z => by omega)
theorem adt_at (nn : Nat) (f : Nat → Int32) {w : Nat} (n : Nat) (t : Nat → Nat) {m j : Nat} (hw : w < 5) (hm : m = xt_sl.getD (w + 2) 0) (h : j < m) : adt nn f (w + 2) n t m (n + j) = kb (w + 2) j := by
  subst hm
  unfold adt
  rw [if_pos ⟨by omega, by omega⟩]
  unfold ach
  rw [show n + j - n = j by omega]
  exact if_neg (cch_b w hw j h).2
theorem scA0 (d c s : Nat) (nn q A X U k n bad : Nat) (f : Nat → Int32) (hnn : nn < 2147483648) (gX : 687 ≤ X) (t : Nat → Nat) (a b g : Nat) (ha : a < 4) (hb : b < 4) (hg : g < 3) (hn : n + 22 ≤ 300) (W0 : xi_W) (hk : kc W0) (hS : W0[16]? = some (lw_s nn f)) (hX : W0[X]? = some (lw_i 300 t)) (r : xi_R → Prop) (K : ∀ W' t', W'[X]? = some (lw_i 300 t') → (∀ j, j < n → t' j = t j) → (∀ j, j < 22 → t' (n + j) = cch 0 a b g j) → fr (fun i => i = X) W0 W' → xr (d + 13) 203 226 [(0, .ref 17), (1, .ref 16), (2, .int (Int32.ofNat q)), (3, .ref A), (4, .ref X), (5, .int (Int32.ofNat (n + 22))), (6, .int (Int32.ofNat bad)), (7, .ref U), (8, .int (Int32.ofNat k)), (10, .int (Int32.ofNat 0)), (11, .int (Int32.ofNat a)), (12, .int (Int32.ofNat b)), (13, .int (Int32.ofNat g))] [] W' c s r) : xr (d + 13) 203 66 [(0, .ref 17), (1, .ref 16), (2, .int (Int32.ofNat q)), (3, .ref A), (4, .ref X), (5, .int (Int32.ofNat n)), (6, .int (Int32.ofNat bad)), (7, .ref U), (8, .int (Int32.ofNat k)), (10, .int (Int32.ofNat 0)), (11, .int (Int32.ofNat a)), (12, .int (Int32.ofNat b)), (13, .int (Int32.ofNat g))] [] W0 c s r := by
  refine xr_stp rfl rfl rfl rfl ?_
  refine xr_stp rfl rfl rfl rfl ?_
  refine xr_stp rfl rfl rfl rfl ?_
  refine xr_stp rfl rfl rfl rfl ?_
  refine xr_j1 rfl rfl rfl rfl rfl (fun h73 => ?_) (fun h73 => ?_)
  · have z73 := nt1_ne h73
    exact (by omega)
  · refine xr_stp rfl rfl rfl rfl ?_
    refine xr_stp rfl rfl rfl rfl ?_
    refine xr_cps rfl rfl rfl (fun r1 K2 => lw_adds _ _ _ nn f hnn 2 n X t (by omega) (by omega) (show n + 22 ≤ 300 by omega) W0 hk hS hX r1 (fun W1 hX hf1 => K2 _ _ _ _ ?_))
    have hF : fr (fun i => i = X) W0 W1 := hf1
    refine xr_stp rfl rfl rfl rfl ?_
    refine xr_loc [(0, .ref 17), (1, .ref 16), (2, .int (Int32.ofNat q)), (3, .ref A), (4, .ref X), (5, .int (Int32.ofNat (n + 22))), (6, .int (Int32.ofNat bad)), (7, .ref U), (8, .int (Int32.ofNat k)), (10, .int (Int32.ofNat 0)), (11, .int (Int32.ofNat a)), (12, .int (Int32.ofNat b)), (13, .int (Int32.ofNat g))] ⟨rfl, rfl, rfl, rfl, rfl, rfl, rfl, rfl, rfl, rfl, rfl, rfl, rfl, trivial⟩ rfl ?_
    refine xr_stp rfl rfl rfl rfl ?_
    refine xr_stp (st' := .int (Int32.ofNat 2) :: _) rfl rfl rfl rfl ?_
    refine xr_j2 rfl rfl rfl rfl rfl (fun h129 => ?_) (fun h129 => ?_)
    · have z129 := nt_ge (by omega) (by omega) h129
      exact (by omega)
    · refine xr_stp rfl rfl rfl rfl ?_
      refine xr_j1 rfl rfl rfl rfl rfl (fun h134 => ?_) (fun h134 => ?_)
      · have z134 := nt1_ne h134
        exact (by omega)
      · refine xr_stp (st' := .int (Int32.ofNat 8) :: _) rfl rfl rfl rfl ?_
        refine xr_stp rfl rfl rfl rfl ?_
        refine xr_stp rfl rfl rfl rfl ?_
        refine xr_stp rfl rfl rfl rfl ?_
        refine xr_stp rfl rfl rfl rfl ?_
        refine xr_stp rfl rfl rfl rfl ?_
        refine xs_sub (by omega) rfl ?_
        refine xr_stp (st' := .int (Int32.ofNat 48) :: _) rfl rfl rfl rfl ?_
        refine xr_stp rfl rfl rfl rfl ?_
        refine xs_add rfl ?_
        refine xs_istk hX (by omega) (by omega) (by omega) rfl (fun W hX hf1 => ?_)
        have hF := hF.tr2 hf1 (fun _ e => Or.inl e)
        refine xr_stp rfl rfl rfl rfl ?_
        refine xr_stp rfl rfl rfl rfl ?_
        refine xr_stp rfl rfl rfl rfl ?_
        refine xs_sub (by omega) rfl ?_
        refine xr_stp (st' := .int (Int32.ofNat 5) :: _) rfl rfl rfl rfl ?_
        refine xs_sub (by omega) rfl ?_
        refine xr_stp (st' := .int (Int32.ofNat 48) :: _) rfl rfl rfl rfl ?_
        refine xr_stp rfl rfl rfl rfl ?_
        refine xs_add rfl ?_
        refine xs_istk hX (by omega) (by omega) (by omega) rfl (fun W hX hf1 => ?_)
        have hF := hF.tr2 hf1 (fun _ e => Or.inl e)
        refine xr_stp rfl rfl rfl rfl ?_
        refine xr_stp rfl rfl rfl rfl ?_
        refine xr_stp rfl rfl rfl rfl ?_
        refine xs_sub (by omega) rfl ?_
        refine xr_stp (st' := .int (Int32.ofNat 10) :: _) rfl rfl rfl rfl ?_
        refine xs_sub (by omega) rfl ?_
        refine xr_stp (st' := .int (Int32.ofNat 48) :: _) rfl rfl rfl rfl ?_
        refine xr_stp rfl rfl rfl rfl ?_
        refine xs_add rfl ?_
        refine xs_istk hX (by omega) (by omega) (by omega) rfl (fun W hX hf1 => ?_)
        have hF := hF.tr2 hf1 (fun _ e => Or.inl e)
        refine xr_stp rfl rfl rfl rfl ?_
        refine xr_stp (st' := .int (Int32.ofNat 2) :: _) rfl rfl rfl rfl ?_
        refine xr_j2 rfl rfl rfl rfl rfl (fun h192 => ?_) (fun h192 => ?_)
        · have z192 := nt_eq (by omega) (by omega) h192
          exact (by omega)
        · refine xr_stp rfl rfl rfl rfl ?_
          refine xr_stp (st' := .int (Int32.ofNat 3) :: _) rfl rfl rfl rfl ?_
          refine xr_j2 rfl rfl rfl rfl rfl (fun h198 => ?_) (fun h198 => ?_)
          · refine xr_loc [(0, .ref 17), (1, .ref 16), (2, .int (Int32.ofNat q)), (3, .ref A), (4, .ref X), (5, .int (Int32.ofNat (n + 22))), (6, .int (Int32.ofNat bad)), (7, .ref U), (8, .int (Int32.ofNat k)), (10, .int (Int32.ofNat 0)), (11, .int (Int32.ofNat a)), (12, .int (Int32.ofNat b)), (13, .int (Int32.ofNat g))] ⟨rfl, rfl, rfl, rfl, rfl, rfl, rfl, rfl, rfl, rfl, rfl, rfl, rfl, trivial⟩ rfl ?_
            refine K _ (xn_u (xn_u (xn_u (adt nn f 2 n t 22) (n + 22 - 8) (48 + a)) (n + 22 - 8 - 5) (48 + b)) (n + 22 - 8 - 10) (48 + g)) hX ?_ ?_ hF
            · intro j hj
              rw [xn_un _ _ (show j ≠ n + 22 - 8 - 10 by omega)]
              rw [xn_un _ _ (show j ≠ n + 22 - 8 - 5 by omega)]
              rw [xn_un _ _ (show j ≠ n + 22 - 8 by omega)]
              exact adt_lo nn f _ n t _ hj
            · intro j hj
              by_cases e0 : j = 4
              · subst e0
                exact if_pos (by omega)
              · rw [xn_un _ _ (show n + j ≠ n + 22 - 8 - 10 by omega)]
                by_cases e1 : j = 9
                · subst e1
                  exact if_pos (by omega)
                · rw [xn_un _ _ (show n + j ≠ n + 22 - 8 - 5 by omega)]
                  by_cases e2 : j = 14
                  · subst e2
                    exact if_pos (by omega)
                  · rw [xn_un _ _ (show n + j ≠ n + 22 - 8 by omega)]
                    refine Eq.trans (adt_at nn f n t (w := 0) (by omega) rfl hj) ?_
                    unfold cch
                    repeat (first | rfl | (rw [if_neg (by omega)]) | (rw [if_pos (by omega)]))
          · have z198 := nf_ne (by omega) (by omega) h198
            exact (by omega)
theorem scA1 (d c s : Nat) (nn q A X U k n bad : Nat) (f : Nat → Int32) (hnn : nn < 2147483648) (gX : 687 ≤ X) (t : Nat → Nat) (a b g : Nat) (ha : a < 4) (hb : b < 4) (hg : g < 3) (hn : n + 22 ≤ 300) (W0 : xi_W) (hk : kc W0) (hS : W0[16]? = some (lw_s nn f)) (hX : W0[X]? = some (lw_i 300 t)) (r : xi_R → Prop) (K : ∀ W' t', W'[X]? = some (lw_i 300 t') → (∀ j, j < n → t' j = t j) → (∀ j, j < 18 → t' (n + j) = cch 1 a b g j) → fr (fun i => i = X) W0 W' → xr (d + 13) 203 226 [(0, .ref 17), (1, .ref 16), (2, .int (Int32.ofNat q)), (3, .ref A), (4, .ref X), (5, .int (Int32.ofNat (n + 18))), (6, .int (Int32.ofNat bad)), (7, .ref U), (8, .int (Int32.ofNat k)), (10, .int (Int32.ofNat 1)), (11, .int (Int32.ofNat a)), (12, .int (Int32.ofNat b)), (13, .int (Int32.ofNat g))] [] W' c s r) : xr (d + 13) 203 66 [(0, .ref 17), (1, .ref 16), (2, .int (Int32.ofNat q)), (3, .ref A), (4, .ref X), (5, .int (Int32.ofNat n)), (6, .int (Int32.ofNat bad)), (7, .ref U), (8, .int (Int32.ofNat k)), (10, .int (Int32.ofNat 1)), (11, .int (Int32.ofNat a)), (12, .int (Int32.ofNat b)), (13, .int (Int32.ofNat g))] [] W0 c s r := by
  refine xr_stp rfl rfl rfl rfl ?_
  refine xr_stp rfl rfl rfl rfl ?_
  refine xr_stp rfl rfl rfl rfl ?_
  refine xr_stp rfl rfl rfl rfl ?_
  refine xr_j1 rfl rfl rfl rfl rfl (fun h73 => ?_) (fun h73 => ?_)
  · refine xr_stp rfl rfl rfl rfl ?_
    refine xr_stp (st' := .int (Int32.ofNat 1) :: _) rfl rfl rfl rfl ?_
    refine xr_j2 rfl rfl rfl rfl rfl (fun h85 => ?_) (fun h85 => ?_)
    · have z85 := nt_ne h85
      exact (by omega)
    · refine xr_stp rfl rfl rfl rfl ?_
      refine xr_stp rfl rfl rfl rfl ?_
      refine xr_cps rfl rfl rfl (fun r1 K2 => lw_adds _ _ _ nn f hnn 3 n X t (by omega) (by omega) (show n + 18 ≤ 300 by omega) W0 hk hS hX r1 (fun W1 hX hf1 => K2 _ _ _ _ ?_))
      have hF : fr (fun i => i = X) W0 W1 := hf1
      refine xr_stp rfl rfl rfl rfl ?_
      refine xr_loc [(0, .ref 17), (1, .ref 16), (2, .int (Int32.ofNat q)), (3, .ref A), (4, .ref X), (5, .int (Int32.ofNat (n + 18))), (6, .int (Int32.ofNat bad)), (7, .ref U), (8, .int (Int32.ofNat k)), (10, .int (Int32.ofNat 1)), (11, .int (Int32.ofNat a)), (12, .int (Int32.ofNat b)), (13, .int (Int32.ofNat g))] ⟨rfl, rfl, rfl, rfl, rfl, rfl, rfl, rfl, rfl, rfl, rfl, rfl, rfl, trivial⟩ rfl ?_
      refine xr_stp rfl rfl rfl rfl ?_
      refine xr_stp (st' := .int (Int32.ofNat 2) :: _) rfl rfl rfl rfl ?_
      refine xr_j2 rfl rfl rfl rfl rfl (fun h129 => ?_) (fun h129 => ?_)
      · have z129 := nt_ge (by omega) (by omega) h129
        exact (by omega)
      · refine xr_stp rfl rfl rfl rfl ?_
        refine xr_j1 rfl rfl rfl rfl rfl (fun h134 => ?_) (fun h134 => ?_)
        · refine xr_stp (st' := .int (Int32.ofNat 2) :: _) rfl rfl rfl rfl ?_
          refine xr_stp rfl rfl rfl rfl ?_
          refine xr_stp rfl rfl rfl rfl ?_
          refine xr_stp rfl rfl rfl rfl ?_
          refine xr_stp rfl rfl rfl rfl ?_
          refine xs_sub (by omega) rfl ?_
          refine xr_stp (st' := .int (Int32.ofNat 48) :: _) rfl rfl rfl rfl ?_
          refine xr_stp rfl rfl rfl rfl ?_
          refine xs_add rfl ?_
          refine xs_istk hX (by omega) (by omega) (by omega) rfl (fun W hX hf1 => ?_)
          have hF := hF.tr2 hf1 (fun _ e => Or.inl e)
          refine xr_stp rfl rfl rfl rfl ?_
          refine xr_stp rfl rfl rfl rfl ?_
          refine xr_stp rfl rfl rfl rfl ?_
          refine xs_sub (by omega) rfl ?_
          refine xr_stp (st' := .int (Int32.ofNat 5) :: _) rfl rfl rfl rfl ?_
          refine xs_sub (by omega) rfl ?_
          refine xr_stp (st' := .int (Int32.ofNat 48) :: _) rfl rfl rfl rfl ?_
          refine xr_stp rfl rfl rfl rfl ?_
          refine xs_add rfl ?_
          refine xs_istk hX (by omega) (by omega) (by omega) rfl (fun W hX hf1 => ?_)
          have hF := hF.tr2 hf1 (fun _ e => Or.inl e)
          refine xr_stp rfl rfl rfl rfl ?_
          refine xr_stp rfl rfl rfl rfl ?_
          refine xr_stp rfl rfl rfl rfl ?_
          refine xs_sub (by omega) rfl ?_
          refine xr_stp (st' := .int (Int32.ofNat 10) :: _) rfl rfl rfl rfl ?_
          refine xs_sub (by omega) rfl ?_
          refine xr_stp (st' := .int (Int32.ofNat 48) :: _) rfl rfl rfl rfl ?_
          refine xr_stp rfl rfl rfl rfl ?_
          refine xs_add rfl ?_
          refine xs_istk hX (by omega) (by omega) (by omega) rfl (fun W hX hf1 => ?_)
          have hF := hF.tr2 hf1 (fun _ e => Or.inl e)
          refine xr_stp rfl rfl rfl rfl ?_
          refine xr_stp (st' := .int (Int32.ofNat 2) :: _) rfl rfl rfl rfl ?_
          refine xr_j2 rfl rfl rfl rfl rfl (fun h192 => ?_) (fun h192 => ?_)
          · have z192 := nt_eq (by omega) (by omega) h192
            exact (by omega)
          · refine xr_stp rfl rfl rfl rfl ?_
            refine xr_stp (st' := .int (Int32.ofNat 3) :: _) rfl rfl rfl rfl ?_
            refine xr_j2 rfl rfl rfl rfl rfl (fun h198 => ?_) (fun h198 => ?_)
            · refine xr_loc [(0, .ref 17), (1, .ref 16), (2, .int (Int32.ofNat q)), (3, .ref A), (4, .ref X), (5, .int (Int32.ofNat (n + 18))), (6, .int (Int32.ofNat bad)), (7, .ref U), (8, .int (Int32.ofNat k)), (10, .int (Int32.ofNat 1)), (11, .int (Int32.ofNat a)), (12, .int (Int32.ofNat b)), (13, .int (Int32.ofNat g))] ⟨rfl, rfl, rfl, rfl, rfl, rfl, rfl, rfl, rfl, rfl, rfl, rfl, rfl, trivial⟩ rfl ?_
              refine K _ (xn_u (xn_u (xn_u (adt nn f 3 n t 18) (n + 18 - 2) (48 + a)) (n + 18 - 2 - 5) (48 + b)) (n + 18 - 2 - 10) (48 + g)) hX ?_ ?_ hF
              · intro j hj
                rw [xn_un _ _ (show j ≠ n + 18 - 2 - 10 by omega)]
                rw [xn_un _ _ (show j ≠ n + 18 - 2 - 5 by omega)]
                rw [xn_un _ _ (show j ≠ n + 18 - 2 by omega)]
                exact adt_lo nn f _ n t _ hj
              · intro j hj
                by_cases e0 : j = 6
                · subst e0
                  exact if_pos (by omega)
                · rw [xn_un _ _ (show n + j ≠ n + 18 - 2 - 10 by omega)]
                  by_cases e1 : j = 11
                  · subst e1
                    exact if_pos (by omega)
                  · rw [xn_un _ _ (show n + j ≠ n + 18 - 2 - 5 by omega)]
                    by_cases e2 : j = 16
                    · subst e2
                      exact if_pos (by omega)
                    · rw [xn_un _ _ (show n + j ≠ n + 18 - 2 by omega)]
                      refine Eq.trans (adt_at nn f n t (w := 1) (by omega) rfl hj) ?_
                      unfold cch
                      repeat (first | rfl | (rw [if_neg (by omega)]) | (rw [if_pos (by omega)]))
            · have z198 := nf_ne (by omega) (by omega) h198
              exact (by omega)
        · have z134 := nf1_ne (by omega) h134
          exact (by omega)
  · have z73 := nf1_ne (by omega) h73
    exact (by omega)
theorem scA2 (d c s : Nat) (nn q A X U k n bad : Nat) (f : Nat → Int32) (hnn : nn < 2147483648) (gX : 687 ≤ X) (t : Nat → Nat) (a b g : Nat) (ha : a < 4) (hb : b < 4) (hg : g < 3) (hn : n + 22 ≤ 300) (W0 : xi_W) (hk : kc W0) (hS : W0[16]? = some (lw_s nn f)) (hX : W0[X]? = some (lw_i 300 t)) (r : xi_R → Prop) (K : ∀ W' t', W'[X]? = some (lw_i 300 t') → (∀ j, j < n → t' j = t j) → (∀ j, j < 13 → t' (n + j) = cch 2 a b g j) → fr (fun i => i = X) W0 W' → xr (d + 13) 203 226 [(0, .ref 17), (1, .ref 16), (2, .int (Int32.ofNat q)), (3, .ref A), (4, .ref X), (5, .int (Int32.ofNat (n + 13))), (6, .int (Int32.ofNat bad)), (7, .ref U), (8, .int (Int32.ofNat k)), (10, .int (Int32.ofNat 2)), (11, .int (Int32.ofNat a)), (12, .int (Int32.ofNat b)), (13, .int (Int32.ofNat g))] [] W' c s r) : xr (d + 13) 203 66 [(0, .ref 17), (1, .ref 16), (2, .int (Int32.ofNat q)), (3, .ref A), (4, .ref X), (5, .int (Int32.ofNat n)), (6, .int (Int32.ofNat bad)), (7, .ref U), (8, .int (Int32.ofNat k)), (10, .int (Int32.ofNat 2)), (11, .int (Int32.ofNat a)), (12, .int (Int32.ofNat b)), (13, .int (Int32.ofNat g))] [] W0 c s r := by
  refine xr_stp rfl rfl rfl rfl ?_
  refine xr_stp rfl rfl rfl rfl ?_
  refine xr_stp rfl rfl rfl rfl ?_
  refine xr_stp rfl rfl rfl rfl ?_
  refine xr_j1 rfl rfl rfl rfl rfl (fun h73 => ?_) (fun h73 => ?_)
  · refine xr_stp rfl rfl rfl rfl ?_
    refine xr_stp (st' := .int (Int32.ofNat 1) :: _) rfl rfl rfl rfl ?_
    refine xr_j2 rfl rfl rfl rfl rfl (fun h85 => ?_) (fun h85 => ?_)
    · refine xr_stp rfl rfl rfl rfl ?_
      refine xr_stp (st' := .int (Int32.ofNat 2) :: _) rfl rfl rfl rfl ?_
      refine xr_j2 rfl rfl rfl rfl rfl (fun h97 => ?_) (fun h97 => ?_)
      · have z97 := nt_ne h97
        exact (by omega)
      · refine xr_stp rfl rfl rfl rfl ?_
        refine xr_stp rfl rfl rfl rfl ?_
        refine xr_cps rfl rfl rfl (fun r1 K2 => lw_adds _ _ _ nn f hnn 4 n X t (by omega) (by omega) (show n + 13 ≤ 300 by omega) W0 hk hS hX r1 (fun W1 hX hf1 => K2 _ _ _ _ ?_))
        have hF : fr (fun i => i = X) W0 W1 := hf1
        refine xr_stp rfl rfl rfl rfl ?_
        refine xr_loc [(0, .ref 17), (1, .ref 16), (2, .int (Int32.ofNat q)), (3, .ref A), (4, .ref X), (5, .int (Int32.ofNat (n + 13))), (6, .int (Int32.ofNat bad)), (7, .ref U), (8, .int (Int32.ofNat k)), (10, .int (Int32.ofNat 2)), (11, .int (Int32.ofNat a)), (12, .int (Int32.ofNat b)), (13, .int (Int32.ofNat g))] ⟨rfl, rfl, rfl, rfl, rfl, rfl, rfl, rfl, rfl, rfl, rfl, rfl, rfl, trivial⟩ rfl ?_
        refine xr_stp rfl rfl rfl rfl ?_
        refine xr_stp (st' := .int (Int32.ofNat 2) :: _) rfl rfl rfl rfl ?_
        refine xr_j2 rfl rfl rfl rfl rfl (fun h129 => ?_) (fun h129 => ?_)
        · refine xr_stp rfl rfl rfl rfl ?_
          refine xr_stp (st' := .int (Int32.ofNat 2) :: _) rfl rfl rfl rfl ?_
          refine xr_j2 rfl rfl rfl rfl rfl (fun h192 => ?_) (fun h192 => ?_)
          · refine xr_stp rfl rfl rfl rfl ?_
            refine xr_stp rfl rfl rfl rfl ?_
            refine xr_stp (st' := .int (Int32.ofNat 2) :: _) rfl rfl rfl rfl ?_
            refine xs_sub (by omega) rfl ?_
            refine xr_stp (st' := .int (Int32.ofNat 48) :: _) rfl rfl rfl rfl ?_
            refine xr_stp rfl rfl rfl rfl ?_
            refine xs_add rfl ?_
            refine xs_istk hX (by omega) (by omega) (by omega) rfl (fun W hX hf1 => ?_)
            have hF := hF.tr2 hf1 (fun _ e => Or.inl e)
            refine xr_stp rfl rfl rfl rfl ?_
            refine xr_stp rfl rfl rfl rfl ?_
            refine xr_stp (st' := .int (Int32.ofNat 7) :: _) rfl rfl rfl rfl ?_
            refine xs_sub (by omega) rfl ?_
            refine xr_stp (st' := .int (Int32.ofNat 48) :: _) rfl rfl rfl rfl ?_
            refine xr_stp rfl rfl rfl rfl ?_
            refine xs_add rfl ?_
            refine xs_istk hX (by omega) (by omega) (by omega) rfl (fun W hX hf1 => ?_)
            have hF := hF.tr2 hf1 (fun _ e => Or.inl e)
            refine xr_loc [(0, .ref 17), (1, .ref 16), (2, .int (Int32.ofNat q)), (3, .ref A), (4, .ref X), (5, .int (Int32.ofNat (n + 13))), (6, .int (Int32.ofNat bad)), (7, .ref U), (8, .int (Int32.ofNat k)), (10, .int (Int32.ofNat 2)), (11, .int (Int32.ofNat a)), (12, .int (Int32.ofNat b)), (13, .int (Int32.ofNat g))] ⟨rfl, rfl, rfl, rfl, rfl, rfl, rfl, rfl, rfl, rfl, rfl, rfl, rfl, trivial⟩ rfl ?_
            refine K _ (xn_u (xn_u (adt nn f 4 n t 13) (n + 13 - 2) (48 + a)) (n + 13 - 7) (48 + b)) hX ?_ ?_ hF
            · intro j hj
              rw [xn_un _ _ (show j ≠ n + 13 - 7 by omega)]
              rw [xn_un _ _ (show j ≠ n + 13 - 2 by omega)]
              exact adt_lo nn f _ n t _ hj
            · intro j hj
              by_cases e0 : j = 6
              · subst e0
                exact if_pos (by omega)
              · rw [xn_un _ _ (show n + j ≠ n + 13 - 7 by omega)]
                by_cases e1 : j = 11
                · subst e1
                  exact if_pos (by omega)
                · rw [xn_un _ _ (show n + j ≠ n + 13 - 2 by omega)]
                  refine Eq.trans (adt_at nn f n t (w := 2) (by omega) rfl hj) ?_
                  unfold cch
                  repeat (first | rfl | (rw [if_neg (by omega)]) | (rw [if_pos (by omega)]))
          · have z192 := nf_eq h192
            exact (by omega)
        · have z129 := nf_ge (by omega) (by omega) h129
          exact (by omega)
    · have z85 := nf_ne (by omega) (by omega) h85
      exact (by omega)
  · have z73 := nf1_ne (by omega) h73
    exact (by omega)
theorem scA3 (d c s : Nat) (nn q A X U k n bad : Nat) (f : Nat → Int32) (hnn : nn < 2147483648) (gX : 687 ≤ X) (t : Nat → Nat) (a b g : Nat) (ha : a < 4) (hb : b < 4) (hg : g < 3) (hn : n + 22 ≤ 300) (W0 : xi_W) (hk : kc W0) (hS : W0[16]? = some (lw_s nn f)) (hX : W0[X]? = some (lw_i 300 t)) (r : xi_R → Prop) (K : ∀ W' t', W'[X]? = some (lw_i 300 t') → (∀ j, j < n → t' j = t j) → (∀ j, j < 12 → t' (n + j) = cch 3 a b g j) → fr (fun i => i = X) W0 W' → xr (d + 13) 203 226 [(0, .ref 17), (1, .ref 16), (2, .int (Int32.ofNat q)), (3, .ref A), (4, .ref X), (5, .int (Int32.ofNat (n + 12))), (6, .int (Int32.ofNat bad)), (7, .ref U), (8, .int (Int32.ofNat k)), (10, .int (Int32.ofNat 3)), (11, .int (Int32.ofNat a)), (12, .int (Int32.ofNat b)), (13, .int (Int32.ofNat g))] [] W' c s r) : xr (d + 13) 203 66 [(0, .ref 17), (1, .ref 16), (2, .int (Int32.ofNat q)), (3, .ref A), (4, .ref X), (5, .int (Int32.ofNat n)), (6, .int (Int32.ofNat bad)), (7, .ref U), (8, .int (Int32.ofNat k)), (10, .int (Int32.ofNat 3)), (11, .int (Int32.ofNat a)), (12, .int (Int32.ofNat b)), (13, .int (Int32.ofNat g))] [] W0 c s r := by
  refine xr_stp rfl rfl rfl rfl ?_
  refine xr_stp rfl rfl rfl rfl ?_
  refine xr_stp rfl rfl rfl rfl ?_
  refine xr_stp rfl rfl rfl rfl ?_
  refine xr_j1 rfl rfl rfl rfl rfl (fun h73 => ?_) (fun h73 => ?_)
  · refine xr_stp rfl rfl rfl rfl ?_
    refine xr_stp (st' := .int (Int32.ofNat 1) :: _) rfl rfl rfl rfl ?_
    refine xr_j2 rfl rfl rfl rfl rfl (fun h85 => ?_) (fun h85 => ?_)
    · refine xr_stp rfl rfl rfl rfl ?_
      refine xr_stp (st' := .int (Int32.ofNat 2) :: _) rfl rfl rfl rfl ?_
      refine xr_j2 rfl rfl rfl rfl rfl (fun h97 => ?_) (fun h97 => ?_)
      · refine xr_stp rfl rfl rfl rfl ?_
        refine xr_stp (st' := .int (Int32.ofNat 3) :: _) rfl rfl rfl rfl ?_
        refine xr_j2 rfl rfl rfl rfl rfl (fun h109 => ?_) (fun h109 => ?_)
        · have z109 := nt_ne h109
          exact (by omega)
        · refine xr_stp rfl rfl rfl rfl ?_
          refine xr_stp rfl rfl rfl rfl ?_
          refine xr_cps rfl rfl rfl (fun r1 K2 => lw_adds _ _ _ nn f hnn 5 n X t (by omega) (by omega) (show n + 12 ≤ 300 by omega) W0 hk hS hX r1 (fun W1 hX hf1 => K2 _ _ _ _ ?_))
          have hF : fr (fun i => i = X) W0 W1 := hf1
          refine xr_stp rfl rfl rfl rfl ?_
          refine xr_loc [(0, .ref 17), (1, .ref 16), (2, .int (Int32.ofNat q)), (3, .ref A), (4, .ref X), (5, .int (Int32.ofNat (n + 12))), (6, .int (Int32.ofNat bad)), (7, .ref U), (8, .int (Int32.ofNat k)), (10, .int (Int32.ofNat 3)), (11, .int (Int32.ofNat a)), (12, .int (Int32.ofNat b)), (13, .int (Int32.ofNat g))] ⟨rfl, rfl, rfl, rfl, rfl, rfl, rfl, rfl, rfl, rfl, rfl, rfl, rfl, trivial⟩ rfl ?_
          refine xr_stp rfl rfl rfl rfl ?_
          refine xr_stp (st' := .int (Int32.ofNat 2) :: _) rfl rfl rfl rfl ?_
          refine xr_j2 rfl rfl rfl rfl rfl (fun h129 => ?_) (fun h129 => ?_)
          · refine xr_stp rfl rfl rfl rfl ?_
            refine xr_stp (st' := .int (Int32.ofNat 2) :: _) rfl rfl rfl rfl ?_
            refine xr_j2 rfl rfl rfl rfl rfl (fun h192 => ?_) (fun h192 => ?_)
            · have z192 := nt_eq (by omega) (by omega) h192
              exact (by omega)
            · refine xr_stp rfl rfl rfl rfl ?_
              refine xr_stp (st' := .int (Int32.ofNat 3) :: _) rfl rfl rfl rfl ?_
              refine xr_j2 rfl rfl rfl rfl rfl (fun h198 => ?_) (fun h198 => ?_)
              · have z198 := nt_ne h198
                exact (by omega)
              · refine xr_stp rfl rfl rfl rfl ?_
                refine xr_stp rfl rfl rfl rfl ?_
                refine xr_stp (st' := .int (Int32.ofNat 2) :: _) rfl rfl rfl rfl ?_
                refine xs_sub (by omega) rfl ?_
                refine xr_stp (st' := .int (Int32.ofNat 48) :: _) rfl rfl rfl rfl ?_
                refine xr_stp rfl rfl rfl rfl ?_
                refine xs_add rfl ?_
                refine xs_istk hX (by omega) (by omega) (by omega) rfl (fun W hX hf1 => ?_)
                have hF := hF.tr2 hf1 (fun _ e => Or.inl e)
                refine xr_stp rfl rfl rfl rfl ?_
                refine xr_stp rfl rfl rfl rfl ?_
                refine xr_stp (st' := .int (Int32.ofNat 7) :: _) rfl rfl rfl rfl ?_
                refine xs_sub (by omega) rfl ?_
                refine xr_stp (st' := .int (Int32.ofNat 48) :: _) rfl rfl rfl rfl ?_
                refine xr_stp rfl rfl rfl rfl ?_
                refine xs_add rfl ?_
                refine xs_istk hX (by omega) (by omega) (by omega) rfl (fun W hX hf1 => ?_)
                have hF := hF.tr2 hf1 (fun _ e => Or.inl e)
                refine xr_loc [(0, .ref 17), (1, .ref 16), (2, .int (Int32.ofNat q)), (3, .ref A), (4, .ref X), (5, .int (Int32.ofNat (n + 12))), (6, .int (Int32.ofNat bad)), (7, .ref U), (8, .int (Int32.ofNat k)), (10, .int (Int32.ofNat 3)), (11, .int (Int32.ofNat a)), (12, .int (Int32.ofNat b)), (13, .int (Int32.ofNat g))] ⟨rfl, rfl, rfl, rfl, rfl, rfl, rfl, rfl, rfl, rfl, rfl, rfl, rfl, trivial⟩ rfl ?_
                refine K _ (xn_u (xn_u (adt nn f 5 n t 12) (n + 12 - 2) (48 + a)) (n + 12 - 7) (48 + b)) hX ?_ ?_ hF
                · intro j hj
                  rw [xn_un _ _ (show j ≠ n + 12 - 7 by omega)]
                  rw [xn_un _ _ (show j ≠ n + 12 - 2 by omega)]
                  exact adt_lo nn f _ n t _ hj
                · intro j hj
                  by_cases e0 : j = 5
                  · subst e0
                    exact if_pos (by omega)
                  · rw [xn_un _ _ (show n + j ≠ n + 12 - 7 by omega)]
                    by_cases e1 : j = 10
                    · subst e1
                      exact if_pos (by omega)
                    · rw [xn_un _ _ (show n + j ≠ n + 12 - 2 by omega)]
                      refine Eq.trans (adt_at nn f n t (w := 3) (by omega) rfl hj) ?_
                      unfold cch
                      repeat (first | rfl | (rw [if_neg (by omega)]) | (rw [if_pos (by omega)]))
          · have z129 := nf_ge (by omega) (by omega) h129
            exact (by omega)
      · have z97 := nf_ne (by omega) (by omega) h97
        exact (by omega)
    · have z85 := nf_ne (by omega) (by omega) h85
      exact (by omega)
  · have z73 := nf1_ne (by omega) h73
    exact (by omega)
theorem scA4 (d c s : Nat) (nn q A X U k n bad : Nat) (f : Nat → Int32) (hnn : nn < 2147483648) (gX : 687 ≤ X) (t : Nat → Nat) (a b g : Nat) (ha : a < 4) (hb : b < 4) (hg : g < 3) (hn : n + 22 ≤ 300) (W0 : xi_W) (hk : kc W0) (hS : W0[16]? = some (lw_s nn f)) (hX : W0[X]? = some (lw_i 300 t)) (r : xi_R → Prop) (K : ∀ W' t', W'[X]? = some (lw_i 300 t') → (∀ j, j < n → t' j = t j) → (∀ j, j < 6 → t' (n + j) = cch 4 a b g j) → fr (fun i => i = X) W0 W' → xr (d + 13) 203 226 [(0, .ref 17), (1, .ref 16), (2, .int (Int32.ofNat q)), (3, .ref A), (4, .ref X), (5, .int (Int32.ofNat (n + 6))), (6, .int (Int32.ofNat bad)), (7, .ref U), (8, .int (Int32.ofNat k)), (10, .int (Int32.ofNat 4)), (11, .int (Int32.ofNat a)), (12, .int (Int32.ofNat b)), (13, .int (Int32.ofNat g))] [] W' c s r) : xr (d + 13) 203 66 [(0, .ref 17), (1, .ref 16), (2, .int (Int32.ofNat q)), (3, .ref A), (4, .ref X), (5, .int (Int32.ofNat n)), (6, .int (Int32.ofNat bad)), (7, .ref U), (8, .int (Int32.ofNat k)), (10, .int (Int32.ofNat 4)), (11, .int (Int32.ofNat a)), (12, .int (Int32.ofNat b)), (13, .int (Int32.ofNat g))] [] W0 c s r := by
  refine xr_stp rfl rfl rfl rfl ?_
  refine xr_stp rfl rfl rfl rfl ?_
  refine xr_stp rfl rfl rfl rfl ?_
  refine xr_stp rfl rfl rfl rfl ?_
  refine xr_j1 rfl rfl rfl rfl rfl (fun h73 => ?_) (fun h73 => ?_)
  · refine xr_stp rfl rfl rfl rfl ?_
    refine xr_stp (st' := .int (Int32.ofNat 1) :: _) rfl rfl rfl rfl ?_
    refine xr_j2 rfl rfl rfl rfl rfl (fun h85 => ?_) (fun h85 => ?_)
    · refine xr_stp rfl rfl rfl rfl ?_
      refine xr_stp (st' := .int (Int32.ofNat 2) :: _) rfl rfl rfl rfl ?_
      refine xr_j2 rfl rfl rfl rfl rfl (fun h97 => ?_) (fun h97 => ?_)
      · refine xr_stp rfl rfl rfl rfl ?_
        refine xr_stp (st' := .int (Int32.ofNat 3) :: _) rfl rfl rfl rfl ?_
        refine xr_j2 rfl rfl rfl rfl rfl (fun h109 => ?_) (fun h109 => ?_)
        · refine xr_stp rfl rfl rfl rfl ?_
          refine xr_cps rfl rfl rfl (fun r1 K2 => lw_adds _ _ _ nn f hnn 6 n X t (by omega) (by omega) (show n + 6 ≤ 300 by omega) W0 hk hS hX r1 (fun W1 hX hf1 => K2 _ _ _ _ ?_))
          have hF : fr (fun i => i = X) W0 W1 := hf1
          refine xr_stp rfl rfl rfl rfl ?_
          refine xr_loc [(0, .ref 17), (1, .ref 16), (2, .int (Int32.ofNat q)), (3, .ref A), (4, .ref X), (5, .int (Int32.ofNat (n + 6))), (6, .int (Int32.ofNat bad)), (7, .ref U), (8, .int (Int32.ofNat k)), (10, .int (Int32.ofNat 4)), (11, .int (Int32.ofNat a)), (12, .int (Int32.ofNat b)), (13, .int (Int32.ofNat g))] ⟨rfl, rfl, rfl, rfl, rfl, rfl, rfl, rfl, rfl, rfl, rfl, rfl, rfl, trivial⟩ rfl ?_
          refine xr_stp rfl rfl rfl rfl ?_
          refine xr_stp (st' := .int (Int32.ofNat 2) :: _) rfl rfl rfl rfl ?_
          refine xr_j2 rfl rfl rfl rfl rfl (fun h129 => ?_) (fun h129 => ?_)
          · refine xr_stp rfl rfl rfl rfl ?_
            refine xr_stp (st' := .int (Int32.ofNat 2) :: _) rfl rfl rfl rfl ?_
            refine xr_j2 rfl rfl rfl rfl rfl (fun h192 => ?_) (fun h192 => ?_)
            · have z192 := nt_eq (by omega) (by omega) h192
              exact (by omega)
            · refine xr_stp rfl rfl rfl rfl ?_
              refine xr_stp (st' := .int (Int32.ofNat 3) :: _) rfl rfl rfl rfl ?_
              refine xr_j2 rfl rfl rfl rfl rfl (fun h198 => ?_) (fun h198 => ?_)
              · refine xr_loc [(0, .ref 17), (1, .ref 16), (2, .int (Int32.ofNat q)), (3, .ref A), (4, .ref X), (5, .int (Int32.ofNat (n + 6))), (6, .int (Int32.ofNat bad)), (7, .ref U), (8, .int (Int32.ofNat k)), (10, .int (Int32.ofNat 4)), (11, .int (Int32.ofNat a)), (12, .int (Int32.ofNat b)), (13, .int (Int32.ofNat g))] ⟨rfl, rfl, rfl, rfl, rfl, rfl, rfl, rfl, rfl, rfl, rfl, rfl, rfl, trivial⟩ rfl ?_
                refine K _ (adt nn f 6 n t 6) hX ?_ ?_ hF
                · intro j hj
                  exact adt_lo nn f _ n t _ hj
                · intro j hj
                  refine Eq.trans (adt_at nn f n t (w := 4) (by omega) rfl hj) ?_
                  unfold cch
                  repeat (first | rfl | (rw [if_neg (by omega)]) | (rw [if_pos (by omega)]))
              · have z198 := nf_ne (by omega) (by omega) h198
                exact (by omega)
          · have z129 := nf_ge (by omega) (by omega) h129
            exact (by omega)
        · have z109 := nf_ne (by omega) (by omega) h109
          exact (by omega)
      · have z97 := nf_ne (by omega) (by omega) h97
        exact (by omega)
    · have z85 := nf_ne (by omega) (by omega) h85
      exact (by omega)
  · have z73 := nf1_ne (by omega) h73
    exact (by omega)
