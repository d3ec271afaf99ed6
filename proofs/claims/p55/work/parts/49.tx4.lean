/-! the class: one operation of a text -/
theorem xs_istv {d i pc a n j : Nat} {x : Int32} {g : Nat → Int32} {l : xi_L} {st : List Value} {w : xi_W} {c s : Nat} {r : xi_R → Prop} (hw : w[a]? = some (lw_s n g)) (hg : 17 ≤ a) (hj : j < n) (hn : n < 2147483648) (hc : xt_cd i pc = some .iastore) (h : ∀ w', w'[a]? = some (lw_s n (upd g j x)) → fr (· = a) w w' → xr d i (pc + 1) l st w' c s r) : xr d i pc l (.int x :: .int (Int32.ofNat j) :: .ref a :: st) w c s r :=
  xr_iastore hw (Nat.ble_eq.mpr hg) hc (n_ix hj hn) rfl (by
    have z := h _ (xi_setat hw) (fr.set rfl)
    rw [n_nat (by omega)]
    exact z)
theorem tx_number (d c s T M K w : Nat) (W0 : xi_W) (g : Nat → Int32) (F : Nat → Nat) (hk : W0[K]? = some (lw_s 64 g)) (hg : 17 ≤ K) (hm : W0[M]? = some (lw_i 14 F)) (hMK : M ≠ K) (n t z p x : Nat) (ht : t < 64) (r : xi_R → Prop) (k : ∀ W' L', W'[K]? = some (lw_s 64 (upd g t (Int32.ofNat x))) → fr (· = K) W0 W' → tx_L T M K w (n + 1) (t + 1) z (p + 1) L' → xr d 69 28 L' [] W' c s r) : xr d 69 77 [(4, .int (Int32.ofNat (p + 1))), (9, .int (Int32.ofNat x)), (8, .int (Int32.ofNat 38)), (7, .int (Int32.ofNat n)), (6, .int (Int32.ofNat t)), (5, .int (Int32.ofNat z)), (0, .ref T), (1, .int (Int32.ofNat w)), (2, .ref M), (3, .ref K)] [] W0 c s r := by
  have hF : fr (· = K) W0 W0 := fr.rf
  refine xr_stp rfl rfl rfl rfl ?_
  refine xr_stp (st' := .int (Int32.ofNat 44) :: _) rfl rfl rfl rfl ?_
  refine xr_j2 rfl rfl rfl rfl rfl (fun h81 => ?_) (fun h81 => ?_)
  · refine xr_stp rfl rfl rfl rfl ?_
    refine xr_stp (st' := .int (Int32.ofNat 43) :: _) rfl rfl rfl rfl ?_
    refine xr_j2 rfl rfl rfl rfl rfl (fun h95 => ?_) (fun h95 => ?_)
    · refine xr_stp rfl rfl rfl rfl ?_
      refine xr_stp (st' := .int (Int32.ofNat 38) :: _) rfl rfl rfl rfl ?_
      refine xr_j2 rfl rfl rfl rfl rfl (fun h129 => ?_) (fun h129 => ?_)
      · exact absurd rfl (nt_ne h129)
      · refine xr_stp rfl rfl rfl rfl ?_
        refine xr_stp rfl rfl rfl rfl ?_
        refine xs_sln hk rfl ?_
        refine xr_j2 rfl rfl rfl rfl rfl (fun h136 => ?_) (fun h136 => ?_)
        · exact absurd (nt_ge (by omega) (by omega) h136) (by omega)
        · refine xr_stp rfl rfl rfl rfl ?_
          refine xr_stp rfl rfl rfl rfl ?_
          refine xr_stp rfl rfl rfl rfl ?_
          refine xs_istv hk hg (by omega) (by omega) rfl (fun W hk hf1 => ?_)
          have hm := hf1.at hm hMK
          have hF := hF.tr2 hf1 (fun _ e => Or.inl e)
          refine xs_inc (e := 1) rfl rfl rfl rfl ?_
          refine xr_stp rfl rfl rfl rfl ?_
          refine xs_inc (e := 1) rfl rfl rfl rfl ?_
          refine xr_stp rfl rfl rfl rfl ?_
          exact k _ _ hk hF (Or.inr (Or.inl ⟨_, _, rfl⟩))
    · exact absurd (nf_ne (by omega) (by omega) h95) (by omega)
  · exact absurd (nf_ne (by omega) (by omega) h81) (by omega)
theorem tx_named (d c s T M K w : Nat) (W0 : xi_W) (g : Nat → Int32) (F : Nat → Nat) (hk : W0[K]? = some (lw_s 64 g)) (hg : 17 ≤ K) (hm : W0[M]? = some (lw_i 14 F)) (hMK : M ≠ K) (n t z p x : Nat) (ht : t < 64) (hx : x < 14) (r : xi_R → Prop) (k : ∀ W' L', W'[K]? = some (lw_s 64 (upd g t (Int32.ofNat (F x)))) → fr (· = K) W0 W' → tx_L T M K w (n + 1) (t + 1) z (p + 1) L' → xr d 69 28 L' [] W' c s r) : xr d 69 77 [(4, .int (Int32.ofNat (p + 1))), (9, .int (Int32.ofNat x)), (8, .int (Int32.ofNat 41)), (7, .int (Int32.ofNat n)), (6, .int (Int32.ofNat t)), (5, .int (Int32.ofNat z)), (0, .ref T), (1, .int (Int32.ofNat w)), (2, .ref M), (3, .ref K)] [] W0 c s r := by
  have hF : fr (· = K) W0 W0 := fr.rf
  refine xr_stp rfl rfl rfl rfl ?_
  refine xr_stp (st' := .int (Int32.ofNat 44) :: _) rfl rfl rfl rfl ?_
  refine xr_j2 rfl rfl rfl rfl rfl (fun h81 => ?_) (fun h81 => ?_)
  · refine xr_stp rfl rfl rfl rfl ?_
    refine xr_stp (st' := .int (Int32.ofNat 43) :: _) rfl rfl rfl rfl ?_
    refine xr_j2 rfl rfl rfl rfl rfl (fun h95 => ?_) (fun h95 => ?_)
    · refine xr_stp rfl rfl rfl rfl ?_
      refine xr_stp (st' := .int (Int32.ofNat 38) :: _) rfl rfl rfl rfl ?_
      refine xr_j2 rfl rfl rfl rfl rfl (fun h129 => ?_) (fun h129 => ?_)
      · refine xr_stp rfl rfl rfl rfl ?_
        refine xr_stp (st' := .int (Int32.ofNat 41) :: _) rfl rfl rfl rfl ?_
        refine xr_j2 rfl rfl rfl rfl rfl (fun h155 => ?_) (fun h155 => ?_)
        · exact absurd rfl (nt_ne h155)
        · refine xr_stp rfl rfl rfl rfl ?_
          refine xr_stp rfl rfl rfl rfl ?_
          refine xs_sln hk rfl ?_
          refine xr_j2 rfl rfl rfl rfl rfl (fun h162 => ?_) (fun h162 => ?_)
          · exact absurd (nt_ge (by omega) (by omega) h162) (by omega)
          · refine xr_stp rfl rfl rfl rfl ?_
            refine xr_j1 rfl rfl rfl rfl rfl (fun h167 => ?_) (fun h167 => ?_)
            · exact absurd (by omega) (n_lt0 h167)
            · refine xr_stp rfl rfl rfl rfl ?_
              refine xr_stp rfl rfl rfl rfl ?_
              refine xs_iln hm rfl ?_
              refine xr_j2 rfl rfl rfl rfl rfl (fun h174 => ?_) (fun h174 => ?_)
              · exact absurd (nt_ge (by omega) (by omega) h174) (by omega)
              · refine xr_stp rfl rfl rfl rfl ?_
                refine xr_stp rfl rfl rfl rfl ?_
                refine xr_stp rfl rfl rfl rfl ?_
                refine xr_stp rfl rfl rfl rfl ?_
                refine xs_ild hm (by omega) (by omega) rfl ?_
                refine xs_istv hk hg (by omega) (by omega) rfl (fun W hk hf1 => ?_)
                have hm := hf1.at hm hMK
                have hF := hF.tr2 hf1 (fun _ e => Or.inl e)
                refine xs_inc (e := 1) rfl rfl rfl rfl ?_
                refine xr_stp rfl rfl rfl rfl ?_
                refine xs_inc (e := 1) rfl rfl rfl rfl ?_
                refine xr_stp rfl rfl rfl rfl ?_
                exact k _ _ hk hF (Or.inr (Or.inl ⟨_, _, rfl⟩))
      · exact absurd (nf_ne (by omega) (by omega) h129) (by omega)
    · exact absurd (nf_ne (by omega) (by omega) h95) (by omega)
  · exact absurd (nf_ne (by omega) (by omega) h81) (by omega)
theorem tx_ofOne (d c s T M K w : Nat) (W0 : xi_W) (g : Nat → Int32) (F : Nat → Nat) (hk : W0[K]? = some (lw_s 64 g)) (hg : 17 ≤ K) (hm : W0[M]? = some (lw_i 14 F)) (hMK : M ≠ K) (n t z p x : Nat) (ht : t < 63) (o : Nat) (ho : o = 17 ∨ o = 18) (h1 : ∀ (d c s : Nat) (W : xi_W) (r : xi_R → Prop), r (some (.int (Int32.ofNat 1)), W, c, s) → xr d 70 0 [(0, .int (Int32.ofNat o))] [] W c s r) (V : Int32) (h2 : ∀ (d c s : Nat) (W : xi_W) (r : xi_R → Prop), W[M]? = some (lw_i 14 F) → r (some (.int V), W, c, s) → xr d 71 0 [(0, .int (Int32.ofNat o)), (1, .int (g t)), (2, .ref M)] [] W c s r) (r : xi_R → Prop) (k : ∀ W' L', W'[K]? = some (lw_s 64 (upd g t (V))) → fr (· = K) W0 W' → tx_L T M K w (n + 1) (t + 1) z (p + 1) L' → xr (d + 1) 69 28 L' [] W' c s r) : xr (d + 1) 69 77 [(4, .int (Int32.ofNat (p + 1))), (9, .int (Int32.ofNat x)), (8, .int (Int32.ofNat o)), (7, .int (Int32.ofNat n)), (6, .int (Int32.ofNat ((t + 1)))), (5, .int (Int32.ofNat z)), (0, .ref T), (1, .int (Int32.ofNat w)), (2, .ref M), (3, .ref K)] [] W0 c s r := by
  have hF : fr (· = K) W0 W0 := fr.rf
  refine xr_stp rfl rfl rfl rfl ?_
  refine xr_stp (st' := .int (Int32.ofNat 44) :: _) rfl rfl rfl rfl ?_
  refine xr_j2 rfl rfl rfl rfl rfl (fun h81 => ?_) (fun h81 => ?_)
  · refine xr_stp rfl rfl rfl rfl ?_
    refine xr_stp (st' := .int (Int32.ofNat 43) :: _) rfl rfl rfl rfl ?_
    refine xr_j2 rfl rfl rfl rfl rfl (fun h95 => ?_) (fun h95 => ?_)
    · refine xr_stp rfl rfl rfl rfl ?_
      refine xr_stp (st' := .int (Int32.ofNat 38) :: _) rfl rfl rfl rfl ?_
      refine xr_j2 rfl rfl rfl rfl rfl (fun h129 => ?_) (fun h129 => ?_)
      · refine xr_stp rfl rfl rfl rfl ?_
        refine xr_stp (st' := .int (Int32.ofNat 41) :: _) rfl rfl rfl rfl ?_
        refine xr_j2 rfl rfl rfl rfl rfl (fun h155 => ?_) (fun h155 => ?_)
        · refine xr_stp rfl rfl rfl rfl ?_
          refine xr_cps rfl rfl rfl (fun r1 K2 => h1 _ _ _ _ r1 (K2 _ _ _ _ ?_))
          refine xr_j1 rfl rfl rfl rfl rfl (fun h196 => ?_) (fun h196 => ?_)
          · exact absurd h196 (by decide +kernel)
          · refine xr_stp rfl rfl rfl rfl ?_
            refine xr_j1 rfl rfl rfl rfl rfl (fun h201 => ?_) (fun h201 => ?_)
            · exact absurd (nt1_le (by omega) h201) (by omega)
            · refine xr_stp rfl rfl rfl rfl ?_
              refine xr_stp rfl rfl rfl rfl ?_
              refine xr_stp (st' := .int (Int32.ofNat 1) :: _) rfl rfl rfl rfl ?_
              refine xs_pred rfl ?_
              refine xr_stp rfl rfl rfl rfl ?_
              refine xr_stp rfl rfl rfl rfl ?_
              refine xr_stp rfl rfl rfl rfl ?_
              refine xr_stp (st' := .int (Int32.ofNat 1) :: _) rfl rfl rfl rfl ?_
              refine xs_pred rfl ?_
              refine xs_sld hk (by omega) (by omega) rfl ?_
              refine xr_stp rfl rfl rfl rfl ?_
              refine xr_cps rfl rfl rfl (fun r1 K2 => h2 _ _ _ _ r1 hm (K2 _ _ _ _ ?_))
              refine xs_istv hk hg (by omega) (by omega) rfl (fun W hk hf1 => ?_)
              have hm := hf1.at hm hMK
              have hF := hF.tr2 hf1 (fun _ e => Or.inl e)
              refine xr_stp rfl rfl rfl rfl ?_
              refine xs_inc (e := 1) rfl rfl rfl rfl ?_
              refine xr_stp rfl rfl rfl rfl ?_
              exact k _ _ hk hF (Or.inr (Or.inr ⟨_, _, rfl⟩))
        · exact absurd (nf_ne (by omega) (by omega) h155) (by omega)
      · exact absurd (nf_ne (by omega) (by omega) h129) (by omega)
    · exact absurd (nf_ne (by omega) (by omega) h95) (by omega)
  · exact absurd (nf_ne (by omega) (by omega) h81) (by omega)
theorem tx_ofTwo (d c s T M K w : Nat) (W0 : xi_W) (g : Nat → Int32) (F : Nat → Nat) (hk : W0[K]? = some (lw_s 64 g)) (hg : 17 ≤ K) (hm : W0[M]? = some (lw_i 14 F)) (hMK : M ≠ K) (n t z p x : Nat) (ht : t < 62) (o : Nat) (ho : o = 29 ∨ o = 30 ∨ o = 31 ∨ o = 32) (h1 : ∀ (d c s : Nat) (W : xi_W) (r : xi_R → Prop), r (some (.int (Int32.ofNat 0)), W, c, s) → xr d 70 0 [(0, .int (Int32.ofNat o))] [] W c s r) (V : Int32) (h2 : ∀ (d c s : Nat) (W : xi_W) (r : xi_R → Prop), r (some (.int V), W, c, s) → xr d 72 0 [(0, .int (Int32.ofNat o)), (1, .int (g t)), (2, .int (g (t + 1)))] [] W c s r) (r : xi_R → Prop) (k : ∀ W' L', W'[K]? = some (lw_s 64 (upd g t (V))) → fr (· = K) W0 W' → tx_L T M K w (n + 1) (t + 1) z (p + 1) L' → xr (d + 1) 69 28 L' [] W' c s r) : xr (d + 1) 69 77 [(4, .int (Int32.ofNat (p + 1))), (9, .int (Int32.ofNat x)), (8, .int (Int32.ofNat o)), (7, .int (Int32.ofNat n)), (6, .int (Int32.ofNat ((t + 1 + 1)))), (5, .int (Int32.ofNat z)), (0, .ref T), (1, .int (Int32.ofNat w)), (2, .ref M), (3, .ref K)] [] W0 c s r := by
  have hF : fr (· = K) W0 W0 := fr.rf
  refine xr_stp rfl rfl rfl rfl ?_
  refine xr_stp (st' := .int (Int32.ofNat 44) :: _) rfl rfl rfl rfl ?_
  refine xr_j2 rfl rfl rfl rfl rfl (fun h81 => ?_) (fun h81 => ?_)
  · refine xr_stp rfl rfl rfl rfl ?_
    refine xr_stp (st' := .int (Int32.ofNat 43) :: _) rfl rfl rfl rfl ?_
    refine xr_j2 rfl rfl rfl rfl rfl (fun h95 => ?_) (fun h95 => ?_)
    · refine xr_stp rfl rfl rfl rfl ?_
      refine xr_stp (st' := .int (Int32.ofNat 38) :: _) rfl rfl rfl rfl ?_
      refine xr_j2 rfl rfl rfl rfl rfl (fun h129 => ?_) (fun h129 => ?_)
      · refine xr_stp rfl rfl rfl rfl ?_
        refine xr_stp (st' := .int (Int32.ofNat 41) :: _) rfl rfl rfl rfl ?_
        refine xr_j2 rfl rfl rfl rfl rfl (fun h155 => ?_) (fun h155 => ?_)
        · refine xr_stp rfl rfl rfl rfl ?_
          refine xr_cps rfl rfl rfl (fun r1 K2 => h1 _ _ _ _ r1 (K2 _ _ _ _ ?_))
          refine xr_j1 rfl rfl rfl rfl rfl (fun h196 => ?_) (fun h196 => ?_)
          · refine xr_stp rfl rfl rfl rfl ?_
            refine xr_stp (st' := .int (Int32.ofNat 1) :: _) rfl rfl rfl rfl ?_
            refine xr_j2 rfl rfl rfl rfl rfl (fun h228 => ?_) (fun h228 => ?_)
            · exact absurd (nt_le (by omega) (by omega) h228) (by omega)
            · refine xs_dec rfl rfl rfl ?_
              refine xr_stp rfl rfl rfl rfl ?_
              refine xr_stp rfl rfl rfl rfl ?_
              refine xr_stp (st' := .int (Int32.ofNat 1) :: _) rfl rfl rfl rfl ?_
              refine xs_pred rfl ?_
              refine xr_stp rfl rfl rfl rfl ?_
              refine xr_stp rfl rfl rfl rfl ?_
              refine xr_stp rfl rfl rfl rfl ?_
              refine xr_stp (st' := .int (Int32.ofNat 1) :: _) rfl rfl rfl rfl ?_
              refine xs_pred rfl ?_
              refine xs_sld hk (by omega) (by omega) rfl ?_
              refine xr_stp rfl rfl rfl rfl ?_
              refine xr_stp rfl rfl rfl rfl ?_
              refine xs_sld hk (by omega) (by omega) rfl ?_
              refine xr_cps rfl rfl rfl (fun r1 K2 => h2 _ _ _ _ r1 (K2 _ _ _ _ ?_))
              refine xs_istv hk hg (by omega) (by omega) rfl (fun W hk hf1 => ?_)
              have hm := hf1.at hm hMK
              have hF := hF.tr2 hf1 (fun _ e => Or.inl e)
              refine xs_inc (e := 1) rfl rfl rfl rfl ?_
              refine xr_stp rfl rfl rfl rfl ?_
              exact k _ _ hk hF (Or.inr (Or.inl ⟨_, _, rfl⟩))
          · exact absurd h196 (by decide +kernel)
        · exact absurd (nf_ne (by omega) (by omega) h155) (by omega)
      · exact absurd (nf_ne (by omega) (by omega) h129) (by omega)
    · exact absurd (nf_ne (by omega) (by omega) h95) (by omega)
  · exact absurd (nf_ne (by omega) (by omega) h81) (by omega)
