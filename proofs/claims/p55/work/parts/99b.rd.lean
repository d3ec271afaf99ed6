/-! the Reader: its object, the tape, 'advance' -/
def rO (n st nx tk nu fa pl mn pa cd lw : Nat) : xi_O := .inr (1, [.ref 19, .int (Int32.ofNat n), .int (Int32.ofNat st), .int (Int32.ofNat nx), .int (Int32.ofNat tk), .int (Int32.ofNat nu), .int (Int32.ofNat fa), .int (Int32.ofNat pl), .ref 20, .int (Int32.ofNat mn), .int (Int32.ofNat pa), .ref 21, .int (Int32.ofNat cd), .ref 22, .int (Int32.ofNat lw)])
def isl (c : Nat) : Prop := (97 ≤ c ∧ c ≤ 122) ∨ (65 ≤ c ∧ c ≤ 90)
def isg (c : Nat) : Prop := 48 ≤ c ∧ c ≤ 57
theorem rd_byte (d c s at_ n st nx tk nu fa pl mn pa cd lw : Nat) (tp : Nat → Nat) (W : xi_W) (hO : W[18]? = some (rO n st nx tk nu fa pl mn pa cd lw)) (hT : W[19]? = some (lw_b 300 tp)) (h1 : at_ < n) (h2 : n ≤ 300) (h3 : tp at_ < 128) (r : xi_R → Prop) (K : r (some (.int (Int32.ofNat (tp at_))), W, c, s)) : xr d 45 0 [(0, .ref 18), (1, .int (Int32.ofNat at_))] [] W c s r := by
  refine xr_stp rfl rfl rfl rfl ?_
  refine xr_j1 rfl rfl rfl rfl rfl (fun h1 => ?_) (fun h1 => ?_)
  · have z1 := n_lt0 h1
    exact (by omega)
  · refine xr_stp rfl rfl rfl rfl ?_
    refine xr_stp rfl rfl rfl rfl ?_
    refine xr_getfield hO rfl rfl rfl rfl ?_
    refine xr_j2 rfl rfl rfl rfl rfl (fun h9 => ?_) (fun h9 => ?_)
    · have z9 := nt_ge (by omega) (by omega) h9
      exact (by omega)
    · refine xr_stp rfl rfl rfl rfl ?_
      refine xr_getfield hO rfl rfl rfl rfl ?_
      refine xr_stp rfl rfl rfl rfl ?_
      refine xs_bld hT (by omega) (by omega) rfl ?_
      refine xr_stp (st' := .int (Int32.ofNat 255) :: _) rfl rfl rfl rfl ?_
      refine xs_and rfl ?_
      rw [and255 h3]
      refine xr_stp rfl rfl rfl rfl ?_
      exact xr_ret rfl rfl K
theorem rd_let1 (d c s x : Nat) (W : xi_W) (hx : x < 128) (h : isl x) (r : xi_R → Prop) (K : r (some (.int (Int32.ofNat 1)), W, c, s)) : xr d 46 0 [(0, .int (Int32.ofNat x))] [] W c s r := by
  refine xr_stp rfl rfl rfl rfl ?_
  refine xr_stp (st' := .int (Int32.ofNat 97) :: _) rfl rfl rfl rfl ?_
  refine xr_j2 rfl rfl rfl rfl rfl (fun h3 => ?_) (fun h3 => ?_)
  · have z3 := nt_lt (by omega) (by omega) h3
    refine xr_stp rfl rfl rfl rfl ?_
    refine xr_stp (st' := .int (Int32.ofNat 65) :: _) rfl rfl rfl rfl ?_
    refine xr_j2 rfl rfl rfl rfl rfl (fun h15 => ?_) (fun h15 => ?_)
    · have z15 := nt_lt (by omega) (by omega) h15
      exact False.elim (by unfold isl at h; omega)
    · have z15 := nf_lt (by omega) (by omega) h15
      refine xr_stp rfl rfl rfl rfl ?_
      refine xr_stp (st' := .int (Int32.ofNat 90) :: _) rfl rfl rfl rfl ?_
      refine xr_j2 rfl rfl rfl rfl rfl (fun h21 => ?_) (fun h21 => ?_)
      · have z21 := nt_gt (by omega) (by omega) h21
        exact False.elim (by unfold isl at h; omega)
      · have z21 := nf_gt (by omega) (by omega) h21
        refine xr_stp (st' := .int (Int32.ofNat 1) :: _) rfl rfl rfl rfl ?_
        refine xr_stp rfl rfl rfl rfl ?_
        exact xr_retb (by omega) rfl rfl K
  · have z3 := nf_lt (by omega) (by omega) h3
    refine xr_stp rfl rfl rfl rfl ?_
    refine xr_stp (st' := .int (Int32.ofNat 122) :: _) rfl rfl rfl rfl ?_
    refine xr_j2 rfl rfl rfl rfl rfl (fun h9 => ?_) (fun h9 => ?_)
    · have z9 := nt_le (by omega) (by omega) h9
      refine xr_stp (st' := .int (Int32.ofNat 1) :: _) rfl rfl rfl rfl ?_
      refine xr_stp rfl rfl rfl rfl ?_
      exact xr_retb (by omega) rfl rfl K
    · have z9 := nf_le (by omega) (by omega) h9
      refine xr_stp rfl rfl rfl rfl ?_
      refine xr_stp (st' := .int (Int32.ofNat 65) :: _) rfl rfl rfl rfl ?_
      refine xr_j2 rfl rfl rfl rfl rfl (fun h15 => ?_) (fun h15 => ?_)
      · have z15 := nt_lt (by omega) (by omega) h15
        exact False.elim (by unfold isl at h; omega)
      · have z15 := nf_lt (by omega) (by omega) h15
        refine xr_stp rfl rfl rfl rfl ?_
        refine xr_stp (st' := .int (Int32.ofNat 90) :: _) rfl rfl rfl rfl ?_
        refine xr_j2 rfl rfl rfl rfl rfl (fun h21 => ?_) (fun h21 => ?_)
        · have z21 := nt_gt (by omega) (by omega) h21
          exact False.elim (by unfold isl at h; omega)
        · have z21 := nf_gt (by omega) (by omega) h21
          refine xr_stp (st' := .int (Int32.ofNat 1) :: _) rfl rfl rfl rfl ?_
          refine xr_stp rfl rfl rfl rfl ?_
          exact xr_retb (by omega) rfl rfl K
theorem rd_let0 (d c s x : Nat) (W : xi_W) (hx : x < 128) (h : ¬ isl x) (r : xi_R → Prop) (K : r (some (.int (Int32.ofNat 0)), W, c, s)) : xr d 46 0 [(0, .int (Int32.ofNat x))] [] W c s r := by
  refine xr_stp rfl rfl rfl rfl ?_
  refine xr_stp (st' := .int (Int32.ofNat 97) :: _) rfl rfl rfl rfl ?_
  refine xr_j2 rfl rfl rfl rfl rfl (fun h3 => ?_) (fun h3 => ?_)
  · have z3 := nt_lt (by omega) (by omega) h3
    refine xr_stp rfl rfl rfl rfl ?_
    refine xr_stp (st' := .int (Int32.ofNat 65) :: _) rfl rfl rfl rfl ?_
    refine xr_j2 rfl rfl rfl rfl rfl (fun h15 => ?_) (fun h15 => ?_)
    · have z15 := nt_lt (by omega) (by omega) h15
      refine xr_stp (st' := .int (Int32.ofNat 0) :: _) rfl rfl rfl rfl ?_
      exact xr_retb (by omega) rfl rfl K
    · have z15 := nf_lt (by omega) (by omega) h15
      refine xr_stp rfl rfl rfl rfl ?_
      refine xr_stp (st' := .int (Int32.ofNat 90) :: _) rfl rfl rfl rfl ?_
      refine xr_j2 rfl rfl rfl rfl rfl (fun h21 => ?_) (fun h21 => ?_)
      · have z21 := nt_gt (by omega) (by omega) h21
        refine xr_stp (st' := .int (Int32.ofNat 0) :: _) rfl rfl rfl rfl ?_
        exact xr_retb (by omega) rfl rfl K
      · have z21 := nf_gt (by omega) (by omega) h21
        exact False.elim (by unfold isl at h; omega)
  · have z3 := nf_lt (by omega) (by omega) h3
    refine xr_stp rfl rfl rfl rfl ?_
    refine xr_stp (st' := .int (Int32.ofNat 122) :: _) rfl rfl rfl rfl ?_
    refine xr_j2 rfl rfl rfl rfl rfl (fun h9 => ?_) (fun h9 => ?_)
    · have z9 := nt_le (by omega) (by omega) h9
      exact False.elim (by unfold isl at h; omega)
    · have z9 := nf_le (by omega) (by omega) h9
      refine xr_stp rfl rfl rfl rfl ?_
      refine xr_stp (st' := .int (Int32.ofNat 65) :: _) rfl rfl rfl rfl ?_
      refine xr_j2 rfl rfl rfl rfl rfl (fun h15 => ?_) (fun h15 => ?_)
      · have z15 := nt_lt (by omega) (by omega) h15
        refine xr_stp (st' := .int (Int32.ofNat 0) :: _) rfl rfl rfl rfl ?_
        exact xr_retb (by omega) rfl rfl K
      · have z15 := nf_lt (by omega) (by omega) h15
        refine xr_stp rfl rfl rfl rfl ?_
        refine xr_stp (st' := .int (Int32.ofNat 90) :: _) rfl rfl rfl rfl ?_
        refine xr_j2 rfl rfl rfl rfl rfl (fun h21 => ?_) (fun h21 => ?_)
        · have z21 := nt_gt (by omega) (by omega) h21
          refine xr_stp (st' := .int (Int32.ofNat 0) :: _) rfl rfl rfl rfl ?_
          exact xr_retb (by omega) rfl rfl K
        · have z21 := nf_gt (by omega) (by omega) h21
          exact False.elim (by unfold isl at h; omega)
theorem rd_dig1 (d c s x : Nat) (W : xi_W) (hx : x < 128) (h : isg x) (r : xi_R → Prop) (K : r (some (.int (Int32.ofNat 1)), W, c, s)) : xr d 47 0 [(0, .int (Int32.ofNat x))] [] W c s r := by
  unfold isg at h
  refine xr_stp rfl rfl rfl rfl ?_
  refine xr_stp (st' := .int (Int32.ofNat 48) :: _) rfl rfl rfl rfl ?_
  refine xr_j2 rfl rfl rfl rfl rfl (fun h3 => ?_) (fun h3 => ?_)
  · have z3 := nt_lt (by omega) (by omega) h3
    exact (by omega)
  · refine xr_stp rfl rfl rfl rfl ?_
    refine xr_stp (st' := .int (Int32.ofNat 57) :: _) rfl rfl rfl rfl ?_
    refine xr_j2 rfl rfl rfl rfl rfl (fun h9 => ?_) (fun h9 => ?_)
    · have z9 := nt_gt (by omega) (by omega) h9
      exact (by omega)
    · refine xr_stp (st' := .int (Int32.ofNat 1) :: _) rfl rfl rfl rfl ?_
      refine xr_stp rfl rfl rfl rfl ?_
      exact xr_retb (by omega) rfl rfl K
theorem rd_dig0 (d c s x : Nat) (W : xi_W) (hx : x < 128) (h : ¬ isg x) (r : xi_R → Prop) (K : r (some (.int (Int32.ofNat 0)), W, c, s)) : xr d 47 0 [(0, .int (Int32.ofNat x))] [] W c s r := by
  unfold isg at h
  refine xr_stp rfl rfl rfl rfl ?_
  refine xr_stp (st' := .int (Int32.ofNat 48) :: _) rfl rfl rfl rfl ?_
  refine xr_j2 rfl rfl rfl rfl rfl (fun h3 => ?_) (fun h3 => ?_)
  · have z3 := nt_lt (by omega) (by omega) h3
    refine xr_stp (st' := .int (Int32.ofNat 0) :: _) rfl rfl rfl rfl ?_
    exact xr_retb (by omega) rfl rfl K
  · have z3 := nf_lt (by omega) (by omega) h3
    refine xr_stp rfl rfl rfl rfl ?_
    refine xr_stp (st' := .int (Int32.ofNat 57) :: _) rfl rfl rfl rfl ?_
    refine xr_j2 rfl rfl rfl rfl rfl (fun h9 => ?_) (fun h9 => ?_)
    · have z9 := nt_gt (by omega) (by omega) h9
      refine xr_stp (st' := .int (Int32.ofNat 0) :: _) rfl rfl rfl rfl ?_
      exact xr_retb (by omega) rfl rfl K
    · have z9 := nf_gt (by omega) (by omega) h9
      exact False.elim (by omega)
def wbf (tp : Nat → Nat) (st kk : Nat) : Nat → Nat → Nat → Nat → Nat
  | 0, _, _, _ => 40
  | k + 1, i, w, m => if kb 0 i = 32 then (if m = kk then w else wbf tp st kk k (i + 1) (w + 1) 0) else if m < kk ∧ tp (st + m) = kb 0 i then wbf tp st kk k (i + 1) w (m + 1) else wbf tp st kk k (i + 1) w 4294967295
theorem wbf_c {tp g : Nat → Nat} {st kk : Nat} (h : ∀ m, m < kk → tp (st + m) = g m) : ∀ (k i w m : Nat), wbf tp st kk k i w m = wbf g 0 kk k i w m
  | 0, _, _, _ => rfl
  | k + 1, i, w, m => by
    unfold wbf
    rw [wbf_c h k (i + 1) (w + 1) 0, wbf_c h k (i + 1) w (m + 1), wbf_c h k (i + 1) w 4294967295, Nat.zero_add]
    by_cases e : m < kk
    · rw [h m e]
    · by_cases c32 : kb 0 i = 32
      · rw [if_pos c32, if_pos c32]
      · rw [if_neg c32, if_neg c32, if_neg (fun z => e z.1), if_neg (fun z => e z.1)]
theorem rd_wbL (d c s kk n st nx tk nu fa pl mn pa cd lw : Nat) (tp : Nat → Nat) (W : xi_W)  (hO : W[18]? = some (rO n st nx tk nu fa pl mn pa cd lw)) (hT : W[19]? = some (lw_b 300 tp)) (h2 : n ≤ 300) (hb : ∀ j, j < n → tp j < 128) (hs : st + kk < n) (hkc : kc W) (r : xi_R → Prop) : ∀ (k i w m : Nat), i + k = 123 → (m < 300 ∨ m = 4294967295) → r (some (.int (Int32.ofNat (wbf tp st kk k i w m))), W, c, s) → xr (d + 4) 51 8 [(0, .ref 18), (1, .int (Int32.ofNat st)), (2, .int (Int32.ofNat (st + kk))), (3, .int (Int32.ofNat w)), (4, .int (Int32.ofNat m)), (5, .int (Int32.ofNat i))] [] W c s r
  | 0, i, w, m, hi, hm, K => by
    unfold wbf at K
    obtain rfl : i = 123 := by omega
    refine xr_stp rfl rfl rfl rfl ?_
    refine xr_stp rfl rfl rfl rfl ?_
    refine xr_vcps (hkc 0 (by omega)).1 rfl rfl rfl rfl rfl rfl (fun r1 K2 => sc_len _ _ _ 0 W hkc (by omega) r1 (K2 _ _ _ _ ?_))
    refine xr_to (st' := .int (Int32.ofNat 123) :: _) rfl ?_
    refine xr_j2 rfl rfl rfl rfl rfl (fun h15 => ?_) (fun h15 => ?_)
    · refine xr_stp (st' := .int (Int32.ofNat 40) :: _) rfl rfl rfl rfl ?_
      exact xr_ret rfl rfl K
    · have z15 := nf_ge (by omega) (by omega) h15
      exact (by omega)
  | k + 1, i, w, m, hi, hm, K => by
    unfold wbf at K
    have hki := (kbE 0 (by omega) i (show i < 123 by omega)).2
    refine xr_stp rfl rfl rfl rfl ?_
    refine xr_stp rfl rfl rfl rfl ?_
    refine xr_vcps (hkc 0 (by omega)).1 rfl rfl rfl rfl rfl rfl (fun r1 K2 => sc_len _ _ _ 0 W hkc (by omega) r1 (K2 _ _ _ _ ?_))
    refine xr_to (st' := .int (Int32.ofNat 123) :: _) rfl ?_
    refine xr_j2 rfl rfl rfl rfl rfl (fun h15 => ?_) (fun h15 => ?_)
    · have z15 := nt_ge (by omega) (by omega) h15
      exact (by omega)
    · refine xr_stp rfl rfl rfl rfl ?_
      refine xr_stp rfl rfl rfl rfl ?_
      refine xr_vcps (hkc 0 (by omega)).1 rfl rfl rfl rfl rfl rfl (fun r1 K2 => sc_at _ _ _ i 0 W hkc (by omega) (show i < 123 by omega) r1 (K2 _ _ _ _ ?_))
      refine xr_stp rfl rfl rfl rfl ?_
      refine xr_stp rfl rfl rfl rfl ?_
      refine xr_stp (st' := .int (Int32.ofNat 32) :: _) rfl rfl rfl rfl ?_
      refine xr_j2 rfl rfl rfl rfl rfl (fun h31 => ?_) (fun h31 => ?_)
      · have z31 := nt_ne h31
        rw [if_neg z31] at K
        by_cases hm9 : m = 4294967295
        · subst hm9
          rw [if_neg (show ¬ ((4294967295 : Nat) < kk ∧ tp (st + 4294967295) = kb 0 i) by omega)] at K
          refine xr_stp rfl rfl rfl rfl ?_
          refine xr_j1 rfl rfl rfl rfl rfl (fun h55 => ?_) (fun h55 => ?_)
          · refine xr_stp (st' := .int (Int32.ofNat 4294967295) :: _) rfl rfl rfl rfl ?_
            refine xr_stp rfl rfl rfl rfl ?_
            refine xs_inc (e := 1) rfl rfl rfl rfl ?_
            refine xr_stp rfl rfl rfl rfl ?_
            refine xr_loc [(0, .ref 18), (1, .int (Int32.ofNat st)), (2, .int (Int32.ofNat (st + kk))), (3, .int (Int32.ofNat w)), (4, .int (Int32.ofNat 4294967295)), (5, .int (Int32.ofNat (i + 1)))] ⟨rfl, rfl, rfl, rfl, rfl, rfl, trivial⟩ rfl ?_
            exact rd_wbL d c s kk n st nx tk nu fa pl mn pa cd lw tp W hO hT h2 hb hs hkc r k (i + 1) _ _ (by omega) (by omega) K
          · exact absurd h55 (by decide +kernel)
        · refine xr_stp rfl rfl rfl rfl ?_
          refine xr_j1 rfl rfl rfl rfl rfl (fun h55 => ?_) (fun h55 => ?_)
          · have z55 := n_lt0 h55
            exact (by omega)
          · refine xr_stp rfl rfl rfl rfl ?_
            refine xr_stp rfl rfl rfl rfl ?_
            refine xr_stp rfl rfl rfl rfl ?_
            refine xs_sub (by omega) rfl ?_
            refine xr_j2 rfl rfl rfl rfl rfl (fun h63 => ?_) (fun h63 => ?_)
            · have z63 := nt_ge (by omega) (by omega) h63
              rw [if_neg (show ¬ (m < kk ∧ tp (st + m) = kb 0 i) by omega)] at K
              refine xr_stp (st' := .int (Int32.ofNat 4294967295) :: _) rfl rfl rfl rfl ?_
              refine xr_stp rfl rfl rfl rfl ?_
              refine xs_inc (e := 1) rfl rfl rfl rfl ?_
              refine xr_stp rfl rfl rfl rfl ?_
              refine xr_loc [(0, .ref 18), (1, .int (Int32.ofNat st)), (2, .int (Int32.ofNat (st + kk))), (3, .int (Int32.ofNat w)), (4, .int (Int32.ofNat 4294967295)), (5, .int (Int32.ofNat (i + 1)))] ⟨rfl, rfl, rfl, rfl, rfl, rfl, trivial⟩ rfl ?_
              exact rd_wbL d c s kk n st nx tk nu fa pl mn pa cd lw tp W hO hT h2 hb hs hkc r k (i + 1) _ _ (by omega) (by omega) K
            · have z63 := nf_ge (by omega) (by omega) h63
              have hb1 := hb (st + m) (by omega)
              refine xr_stp rfl rfl rfl rfl ?_
              refine xr_getfield hO rfl rfl rfl rfl ?_
              refine xr_stp rfl rfl rfl rfl ?_
              refine xr_stp rfl rfl rfl rfl ?_
              refine xs_add rfl ?_
              refine xs_bld hT (by omega) (by omega) rfl ?_
              refine xr_stp rfl rfl rfl rfl ?_
              refine xr_j2 rfl rfl rfl rfl rfl (fun h77 => ?_) (fun h77 => ?_)
              · have z77 := nt_ne h77
                rw [if_neg (show ¬ (m < kk ∧ tp (st + m) = kb 0 i) by omega)] at K
                refine xr_stp (st' := .int (Int32.ofNat 4294967295) :: _) rfl rfl rfl rfl ?_
                refine xr_stp rfl rfl rfl rfl ?_
                refine xs_inc (e := 1) rfl rfl rfl rfl ?_
                refine xr_stp rfl rfl rfl rfl ?_
                refine xr_loc [(0, .ref 18), (1, .int (Int32.ofNat st)), (2, .int (Int32.ofNat (st + kk))), (3, .int (Int32.ofNat w)), (4, .int (Int32.ofNat 4294967295)), (5, .int (Int32.ofNat (i + 1)))] ⟨rfl, rfl, rfl, rfl, rfl, rfl, trivial⟩ rfl ?_
                exact rd_wbL d c s kk n st nx tk nu fa pl mn pa cd lw tp W hO hT h2 hb hs hkc r k (i + 1) _ _ (by omega) (by omega) K
              · have z77 := nf_ne (by omega) (by omega) h77
                rw [if_pos (show m < kk ∧ tp (st + m) = kb 0 i from ⟨by omega, z77⟩)] at K
                refine xs_inc (e := 1) rfl rfl rfl rfl ?_
                refine xr_stp rfl rfl rfl rfl ?_
                refine xs_inc (e := 1) rfl rfl rfl rfl ?_
                refine xr_stp rfl rfl rfl rfl ?_
                refine xr_loc [(0, .ref 18), (1, .int (Int32.ofNat st)), (2, .int (Int32.ofNat (st + kk))), (3, .int (Int32.ofNat w)), (4, .int (Int32.ofNat (m + 1))), (5, .int (Int32.ofNat (i + 1)))] ⟨rfl, rfl, rfl, rfl, rfl, rfl, trivial⟩ rfl ?_
                exact rd_wbL d c s kk n st nx tk nu fa pl mn pa cd lw tp W hO hT h2 hb hs hkc r k (i + 1) _ _ (by omega) (by omega) K
      · have z31 := nf_ne (by omega) (by omega) h31
        rw [if_pos z31] at K
        refine xr_stp rfl rfl rfl rfl ?_
        refine xr_stp rfl rfl rfl rfl ?_
        refine xr_stp rfl rfl rfl rfl ?_
        refine xs_sub (by omega) rfl ?_
        refine xr_j2 rfl rfl rfl rfl rfl (fun h39 => ?_) (fun h39 => ?_)
        · have z39 := nt_ne h39
          rw [if_neg (by omega)] at K
          refine xs_inc (e := 1) rfl rfl rfl rfl ?_
          refine xr_stp (st' := .int (Int32.ofNat 0) :: _) rfl rfl rfl rfl ?_
          refine xr_stp rfl rfl rfl rfl ?_
          refine xr_stp rfl rfl rfl rfl ?_
          refine xs_inc (e := 1) rfl rfl rfl rfl ?_
          refine xr_stp rfl rfl rfl rfl ?_
          refine xr_loc [(0, .ref 18), (1, .int (Int32.ofNat st)), (2, .int (Int32.ofNat (st + kk))), (3, .int (Int32.ofNat (w + 1))), (4, .int (Int32.ofNat 0)), (5, .int (Int32.ofNat (i + 1)))] ⟨rfl, rfl, rfl, rfl, rfl, rfl, trivial⟩ rfl ?_
          exact rd_wbL d c s kk n st nx tk nu fa pl mn pa cd lw tp W hO hT h2 hb hs hkc r k (i + 1) _ _ (by omega) (by omega) K
        · have z39 := nf_ne (by omega) (by omega) h39
          rw [if_pos (by omega)] at K
          refine xr_stp rfl rfl rfl rfl ?_
          exact xr_ret rfl rfl K
theorem rd_wb (d c s kk n st nx tk nu fa pl mn pa cd lw : Nat) (tp : Nat → Nat) (W : xi_W)  (hO : W[18]? = some (rO n st nx tk nu fa pl mn pa cd lw)) (hT : W[19]? = some (lw_b 300 tp)) (h2 : n ≤ 300) (hb : ∀ j, j < n → tp j < 128) (hs : st + kk < n) (hkc : kc W) (r : xi_R → Prop) (K : r (some (.int (Int32.ofNat (wbf tp st kk 123 0 0 0))), W, c, s)) : xr (d + 4) 51 0 [(0, .ref 18), (1, .int (Int32.ofNat st)), (2, .int (Int32.ofNat (st + kk)))] [] W c s r := by
  refine xr_stp (st' := .int (Int32.ofNat 0) :: _) rfl rfl rfl rfl ?_
  refine xr_stp rfl rfl rfl rfl ?_
  refine xr_stp (st' := .int (Int32.ofNat 0) :: _) rfl rfl rfl rfl ?_
  refine xr_stp rfl rfl rfl rfl ?_
  refine xr_stp (st' := .int (Int32.ofNat 0) :: _) rfl rfl rfl rfl ?_
  refine xr_stp rfl rfl rfl rfl ?_
  refine xr_loc [(0, .ref 18), (1, .int (Int32.ofNat st)), (2, .int (Int32.ofNat (st + kk))), (3, .int (Int32.ofNat 0)), (4, .int (Int32.ofNat 0)), (5, .int (Int32.ofNat 0))] ⟨rfl, rfl, rfl, rfl, rfl, rfl, trivial⟩ rfl ?_
  exact rd_wbL d c s kk n st nx tk nu fa pl mn pa cd lw tp W hO hT h2 hb hs hkc r 123 0 0 0 rfl (Or.inl (by omega)) K
