/-! YEARS on a fresh object: the reference, and both -/
/-- 'isIn' -/
theorem rf_isIn1 {b : xi_W} {O A : Nat} {o : Nat × List Value} (B : rf_B b O A o) (d : Nat) (F : Nat → Nat) (c s : Nat) (v p q : Nat) (h1 : p ≤ v) (h2 : v ≤ q) (hq : q < 2147483648) : xg (d) 159 0 ([(0, .int (Int32.ofNat v)), (1, .int (Int32.ofNat p)), (2, .int (Int32.ofNat q))]) [] (rf_w b A F) c s (some (.int (Int32.ofNat (1))), rf_w b A (F), c, s) := by
  refine xg_stp rfl rfl rfl rfl ?_
  refine xg_stp rfl rfl rfl rfl ?_
  refine xg_j2 rfl rfl rfl rfl rfl (fun g2 => ?_) (fun g2 => ?_)
  · exact absurd (nt_lt (by omega) (by omega) g2) (by omega)
  · refine xg_stp rfl rfl rfl rfl ?_
    refine xg_stp rfl rfl rfl rfl ?_
    refine xg_j2 rfl rfl rfl rfl rfl (fun h7 => ?_) (fun h7 => ?_)
    · exact absurd (nt_gt (by omega) (by omega) h7) (by omega)
    · refine xg_stp (st' := .int (Int32.ofNat 1) :: _) rfl rfl rfl rfl ?_
      refine xg_stp rfl rfl rfl rfl ?_
      exact xg_ret rfl rfl
/-- 'stepAt' -/
theorem rf_stepAt {b : xi_W} {O A : Nat} {o : Nat × List Value} (B : rf_B b O A o) (d : Nat) (F : Nat → Nat) (c s : Nat) (p q : Nat) (h : p + q < 2147483648) : xg (d) 263 0 ([(0, .int (Int32.ofNat p)), (1, .int (Int32.ofNat q))]) [] (rf_w b A F) c s (some (.int (Int32.ofNat (3372 + 3163 * ((p + q) % 30)))), rf_w b A (F), c, s) := by
  refine xg_stp (st' := .int (Int32.ofNat 3372) :: _) rfl rfl rfl rfl ?_
  refine xg_stp (st' := .int (Int32.ofNat 3163) :: _) rfl rfl rfl rfl ?_
  refine xg_stp rfl rfl rfl rfl ?_
  refine xg_stp rfl rfl rfl rfl ?_
  refine xn_add rfl ?_
  refine xg_stp (st' := .int (Int32.ofNat 30) :: _) rfl rfl rfl rfl ?_
  refine xn_mod (by omega) (by omega) (by omega) rfl ?_
  refine xn_mul rfl ?_
  refine xn_add rfl ?_
  exact xg_ret rfl rfl
/-- a step is kept: m numbers from the k-th on -/
def rf_kp (X : Nat) : Nat → Nat → (Nat → Nat) → (Nat → Nat)
  | 0, _, F => F
  | m + 1, k, F => rf_kp X m (k + 1) (xn_u F (X + k) (F (6 + k)))
theorem rf_kpo (X : Nat) : ∀ (m k : Nat) (F : Nat → Nat) (j : Nat), j < X + k → rf_kp X m k F j = F j
  | 0, _, _, _, _ => rfl
  | m + 1, k, F, j, h => by
    unfold rf_kp
    rw [rf_kpo X m (k + 1) _ j (by omega), xn_un _ _ (by omega)]
theorem rf_kpL {b : xi_W} {O A : Nat} {o : Nat × List Value} (B : rf_B b O A o) (d : Nat) (c s : Nat) (X : Nat) (hX : X + 3163 ≤ 98262) (Q : xi_R) : ∀ (m k : Nat) (F : Nat → Nat), k + m = 3163 → xg d 264 86 [(2, .int (Int32.ofNat (3163))), (1, .int (Int32.ofNat X)), (0, .ref O)] [] (rf_w b A (rf_kp X m k F)) c s Q → xg d 264 56 [(2, .int (Int32.ofNat (k))), (1, .int (Int32.ofNat X)), (0, .ref O)] [] (rf_w b A F) c s Q
  | 0, k, F, hm, hk => by
    have e0 : k = 3163 := by omega
    subst e0
    refine xg_stp rfl rfl rfl rfl ?_
    refine xg_stp (st' := .int (Int32.ofNat 3163) :: _) rfl rfl rfl rfl ?_
    refine xg_j2 rfl rfl rfl rfl rfl (fun h60 => ?_) (fun h60 => ?_)
    · exact hk
    · exact absurd (nf_ge (by omega) (by omega) h60) (by omega)
  | m + 1, k, F, hm, hk => by
    unfold rf_kp at hk
    refine xg_stp rfl rfl rfl rfl ?_
    refine xg_stp (st' := .int (Int32.ofNat 3163) :: _) rfl rfl rfl rfl ?_
    refine xg_j2 rfl rfl rfl rfl rfl (fun h60 => ?_) (fun h60 => ?_)
    · exact absurd (nt_ge (by omega) (by omega) h60) (by omega)
    · refine xg_stp rfl rfl rfl rfl ?_
      refine rf_fa B rfl rfl ?_
      refine xg_stp rfl rfl rfl rfl ?_
      refine xg_stp rfl rfl rfl rfl ?_
      refine xn_add rfl ?_
      refine xg_stp rfl rfl rfl rfl ?_
      refine rf_fa B rfl rfl ?_
      refine xg_stp (st' := .int (Int32.ofNat 6) :: _) rfl rfl rfl rfl ?_
      refine xg_stp rfl rfl rfl rfl ?_
      refine xn_add rfl ?_
      refine rf_ld B (by omega) rfl ?_
      refine rf_sto B (by omega) rfl ?_
      refine xn_inc (e := 1) rfl rfl rfl rfl ?_
      refine xg_stp rfl rfl rfl rfl ?_
      exact rf_kpL B d c s X hX Q m (k + 1) _ (by omega) hk
def rf_kep (F : Nat → Nat) : Nat → Nat := xn_u (rf_kp (3372 + 3163 * ((F 4 + F 2) % 30)) 3163 0 F) 2 (rf_kp (3372 + 3163 * ((F 4 + F 2) % 30)) 3163 0 F 2 + 1)
/-- 'keep' -/
theorem rf_keep {b : xi_W} {O A : Nat} {o : Nat × List Value} (B : rf_B b O A o) (d : Nat) (F : Nat → Nat) (c s : Nat) (h4 : F 4 < 30) (h2 : F 2 < 30) : xg (d + 1) 264 0 ([(0, .ref O)]) [] (rf_w b A F) c s (none, rf_w b A (rf_kep F), c, s) := by
  refine xg_stp rfl rfl rfl rfl ?_
  refine rf_fa B rfl rfl ?_
  refine xg_stp (st' := .int (Int32.ofNat 2) :: _) rfl rfl rfl rfl ?_
  refine rf_ld B (by omega) rfl ?_
  refine xg_stp (st' := .int (Int32.ofNat 30) :: _) rfl rfl rfl rfl ?_
  refine xg_j2 rfl rfl rfl rfl rfl (fun h8 => ?_) (fun h8 => ?_)
  · refine xg_stp rfl rfl rfl rfl ?_
    refine rf_fa B rfl rfl ?_
    refine xg_stp (st' := .int (Int32.ofNat 4) :: _) rfl rfl rfl rfl ?_
    refine rf_ld B (by omega) rfl ?_
    refine xg_stp rfl rfl rfl rfl ?_
    refine rf_fa B rfl rfl ?_
    refine xg_stp (st' := .int (Int32.ofNat 2) :: _) rfl rfl rfl rfl ?_
    refine rf_ld B (by omega) rfl ?_
    refine xg_call rfl rfl rfl (rf_stepAt B d F 0 0 (F 4) (F 2) (by omega)) ?_
    refine xg_stp rfl rfl rfl rfl ?_
    refine xg_stp (st' := .int (Int32.ofNat 0) :: _) rfl rfl rfl rfl ?_
    refine xg_stp rfl rfl rfl rfl ?_
    refine rf_kpL B (d + 1) c s (3372 + 3163 * ((F 4 + F 2) % 30)) (by omega) _ 3163 0 F rfl ?_
    refine xg_stp rfl rfl rfl rfl ?_
    refine rf_fa B rfl rfl ?_
    refine xg_stp (st' := .int (Int32.ofNat 2) :: _) rfl rfl rfl rfl ?_
    refine xg_stp rfl rfl rfl rfl ?_
    refine rf_ld B (by omega) rfl ?_
    refine xg_stp (st' := .int (Int32.ofNat 1) :: _) rfl rfl rfl rfl ?_
    refine xn_add rfl ?_
    refine rf_sto B (by omega) rfl ?_
    exact xg_ret rfl rfl
  · exact absurd (nf_ne (by omega) (by omega) h8) (by omega)
def rf_y1 (F : Nat → Nat) (s0 : Nat) : Nat → Nat := xn_u (rf_kep F) 7 (s0 * 2 + 509)
/-- 'years' of the reference -/
theorem rf_years {b : xi_W} {O A : Nat} {o : Nat × List Value} (B : rf_B b O A o) (h23 : 24 ≤ o.2.length) (d : Nat) (F : Nat → Nat) (n s0 n0 : Nat) (hs : s0 ≤ 9999) (hn1 : 1 ≤ n0) (hn : n0 ≤ 24) (h4 : F 4 < 30) (h2 : F 2 < 30) (hk : rf_yrk n0 0 (rf_y1 F s0)) :
    ∃ n', xg (d + 6) 276 0 [(0, .ref O), (1, .int (Int32.ofNat s0)), (2, .int (Int32.ofNat n0))] [] (rf_w (rf_o b O o n) A F) 0 0 (some (.int (Int32.ofNat (rf_yr n0 0 (rf_y1 F s0) 6))), rf_w (rf_o b O o n') A (rf_yr n0 0 (rf_y1 F s0)), 0, 0) := by
  have B1 := rf_Bo B n
  obtain ⟨n', hr⟩ := rf_yrL B h23 d 0 0 s0 n0 (by omega) n0 0 n (rf_y1 F s0) _ (by omega) hk (Or.inl rfl)
  refine ⟨n', ?_⟩
  refine xg_stp rfl rfl rfl rfl ?_
  refine xg_stp (st' := .int (Int32.ofNat 0) :: _) rfl rfl rfl rfl ?_
  refine xg_stp (st' := .int (Int32.ofNat 9999) :: _) rfl rfl rfl rfl ?_
  refine xg_call rfl rfl rfl (rf_isIn1 B1 (d + 5) F 0 0 s0 0 9999 (by omega) hs (by omega)) ?_
  refine xg_j1 rfl rfl rfl rfl rfl (fun h8 => ?_) (fun h8 => ?_)
  · exact absurd (nt1_eq (a := 1) (by omega) h8) (by omega)
  · refine xg_stp rfl rfl rfl rfl ?_
    refine xg_stp (st' := .int (Int32.ofNat 1) :: _) rfl rfl rfl rfl ?_
    refine xg_stp (st' := .int (Int32.ofNat 24) :: _) rfl rfl rfl rfl ?_
    refine xg_call rfl rfl rfl (rf_isIn1 B1 (d + 5) F 0 0 n0 1 24 hn1 hn (by omega)) ?_
    refine xg_j1 rfl rfl rfl rfl rfl (fun h18 => ?_) (fun h18 => ?_)
    · refine xg_stp rfl rfl rfl rfl ?_
      refine rf_call B1 rfl rfl rfl rfl rfl rfl (rf_keep B1 (d + 4) F 0 0 h4 h2) ?_
      refine xg_stp rfl rfl rfl rfl ?_
      refine rf_fa B1 rfl rfl ?_
      refine xg_stp (st' := .int (Int32.ofNat 7) :: _) rfl rfl rfl rfl ?_
      refine xg_stp rfl rfl rfl rfl ?_
      refine xg_stp (st' := .int (Int32.ofNat 2) :: _) rfl rfl rfl rfl ?_
      refine xn_mul rfl ?_
      refine xg_stp (st' := .int (Int32.ofNat 509) :: _) rfl rfl rfl rfl ?_
      refine xn_add rfl ?_
      refine rf_sto B1 (by omega) rfl ?_
      refine xg_stp (st' := .int (Int32.ofNat 0) :: _) rfl rfl rfl rfl ?_
      refine xg_stp rfl rfl rfl rfl ?_
      exact hr
    · exact absurd (nf1_ne (a := 1) (by omega) h18) (by omega)
def ry_F : Nat → Nat := fun k => if k = 5 then 2 else if k = 1 then 4294967295 else if k = 7 then 509 else 0
/-- the fresh objects tell the same -/
theorem ry_rl (s0 : Nat) (hs : s0 ≤ 9999) : rl 0 1 0 (fun _ => 0) (rf_y1 ry_F s0) (cy_y0 s0) := by
  have kp : ∀ j, j < 3372 → j ≠ 2 → rf_kep ry_F j = ry_F j := fun j h1 h2 => by
    unfold rf_kep
    rw [xn_un _ _ h2]
    exact rf_kpo _ 3163 0 ry_F j (by omega)
  have fo : ∀ j, j < 3372 → j ≠ 2 → j ≠ 7 → rf_y1 ry_F s0 j = ry_F j := fun j h1 h2 h3 => by
    unfold rf_y1
    rw [xn_un _ _ h3]; exact kp j h1 h2
  have fz : ∀ j, j < 3372 → j ≠ 1 → j ≠ 2 → j ≠ 5 → j ≠ 7 → rf_y1 ry_F s0 j = 0 := fun j h1 h2 h3 h4 h5 => by
    rw [fo j h1 h3 h5]
    unfold ry_F
    rw [if_neg h4, if_neg h2, if_neg h5]
  have f7 : rf_y1 ry_F s0 7 = s0 * 2 + 509 := xn_ue _ _ _
  have g56 : cy_y0 s0 56 = s0 * 2 + 509 := xn_ue _ _ _
  have gz : ∀ j, j ≠ 56 → cy_y0 s0 j = 0 := fun j hj => by
    unfold cy_y0
    rw [xn_un _ _ hj]
    unfold cy_F
    rw [if_neg hj]
  have g8 : cy_y0 s0 8 = 0 := gz 8 (by omega)
  refine ⟨Nat.le_refl 0, by omega, ⟨?_, ?_, ?_, ?_, ?_, ?_, ?_, ?_, ?_, ?_⟩, fun r hr => ?_, fun r q hr hq => ?_, fun r hr => ?_, fun u hu => ?_, fun x hx => ?_, fun r hr => ?_, fun i hi => ?_, fun i j hij hj => ?_⟩
  · rw [fo 1 (by omega) (by omega) (by omega)]; rfl
  · rw [fo 5 (by omega) (by omega) (by omega)]; rfl
  · rw [fz 6 (by omega) (by omega) (by omega) (by omega) (by omega), gz 40 (by omega)]
  · rw [f7, g56]
  · rw [f7]; omega
  · rw [fz 10 (by omega) (by omega) (by omega) (by omega) (by omega)]; omega
  · rw [gz 24 (by omega)]; omega
  · rw [fz 11 (by omega) (by omega) (by omega) (by omega) (by omega), g8]
  · rw [g8]; omega
  · rw [gz 40 (by omega)]; omega
  · unfold rl_m
    rw [fz (12 + r) (by omega) (by omega) (by omega) (by omega) (by omega), fz (16 + r) (by omega) (by omega) (by omega) (by omega) (by omega), gz (16 * r + 4) (by omega), gz (16 * r + 5) (by omega)]
    omega
  · rw [fz _ (by omega) (by omega) (by omega) (by omega) (by omega), gz _ (by omega), gz _ (by omega)]
    omega
  · by_cases e : r = 0
    · exact ⟨1, by omega, by omega, by rw [gz _ (by omega), gz _ (by omega)]; omega⟩
    · exact ⟨0, by omega, by omega, by rw [gz _ (by omega), gz _ (by omega)]; omega⟩
  · rw [gz _ (by omega)]; omega
  · exact rr_zero (fun s hs => ⟨gz _ (by omega), gz _ (by omega)⟩) (fun k hk => fz _ (by omega) (by omega) (by omega) (by omega) (by omega))
  · rw [gz _ (by omega)]; rfl
  · rw [g8] at hi; omega
  · rw [g8] at hj; omega
def ry_o : Nat × List Value := (7, [.ref 671, .ref 672, .ref 673, .ref 674, .int 0, .int (-1), .int (-1), .int 0, .int 0, .int 0, .int 0, .long 0, .int 0, .int 0, .int 0, .ref 675, .int 0, .int 0, .int 0, .int 0, .ref 676, .ref 677, .ref 678, .int 0, .ref 679])
theorem set_same {l : xi_W} {i : Nat} {x : xi_O} (h : l[i]? = some x) : l.set i x = l := by
  apply List.ext_getElem?
  intro k
  by_cases e : i = k
  · subst e
    have hi : i < l.length := by
      rcases Nat.lt_or_ge i l.length with g | g
      · exact g
      · rw [List.getElem?_eq_none g] at h; cases h
    rw [List.getElem?_set_self hi, h]
  · rw [List.getElem?_set_ne e]
/-- YEARS: both answer the same on fresh objects -/
theorem yr_same {W : xi_W} (hW : ag_w (wq, [], 680) W) (s0 n0 : Nat) (hs : s0 ≤ 9999) (hn1 : 1 ≤ n0) (hn : n0 ≤ 24) :
    ∃ v W2 W3, xg 21 108 0 [(0, .ref 0), (1, .int (Int32.ofNat s0)), (2, .int (Int32.ofNat n0))] [] W 0 0 (some (.int v), W2, 0, 0) ∧ xg 21 276 0 [(0, .ref 670), (1, .int (Int32.ofNat s0)), (2, .int (Int32.ofNat n0))] [] W2 0 0 (some (.int v), W3, 0, 0) := by
  have hrl := ry_rl s0 hs
  obtain ⟨nn, k1, k2, k3⟩ := rl_years n0 0 0 (fun _ => 0) (rf_y1 ry_F s0) (cy_y0 s0) (by omega) hrl (by omega)
  obtain ⟨W2, r1, r2, r3⟩ := cy_years hW s0 n0 hs hn1 hn nn k2
  have ho : W2[670]? = some (.inr ry_o) := by
    obtain ⟨o, h1, FS, h2, h3⟩ := r3 670 _ (by decide) (by omega) (show wq 670 = some (.inr (7, ry_o.2.map Sum.inl)) from rfl)
    rw [h1, h2, ag_sx _ FS h3]
    rfl
  have ha : W2[671]? = some (.inl (.int, 98262, .inl (xn_f ry_F))) := by
    obtain ⟨o, h1, f, h2, h3⟩ := r3 671 _ (by decide) (by omega) (show wq 671 = some (.inl (.inl (.int, 98262, .inl (.int 0), [(5, .inl (.int 2)), (1, .inl (.int (-1))), (7, .inl (.int 509))]))) from rfl)
    have e : f = xn_f ry_F := by
      funext k
      have h4 := h3 k
      unfold xn_f ry_F
      by_cases e5 : k = 5
      · subst e5; exact Value.int.inj h4
      · by_cases e1 : k = 1
        · subst e1; exact Value.int.inj h4
        · by_cases e7 : k = 7
          · subst e7; exact Value.int.inj h4
          · rw [if_neg e5, if_neg e1, if_neg e7]
            have hb : ∀ m, k ≠ m → Nat.beq m k = false := fun m hm => ag_beqF.mpr (fun e => hm e.symm)
            have er : ab_rd (Sum.inl (Value.int 0) : ab_V) [(5, .inl (.int 2)), (1, .inl (.int (-1))), (7, .inl (.int 509))] k = Sum.inl (Value.int 0) := by
              simp only [ab_rd, hb 5 e5, hb 1 e1, hb 7 e7, cond_false]
            rw [er] at h4
            exact Value.int.inj h4
    rw [h1, h2, e]
  have B : rf_B W2 670 671 ry_o := ⟨ho, by omega, by decide, rfl, rfl⟩
  obtain ⟨n', hr⟩ := rf_years B (by decide) 15 ry_F 0 s0 n0 hs hn1 hn (by decide) (by decide) k1
  have e1 : rf_w (rf_o W2 670 ry_o 0) 671 ry_F = W2 := by
    have e2 : rf_o W2 670 ry_o 0 = W2 := set_same ho
    rw [e2]
    exact set_same ha
  rw [e1, k3] at hr
  exact ⟨_, W2, _, r1, hr⟩
