/-! methods of the class over empty rows -/
def cz (F : Nat → Nat) : Prop := (∀ j, F (16 * j + 0) = 0) ∧ (∀ j, F (16 * j + 1) = 0) ∧ (∀ j, F (16 * j + 2) = 0)
theorem cz_he {F : Nat → Nat} (h : cz F) (x t q f : Nat) : cn_he F x t q f = 0 := by
  unfold cn_he
  refine if_neg (fun e => e.2.1 ?_)
  rw [h.2.1, Nat.zero_div]
  rfl
theorem cz_ok {F : Nat → Nat} (h : cz F) (x : Nat) : cn_ok F x := ⟨fun k _ => by rw [h.2.1]; omega, fun t _ => by rw [h.2.2]; omega⟩
theorem cz_mo {F : Nat → Nat} (h : cz F) (x q f : Nat) : ∀ (m t n : Nat), cn_mo F x q f m t n = n
  | 0, _, _ => rfl
  | m + 1, t, n => by
    unfold cn_mo
    have e : n + cn_he F x t q f = n := by rw [cz_he h]; rfl
    rw [e]
    exact cz_mo h x q f m (t + 1) n
theorem xn_uz (F : Nat → Nat) {k v : Nat} (h : F k = v) : xn_u F k v = F := by
  funext j
  unfold xn_u
  split
  · rename_i e; rw [e, h]
  · rfl
theorem cz_wz {F : Nat → Nat} (h : cz F) : ∀ (m k : Nat), cn_wz m k F = F
  | 0, _ => rfl
  | m + 1, k => by
    unfold cn_wz
    rw [xn_uz F (h.1 k), xn_uz F (h.2.1 k)]
    exact cz_wz h m (k + 1)
theorem cz_ga {F : Nat → Nat} (h : cz F) (y x q f : Nat) : ∀ (m t : Nat), cn_ga y x q f m t F = F
  | 0, _ => rfl
  | m + 1, t => by
    unfold cn_ga
    rw [if_pos (cz_he h x t q f)]
    exact cz_ga h y x q f m (t + 1)
theorem cz_mg {F : Nat → Nat} (h : cz F) (X Y : Nat) : ∀ (m k : Nat), cn_mg X Y m k F = F
  | 0, _ => rfl
  | m + 1, k => by
    unfold cn_mg
    have e : cn_m2 F (X * 4 + k) (Y * 4 + k) = F := by
      unfold cn_m2
      have e1 : cn_m1 F (X * 4 + k) (Y * 4 + k) = F := by
        unfold cn_m1
        exact xn_uz F (by rw [h.1, h.1]; rfl)
      rw [e1]
      exact xn_uz F (by rw [h.2.1, h.1, Nat.zero_and])
    rw [e]
    exact cz_mg h X Y m (k + 1)
theorem cz_nthL {b : xi_W} {I : Nat → Nat} {R : Nat × List Value} (B : cn_B b I R) (d c s : Nat) (F : Nat → Nat) (z : cz F) (x q f : Nat) (n : Int32) (hx : x < 55) (hq : q < 4294967296) (hf : f < 4294967296) : ∀ (m t : Nat), t + m = 256 → xg (d + 2) 17 6 [(6, .int (Int32.ofNat t)), (5, .int (Int32.ofNat 0)), (0, .ref (I 1)), (1, .int (Int32.ofNat x)), (2, .int (Int32.ofNat q)), (3, .int (Int32.ofNat f)), (4, .int n)] [] (cn_w b I F) c s (some (.int (Int32.ofNat (4294967295))), cn_w b I F, c, s)
  | 0, t, hm => by
    refine xg_stp rfl rfl rfl rfl ?_
    refine xg_stp rfl rfl rfl rfl ?_
    refine xg_getfield (cn_g1 B _) rfl rfl rfl rfl ?_
    refine cn_al B rfl ?_
    refine xg_j2 rfl rfl rfl rfl rfl (fun h13 => ?_) (fun h13 => ?_)
    · refine xg_stp (st' := .int (Int32.ofNat 4294967295) :: _) rfl rfl rfl rfl ?_
      exact xg_ret rfl rfl
    · exact absurd (nf_ge (by omega) (by omega) h13) (by omega)
  | m + 1, t, hm => by
    refine xg_stp rfl rfl rfl rfl ?_
    refine xg_stp rfl rfl rfl rfl ?_
    refine xg_getfield (cn_g1 B _) rfl rfl rfl rfl ?_
    refine cn_al B rfl ?_
    refine xg_j2 rfl rfl rfl rfl rfl (fun h13 => ?_) (fun h13 => ?_)
    · exact absurd (nt_ge (by omega) (by omega) h13) (by omega)
    · refine xg_stp rfl rfl rfl rfl ?_
      refine xg_stp rfl rfl rfl rfl ?_
      refine xg_stp rfl rfl rfl rfl ?_
      refine xg_stp rfl rfl rfl rfl ?_
      refine xg_stp rfl rfl rfl rfl ?_
      refine xg_vcall (cn_g1 B _) rfl rfl rfl rfl rfl rfl (by have e := cn_hasEntry B d F 0 0 x t q f hx (by omega) hq hf (by rw [z.2.1]; omega) (by rw [z.2.2]; omega); rw [cz_he z] at e; exact e) ?_
      refine xg_j1 rfl rfl rfl rfl rfl (fun h25 => ?_) (fun h25 => ?_)
      · refine xn_inc (e := 1) rfl rfl rfl rfl ?_
        refine xg_stp rfl rfl rfl rfl ?_
        exact cz_nthL B d c s F z x q f n hx hq hf m (t + 1) (by omega)
      · exact absurd rfl (nf1_eq h25)
theorem cz_totalL {b : xi_W} {I : Nat → Nat} {R : Nat × List Value} (B : cn_B b I R) (d c s : Nat) (F : Nat → Nat) (z : cz F) (x q : Nat) (hx : x < 55) (hq : q < 4294967296) : ∀ (m t : Nat), t + m = 256 → xg (d + 2) 19 5 [(4, .int (Int32.ofNat t)), (3, .int (Int32.ofNat 0)), (0, .ref (I 1)), (1, .int (Int32.ofNat x)), (2, .int (Int32.ofNat q))] [] (cn_w b I F) c s (some (.int (Int32.ofNat (0))), cn_w b I F, c, s)
  | 0, t, hm => by
    refine xg_stp rfl rfl rfl rfl ?_
    refine xg_stp rfl rfl rfl rfl ?_
    refine xg_getfield (cn_g1 B _) rfl rfl rfl rfl ?_
    refine cn_al B rfl ?_
    refine xg_j2 rfl rfl rfl rfl rfl (fun h12 => ?_) (fun h12 => ?_)
    · refine xg_stp rfl rfl rfl rfl ?_
      exact xg_ret rfl rfl
    · exact absurd (nf_ge (by omega) (by omega) h12) (by omega)
  | m + 1, t, hm => by
    refine xg_stp rfl rfl rfl rfl ?_
    refine xg_stp rfl rfl rfl rfl ?_
    refine xg_getfield (cn_g1 B _) rfl rfl rfl rfl ?_
    refine cn_al B rfl ?_
    refine xg_j2 rfl rfl rfl rfl rfl (fun h12 => ?_) (fun h12 => ?_)
    · exact absurd (nt_ge (by omega) (by omega) h12) (by omega)
    · refine xg_stp rfl rfl rfl rfl ?_
      refine xg_stp rfl rfl rfl rfl ?_
      refine xg_stp rfl rfl rfl rfl ?_
      refine xg_stp rfl rfl rfl rfl ?_
      refine xg_stp (st' := .int (Int32.ofNat 4294967295) :: _) rfl rfl rfl rfl ?_
      refine xg_vcall (cn_g1 B _) rfl rfl rfl rfl rfl rfl (by have e := cn_hasEntry B d F 0 0 x t q 4294967295 hx (by omega) hq (by omega) (by rw [z.2.1]; omega) (by rw [z.2.2]; omega); rw [cz_he z] at e; exact e) ?_
      refine xg_j1 rfl rfl rfl rfl rfl (fun h24 => ?_) (fun h24 => ?_)
      · refine xn_inc (e := 1) rfl rfl rfl rfl ?_
        refine xg_stp rfl rfl rfl rfl ?_
        exact cz_totalL B d c s F z x q hx hq m (t + 1) (by omega)
      · exact absurd rfl (nf1_eq h24)
theorem cz_keyBitsL {b : xi_W} {I : Nat → Nat} {R : Nat × List Value} (B : cn_B b I R) (d c s : Nat) (F : Nat → Nat) (z : cz F) (x : Nat) (hx : x < 55) : ∀ (m t : Nat), t + m = 256 → xg (d + 2) 20 4 [(3, .int (Int32.ofNat t)), (2, .int (Int32.ofNat 0)), (0, .ref (I 1)), (1, .int (Int32.ofNat x))] [] (cn_w b I F) c s (some (.int (Int32.ofNat (0))), cn_w b I F, c, s)
  | 0, t, hm => by
    refine xg_stp rfl rfl rfl rfl ?_
    refine xg_stp rfl rfl rfl rfl ?_
    refine xg_getfield (cn_g1 B _) rfl rfl rfl rfl ?_
    refine cn_al B rfl ?_
    refine xg_j2 rfl rfl rfl rfl rfl (fun h10 => ?_) (fun h10 => ?_)
    · refine xg_stp rfl rfl rfl rfl ?_
      exact xg_ret rfl rfl
    · exact absurd (nf_ge (by omega) (by omega) h10) (by omega)
  | m + 1, t, hm => by
    refine xg_stp rfl rfl rfl rfl ?_
    refine xg_stp rfl rfl rfl rfl ?_
    refine xg_getfield (cn_g1 B _) rfl rfl rfl rfl ?_
    refine cn_al B rfl ?_
    refine xg_j2 rfl rfl rfl rfl rfl (fun h10 => ?_) (fun h10 => ?_)
    · exact absurd (nt_ge (by omega) (by omega) h10) (by omega)
    · refine xg_stp rfl rfl rfl rfl ?_
      refine xg_stp rfl rfl rfl rfl ?_
      refine xg_stp rfl rfl rfl rfl ?_
      refine xg_stp (st' := .int (Int32.ofNat 4294967295) :: _) rfl rfl rfl rfl ?_
      refine xg_stp (st' := .int (Int32.ofNat 4294967295) :: _) rfl rfl rfl rfl ?_
      refine xg_vcall (cn_g1 B _) rfl rfl rfl rfl rfl rfl (by have e := cn_hasEntry B d F 0 0 x t 4294967295 4294967295 hx (by omega) (by omega) (by omega) (by rw [z.2.1]; omega) (by rw [z.2.2]; omega); rw [cz_he z] at e; exact e) ?_
      refine xg_j1 rfl rfl rfl rfl rfl (fun h21 => ?_) (fun h21 => ?_)
      · refine xn_inc (e := 1) rfl rfl rfl rfl ?_
        refine xg_stp rfl rfl rfl rfl ?_
        exact cz_keyBitsL B d c s F z x hx m (t + 1) (by omega)
      · exact absurd rfl (nf1_eq h21)
theorem cz_digestOfL {b : xi_W} {I : Nat → Nat} {R : Nat × List Value} (B : cn_B b I R) (d c s : Nat) (F : Nat → Nat) (z : cz F) (x : Nat) (hx : x < 55) : ∀ (m t : Nat), t + m = 256 → xg (d + 2) 21 4 [(3, .int (Int32.ofNat t)), (2, .int (Int32.ofNat 0)), (0, .ref (I 1)), (1, .int (Int32.ofNat x))] [] (cn_w b I F) c s (some (.int (Int32.ofNat (0))), cn_w b I F, c, s)
  | 0, t, hm => by
    refine xg_stp rfl rfl rfl rfl ?_
    refine xg_stp rfl rfl rfl rfl ?_
    refine xg_getfield (cn_g1 B _) rfl rfl rfl rfl ?_
    refine cn_al B rfl ?_
    refine xg_j2 rfl rfl rfl rfl rfl (fun h10 => ?_) (fun h10 => ?_)
    · refine xg_stp rfl rfl rfl rfl ?_
      exact xg_ret rfl rfl
    · exact absurd (nf_ge (by omega) (by omega) h10) (by omega)
  | m + 1, t, hm => by
    refine xg_stp rfl rfl rfl rfl ?_
    refine xg_stp rfl rfl rfl rfl ?_
    refine xg_getfield (cn_g1 B _) rfl rfl rfl rfl ?_
    refine cn_al B rfl ?_
    refine xg_j2 rfl rfl rfl rfl rfl (fun h10 => ?_) (fun h10 => ?_)
    · exact absurd (nt_ge (by omega) (by omega) h10) (by omega)
    · refine xg_stp rfl rfl rfl rfl ?_
      refine xg_stp rfl rfl rfl rfl ?_
      refine xg_stp rfl rfl rfl rfl ?_
      refine xg_stp (st' := .int (Int32.ofNat 4294967295) :: _) rfl rfl rfl rfl ?_
      refine xg_stp (st' := .int (Int32.ofNat 4294967295) :: _) rfl rfl rfl rfl ?_
      refine xg_vcall (cn_g1 B _) rfl rfl rfl rfl rfl rfl (by have e := cn_hasEntry B d F 0 0 x t 4294967295 4294967295 hx (by omega) (by omega) (by omega) (by rw [z.2.1]; omega) (by rw [z.2.2]; omega); rw [cz_he z] at e; exact e) ?_
      refine xg_j1 rfl rfl rfl rfl rfl (fun h21 => ?_) (fun h21 => ?_)
      · refine xn_inc (e := 1) rfl rfl rfl rfl ?_
        refine xg_stp rfl rfl rfl rfl ?_
        exact cz_digestOfL B d c s F z x hx m (t + 1) (by omega)
      · exact absurd rfl (nf1_eq h21)
theorem cz_nth {b : xi_W} {I : Nat → Nat} {R : Nat × List Value} (B : cn_B b I R) (d c s : Nat) (F : Nat → Nat) (z : cz F) (x q f : Nat) (n : Int32) (hx : x < 55) (hq : q < 4294967296) (hf : f < 4294967296) : xg (d + 2) 17 0 [(0, .ref (I 1)), (1, .int (Int32.ofNat x)), (2, .int (Int32.ofNat q)), (3, .int (Int32.ofNat f)), (4, .int n)] [] (cn_w b I F) c s (some (.int (Int32.ofNat (4294967295))), cn_w b I F, c, s) := by
  refine xg_stp (st' := .int (Int32.ofNat 0) :: _) rfl rfl rfl rfl ?_
  refine xg_stp rfl rfl rfl rfl ?_
  refine xg_stp (st' := .int (Int32.ofNat 0) :: _) rfl rfl rfl rfl ?_
  refine xg_stp rfl rfl rfl rfl ?_
  exact cz_nthL B d c s F z x q f n hx hq hf 256 0 rfl
theorem cz_total {b : xi_W} {I : Nat → Nat} {R : Nat × List Value} (B : cn_B b I R) (d c s : Nat) (F : Nat → Nat) (z : cz F) (x q : Nat) (hx : x < 55) (hq : q < 4294967296) : xg (d + 2) 19 0 [(0, .ref (I 1)), (1, .int (Int32.ofNat x)), (2, .int (Int32.ofNat q))] [] (cn_w b I F) c s (some (.int (Int32.ofNat (0))), cn_w b I F, c, s) := by
  refine xg_stp (st' := .int (Int32.ofNat 0) :: _) rfl rfl rfl rfl ?_
  refine xg_stp rfl rfl rfl rfl ?_
  refine xg_stp (st' := .int (Int32.ofNat 0) :: _) rfl rfl rfl rfl ?_
  refine xg_stp rfl rfl rfl rfl ?_
  exact cz_totalL B d c s F z x q hx hq 256 0 rfl
theorem cz_keyBits {b : xi_W} {I : Nat → Nat} {R : Nat × List Value} (B : cn_B b I R) (d c s : Nat) (F : Nat → Nat) (z : cz F) (x : Nat) (hx : x < 55) : xg (d + 2) 20 0 [(0, .ref (I 1)), (1, .int (Int32.ofNat x))] [] (cn_w b I F) c s (some (.int (Int32.ofNat (0))), cn_w b I F, c, s) := by
  refine xg_stp (st' := .int (Int32.ofNat 0) :: _) rfl rfl rfl rfl ?_
  refine xg_stp rfl rfl rfl rfl ?_
  refine xg_stp (st' := .int (Int32.ofNat 0) :: _) rfl rfl rfl rfl ?_
  refine xg_stp rfl rfl rfl rfl ?_
  exact cz_keyBitsL B d c s F z x hx 256 0 rfl
theorem cz_digestOf {b : xi_W} {I : Nat → Nat} {R : Nat × List Value} (B : cn_B b I R) (d c s : Nat) (F : Nat → Nat) (z : cz F) (x : Nat) (hx : x < 55) : xg (d + 2) 21 0 [(0, .ref (I 1)), (1, .int (Int32.ofNat x))] [] (cn_w b I F) c s (some (.int (Int32.ofNat (0))), cn_w b I F, c, s) := by
  refine xg_stp (st' := .int (Int32.ofNat 0) :: _) rfl rfl rfl rfl ?_
  refine xg_stp rfl rfl rfl rfl ?_
  refine xg_stp (st' := .int (Int32.ofNat 0) :: _) rfl rfl rfl rfl ?_
  refine xg_stp rfl rfl rfl rfl ?_
  exact cz_digestOfL B d c s F z x hx 256 0 rfl
theorem cz_isKnown {b : xi_W} {I : Nat → Nat} {R : Nat × List Value} (B : cn_B b I R) (d c s : Nat) (F : Nat → Nat) (z : cz F) (x r n : Nat) (hx : x < 55) (hr : r < 4) (hn : 0 < n) (hn2 : n < 64) : xg d 11 0 [(0, .ref (I 1)), (1, .int (Int32.ofNat x)), (2, .int (Int32.ofNat r)), (3, .int (Int32.ofNat n))] [] (cn_w b I F) c s (some (.int (Int32.ofNat (0))), cn_w b I F, c, s) := by
  have e0 := z.1 (x * 4 + r)
  refine xg_stp rfl rfl rfl rfl ?_
  refine xg_getfield (cn_g1 B _) rfl rfl rfl rfl ?_
  refine xg_stp rfl rfl rfl rfl ?_
  refine xg_stp (st' := .int (Int32.ofNat 4) :: _) rfl rfl rfl rfl ?_
  refine xn_mul rfl ?_
  refine xg_stp rfl rfl rfl rfl ?_
  refine xn_add rfl ?_
  refine cn_ld3 B (by omega) rfl ?_
  refine xg_stp rfl rfl rfl rfl ?_
  refine xg_stp (st' := .int (Int32.ofNat 1) :: _) rfl rfl rfl rfl ?_
  refine xn_sub (by omega) rfl ?_
  refine xn_lshr (by rw [e0]; omega) (by omega) rfl ?_
  refine xg_stp (st' := .long (Int64.ofNat 1) :: _) rfl rfl rfl rfl ?_
  refine xn_land rfl ?_
  refine xg_stp (st' := .long (Int64.ofNat 0) :: _) rfl rfl rfl rfl ?_
  refine xn_lcmp (by exact Nat.lt_of_le_of_lt Nat.and_le_right (by omega)) (by omega) rfl (fun e17 g17 => ?_)
  refine xg_j1 rfl rfl rfl rfl rfl (fun h18 => ?_) (fun h18 => ?_)
  · refine xg_stp (st' := .int (Int32.ofNat 0) :: _) rfl rfl rfl rfl ?_
    exact xg_ret rfl rfl
  · refine absurd ?_ (nd_eq g17 h18)
    rw [e0, Nat.zero_div]
    rfl
theorem cz_many {b : xi_W} {I : Nat → Nat} {R : Nat × List Value} (B : cn_B b I R) (d c s : Nat) (F : Nat → Nat) (z : cz F) (x q f : Nat) (hx : x < 55) (hq : q < 4294967296) (hf : f < 4294967296) : xg (d + 2) 16 0 [(0, .ref (I 1)), (1, .int (Int32.ofNat x)), (2, .int (Int32.ofNat q)), (3, .int (Int32.ofNat f))] [] (cn_w b I F) c s (some (.int (Int32.ofNat (0))), cn_w b I F, c, s) := by
  have e := cn_many B d F c s x q f hx hq hf (cz_ok z x)
  rw [cz_mo z] at e
  exact e
theorem cz_gather {b : xi_W} {I : Nat → Nat} {R : Nat × List Value} (B : cn_B b I R) (d c s : Nat) (F : Nat → Nat) (z : cz F) (y x q f : Nat) (hy : y < 55) (hx : x < 55) (hq : q < 4294967296) (hf : f < 4294967296) (hxy : x ≠ y) : xg (d + 2) 22 0 [(0, .ref (I 1)), (1, .int (Int32.ofNat y)), (2, .int (Int32.ofNat x)), (3, .int (Int32.ofNat q)), (4, .int (Int32.ofNat f))] [] (cn_w b I F) c s (none, cn_w b I F, c, s) := by
  have e := cn_gather B d F c s y x q f hy hx hq hf hxy (cz_ok z x)
  unfold cn_gat at e
  rw [cz_wz z, cz_ga z] at e
  exact e
theorem cz_merge {b : xi_W} {I : Nat → Nat} {R : Nat × List Value} (B : cn_B b I R) (d c s : Nat) (F : Nat → Nat) (z : cz F) (X Y : Nat) (hX : X < 55) (hY : Y < 55) : xg d 5 0 [(0, .ref (I 1)), (1, .int (Int32.ofNat X)), (2, .int (Int32.ofNat Y))] [] (cn_w b I F) c s (none, cn_w b I F, c, s) := by
  have e := cn_merge B d F c s X Y hX hY
  rw [cz_mg z] at e
  exact e
