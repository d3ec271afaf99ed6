/-! the class: dots and entries of a row, what is set and cleared -/
def cn_b1 (x : Int64) : Int64 := x - ((x.toUInt64 >>> ((Int32.ofNat 1).toInt64.toUInt64 &&& Int64.toUInt64 63)).toInt64 &&& Int64.ofNat 6148914691236517205)
def cn_b2 (x : Int64) : Int64 := (x &&& Int64.ofNat 3689348814741910323) + ((x.toUInt64 >>> ((Int32.ofNat 2).toInt64.toUInt64 &&& Int64.toUInt64 63)).toInt64 &&& Int64.ofNat 3689348814741910323)
def cn_b3 (x : Int64) : Int64 := (x + (x.toUInt64 >>> ((Int32.ofNat 4).toInt64.toUInt64 &&& Int64.toUInt64 63)).toInt64) &&& Int64.ofNat 1085102592571150095
def cn_b4 (k : Nat) (x : Int64) : Int64 := x + (x.toUInt64 >>> ((Int32.ofNat k).toInt64.toUInt64 &&& Int64.toUInt64 63)).toInt64
/-- how many bits -/
def cn_bc (x : Int64) : Int32 := (cn_b4 32 (cn_b4 16 (cn_b4 8 (cn_b3 (cn_b2 (cn_b1 x)))))).toInt32 &&& Int32.ofNat 127
/-- 'bitCount' -/
theorem cn_bitCount (d : Nat) (w : xi_W) (c s : Nat) (x : Int64) : xg d 156 0 [(0, .long x)] [] w c s (some (.int (cn_bc x)), w, c, s) := by
  refine xg_stp rfl rfl rfl rfl ?_
  refine xg_stp rfl rfl rfl rfl ?_
  refine xg_stp (st' := .int (Int32.ofNat 1) :: _) rfl rfl rfl rfl ?_
  refine xg_stp rfl rfl rfl rfl ?_
  refine xg_stp (st' := .long (Int64.ofNat 6148914691236517205) :: _) rfl rfl rfl rfl ?_
  refine xg_stp rfl rfl rfl rfl ?_
  refine xg_stp rfl rfl rfl rfl ?_
  refine xg_stp rfl rfl rfl rfl ?_
  refine xg_stp rfl rfl rfl rfl ?_
  refine xg_stp (st' := .long (Int64.ofNat 3689348814741910323) :: _) rfl rfl rfl rfl ?_
  refine xg_stp rfl rfl rfl rfl ?_
  refine xg_stp rfl rfl rfl rfl ?_
  refine xg_stp (st' := .int (Int32.ofNat 2) :: _) rfl rfl rfl rfl ?_
  refine xg_stp rfl rfl rfl rfl ?_
  refine xg_stp (st' := .long (Int64.ofNat 3689348814741910323) :: _) rfl rfl rfl rfl ?_
  refine xg_stp rfl rfl rfl rfl ?_
  refine xg_stp rfl rfl rfl rfl ?_
  refine xg_stp rfl rfl rfl rfl ?_
  refine xg_stp rfl rfl rfl rfl ?_
  refine xg_stp rfl rfl rfl rfl ?_
  refine xg_stp (st' := .int (Int32.ofNat 4) :: _) rfl rfl rfl rfl ?_
  refine xg_stp rfl rfl rfl rfl ?_
  refine xg_stp rfl rfl rfl rfl ?_
  refine xg_stp (st' := .long (Int64.ofNat 1085102592571150095) :: _) rfl rfl rfl rfl ?_
  refine xg_stp rfl rfl rfl rfl ?_
  refine xg_stp rfl rfl rfl rfl ?_
  refine xg_stp rfl rfl rfl rfl ?_
  refine xg_stp rfl rfl rfl rfl ?_
  refine xg_stp (st' := .int (Int32.ofNat 8) :: _) rfl rfl rfl rfl ?_
  refine xg_stp rfl rfl rfl rfl ?_
  refine xg_stp rfl rfl rfl rfl ?_
  refine xg_stp rfl rfl rfl rfl ?_
  refine xg_stp rfl rfl rfl rfl ?_
  refine xg_stp rfl rfl rfl rfl ?_
  refine xg_stp (st' := .int (Int32.ofNat 16) :: _) rfl rfl rfl rfl ?_
  refine xg_stp rfl rfl rfl rfl ?_
  refine xg_stp rfl rfl rfl rfl ?_
  refine xg_stp rfl rfl rfl rfl ?_
  refine xg_stp rfl rfl rfl rfl ?_
  refine xg_stp rfl rfl rfl rfl ?_
  refine xg_stp (st' := .int (Int32.ofNat 32) :: _) rfl rfl rfl rfl ?_
  refine xg_stp rfl rfl rfl rfl ?_
  refine xg_stp rfl rfl rfl rfl ?_
  refine xg_stp rfl rfl rfl rfl ?_
  refine xg_stp rfl rfl rfl rfl ?_
  refine xg_stp rfl rfl rfl rfl ?_
  refine xg_stp (st' := .int (Int32.ofNat 127) :: _) rfl rfl rfl rfl ?_
  refine xg_stp rfl rfl rfl rfl ?_
  exact xg_ret rfl rfl
/-- how many entries, as its code goes -/
def cn_en (F : Nat → Nat) : Nat → Nat → Int32 → Int32
  | 0, _, v => v
  | m + 1, k, v => cn_en F m (k + 1) (v + cn_bc (Int64.ofNat (F (16 * k + 1))))
theorem cn_enL {b : xi_W} {I : Nat → Nat} {R : Nat × List Value} (B : cn_B b I R) (d c s : Nat) (F : Nat → Nat) (x : Nat) (hx : x < 55) : ∀ (m k : Nat) (v : Int32), k + m = x * 4 + 4 → xg (d + 1) 7 6 [(3, .int (Int32.ofNat k)), (2, .int v), (0, .ref (I 1)), (1, .int (Int32.ofNat x))] [] (cn_w b I F) c s (some (.int (cn_en F m k v)), cn_w b I F, c, s)
  | 0, k, v, hm => by
    unfold cn_en
    refine xg_stp rfl rfl rfl rfl ?_
    refine xg_stp rfl rfl rfl rfl ?_
    refine xg_stp (st' := .int (Int32.ofNat 1) :: _) rfl rfl rfl rfl ?_
    refine xn_add rfl ?_
    refine xg_stp (st' := .int (Int32.ofNat 4) :: _) rfl rfl rfl rfl ?_
    refine xn_mul rfl ?_
    refine xg_j2 rfl rfl rfl rfl rfl (fun h12 => ?_) (fun h12 => ?_)
    · refine xg_stp rfl rfl rfl rfl ?_
      exact xg_ret rfl rfl
    · exact absurd (nf_ge (by omega) (by omega) h12) (by omega)
  | m + 1, k, v, hm => by
    unfold cn_en
    refine xg_stp rfl rfl rfl rfl ?_
    refine xg_stp rfl rfl rfl rfl ?_
    refine xg_stp (st' := .int (Int32.ofNat 1) :: _) rfl rfl rfl rfl ?_
    refine xn_add rfl ?_
    refine xg_stp (st' := .int (Int32.ofNat 4) :: _) rfl rfl rfl rfl ?_
    refine xn_mul rfl ?_
    refine xg_j2 rfl rfl rfl rfl rfl (fun h12 => ?_) (fun h12 => ?_)
    · exact absurd (nt_ge (by omega) (by omega) h12) (by omega)
    · refine xg_stp rfl rfl rfl rfl ?_
      refine xg_stp rfl rfl rfl rfl ?_
      refine xg_getfield (cn_g1 B _) rfl rfl rfl rfl ?_
      refine xg_stp rfl rfl rfl rfl ?_
      refine cn_ld4 B (by omega) rfl ?_
      refine xg_call rfl rfl rfl (cn_bitCount d _ 0 0 _) ?_
      refine xg_stp rfl rfl rfl rfl ?_
      refine xg_stp rfl rfl rfl rfl ?_
      refine xn_inc (e := 1) rfl rfl rfl rfl ?_
      refine xg_stp rfl rfl rfl rfl ?_
      exact cn_enL B d c s F x hx m (k + 1) _ (by omega)
/-- 'entries' -/
theorem cn_entries {b : xi_W} {I : Nat → Nat} {R : Nat × List Value} (B : cn_B b I R) (d : Nat) (F : Nat → Nat) (c s : Nat) (x : Nat) (hx : x < 55) : xg (d + 1) 7 0 [(0, .ref (I 1)), (1, .int (Int32.ofNat x))] [] (cn_w b I F) c s (some (.int (cn_en F 4 (x * 4) (Int32.ofNat 0))), cn_w b I (F), c, s) := by
  refine xg_stp (st' := .int (Int32.ofNat 0) :: _) rfl rfl rfl rfl ?_
  refine xg_stp rfl rfl rfl rfl ?_
  refine xg_stp rfl rfl rfl rfl ?_
  refine xg_stp (st' := .int (Int32.ofNat 4) :: _) rfl rfl rfl rfl ?_
  refine xn_mul rfl ?_
  refine xg_stp rfl rfl rfl rfl ?_
  exact cn_enL B d c s F x hx 4 (x * 4) _ rfl
theorem cn_vb {n : Nat} (hn : n < 63) : cn_bc (Int64.ofNat ((2 ^ n - 1) ^^^ (2 ^ n - 1 + 1))) - Int32.ofNat 1 = Int32.ofNat n := by
  have h : ∀ q : Fin 63, cn_bc (Int64.ofNat ((2 ^ q.val - 1) ^^^ (2 ^ q.val - 1 + 1))) - Int32.ofNat 1 = Int32.ofNat q.val := by decide +kernel
  exact h ⟨n, hn⟩
/-- 'vector' -/
theorem cn_vector {b : xi_W} {I : Nat → Nat} {R : Nat × List Value} (B : cn_B b I R) (d : Nat) (F : Nat → Nat) (c s : Nat) (x r n : Nat) (hx : x < 55) (hr : r < 4) (hn : n < 63) (hv : F (16 * (x * 4 + r) + 0) = 2 ^ n - 1) : xg (d + 1) 10 0 [(0, .ref (I 1)), (1, .int (Int32.ofNat x)), (2, .int (Int32.ofNat r))] [] (cn_w b I F) c s (some (.int (Int32.ofNat (n))), cn_w b I (F), c, s) := by
  rw [← cn_vb hn, ← hv]
  refine xg_stp rfl rfl rfl rfl ?_
  refine xg_getfield (cn_g1 B _) rfl rfl rfl rfl ?_
  refine xg_stp rfl rfl rfl rfl ?_
  refine xg_stp (st' := .int (Int32.ofNat 4) :: _) rfl rfl rfl rfl ?_
  refine xn_mul rfl ?_
  refine xg_stp rfl rfl rfl rfl ?_
  refine xn_add rfl ?_
  refine cn_ld3 B (by omega) rfl ?_
  refine xg_stp rfl rfl rfl rfl ?_
  refine xg_stp rfl rfl rfl rfl ?_
  refine xg_stp rfl rfl rfl rfl ?_
  refine xg_stp (st' := .long (Int64.ofNat 1) :: _) rfl rfl rfl rfl ?_
  refine xn_ladd rfl ?_
  refine xn_lxor rfl ?_
  refine xg_call rfl rfl rfl (cn_bitCount d _ 0 0 _) ?_
  refine xg_stp (st' := .int (Int32.ofNat 1) :: _) rfl rfl rfl rfl ?_
  refine xg_stp rfl rfl rfl rfl ?_
  exact xg_ret rfl rfl
/-- 'keyOf' -/
theorem cn_keyOf {b : xi_W} {I : Nat → Nat} {R : Nat × List Value} (B : cn_B b I R) (d : Nat) (F : Nat → Nat) (c s : Nat) (t : Nat) (ht : t < 256) (h : F (16 * t + 2) < 2147483648) : xg (d) 13 0 [(0, .ref (I 1)), (1, .int (Int32.ofNat t))] [] (cn_w b I F) c s (some (.int (Int32.ofNat (F (16 * t + 2) / 300))), cn_w b I (F), c, s) := by
  refine xg_stp rfl rfl rfl rfl ?_
  refine xg_getfield (cn_g1 B _) rfl rfl rfl rfl ?_
  refine xg_stp rfl rfl rfl rfl ?_
  refine cn_ld5 B (by omega) rfl ?_
  refine xg_stp (st' := .int (Int32.ofNat 300) :: _) rfl rfl rfl rfl ?_
  refine xn_div (by omega) (by omega) (by omega) rfl ?_
  exact xg_ret rfl rfl
/-- 'fieldOf' -/
theorem cn_fieldOf {b : xi_W} {I : Nat → Nat} {R : Nat × List Value} (B : cn_B b I R) (d : Nat) (F : Nat → Nat) (c s : Nat) (t : Nat) (ht : t < 256) (h : F (16 * t + 2) < 2147483648) : xg (d) 14 0 [(0, .ref (I 1)), (1, .int (Int32.ofNat t))] [] (cn_w b I F) c s (some (.int (Int32.ofNat (F (16 * t + 2) / 100 % 3))), cn_w b I (F), c, s) := by
  refine xg_stp rfl rfl rfl rfl ?_
  refine xg_getfield (cn_g1 B _) rfl rfl rfl rfl ?_
  refine xg_stp rfl rfl rfl rfl ?_
  refine cn_ld5 B (by omega) rfl ?_
  refine xg_stp (st' := .int (Int32.ofNat 100) :: _) rfl rfl rfl rfl ?_
  refine xn_div (by omega) (by omega) (by omega) rfl ?_
  refine xg_stp (st' := .int (Int32.ofNat 3) :: _) rfl rfl rfl rfl ?_
  refine xn_mod (by omega) (by omega) (by omega) rfl ?_
  exact xg_ret rfl rfl
/-- whether a row has the entry of a dot, of a key, of a field (or any) -/
abbrev cn_hp (F : Nat → Nat) (x t q f : Nat) : Prop := 0 < t % 64 ∧ ¬ F (16 * (x * 4 + t / 64) + 1) / 2 ^ (t % 64 - 1) &&& 1 = 0 ∧ (q = 4294967295 ∨ F (16 * t + 2) / 300 = q) ∧ (f = 4294967295 ∨ F (16 * t + 2) / 100 % 3 = f)
def cn_he (F : Nat → Nat) (x t q f : Nat) : Nat := if cn_hp F x t q f then 1 else 0
theorem cn_heb (F : Nat → Nat) (x t q f : Nat) : cn_he F x t q f < 2 := by unfold cn_he; split <;> omega
/-- 'hasEntry' -/
theorem cn_hasEntry {b : xi_W} {I : Nat → Nat} {R : Nat × List Value} (B : cn_B b I R) (d : Nat) (F : Nat → Nat) (c s : Nat) (x t q f : Nat) (hx : x < 55) (ht : t < 256) (hq : q < 4294967296) (hf : f < 4294967296) (hl : F (16 * (x * 4 + t / 64) + 1) < 9223372036854775808) (hc2 : F (16 * t + 2) < 2147483648) : xg (d + 1) 12 0 [(0, .ref (I 1)), (1, .int (Int32.ofNat x)), (2, .int (Int32.ofNat t)), (3, .int (Int32.ofNat q)), (4, .int (Int32.ofNat f))] [] (cn_w b I F) c s (some (.int (Int32.ofNat (cn_he F x t q f))), cn_w b I (F), c, s) := by
  unfold cn_he
  refine xg_stp rfl rfl rfl rfl ?_
  refine xg_stp (st' := .int (Int32.ofNat 64) :: _) rfl rfl rfl rfl ?_
  refine xn_div (by omega) (by omega) (by omega) rfl ?_
  refine xg_stp rfl rfl rfl rfl ?_
  refine xg_stp rfl rfl rfl rfl ?_
  refine xg_stp (st' := .int (Int32.ofNat 64) :: _) rfl rfl rfl rfl ?_
  refine xn_mod (by omega) (by omega) (by omega) rfl ?_
  refine xg_stp rfl rfl rfl rfl ?_
  refine xg_stp rfl rfl rfl rfl ?_
  refine xg_j1 rfl rfl rfl rfl rfl (fun h14 => ?_) (fun h14 => ?_)
  · have e14 := nt1_le (by omega) h14
    rw [if_neg (fun e => absurd e.1 (by omega))]
    refine xg_stp (st' := .int (Int32.ofNat 0) :: _) rfl rfl rfl rfl ?_
    exact xg_ret rfl rfl
  · have e14 := nf1_le (by omega) h14
    refine xg_stp rfl rfl rfl rfl ?_
    refine xg_getfield (cn_g1 B _) rfl rfl rfl rfl ?_
    refine xg_stp rfl rfl rfl rfl ?_
    refine xg_stp (st' := .int (Int32.ofNat 4) :: _) rfl rfl rfl rfl ?_
    refine xn_mul rfl ?_
    refine xg_stp rfl rfl rfl rfl ?_
    refine xn_add rfl ?_
    refine cn_ld4 B (by omega) rfl ?_
    refine xg_stp rfl rfl rfl rfl ?_
    refine xg_stp (st' := .int (Int32.ofNat 1) :: _) rfl rfl rfl rfl ?_
    refine xn_sub (by omega) rfl ?_
    refine xn_lshr (by exact hl) (by omega) rfl ?_
    refine xg_stp (st' := .long (Int64.ofNat 1) :: _) rfl rfl rfl rfl ?_
    refine xn_land rfl ?_
    refine xg_stp (st' := .long (Int64.ofNat 0) :: _) rfl rfl rfl rfl ?_
    refine xn_lcmp (by exact Nat.lt_of_le_of_lt Nat.and_le_right (by omega)) (by omega) rfl (fun e36 g36 => ?_)
    refine xg_j1 rfl rfl rfl rfl rfl (fun h37 => ?_) (fun h37 => ?_)
    · have e37 := nc_eq g36 h37
      rw [if_neg (fun e => e.2.1 e37)]
      refine xg_stp (st' := .int (Int32.ofNat 0) :: _) rfl rfl rfl rfl ?_
      exact xg_ret rfl rfl
    · have e37 := nd_eq g36 h37
      refine xg_stp rfl rfl rfl rfl ?_
      refine xg_stp (st' := .int (Int32.ofNat 4294967295) :: _) rfl rfl rfl rfl ?_
      refine xg_j2 rfl rfl rfl rfl rfl (fun h42 => ?_) (fun h42 => ?_)
      · have e42 : q = 4294967295 ∨ F (16 * t + 2) / 300 = q := Or.inl (nt_eq hq (by omega) h42)
        refine xg_stp rfl rfl rfl rfl ?_
        refine xg_stp (st' := .int (Int32.ofNat 4294967295) :: _) rfl rfl rfl rfl ?_
        refine xg_j2 rfl rfl rfl rfl rfl (fun h57 => ?_) (fun h57 => ?_)
        · have e57 := nt_eq hf (by omega) h57
          rw [if_pos ⟨e14, e37, e42, Or.inl e57⟩]
          refine xg_stp (st' := .int (Int32.ofNat 1) :: _) rfl rfl rfl rfl ?_
          refine xg_stp rfl rfl rfl rfl ?_
          exact xg_ret rfl rfl
        · have e57 := nf_eq h57
          refine xg_stp rfl rfl rfl rfl ?_
          refine xg_stp rfl rfl rfl rfl ?_
          refine xg_vcall (cn_g1 B _) rfl rfl rfl rfl rfl rfl (cn_fieldOf B d F 0 0 t ht hc2) ?_
          refine xg_stp rfl rfl rfl rfl ?_
          refine xg_j2 rfl rfl rfl rfl rfl (fun h67 => ?_) (fun h67 => ?_)
          · have e67 := nt_ne h67
            rw [if_neg (fun e => e.2.2.2.elim e57 e67)]
            refine xg_stp (st' := .int (Int32.ofNat 0) :: _) rfl rfl rfl rfl ?_
            exact xg_ret rfl rfl
          · have e67 : F (16 * t + 2) / 100 % 3 = f := nf_ne (by omega) hf h67
            rw [if_pos ⟨e14, e37, e42, Or.inr e67⟩]
            refine xg_stp (st' := .int (Int32.ofNat 1) :: _) rfl rfl rfl rfl ?_
            refine xg_stp rfl rfl rfl rfl ?_
            exact xg_ret rfl rfl
      · have e42 := nf_eq h42
        refine xg_stp rfl rfl rfl rfl ?_
        refine xg_stp rfl rfl rfl rfl ?_
        refine xg_vcall (cn_g1 B _) rfl rfl rfl rfl rfl rfl (cn_keyOf B d F 0 0 t ht hc2) ?_
        refine xg_stp rfl rfl rfl rfl ?_
        refine xg_j2 rfl rfl rfl rfl rfl (fun h51 => ?_) (fun h51 => ?_)
        · have e51 := nt_ne h51
          rw [if_neg (fun e => e.2.2.1.elim e42 e51)]
          refine xg_stp (st' := .int (Int32.ofNat 0) :: _) rfl rfl rfl rfl ?_
          exact xg_ret rfl rfl
        · have e52 : F (16 * t + 2) / 300 = q := nf_ne (by omega) hq h51
          have e42 : q = 4294967295 ∨ F (16 * t + 2) / 300 = q := Or.inr e52
          refine xg_stp rfl rfl rfl rfl ?_
          refine xg_stp (st' := .int (Int32.ofNat 4294967295) :: _) rfl rfl rfl rfl ?_
          refine xg_j2 rfl rfl rfl rfl rfl (fun h57 => ?_) (fun h57 => ?_)
          · have e57 := nt_eq hf (by omega) h57
            rw [if_pos ⟨e14, e37, e42, Or.inl e57⟩]
            refine xg_stp (st' := .int (Int32.ofNat 1) :: _) rfl rfl rfl rfl ?_
            refine xg_stp rfl rfl rfl rfl ?_
            exact xg_ret rfl rfl
          · have e57 := nf_eq h57
            refine xg_stp rfl rfl rfl rfl ?_
            refine xg_stp rfl rfl rfl rfl ?_
            refine xg_vcall (cn_g1 B _) rfl rfl rfl rfl rfl rfl (cn_fieldOf B d F 0 0 t ht hc2) ?_
            refine xg_stp rfl rfl rfl rfl ?_
            refine xg_j2 rfl rfl rfl rfl rfl (fun h67 => ?_) (fun h67 => ?_)
            · have e67 := nt_ne h67
              rw [if_neg (fun e => e.2.2.2.elim e57 e67)]
              refine xg_stp (st' := .int (Int32.ofNat 0) :: _) rfl rfl rfl rfl ?_
              exact xg_ret rfl rfl
            · have e67 : F (16 * t + 2) / 100 % 3 = f := nf_ne (by omega) hf h67
              rw [if_pos ⟨e14, e37, e42, Or.inr e67⟩]
              refine xg_stp (st' := .int (Int32.ofNat 1) :: _) rfl rfl rfl rfl ?_
              refine xg_stp rfl rfl rfl rfl ?_
              exact xg_ret rfl rfl
/-- what the loops over all dots want -/
def cn_ok (F : Nat → Nat) (x : Nat) : Prop := (∀ k, k < 4 → F (16 * (x * 4 + k) + 1) < 9223372036854775808) ∧ (∀ t, t < 256 → F (16 * t + 2) < 2147483648)
def cn_mo (F : Nat → Nat) (x q f : Nat) : Nat → Nat → Nat → Nat
  | 0, _, n => n
  | m + 1, t, n => cn_mo F x q f m (t + 1) (n + cn_he F x t q f)
theorem cn_moL {b : xi_W} {I : Nat → Nat} {R : Nat × List Value} (B : cn_B b I R) (d c s : Nat) (F : Nat → Nat) (x q f : Nat) (hx : x < 55) (hq : q < 4294967296) (hf : f < 4294967296) (hk : cn_ok F x) : ∀ (m t n : Nat), t + m = 256 → xg (d + 2) 16 6 [(5, .int (Int32.ofNat (t))), (4, .int (Int32.ofNat (n))), (0, .ref (I 1)), (1, .int (Int32.ofNat x)), (2, .int (Int32.ofNat q)), (3, .int (Int32.ofNat f))] [] (cn_w b I F) c s (some (.int (Int32.ofNat (cn_mo F x q f m t n))), cn_w b I F, c, s)
  | 0, t, n, hm => by
    unfold cn_mo
    refine xg_stp rfl rfl rfl rfl ?_
    refine xg_stp rfl rfl rfl rfl ?_
    refine xg_getfield (cn_g1 B _) rfl rfl rfl rfl ?_
    refine cn_al B rfl ?_
    refine xg_j2 rfl rfl rfl rfl rfl (fun h13 => ?_) (fun h13 => ?_)
    · refine xg_stp rfl rfl rfl rfl ?_
      exact xg_ret rfl rfl
    · exact absurd (nf_ge (by omega) (by omega) h13) (by omega)
  | m + 1, t, n, hm => by
    have gb := cn_heb F x t q f
    unfold cn_mo
    refine xg_stp rfl rfl rfl rfl ?_
    refine xg_stp rfl rfl rfl rfl ?_
    refine xg_getfield (cn_g1 B _) rfl rfl rfl rfl ?_
    refine cn_al B rfl ?_
    refine xg_j2 rfl rfl rfl rfl rfl (fun h13 => ?_) (fun h13 => ?_)
    · exact absurd (nt_ge (by omega) (by omega) h13) (by omega)
    · refine xg_stp rfl rfl rfl rfl ?_
      refine xg_stp rfl rfl rfl rfl ?_
      refine xg_stp rfl rfl rfl rfl ?_
      refine xg_stp rfl rfl rfl rfl ?_
      refine xg_stp rfl rfl rfl rfl ?_
      refine xg_vcall (cn_g1 B _) rfl rfl rfl rfl rfl rfl (cn_hasEntry B d F 0 0 x t q f hx (by omega) hq hf (hk.1 _ (by omega)) (hk.2 _ (by omega))) ?_
      refine xg_j1 rfl rfl rfl rfl rfl (fun h25 => ?_) (fun h25 => ?_)
      · rw [show cn_he F x t q f = 0 from nt1_eq (by omega) h25]
        refine xn_inc (e := 1) rfl rfl rfl rfl ?_
        refine xg_stp rfl rfl rfl rfl ?_
        exact cn_moL B d c s F x q f hx hq hf hk m (t + 1) _ (by omega)
      · have e0 : cn_he F x t q f ≠ 0 := nf1_eq h25
        rw [show cn_he F x t q f = 1 by omega]
        refine xn_inc (e := 1) rfl rfl rfl rfl ?_
        refine xn_inc (e := 1) rfl rfl rfl rfl ?_
        refine xg_stp rfl rfl rfl rfl ?_
        exact cn_moL B d c s F x q f hx hq hf hk m (t + 1) _ (by omega)
/-- 'many' -/
theorem cn_many {b : xi_W} {I : Nat → Nat} {R : Nat × List Value} (B : cn_B b I R) (d : Nat) (F : Nat → Nat) (c s : Nat) (x q f : Nat) (hx : x < 55) (hq : q < 4294967296) (hf : f < 4294967296) (hk : cn_ok F x) : xg (d + 2) 16 0 [(0, .ref (I 1)), (1, .int (Int32.ofNat x)), (2, .int (Int32.ofNat q)), (3, .int (Int32.ofNat f))] [] (cn_w b I F) c s (some (.int (Int32.ofNat (cn_mo F x q f 256 0 0))), cn_w b I (F), c, s) := by
  refine xg_stp (st' := .int (Int32.ofNat 0) :: _) rfl rfl rfl rfl ?_
  refine xg_stp rfl rfl rfl rfl ?_
  refine xg_stp (st' := .int (Int32.ofNat 0) :: _) rfl rfl rfl rfl ?_
  refine xg_stp rfl rfl rfl rfl ?_
  exact cn_moL B d c s F x q f hx hq hf hk 256 0 0 rfl
def cn_k1 (F : Nat → Nat) (y t : Nat) : Nat → Nat := xn_u F (16 * (y * 4 + t / 64) + 0) (F (16 * (y * 4 + t / 64) + 0) ||| 1 * 2 ^ (t % 64 - 1))
/-- a row knows the dots of such entries of another one -/
def cn_ga (y x q f : Nat) : Nat → Nat → (Nat → Nat) → (Nat → Nat)
  | 0, _, F => F
  | m + 1, t, F => cn_ga y x q f m (t + 1) (if cn_he F x t q f = 0 then F else cn_k1 F y t)
theorem cn_k1o (F : Nat → Nat) (x y t : Nat) (h : cn_ok F x) : cn_ok (cn_k1 F y t) x := by
  refine ⟨fun k hk => ?_, fun u hu => ?_⟩
  · unfold cn_k1; rw [xn_un _ _ (by omega)]; exact h.1 k hk
  · unfold cn_k1; rw [xn_un _ _ (by omega)]; exact h.2 u hu
theorem cn_gaL {b : xi_W} {I : Nat → Nat} {R : Nat × List Value} (B : cn_B b I R) (d c s : Nat) (y x q f : Nat) (hy : y < 55) (hx : x < 55) (hq : q < 4294967296) (hf : f < 4294967296) : ∀ (m t : Nat) (F : Nat → Nat), t + m = 256 → cn_ok F x → xg (d + 2) 22 8 [(5, .int (Int32.ofNat (t))), (0, .ref (I 1)), (1, .int (Int32.ofNat y)), (2, .int (Int32.ofNat x)), (3, .int (Int32.ofNat q)), (4, .int (Int32.ofNat f))] [] (cn_w b I F) c s (none, cn_w b I (cn_ga y x q f m t F), c, s)
  | 0, t, F, hm, hk => by
    unfold cn_ga
    refine xg_stp rfl rfl rfl rfl ?_
    refine xg_stp rfl rfl rfl rfl ?_
    refine xg_getfield (cn_g1 B _) rfl rfl rfl rfl ?_
    refine cn_al B rfl ?_
    refine xg_j2 rfl rfl rfl rfl rfl (fun h15 => ?_) (fun h15 => ?_)
    · exact xg_ret rfl rfl
    · exact absurd (nf_ge (by omega) (by omega) h15) (by omega)
  | m + 1, t, F, hm, hk => by
    have gb := cn_heb F x t q f
    unfold cn_ga
    refine xg_stp rfl rfl rfl rfl ?_
    refine xg_stp rfl rfl rfl rfl ?_
    refine xg_getfield (cn_g1 B _) rfl rfl rfl rfl ?_
    refine cn_al B rfl ?_
    refine xg_j2 rfl rfl rfl rfl rfl (fun h15 => ?_) (fun h15 => ?_)
    · exact absurd (nt_ge (by omega) (by omega) h15) (by omega)
    · refine xg_stp rfl rfl rfl rfl ?_
      refine xg_stp rfl rfl rfl rfl ?_
      refine xg_stp rfl rfl rfl rfl ?_
      refine xg_stp rfl rfl rfl rfl ?_
      refine xg_stp rfl rfl rfl rfl ?_
      refine xg_vcall (cn_g1 B _) rfl rfl rfl rfl rfl rfl (cn_hasEntry B d F 0 0 x t q f hx (by omega) hq hf (hk.1 _ (by omega)) (hk.2 _ (by omega))) ?_
      refine xg_j1 rfl rfl rfl rfl rfl (fun h28 => ?_) (fun h28 => ?_)
      · rw [if_pos (show cn_he F x t q f = 0 from nt1_eq (by omega) h28)]
        refine xn_inc (e := 1) rfl rfl rfl rfl ?_
        refine xg_stp rfl rfl rfl rfl ?_
        first
          | exact cn_gaL B d c s y x q f hy hx hq hf m (t + 1) F (by omega) hk
          | exact cn_gaL B d c s y x q f hy hx hq hf m (t + 1) (cn_k1 F y t) (by omega) (cn_k1o F x y t hk)
      · have e0 : ¬ cn_he F x t q f = 0 := nf1_eq h28
        rw [if_neg e0]
        have e1 : 0 < t % 64 := by
          apply Nat.pos_of_ne_zero
          intro e2
          exact e0 (if_neg (fun e => absurd e.1 (by omega)))
        refine xg_stp rfl rfl rfl rfl ?_
        refine xg_getfield (cn_g1 B _) rfl rfl rfl rfl ?_
        refine xg_stp rfl rfl rfl rfl ?_
        refine xg_stp (st' := .int (Int32.ofNat 4) :: _) rfl rfl rfl rfl ?_
        refine xn_mul rfl ?_
        refine xg_stp rfl rfl rfl rfl ?_
        refine xg_stp (st' := .int (Int32.ofNat 64) :: _) rfl rfl rfl rfl ?_
        refine xn_div (by omega) (by omega) (by omega) rfl ?_
        refine xn_add rfl ?_
        refine xg_stp rfl rfl rfl rfl ?_
        refine cn_ld3 B (by omega) rfl ?_
        refine xg_stp (st' := .long (Int64.ofNat 1) :: _) rfl rfl rfl rfl ?_
        refine xg_stp rfl rfl rfl rfl ?_
        refine xg_stp (st' := .int (Int32.ofNat 64) :: _) rfl rfl rfl rfl ?_
        refine xn_mod (by omega) (by omega) (by omega) rfl ?_
        refine xg_stp (st' := .int (Int32.ofNat 1) :: _) rfl rfl rfl rfl ?_
        refine xn_sub (by omega) rfl ?_
        refine xn_lshl (by omega) rfl ?_
        refine xn_lor rfl ?_
        refine cn_st3 B (by omega) rfl ?_
        refine xn_inc (e := 1) rfl rfl rfl rfl ?_
        refine xg_stp rfl rfl rfl rfl ?_
        first
          | exact cn_gaL B d c s y x q f hy hx hq hf m (t + 1) F (by omega) hk
          | exact cn_gaL B d c s y x q f hy hx hq hf m (t + 1) (cn_k1 F y t) (by omega) (cn_k1o F x y t hk)
theorem cn_wzo : ∀ (m k : Nat) (F : Nat → Nat) (j : Nat), (1 < j % 16 ∨ j / 16 < k ∨ k + m ≤ j / 16) → cn_wz m k F j = F j
  | 0, _, _, _, _ => rfl
  | m + 1, k, F, j, h => by
    unfold cn_wz
    rw [cn_wzo m (k + 1) _ j (by omega), xn_un _ _ (by omega), xn_un _ _ (by omega)]
def cn_gat (F : Nat → Nat) (y x q f : Nat) : Nat → Nat := cn_ga y x q f 256 0 (cn_wz 4 (y * 4) F)
theorem cn_wzk (F : Nat → Nat) (x y : Nat) (h : cn_ok F x) (hxy : x ≠ y) : cn_ok (cn_wz 4 (y * 4) F) x := by
  refine ⟨fun k hk => ?_, fun u hu => ?_⟩
  · rw [cn_wzo _ _ _ _ (by omega)]; exact h.1 k hk
  · rw [cn_wzo _ _ _ _ (by omega)]; exact h.2 u hu
/-- 'gather' -/
theorem cn_gather {b : xi_W} {I : Nat → Nat} {R : Nat × List Value} (B : cn_B b I R) (d : Nat) (F : Nat → Nat) (c s : Nat) (y x q f : Nat) (hy : y < 55) (hx : x < 55) (hq : q < 4294967296) (hf : f < 4294967296) (hxy : x ≠ y) (hk : cn_ok F x) : xg (d + 2) 22 0 [(0, .ref (I 1)), (1, .int (Int32.ofNat y)), (2, .int (Int32.ofNat x)), (3, .int (Int32.ofNat q)), (4, .int (Int32.ofNat f))] [] (cn_w b I F) c s (none, cn_w b I (cn_gat F y x q f), c, s) := by
  refine xg_stp rfl rfl rfl rfl ?_
  refine xg_stp rfl rfl rfl rfl ?_
  refine xg_vcall (cn_g1 B _) rfl rfl rfl rfl rfl rfl (cn_wipe B (d + 1) F 0 0 y hy) ?_
  refine xg_stp (st' := .int (Int32.ofNat 0) :: _) rfl rfl rfl rfl ?_
  refine xg_stp rfl rfl rfl rfl ?_
  exact cn_gaL B d c s y x q f hy hx hq hf 256 0 _ rfl (cn_wzk F x y hk hxy)
def cn_e1 (F : Nat → Nat) (y r n : Nat) : Nat → Nat := xn_u F (16 * (y * 4 + r) + 0) (F (16 * (y * 4 + r) + 0) ||| 1 * 2 ^ (n - 1))
def cn_e2 (F : Nat → Nat) (y r n : Nat) : Nat → Nat := xn_u (cn_e1 F y r n) (16 * (y * 4 + r) + 1) (cn_e1 F y r n (16 * (y * 4 + r) + 1) ||| 1 * 2 ^ (n - 1))
/-- an entry is born -/
def cn_be (F : Nat → Nat) (y r n v : Nat) : Nat → Nat := xn_u (cn_e2 F y r n) (16 * (r * 64 + n) + 2) v
/-- 'bear' -/
theorem cn_bear {b : xi_W} {I : Nat → Nat} {R : Nat × List Value} (B : cn_B b I R) (d : Nat) (F : Nat → Nat) (c s : Nat) (y r n v : Nat) (hy : y < 55) (hr : r < 4) (hn : 0 < n) (hn2 : n < 64) : xg (d) 23 0 [(0, .ref (I 1)), (1, .int (Int32.ofNat y)), (2, .int (Int32.ofNat r)), (3, .int (Int32.ofNat n)), (4, .int (Int32.ofNat v))] [] (cn_w b I F) c s (none, cn_w b I (cn_be F y r n v), c, s) := by
  refine xg_stp (st' := .long (Int64.ofNat 1) :: _) rfl rfl rfl rfl ?_
  refine xg_stp rfl rfl rfl rfl ?_
  refine xg_stp (st' := .int (Int32.ofNat 1) :: _) rfl rfl rfl rfl ?_
  refine xn_sub (by omega) rfl ?_
  refine xn_lshl (by omega) rfl ?_
  refine xg_stp rfl rfl rfl rfl ?_
  refine xg_stp rfl rfl rfl rfl ?_
  refine xg_getfield (cn_g1 B _) rfl rfl rfl rfl ?_
  refine xg_stp rfl rfl rfl rfl ?_
  refine xg_stp (st' := .int (Int32.ofNat 4) :: _) rfl rfl rfl rfl ?_
  refine xn_mul rfl ?_
  refine xg_stp rfl rfl rfl rfl ?_
  refine xn_add rfl ?_
  refine xg_stp rfl rfl rfl rfl ?_
  refine cn_ld3 B (by omega) rfl ?_
  refine xg_stp rfl rfl rfl rfl ?_
  refine xn_lor rfl ?_
  refine cn_st3 B (by omega) rfl ?_
  refine xg_stp rfl rfl rfl rfl ?_
  refine xg_getfield (cn_g1 B _) rfl rfl rfl rfl ?_
  refine xg_stp rfl rfl rfl rfl ?_
  refine xg_stp (st' := .int (Int32.ofNat 4) :: _) rfl rfl rfl rfl ?_
  refine xn_mul rfl ?_
  refine xg_stp rfl rfl rfl rfl ?_
  refine xn_add rfl ?_
  refine xg_stp rfl rfl rfl rfl ?_
  refine cn_ld4 B (by omega) rfl ?_
  refine xg_stp rfl rfl rfl rfl ?_
  refine xn_lor rfl ?_
  refine cn_st4 B (by omega) rfl ?_
  refine xg_stp rfl rfl rfl rfl ?_
  refine xg_getfield (cn_g1 B _) rfl rfl rfl rfl ?_
  refine xg_stp rfl rfl rfl rfl ?_
  refine xg_stp (st' := .int (Int32.ofNat 64) :: _) rfl rfl rfl rfl ?_
  refine xn_mul rfl ?_
  refine xg_stp rfl rfl rfl rfl ?_
  refine xn_add rfl ?_
  refine xg_stp rfl rfl rfl rfl ?_
  refine cn_st5 B (by omega) rfl ?_
  exact xg_ret rfl rfl
