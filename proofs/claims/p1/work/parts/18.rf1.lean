/-! methods of the reference over its numbers -/
/-- 'many' -/
theorem rf_many {b : xi_W} {O A : Nat} {o : Nat × List Value} (B : rf_B b O A o) (d : Nat) (F : Nat → Nat) (c s : Nat) (x : Nat) (hx : x + 8 < 98262) : xg (d) 171 0 ([(0, .ref O), (1, .int (Int32.ofNat x))]) [] (rf_w b A F) c s (some (.int (Int32.ofNat (F (x + 8)))), rf_w b A (F), c, s) := by
  refine xg_stp rfl rfl rfl rfl ?_
  refine rf_fa B rfl rfl ?_
  refine xg_stp rfl rfl rfl rfl ?_
  refine xg_stp (st' := .int (Int32.ofNat 8) :: _) rfl rfl rfl rfl ?_
  refine xn_add rfl ?_
  refine rf_ld B (by omega) rfl ?_
  exact xg_ret rfl rfl
/-- 'packed' -/
theorem rf_packed {b : xi_W} {O A : Nat} {o : Nat × List Value} (B : rf_B b O A o) (d : Nat) (F : Nat → Nat) (c s : Nat) (x i : Nat) (hx : x + 9 + i < 98262) : xg (d) 172 0 ([(0, .ref O), (1, .int (Int32.ofNat x)), (2, .int (Int32.ofNat i))]) [] (rf_w b A F) c s (some (.int (Int32.ofNat (F (x + 9 + i)))), rf_w b A (F), c, s) := by
  refine xg_stp rfl rfl rfl rfl ?_
  refine rf_fa B rfl rfl ?_
  refine xg_stp rfl rfl rfl rfl ?_
  refine xg_stp (st' := .int (Int32.ofNat 9) :: _) rfl rfl rfl rfl ?_
  refine xn_add rfl ?_
  refine xg_stp rfl rfl rfl rfl ?_
  refine xn_add rfl ?_
  refine rf_ld B (by omega) rfl ?_
  exact xg_ret rfl rfl
/-- 'dotOf' -/
theorem rf_dotOf {b : xi_W} {O A : Nat} {o : Nat × List Value} (B : rf_B b O A o) (d : Nat) (F : Nat → Nat) (c s : Nat) (p : Nat) (hp : p < 2147483648) : xg (d) 173 0 ([(0, .int (Int32.ofNat p))]) [] (rf_w b A F) c s (some (.int (Int32.ofNat (p / 1200))), rf_w b A (F), c, s) := by
  refine xg_stp rfl rfl rfl rfl ?_
  refine xg_stp (st' := .int (Int32.ofNat 1200) :: _) rfl rfl rfl rfl ?_
  refine xn_div (by omega) (by omega) (by omega) rfl ?_
  exact xg_ret rfl rfl
/-- 'keyOf' -/
theorem rf_keyOf {b : xi_W} {O A : Nat} {o : Nat × List Value} (B : rf_B b O A o) (d : Nat) (F : Nat → Nat) (c s : Nat) (p : Nat) (hp : p < 2147483648) : xg (d) 174 0 ([(0, .int (Int32.ofNat p))]) [] (rf_w b A F) c s (some (.int (Int32.ofNat (p % 1200 / 300))), rf_w b A (F), c, s) := by
  refine xg_stp rfl rfl rfl rfl ?_
  refine xg_stp (st' := .int (Int32.ofNat 1200) :: _) rfl rfl rfl rfl ?_
  refine xn_mod (by omega) (by omega) (by omega) rfl ?_
  refine xg_stp (st' := .int (Int32.ofNat 300) :: _) rfl rfl rfl rfl ?_
  refine xn_div (by omega) (by omega) (by omega) rfl ?_
  exact xg_ret rfl rfl
/-- 'fieldOf' -/
theorem rf_fieldOf {b : xi_W} {O A : Nat} {o : Nat × List Value} (B : rf_B b O A o) (d : Nat) (F : Nat → Nat) (c s : Nat) (p : Nat) (hp : p < 2147483648) : xg (d) 175 0 ([(0, .int (Int32.ofNat p))]) [] (rf_w b A F) c s (some (.int (Int32.ofNat (p / 100 % 3))), rf_w b A (F), c, s) := by
  refine xg_stp rfl rfl rfl rfl ?_
  refine xg_stp (st' := .int (Int32.ofNat 100) :: _) rfl rfl rfl rfl ?_
  refine xn_div (by omega) (by omega) (by omega) rfl ?_
  refine xg_stp (st' := .int (Int32.ofNat 3) :: _) rfl rfl rfl rfl ?_
  refine xn_mod (by omega) (by omega) (by omega) rfl ?_
  exact xg_ret rfl rfl
/-- 'stateAt' -/
theorem rf_stateAt {b : xi_W} {O A : Nat} {o : Nat × List Value} (B : rf_B b O A o) (d : Nat) (F : Nat → Nat) (c s : Nat) (i : Nat) : xg (d) 167 0 ([(0, .int (Int32.ofNat i))]) [] (rf_w b A F) c s (some (.int (Int32.ofNat (205 + 57 * i))), rf_w b A (F), c, s) := by
  refine xg_stp (st' := .int (Int32.ofNat 205) :: _) rfl rfl rfl rfl ?_
  refine xg_stp (st' := .int (Int32.ofNat 57) :: _) rfl rfl rfl rfl ?_
  refine xg_stp rfl rfl rfl rfl ?_
  refine xn_mul rfl ?_
  refine xn_add rfl ?_
  exact xg_ret rfl rfl
/-- 'ackedBy' -/
theorem rf_ackedBy {b : xi_W} {O A : Nat} {o : Nat × List Value} (B : rf_B b O A o) (d : Nat) (F : Nat → Nat) (c s : Nat) (r q : Nat) (hr : r < 4) (hq : q < 4) : xg (d) 244 0 ([(0, .ref O), (1, .int (Int32.ofNat r)), (2, .int (Int32.ofNat q))]) [] (rf_w b A F) c s (some (.int (Int32.ofNat (F (20 + 4 * r + q)))), rf_w b A (F), c, s) := by
  refine xg_stp rfl rfl rfl rfl ?_
  refine rf_fa B rfl rfl ?_
  refine xg_stp (st' := .int (Int32.ofNat 20) :: _) rfl rfl rfl rfl ?_
  refine xg_stp (st' := .int (Int32.ofNat 4) :: _) rfl rfl rfl rfl ?_
  refine xg_stp rfl rfl rfl rfl ?_
  refine xn_mul rfl ?_
  refine xn_add rfl ?_
  refine xg_stp rfl rfl rfl rfl ?_
  refine xn_add rfl ?_
  refine rf_ld B (by omega) rfl ?_
  exact xg_ret rfl rfl
/-- 'deltaAt' -/
theorem rf_deltaAt {b : xi_W} {O A : Nat} {o : Nat × List Value} (B : rf_B b O A o) (d : Nat) (F : Nat → Nat) (c s : Nat) (r n : Nat) (hr : r < 4) (hn : 0 < n) (hn2 : n < 2147483648) : xg (d + 1) 168 0 ([(0, .int (Int32.ofNat r)), (1, .int (Int32.ofNat n))]) [] (rf_w b A F) c s (some (.int (Int32.ofNat (205 + 57 * (4 + 6 * r + (n - 1) % 6)))), rf_w b A (F), c, s) := by
  refine xg_stp (st' := .int (Int32.ofNat 4) :: _) rfl rfl rfl rfl ?_
  refine xg_stp (st' := .int (Int32.ofNat 6) :: _) rfl rfl rfl rfl ?_
  refine xg_stp rfl rfl rfl rfl ?_
  refine xn_mul rfl ?_
  refine xn_add rfl ?_
  refine xg_stp rfl rfl rfl rfl ?_
  refine xg_stp (st' := .int (Int32.ofNat 1) :: _) rfl rfl rfl rfl ?_
  refine xn_sub (by omega) rfl ?_
  refine xg_stp (st' := .int (Int32.ofNat 6) :: _) rfl rfl rfl rfl ?_
  refine xn_mod (by omega) (by omega) (by omega) rfl ?_
  refine xn_add rfl ?_
  refine xg_call rfl rfl rfl (rf_stateAt B d F 0 0 (4 + 6 * r + (n - 1) % 6)) ?_
  exact xg_ret rfl rfl
/-- 'add' -/
theorem rf_add {b : xi_W} {O A : Nat} {o : Nat × List Value} (B : rf_B b O A o) (d : Nat) (F : Nat → Nat) (c s : Nat) (x p : Nat) (hx : x + 9 + F (x + 8) < 98262) : xg (d + 1) 182 0 ([(0, .ref O), (1, .int (Int32.ofNat x)), (2, .int (Int32.ofNat p))]) [] (rf_w b A F) c s (none, rf_w b A (xn_u (xn_u F (x + 9 + F (x + 8)) p) (x + 8) (xn_u F (x + 9 + F (x + 8)) p (x + 8) + 1)), c, s) := by
  refine xg_stp rfl rfl rfl rfl ?_
  refine rf_fa B rfl rfl ?_
  refine xg_stp rfl rfl rfl rfl ?_
  refine xg_stp (st' := .int (Int32.ofNat 9) :: _) rfl rfl rfl rfl ?_
  refine xn_add rfl ?_
  refine xg_stp rfl rfl rfl rfl ?_
  refine xg_stp rfl rfl rfl rfl ?_
  refine rf_call B rfl rfl rfl rfl rfl rfl (rf_many B d F 0 0 x (by omega)) ?_
  refine xn_add rfl ?_
  refine xg_stp rfl rfl rfl rfl ?_
  refine rf_sto B (by omega) rfl ?_
  refine xg_stp rfl rfl rfl rfl ?_
  refine rf_fa B rfl rfl ?_
  refine xg_stp rfl rfl rfl rfl ?_
  refine xg_stp (st' := .int (Int32.ofNat 8) :: _) rfl rfl rfl rfl ?_
  refine xn_add rfl ?_
  refine xg_stp rfl rfl rfl rfl ?_
  refine rf_ld B (by omega) rfl ?_
  refine xg_stp (st' := .int (Int32.ofNat 1) :: _) rfl rfl rfl rfl ?_
  refine xn_add rfl ?_
  refine rf_sto B (by omega) rfl ?_
  exact xg_ret rfl rfl
/-- 'has' -/
theorem rf_has {b : xi_W} {O A : Nat} {o : Nat × List Value} (B : rf_B b O A o) (d : Nat) (F : Nat → Nat) (c s : Nat) (v k : Nat) (hv : v < 2147483648) (hk : k < 32) : xg (d) 161 0 ([(0, .int (Int32.ofNat v)), (1, .int (Int32.ofNat k))]) [] (rf_w b A F) c s (some (.int (Int32.ofNat (v / 2 ^ k % 2))), rf_w b A (F), c, s) := by
  refine xg_stp rfl rfl rfl rfl ?_
  refine xg_stp rfl rfl rfl rfl ?_
  refine xn_shr (by omega) (by omega) rfl ?_
  refine xg_stp (st' := .int (Int32.ofNat 1) :: _) rfl rfl rfl rfl ?_
  refine xn_and rfl ?_
  refine xg_stp (st' := .int (Int32.ofNat 1) :: _) rfl rfl rfl rfl ?_
  refine xg_j2 rfl rfl rfl rfl rfl (fun h6 => ?_) (fun h6 => ?_)
  · have e : v / 2 ^ k % 2 = 0 := by
      have h1 := nt_ne h6
      rw [Nat.and_one_is_mod] at h1
      omega
    rw [e]
    refine xg_stp (st' := .int (Int32.ofNat 0) :: _) rfl rfl rfl rfl ?_
    exact xg_ret rfl rfl
  · have e : v / 2 ^ k % 2 = 1 := by
      have h2 : v / 2 ^ k < 2147483648 := Nat.lt_of_le_of_lt (Nat.div_le_self _ _) hv
      have h1 := nf_ne (by rw [Nat.and_one_is_mod]; omega) (by omega) h6
      rw [Nat.and_one_is_mod] at h1
      exact h1
    rw [e]
    refine xg_stp (st' := .int (Int32.ofNat 1) :: _) rfl rfl rfl rfl ?_
    refine xg_stp rfl rfl rfl rfl ?_
    exact xg_ret rfl rfl
/-- 'isKnown' -/
theorem rf_isKnown {b : xi_W} {O A : Nat} {o : Nat × List Value} (B : rf_B b O A o) (d : Nat) (F : Nat → Nat) (c s : Nat) (x t : Nat) (hx : x + t / 32 < 98262) (ht : t < 2147483648) (hv : F (x + t / 32) < 2147483648) : xg (d + 1) 169 0 ([(0, .ref O), (1, .int (Int32.ofNat x)), (2, .int (Int32.ofNat t))]) [] (rf_w b A F) c s (some (.int (Int32.ofNat (F (x + t / 32) / 2 ^ (t % 32) % 2))), rf_w b A (F), c, s) := by
  refine xg_stp rfl rfl rfl rfl ?_
  refine rf_fa B rfl rfl ?_
  refine xg_stp rfl rfl rfl rfl ?_
  refine xg_stp rfl rfl rfl rfl ?_
  refine xg_stp (st' := .int (Int32.ofNat 32) :: _) rfl rfl rfl rfl ?_
  refine xn_div (by omega) (by omega) (by omega) rfl ?_
  refine xn_add rfl ?_
  refine rf_ld B (by omega) rfl ?_
  refine xg_stp rfl rfl rfl rfl ?_
  refine xg_stp (st' := .int (Int32.ofNat 32) :: _) rfl rfl rfl rfl ?_
  refine xn_mod (by omega) (by omega) (by omega) rfl ?_
  refine xg_call rfl rfl rfl (rf_has B d F 0 0 (F (x + t / 32)) (t % 32) hv (by omega)) ?_
  exact xg_retb (by omega) rfl rfl
/-- zeros from X + k to X + 57 -/
def rf_z (F : Nat → Nat) (X k : Nat) : Nat → Nat := fun j => if X + k ≤ j ∧ j < X + 57 then 0 else F j
theorem rf_zs (F : Nat → Nat) (X k : Nat) (h : k < 57) : rf_z F X k = rf_z (xn_u F (X + k) 0) X (k + 1) := by
  funext j
  unfold rf_z xn_u
  by_cases h1 : j = X + k
  · rw [if_pos (by omega), if_neg (by omega), if_pos h1]
  · by_cases h2 : X + (k + 1) ≤ j ∧ j < X + 57
    · rw [if_pos (by omega), if_pos h2]
    · rw [if_neg (by omega), if_neg h2, if_neg h1]
theorem rf_zn (F : Nat → Nat) (X k : Nat) (h : 57 ≤ k) : rf_z F X k = F := by
  funext j; unfold rf_z; rw [if_neg (by omega)]
/-- the loop of 'clearState' -/
theorem rf_clrL {b : xi_W} {O A : Nat} {o : Nat × List Value} (B : rf_B b O A o) (d : Nat) (c s : Nat) (X : Nat) (hX : X + 57 ≤ 98262) : ∀ (m k : Nat) (F : Nat → Nat), k + m = 57 → xg (d) 178 2 ([(2, .int (Int32.ofNat k)), (0, .ref O), (1, .int (Int32.ofNat X))]) [] (rf_w b A F) c s (none, rf_w b A (rf_z F X k), c, s)
  | 0, k, F, hm => by
    refine xg_stp rfl rfl rfl rfl ?_
    refine xg_stp (st' := .int (Int32.ofNat 57) :: _) rfl rfl rfl rfl ?_
    refine xg_j2 rfl rfl rfl rfl rfl (fun h5 => ?_) (fun h5 => ?_)
    · rw [rf_zn F X k (by omega)]
      exact xg_ret rfl rfl
    · exact absurd (nf_ge (by omega) (by omega) h5) (by omega)
  | m + 1, k, F, hm => by
    refine xg_stp rfl rfl rfl rfl ?_
    refine xg_stp (st' := .int (Int32.ofNat 57) :: _) rfl rfl rfl rfl ?_
    refine xg_j2 rfl rfl rfl rfl rfl (fun h5 => ?_) (fun h5 => ?_)
    · exact absurd (nt_ge (by omega) (by omega) h5) (by omega)
    · rw [rf_zs F X k (by omega)]
      refine xg_stp rfl rfl rfl rfl ?_
      refine rf_fa B rfl rfl ?_
      refine xg_stp rfl rfl rfl rfl ?_
      refine xg_stp rfl rfl rfl rfl ?_
      refine xn_add rfl ?_
      refine xg_stp (st' := .int (Int32.ofNat 0) :: _) rfl rfl rfl rfl ?_
      refine rf_sto B (by omega) rfl ?_
      refine xn_inc (e := 1) rfl rfl rfl rfl ?_
      refine xg_stp rfl rfl rfl rfl ?_
      exact rf_clrL B d c s X hX m (k + 1) (xn_u F (X + k) 0) (by omega)
/-- 'clearState' -/
theorem rf_clearState {b : xi_W} {O A : Nat} {o : Nat × List Value} (B : rf_B b O A o) (d : Nat) (F : Nat → Nat) (c s : Nat) (X : Nat) (hX : X + 57 ≤ 98262) : xg (d) 178 0 ([(0, .ref O), (1, .int (Int32.ofNat X))]) [] (rf_w b A F) c s (none, rf_w b A (rf_z F X 0), c, s) := by
  refine xg_stp (st' := .int (Int32.ofNat 0) :: _) rfl rfl rfl rfl ?_
  refine xg_stp rfl rfl rfl rfl ?_
  exact rf_clrL B d c s X hX 57 0 F rfl
/-- 57 numbers from X, the first k of them done, to Y -/
def rf_c (F : Nat → Nat) (X Y k : Nat) : Nat → Nat := fun j => if Y + k ≤ j ∧ j < Y + 57 then F (X + (j - Y)) else F j
theorem rf_cs (F : Nat → Nat) (X Y k : Nat) (h : k < 57) (hXY : X + 57 ≤ Y ∨ Y + 57 ≤ X ∨ X = Y) : rf_c F X Y k = rf_c (xn_u F (Y + k) (F (X + k))) X Y (k + 1) := by
  funext j
  unfold rf_c xn_u
  by_cases h1 : j = Y + k
  · rw [if_pos (by omega), if_neg (by omega), if_pos h1, h1, Nat.add_sub_cancel_left]
  · by_cases h2 : Y + (k + 1) ≤ j ∧ j < Y + 57
    · rw [if_pos (by omega), if_pos h2, if_neg (by omega)]
    · rw [if_neg (by omega), if_neg h2, if_neg h1]
theorem rf_cn (F : Nat → Nat) (X Y k : Nat) (h : 57 ≤ k) : rf_c F X Y k = F := by
  funext j; unfold rf_c; rw [if_neg (by omega)]
/-- the loop of 'copyState' -/
theorem rf_cpyL {b : xi_W} {O A : Nat} {o : Nat × List Value} (B : rf_B b O A o) (d : Nat) (c s : Nat) (X Y : Nat) (hX : X + 57 ≤ 98262) (hY : Y + 57 ≤ 98262) (hXY : X + 57 ≤ Y ∨ Y + 57 ≤ X ∨ X = Y) : ∀ (m k : Nat) (F : Nat → Nat), k + m = 57 → xg (d) 179 2 ([(3, .int (Int32.ofNat k)), (0, .ref O), (1, .int (Int32.ofNat X)), (2, .int (Int32.ofNat Y))]) [] (rf_w b A F) c s (none, rf_w b A (rf_c F X Y k), c, s)
  | 0, k, F, hm => by
    refine xg_stp rfl rfl rfl rfl ?_
    refine xg_stp (st' := .int (Int32.ofNat 57) :: _) rfl rfl rfl rfl ?_
    refine xg_j2 rfl rfl rfl rfl rfl (fun h5 => ?_) (fun h5 => ?_)
    · rw [rf_cn F X Y k (by omega)]
      exact xg_ret rfl rfl
    · exact absurd (nf_ge (by omega) (by omega) h5) (by omega)
  | m + 1, k, F, hm => by
    refine xg_stp rfl rfl rfl rfl ?_
    refine xg_stp (st' := .int (Int32.ofNat 57) :: _) rfl rfl rfl rfl ?_
    refine xg_j2 rfl rfl rfl rfl rfl (fun h5 => ?_) (fun h5 => ?_)
    · exact absurd (nt_ge (by omega) (by omega) h5) (by omega)
    · rw [rf_cs F X Y k (by omega) hXY]
      refine xg_stp rfl rfl rfl rfl ?_
      refine rf_fa B rfl rfl ?_
      refine xg_stp rfl rfl rfl rfl ?_
      refine xg_stp rfl rfl rfl rfl ?_
      refine xn_add rfl ?_
      refine xg_stp rfl rfl rfl rfl ?_
      refine rf_fa B rfl rfl ?_
      refine xg_stp rfl rfl rfl rfl ?_
      refine xg_stp rfl rfl rfl rfl ?_
      refine xn_add rfl ?_
      refine rf_ld B (by omega) rfl ?_
      refine rf_sto B (by omega) rfl ?_
      refine xn_inc (e := 1) rfl rfl rfl rfl ?_
      refine xg_stp rfl rfl rfl rfl ?_
      exact rf_cpyL B d c s X Y hX hY hXY m (k + 1) (xn_u F (Y + k) (F (X + k))) (by omega)
/-- 'copyState' -/
theorem rf_copyState {b : xi_W} {O A : Nat} {o : Nat × List Value} (B : rf_B b O A o) (d : Nat) (F : Nat → Nat) (c s : Nat) (X Y : Nat) (hX : X + 57 ≤ 98262) (hY : Y + 57 ≤ 98262) (hXY : X + 57 ≤ Y ∨ Y + 57 ≤ X ∨ X = Y) : xg (d) 179 0 ([(0, .ref O), (1, .int (Int32.ofNat X)), (2, .int (Int32.ofNat Y))]) [] (rf_w b A F) c s (none, rf_w b A (rf_c F X Y 0), c, s) := by
  refine xg_stp (st' := .int (Int32.ofNat 0) :: _) rfl rfl rfl rfl ?_
  refine xg_stp rfl rfl rfl rfl ?_
  exact rf_cpyL B d c s X Y hX hY hXY 57 0 F rfl
/-- 'know' -/
theorem rf_know {b : xi_W} {O A : Nat} {o : Nat × List Value} (B : rf_B b O A o) (d : Nat) (F : Nat → Nat) (c s : Nat) (x t : Nat) (hx : x + t / 32 < 98262) (ht : t < 2147483648) : xg (d) 181 0 ([(0, .ref O), (1, .int (Int32.ofNat x)), (2, .int (Int32.ofNat t))]) [] (rf_w b A F) c s (none, rf_w b A (xn_u F (x + t / 32) (F (x + t / 32) ||| 1 * 2 ^ (t % 32))), c, s) := by
  refine xg_stp rfl rfl rfl rfl ?_
  refine rf_fa B rfl rfl ?_
  refine xg_stp rfl rfl rfl rfl ?_
  refine xg_stp rfl rfl rfl rfl ?_
  refine xg_stp (st' := .int (Int32.ofNat 32) :: _) rfl rfl rfl rfl ?_
  refine xn_div (by omega) (by omega) (by omega) rfl ?_
  refine xn_add rfl ?_
  refine xg_stp rfl rfl rfl rfl ?_
  refine rf_ld B (by omega) rfl ?_
  refine xg_stp (st' := .int (Int32.ofNat 1) :: _) rfl rfl rfl rfl ?_
  refine xg_stp rfl rfl rfl rfl ?_
  refine xg_stp (st' := .int (Int32.ofNat 32) :: _) rfl rfl rfl rfl ?_
  refine xn_mod (by omega) (by omega) (by omega) rfl ?_
  refine xn_shl (by omega) rfl ?_
  refine xn_or rfl ?_
  refine rf_sto B (by omega) rfl ?_
  exact xg_ret rfl rfl
/-- the bit of a dot -/
def rf_b (F : Nat → Nat) (X t : Nat) : Nat := F (X + t / 32) / 2 ^ (t % 32) % 2
/-- up to which number all are known, from n on, m at most -/
def rf_v (F : Nat → Nat) (X o : Nat) : Nat → Nat → Nat
  | 0, n => n
  | m + 1, n => if rf_b F X (64 * o + n + 1) = 0 then n else rf_v F X o m (n + 1)
theorem rf_vle (F : Nat → Nat) (X o : Nat) : ∀ (m n : Nat), rf_v F X o m n ≤ n + m
  | 0, n => Nat.le_refl _
  | m + 1, n => by
    unfold rf_v
    by_cases h : rf_b F X (64 * o + n + 1) = 0
    · rw [if_pos h]; omega
    · rw [if_neg h]
      have := rf_vle F X o m (n + 1)
      omega
/-- the loop of 'vectorOf' -/
theorem rf_vecL {b : xi_W} {O A : Nat} {o' : Nat × List Value} (B : rf_B b O A o') (d : Nat) (c s : Nat) (X o : Nat) (hX : X + 8 ≤ 98262) (ho : o < 4) (F : Nat → Nat) (hF : ∀ q, q < 8 → F (X + q) < 2147483648) : ∀ (m n : Nat), n + m = 63 → xg (d + 2) 186 2 [(3, .int (Int32.ofNat n)), (0, .ref O), (1, .int (Int32.ofNat X)), (2, .int (Int32.ofNat o))] [] (rf_w b A F) c s (some (.int (Int32.ofNat (rf_v F X o m n))), rf_w b A F, c, s)
  | 0, n, hm => by
    unfold rf_v
    refine xg_stp rfl rfl rfl rfl ?_
    refine xg_stp (st' := .int (Int32.ofNat 63) :: _) rfl rfl rfl rfl ?_
    refine xg_j2 rfl rfl rfl rfl rfl (fun h5 => ?_) (fun h5 => ?_)
    · refine xg_stp rfl rfl rfl rfl ?_
      exact xg_ret rfl rfl
    · exact absurd (nf_ge (by omega) (by omega) h5) (by omega)
  | m + 1, n, hm => by
    unfold rf_v
    refine xg_stp rfl rfl rfl rfl ?_
    refine xg_stp (st' := .int (Int32.ofNat 63) :: _) rfl rfl rfl rfl ?_
    refine xg_j2 rfl rfl rfl rfl rfl (fun h5 => ?_) (fun h5 => ?_)
    · exact absurd (nt_ge (by omega) (by omega) h5) (by omega)
    · refine xg_stp rfl rfl rfl rfl ?_
      refine xg_stp rfl rfl rfl rfl ?_
      refine xg_stp (st' := .int (Int32.ofNat 64) :: _) rfl rfl rfl rfl ?_
      refine xg_stp rfl rfl rfl rfl ?_
      refine xn_mul rfl ?_
      refine xg_stp rfl rfl rfl rfl ?_
      refine xn_add rfl ?_
      refine xg_stp (st' := .int (Int32.ofNat 1) :: _) rfl rfl rfl rfl ?_
      refine xn_add rfl ?_
      refine rf_call B rfl rfl rfl rfl rfl rfl (rf_isKnown B d F 0 0 X (64 * o + n + 1) (by omega) (by omega) (hF _ (by omega))) ?_
      refine xg_j1 rfl rfl rfl rfl rfl (fun h21 => ?_) (fun h21 => ?_)
      · rw [if_pos (show rf_b F X (64 * o + n + 1) = 0 from nt1_eq (by unfold rf_b; omega) h21)]
        refine xg_stp rfl rfl rfl rfl ?_
        exact xg_ret rfl rfl
      · rw [if_neg (show ¬ rf_b F X (64 * o + n + 1) = 0 from nf1_eq h21)]
        refine xn_inc (e := 1) rfl rfl rfl rfl ?_
        refine xg_stp rfl rfl rfl rfl ?_
        exact rf_vecL B d c s X o hX ho F hF m (n + 1) (by omega)
/-- 'vectorOf' -/
theorem rf_vectorOf {b : xi_W} {O A : Nat} {o' : Nat × List Value} (B : rf_B b O A o') (d : Nat) (c s : Nat) (X o : Nat) (hX : X + 8 ≤ 98262) (ho : o < 4) (F : Nat → Nat) (hF : ∀ q, q < 8 → F (X + q) < 2147483648) : xg (d + 2) 186 0 [(0, .ref O), (1, .int (Int32.ofNat X)), (2, .int (Int32.ofNat o))] [] (rf_w b A F) c s (some (.int (Int32.ofNat (rf_v F X o 63 0))), rf_w b A F, c, s) := by
  refine xg_stp (st' := .int (Int32.ofNat 0) :: _) rfl rfl rfl rfl ?_
  refine xg_stp rfl rfl rfl rfl ?_
  exact rf_vecL B d c s X o hX ho F hF 63 0 rfl
/-- 'isOfThese' -/
theorem rf_isOfThese {b : xi_W} {O A : Nat} {o : Nat × List Value} (B : rf_B b O A o) (d : Nat) (F : Nat → Nat) (c s : Nat) (p q f : Nat) (hp : p < 2147483648) (hq : q < 2147483648) (hf : f < 4294967296) : xg (d + 1) 248 0 ([(0, .ref O), (1, .int (Int32.ofNat p)), (2, .int (Int32.ofNat q)), (3, .int (Int32.ofNat f))]) [] (rf_w b A F) c s (some (.int (Int32.ofNat (if p % 1200 / 300 = q ∧ (f = 4294967295 ∨ p / 100 % 3 = f) then 1 else 0))), rf_w b A (F), c, s) := by
  refine xg_stp rfl rfl rfl rfl ?_
  refine xg_call rfl rfl rfl (rf_keyOf B d F 0 0 p hp) ?_
  refine xg_stp rfl rfl rfl rfl ?_
  refine xg_j2 rfl rfl rfl rfl rfl (fun h5 => ?_) (fun h5 => ?_)
  · have e5 := nt_ne h5
    rw [if_neg (fun h => e5 h.1)]
    refine xg_stp (st' := .int (Int32.ofNat 0) :: _) rfl rfl rfl rfl ?_
    exact xg_ret rfl rfl
  · have e5 := nf_ne (by omega) (by omega) h5
    refine xg_stp rfl rfl rfl rfl ?_
    refine xg_stp (st' := .int (Int32.ofNat 4294967295) :: _) rfl rfl rfl rfl ?_
    refine xg_j2 rfl rfl rfl rfl rfl (fun h10 => ?_) (fun h10 => ?_)
    · have e10 := nt_eq (by omega) (by omega) h10
      rw [if_pos ⟨e5, Or.inl e10⟩]
      refine xg_stp (st' := .int (Int32.ofNat 1) :: _) rfl rfl rfl rfl ?_
      refine xg_stp rfl rfl rfl rfl ?_
      exact xg_ret rfl rfl
    · have e10 := nf_eq h10
      refine xg_stp rfl rfl rfl rfl ?_
      refine xg_call rfl rfl rfl (rf_fieldOf B d F 0 0 p hp) ?_
      refine xg_stp rfl rfl rfl rfl ?_
      refine xg_j2 rfl rfl rfl rfl rfl (fun h18 => ?_) (fun h18 => ?_)
      · have e18 := nt_ne h18
        rw [if_neg (fun h => h.2.elim e10 e18)]
        refine xg_stp (st' := .int (Int32.ofNat 0) :: _) rfl rfl rfl rfl ?_
        exact xg_ret rfl rfl
      · have e18 := nf_ne (by omega) (by omega) h18
        rw [if_pos ⟨e5, Or.inr e18⟩]
        refine xg_stp (st' := .int (Int32.ofNat 1) :: _) rfl rfl rfl rfl ?_
        refine xg_stp rfl rfl rfl rfl ?_
        exact xg_ret rfl rfl
/-- whether two states are alike, from the k-th number on -/
def rf_al (F : Nat → Nat) (X Y : Nat) : Nat → Nat → Nat
  | 0, _ => 1
  | m + 1, k => if F (X + k) = F (Y + k) then rf_al F X Y m (k + 1) else 0
/-- the loop of 'areAlike' -/
theorem rf_alL {b : xi_W} {O A : Nat} {o : Nat × List Value} (B : rf_B b O A o) (d : Nat) (c s : Nat) (X Y : Nat) (hX : X + 57 ≤ 98262) (hY : Y + 57 ≤ 98262) (F : Nat → Nat) (hFX : ∀ q, q < 57 → F (X + q) < 4294967296) (hFY : ∀ q, q < 57 → F (Y + q) < 4294967296) : ∀ (m k : Nat), k + m = 57 → xg d 180 2 [(3, .int (Int32.ofNat k)), (0, .ref O), (1, .int (Int32.ofNat X)), (2, .int (Int32.ofNat Y))] [] (rf_w b A F) c s (some (.int (Int32.ofNat (rf_al F X Y m k))), rf_w b A F, c, s)
  | 0, k, hm => by
    unfold rf_al
    refine xg_stp rfl rfl rfl rfl ?_
    refine xg_stp (st' := .int (Int32.ofNat 57) :: _) rfl rfl rfl rfl ?_
    refine xg_j2 rfl rfl rfl rfl rfl (fun h5 => ?_) (fun h5 => ?_)
    · refine xg_stp (st' := .int (Int32.ofNat 1) :: _) rfl rfl rfl rfl ?_
      exact xg_ret rfl rfl
    · exact absurd (nf_ge (by omega) (by omega) h5) (by omega)
  | m + 1, k, hm => by
    unfold rf_al
    have g1 := hFX k (by omega)
    have g2 := hFY k (by omega)
    refine xg_stp rfl rfl rfl rfl ?_
    refine xg_stp (st' := .int (Int32.ofNat 57) :: _) rfl rfl rfl rfl ?_
    refine xg_j2 rfl rfl rfl rfl rfl (fun h5 => ?_) (fun h5 => ?_)
    · exact absurd (nt_ge (by omega) (by omega) h5) (by omega)
    · refine xg_stp rfl rfl rfl rfl ?_
      refine rf_fa B rfl rfl ?_
      refine xg_stp rfl rfl rfl rfl ?_
      refine xg_stp rfl rfl rfl rfl ?_
      refine xn_add rfl ?_
      refine rf_ld B (by omega) rfl ?_
      refine xg_stp rfl rfl rfl rfl ?_
      refine rf_fa B rfl rfl ?_
      refine xg_stp rfl rfl rfl rfl ?_
      refine xg_stp rfl rfl rfl rfl ?_
      refine xn_add rfl ?_
      refine rf_ld B (by omega) rfl ?_
      refine xg_j2 rfl rfl rfl rfl rfl (fun h24 => ?_) (fun h24 => ?_)
      · rw [if_pos (nt_eq g1 g2 h24)]
        refine xn_inc (e := 1) rfl rfl rfl rfl ?_
        refine xg_stp rfl rfl rfl rfl ?_
        exact rf_alL B d c s X Y hX hY F hFX hFY m (k + 1) (by omega)
      · rw [if_neg (nf_eq h24)]
        refine xg_stp (st' := .int (Int32.ofNat 0) :: _) rfl rfl rfl rfl ?_
        exact xg_ret rfl rfl
/-- 'areAlike' -/
theorem rf_areAlike {b : xi_W} {O A : Nat} {o : Nat × List Value} (B : rf_B b O A o) (d : Nat) (c s : Nat) (X Y : Nat) (hX : X + 57 ≤ 98262) (hY : Y + 57 ≤ 98262) (F : Nat → Nat) (hFX : ∀ q, q < 57 → F (X + q) < 4294967296) (hFY : ∀ q, q < 57 → F (Y + q) < 4294967296) : xg d 180 0 [(0, .ref O), (1, .int (Int32.ofNat X)), (2, .int (Int32.ofNat Y))] [] (rf_w b A F) c s (some (.int (Int32.ofNat (rf_al F X Y 57 0))), rf_w b A F, c, s) := by
  refine xg_stp (st' := .int (Int32.ofNat 0) :: _) rfl rfl rfl rfl ?_
  refine xg_stp rfl rfl rfl rfl ?_
  exact rf_alL B d c s X Y hX hY F hFX hFY 57 0 rfl
/-- 'anew' -/
theorem rf_anew {b : xi_W} {O A : Nat} {o : Nat × List Value} (B : rf_B b O A o) (d : Nat) (F : Nat → Nat) (c s : Nat) (hx : F 7 < 2147483648) : xg (d) 243 0 ([(0, .ref O)]) [] (rf_w b A F) c s (none, rf_w b A (xn_u F 7 ((F 7 * 773 + 641) % 31139)), c, s) := by
  refine xg_stp rfl rfl rfl rfl ?_
  refine rf_fa B rfl rfl ?_
  refine xg_stp (st' := .int (Int32.ofNat 7) :: _) rfl rfl rfl rfl ?_
  refine xg_stp rfl rfl rfl rfl ?_
  refine rf_fa B rfl rfl ?_
  refine xg_stp (st' := .int (Int32.ofNat 7) :: _) rfl rfl rfl rfl ?_
  refine rf_ld B (by omega) rfl ?_
  refine xn_i2l (by omega) rfl ?_
  refine xg_stp (st' := .long (Int64.ofNat 773) :: _) rfl rfl rfl rfl ?_
  refine xn_lmul rfl ?_
  refine xg_stp (st' := .long (Int64.ofNat 641) :: _) rfl rfl rfl rfl ?_
  refine xn_ladd rfl ?_
  refine xg_stp (st' := .long (Int64.ofNat 31139) :: _) rfl rfl rfl rfl ?_
  refine xn_lmod (by omega) (by omega) (by omega) rfl ?_
  refine xn_l2i rfl ?_
  refine rf_sto B (by omega) rfl ?_
  exact xg_ret rfl rfl
/-- 'drawnBy' -/
theorem rf_drawnBy {b : xi_W} {O A : Nat} {o : Nat × List Value} (B : rf_B b O A o) (d : Nat) (F : Nat → Nat) (c s : Nat) (n : Nat) (hx : F 7 < 2147483648) (hn : n < 2147483648) (h0 : 0 < n) : xg (d + 1) 242 0 ([(0, .ref O), (1, .int (Int32.ofNat n))]) [] (rf_w b A F) c s (some (.int (Int32.ofNat (F 7 % n))), rf_w b A (xn_u F 7 ((F 7 * 773 + 641) % 31139)), c, s) := by
  refine xg_stp rfl rfl rfl rfl ?_
  refine rf_fa B rfl rfl ?_
  refine xg_stp (st' := .int (Int32.ofNat 7) :: _) rfl rfl rfl rfl ?_
  refine rf_ld B (by omega) rfl ?_
  refine xg_stp rfl rfl rfl rfl ?_
  refine xn_mod (by omega) (by omega) (by omega) rfl ?_
  refine xg_stp rfl rfl rfl rfl ?_
  refine xg_stp rfl rfl rfl rfl ?_
  refine rf_call B rfl rfl rfl rfl rfl rfl (rf_anew B d F 0 0 hx) ?_
  refine xg_stp rfl rfl rfl rfl ?_
  exact xg_ret rfl rfl
/-- 'canSet' -/
theorem rf_canSet {b : xi_W} {O A : Nat} {o : Nat × List Value} (B : rf_B b O A o) (d : Nat) (F : Nat → Nat) (c s : Nat) (r : Nat) (hr : r < 4) (hF : ∀ q, q < 8 → F (205 + 57 * r + q) < 2147483648) : xg (d + 3) 251 0 ([(0, .ref O), (1, .int (Int32.ofNat r))]) [] (rf_w b A F) c s (some (.int (Int32.ofNat (if rf_v F (205 + 57 * r) r 63 0 < 63 then 1 else 0))), rf_w b A (F), c, s) := by
  refine xg_stp rfl rfl rfl rfl ?_
  refine xg_stp rfl rfl rfl rfl ?_
  refine xg_call rfl rfl rfl (rf_stateAt B (d + 2) F 0 0 r) ?_
  refine xg_stp rfl rfl rfl rfl ?_
  refine rf_call B rfl rfl rfl rfl rfl rfl (rf_vectorOf B d 0 0 (205 + 57 * r) r (by omega) hr F hF) ?_
  refine xg_stp (st' := .int (Int32.ofNat 63) :: _) rfl rfl rfl rfl ?_
  refine xg_j2 rfl rfl rfl rfl rfl (fun h11 => ?_) (fun h11 => ?_)
  · rw [if_neg (Nat.not_lt.mpr (nt_ge (by have := rf_vle F (205 + 57 * r) r 63 0; omega) (by omega) h11))]
    refine xg_stp (st' := .int (Int32.ofNat 0) :: _) rfl rfl rfl rfl ?_
    exact xg_ret rfl rfl
  · rw [if_pos (nf_ge (by have := rf_vle F (205 + 57 * r) r 63 0; omega) (by omega) h11)]
    refine xg_stp (st' := .int (Int32.ofNat 1) :: _) rfl rfl rfl rfl ?_
    refine xg_stp rfl rfl rfl rfl ?_
    exact xg_ret rfl rfl
/-- the least of what is acked -/
def rf_lt (F : Nat → Nat) (r : Nat) : Nat → Nat → Nat → Nat
  | 0, _, v => v
  | m + 1, q, v => rf_lt F r m (q + 1) (if q = r then v else if F (20 + 4 * r + q) < v then F (20 + 4 * r + q) else v)
def rf_da (F : Nat → Nat) (r : Nat) : Nat → Nat := if rf_lt F r 4 0 (F (12 + r)) ≤ F (16 + r) then F else xn_u F (16 + r) (rf_lt F r 4 0 (F (12 + r)))
theorem rf_ltb (F : Nat → Nat) (r : Nat) : ∀ (m q v : Nat), rf_lt F r m q v ≤ v
  | 0, q, v => Nat.le_refl _
  | m + 1, q, v => by
    unfold rf_lt
    refine Nat.le_trans (rf_ltb F r m (q + 1) _) ?_
    split
    · exact Nat.le_refl _
    · split
      · omega
      · exact Nat.le_refl _
/-- the loop of 'dropAcked' -/
theorem rf_dropL {b : xi_W} {O A : Nat} {o : Nat × List Value} (B : rf_B b O A o) (d : Nat) (c s : Nat) (r : Nat) (hr : r < 4) (F : Nat → Nat) (hA : ∀ q, q < 4 → F (20 + 4 * r + q) < 2147483648) (R : xi_R) : ∀ (m q v : Nat), q + m = 4 → v < 2147483648 → xg (d + 1) 245 45 [(3, .int (Int32.ofNat (4))), (2, .int (Int32.ofNat (rf_lt F r m q v))), (0, .ref O), (1, .int (Int32.ofNat r))] [] (rf_w b A F) c s R → xg (d + 1) 245 12 [(3, .int (Int32.ofNat (q))), (2, .int (Int32.ofNat (v))), (0, .ref O), (1, .int (Int32.ofNat r))] [] (rf_w b A F) c s R
  | 0, q, v, hm, hv, hk => by
    have e : q = 4 := by omega
    subst e
    refine xg_stp rfl rfl rfl rfl ?_
    refine xg_stp (st' := .int (Int32.ofNat 4) :: _) rfl rfl rfl rfl ?_
    refine xg_j2 rfl rfl rfl rfl rfl (fun h14 => ?_) (fun h14 => ?_)
    · exact hk
    · exact absurd (nf_ge (by omega) (by omega) h14) (by omega)
  | m + 1, q, v, hm, hv, hk => by
    have g := hA q (by omega)
    unfold rf_lt at hk
    refine xg_stp rfl rfl rfl rfl ?_
    refine xg_stp (st' := .int (Int32.ofNat 4) :: _) rfl rfl rfl rfl ?_
    refine xg_j2 rfl rfl rfl rfl rfl (fun h14 => ?_) (fun h14 => ?_)
    · exact absurd (nt_ge (by omega) (by omega) h14) (by omega)
    · refine xg_stp rfl rfl rfl rfl ?_
      refine xg_stp rfl rfl rfl rfl ?_
      refine xg_j2 rfl rfl rfl rfl rfl (fun h19 => ?_) (fun h19 => ?_)
      · rw [if_pos (nt_eq (by omega) (by omega) h19)] at hk
        refine xn_inc (e := 1) rfl rfl rfl rfl ?_
        refine xg_stp rfl rfl rfl rfl ?_
        exact rf_dropL B d c s r hr F hA R m (q + 1) _ (by omega) (by omega) hk
      · rw [if_neg (nf_eq h19)] at hk
        refine xg_stp rfl rfl rfl rfl ?_
        refine xg_stp rfl rfl rfl rfl ?_
        refine xg_stp rfl rfl rfl rfl ?_
        refine rf_call B rfl rfl rfl rfl rfl rfl (rf_ackedBy B d F 0 0 r q hr (by omega)) ?_
        refine xg_stp rfl rfl rfl rfl ?_
        refine xg_j2 rfl rfl rfl rfl rfl (fun h29 => ?_) (fun h29 => ?_)
        · rw [if_neg (Nat.not_lt.mpr (nt_ge (by omega) (by omega) h29))] at hk
          refine xn_inc (e := 1) rfl rfl rfl rfl ?_
          refine xg_stp rfl rfl rfl rfl ?_
          exact rf_dropL B d c s r hr F hA R m (q + 1) _ (by omega) (by omega) hk
        · rw [if_pos (nf_ge (by omega) (by omega) h29)] at hk
          refine xg_stp rfl rfl rfl rfl ?_
          refine xg_stp rfl rfl rfl rfl ?_
          refine xg_stp rfl rfl rfl rfl ?_
          refine rf_call B rfl rfl rfl rfl rfl rfl (rf_ackedBy B d F 0 0 r q hr (by omega)) ?_
          refine xg_stp rfl rfl rfl rfl ?_
          refine xn_inc (e := 1) rfl rfl rfl rfl ?_
          refine xg_stp rfl rfl rfl rfl ?_
          exact rf_dropL B d c s r hr F hA R m (q + 1) _ (by omega) (by omega) hk
/-- 'dropAcked' -/
theorem rf_dropAcked {b : xi_W} {O A : Nat} {o : Nat × List Value} (B : rf_B b O A o) (d : Nat) (c s : Nat) (r : Nat) (hr : r < 4) (F : Nat → Nat) (hA : ∀ q, q < 4 → F (20 + 4 * r + q) < 2147483648) (h12 : F (12 + r) < 2147483648) (h16 : F (16 + r) < 2147483648) : xg (d + 1) 245 0 [(0, .ref O), (1, .int (Int32.ofNat r))] [] (rf_w b A F) c s (none, rf_w b A (rf_da F r), c, s) := by
  refine xg_stp rfl rfl rfl rfl ?_
  refine rf_fa B rfl rfl ?_
  refine xg_stp (st' := .int (Int32.ofNat 12) :: _) rfl rfl rfl rfl ?_
  refine xg_stp rfl rfl rfl rfl ?_
  refine xn_add rfl ?_
  refine rf_ld B (by omega) rfl ?_
  refine xg_stp rfl rfl rfl rfl ?_
  refine xg_stp (st' := .int (Int32.ofNat 0) :: _) rfl rfl rfl rfl ?_
  refine xg_stp rfl rfl rfl rfl ?_
  refine rf_dropL B d c s r hr F hA _ 4 0 _ rfl h12 ?_
  have hb := rf_ltb F r 4 0 (F (12 + r))
  unfold rf_da
  refine xg_stp rfl rfl rfl rfl ?_
  refine xg_stp rfl rfl rfl rfl ?_
  refine rf_fa B rfl rfl ?_
  refine xg_stp (st' := .int (Int32.ofNat 16) :: _) rfl rfl rfl rfl ?_
  refine xg_stp rfl rfl rfl rfl ?_
  refine xn_add rfl ?_
  refine rf_ld B (by omega) rfl ?_
  refine xg_j2 rfl rfl rfl rfl rfl (fun h55 => ?_) (fun h55 => ?_)
  · rw [if_pos (nt_le (by omega) (by omega) h55)]
    exact xg_ret rfl rfl
  · rw [if_neg (Nat.not_le.mpr (nf_le (by omega) (by omega) h55))]
    refine xg_stp rfl rfl rfl rfl ?_
    refine rf_fa B rfl rfl ?_
    refine xg_stp (st' := .int (Int32.ofNat 16) :: _) rfl rfl rfl rfl ?_
    refine xg_stp rfl rfl rfl rfl ?_
    refine xn_add rfl ?_
    refine xg_stp rfl rfl rfl rfl ?_
    refine rf_sto B (by omega) rfl ?_
    exact xg_ret rfl rfl
theorem xn_ue (F : Nat → Nat) (k v : Nat) : xn_u F k v k = v := if_pos rfl
theorem xn_un (F : Nat → Nat) {k j : Nat} (v : Nat) (h : j ≠ k) : xn_u F k v j = F j := if_neg h
theorem rf_clo (F : Nat → Nat) (X Y k : Nat) {j : Nat} (h : j < Y) : rf_c F X Y k j = F j := if_neg (by omega)
def rf_dl (r n : Nat) : Nat := 205 + 57 * (4 + 6 * r + (n - 1) % 6)
def rf_t1 (F : Nat → Nat) (r : Nat) : Nat → Nat := xn_u F (12 + r) (F (12 + r) + 1)
def rf_t2 (F : Nat → Nat) (r x : Nat) : Nat → Nat := rf_da (rf_c (rf_t1 F r) x (rf_dl r (rf_t1 F r (12 + r))) 0) r
/-- a state is the next delta -/
def rf_td (F : Nat → Nat) (r x : Nat) : Nat → Nat := if F (12 + r) - F (16 + r) = 6 then rf_t2 (xn_u F (16 + r) (F (16 + r) + 1)) r x else rf_t2 F r x
theorem rf_tdT {b : xi_W} {O A : Nat} {o : Nat × List Value} (B : rf_B b O A o) (d : Nat) (c s : Nat) (r x : Nat) (hr : r < 4) (hx : 1801 ≤ x) (hx2 : x + 57 ≤ 98262) (F : Nat → Nat) (hA : ∀ q, q < 4 → F (20 + 4 * r + q) < 1000000) (h12 : F (12 + r) < 1000000) (h16 : F (16 + r) < 1000000) : xg (d + 2) 246 37 [(0, .ref O), (1, .int (Int32.ofNat r)), (2, .int (Int32.ofNat x))] [] (rf_w b A F) c s (none, rf_w b A (rf_t2 F r x), c, s) := by
  have e1 : rf_t1 F r (12 + r) = F (12 + r) + 1 := xn_ue _ _ _
  have e2 : 433 ≤ rf_dl r (rf_t1 F r (12 + r)) ∧ rf_dl r (rf_t1 F r (12 + r)) + 57 ≤ 1801 := by unfold rf_dl; omega
  refine xg_stp rfl rfl rfl rfl ?_
  refine rf_fa B rfl rfl ?_
  refine xg_stp (st' := .int (Int32.ofNat 12) :: _) rfl rfl rfl rfl ?_
  refine xg_stp rfl rfl rfl rfl ?_
  refine xn_add rfl ?_
  refine xg_stp rfl rfl rfl rfl ?_
  refine rf_ld B (by omega) rfl ?_
  refine xg_stp (st' := .int (Int32.ofNat 1) :: _) rfl rfl rfl rfl ?_
  refine xn_add rfl ?_
  refine rf_sto B (by omega) rfl ?_
  refine xg_stp rfl rfl rfl rfl ?_
  refine xg_stp rfl rfl rfl rfl ?_
  refine xg_stp rfl rfl rfl rfl ?_
  refine xg_stp rfl rfl rfl rfl ?_
  refine rf_fa B rfl rfl ?_
  refine xg_stp (st' := .int (Int32.ofNat 12) :: _) rfl rfl rfl rfl ?_
  refine xg_stp rfl rfl rfl rfl ?_
  refine xn_add rfl ?_
  refine rf_ld B (by omega) rfl ?_
  refine xg_call rfl rfl rfl (rf_deltaAt B d (rf_t1 F r) 0 0 r (rf_t1 F r (12 + r)) hr (by omega) (by omega)) ?_
  refine rf_call B rfl rfl rfl rfl rfl rfl (rf_copyState B (d + 1) (rf_t1 F r) 0 0 x (rf_dl r (rf_t1 F r (12 + r))) hx2 (by omega) (by omega)) ?_
  refine xg_stp rfl rfl rfl rfl ?_
  refine xg_stp rfl rfl rfl rfl ?_
  refine rf_call B rfl rfl rfl rfl rfl rfl (rf_dropAcked B d 0 0 r hr (rf_c (rf_t1 F r) x (rf_dl r (rf_t1 F r (12 + r))) 0) (fun q hq => by rw [rf_clo _ _ _ _ (by omega)]; unfold rf_t1; rw [xn_un _ _ (by omega)]; have := hA q hq; omega) (by rw [rf_clo _ _ _ _ (by omega)]; omega) (by rw [rf_clo _ _ _ _ (by omega)]; unfold rf_t1; rw [xn_un _ _ (by omega)]; omega)) ?_
  exact xg_ret rfl rfl
/-- 'takeDelta' -/
theorem rf_takeDelta {b : xi_W} {O A : Nat} {o : Nat × List Value} (B : rf_B b O A o) (d : Nat) (c s : Nat) (r x : Nat) (hr : r < 4) (hx : 1801 ≤ x) (hx2 : x + 57 ≤ 98262) (F : Nat → Nat) (hA : ∀ q, q < 4 → F (20 + 4 * r + q) < 1000000) (h12 : F (12 + r) < 1000000) (h16 : F (16 + r) < 1000000) (hle : F (16 + r) ≤ F (12 + r)) : xg (d + 2) 246 0 [(0, .ref O), (1, .int (Int32.ofNat r)), (2, .int (Int32.ofNat x))] [] (rf_w b A F) c s (none, rf_w b A (rf_td F r x), c, s) := by
  unfold rf_td
  refine xg_stp rfl rfl rfl rfl ?_
  refine rf_fa B rfl rfl ?_
  refine xg_stp (st' := .int (Int32.ofNat 12) :: _) rfl rfl rfl rfl ?_
  refine xg_stp rfl rfl rfl rfl ?_
  refine xn_add rfl ?_
  refine rf_ld B (by omega) rfl ?_
  refine xg_stp rfl rfl rfl rfl ?_
  refine rf_fa B rfl rfl ?_
  refine xg_stp (st' := .int (Int32.ofNat 16) :: _) rfl rfl rfl rfl ?_
  refine xg_stp rfl rfl rfl rfl ?_
  refine xn_add rfl ?_
  refine rf_ld B (by omega) rfl ?_
  refine xn_sub (by omega) rfl ?_
  refine xg_stp (st' := .int (Int32.ofNat 6) :: _) rfl rfl rfl rfl ?_
  refine xg_j2 rfl rfl rfl rfl rfl (fun h21 => ?_) (fun h21 => ?_)
  · rw [if_neg (nt_ne h21)]
    exact rf_tdT B d c s r x hr hx hx2 F hA h12 h16
  · have e6 := nf_ne (by omega) (by omega) h21
    rw [if_pos e6]
    refine xg_stp rfl rfl rfl rfl ?_
    refine rf_fa B rfl rfl ?_
    refine xg_stp (st' := .int (Int32.ofNat 16) :: _) rfl rfl rfl rfl ?_
    refine xg_stp rfl rfl rfl rfl ?_
    refine xn_add rfl ?_
    refine xg_stp rfl rfl rfl rfl ?_
    refine rf_ld B (by omega) rfl ?_
    refine xg_stp (st' := .int (Int32.ofNat 1) :: _) rfl rfl rfl rfl ?_
    refine xn_add rfl ?_
    refine rf_sto B (by omega) rfl ?_
    exact rf_tdT B d c s r x hr hx hx2 _ (fun q hq => by rw [xn_un _ _ (by omega)]; exact hA q hq) (by rw [xn_un _ _ (by omega)]; exact h12) (by rw [xn_ue]; omega)
/-- the book's lines go down by one -/
def rf_sh : Nat → Nat → (Nat → Nat) → (Nat → Nat)
  | 0, _, F => F
  | m + 1, k, F => rf_sh m (k + 1) (xn_u F (36 + k - 1) (F (36 + k)))
theorem rf_sho : ∀ (m k : Nat) (F : Nat → Nat) (j : Nat), 1 ≤ k → k + m = 25 → (j < 36 ∨ 60 ≤ j) → rf_sh m k F j = F j
  | 0, _, _, _, _, _, _ => rfl
  | m + 1, k, F, j, hk, hm, hj => by
    unfold rf_sh
    rw [rf_sho m (k + 1) _ j (by omega) (by omega) hj, xn_un _ _ (by omega)]
def rf_w2 (F : Nat → Nat) (a r k : Nat) : Nat → Nat := xn_u (xn_u F (36 + F 10) (((F 6 * 5 + a) * 4 + r) * 4 + k)) 10 (xn_u F (36 + F 10) (((F 6 * 5 + a) * 4 + r) * 4 + k) 10 + 1)
def rf_w1 (F : Nat → Nat) : Nat → Nat := xn_u (rf_sh 24 1 F) 10 (rf_sh 24 1 F 10 - 1)
/-- a line is written down -/
def rf_wd (F : Nat → Nat) (a r k : Nat) : Nat → Nat := if F 10 = 25 then rf_w2 (rf_w1 F) a r k else rf_w2 F a r k
theorem rf_w2o (F : Nat → Nat) (a r k j : Nat) (h : F 10 ≤ 24) (hj : j ≠ 10) (hj2 : j < 36 ∨ 61 ≤ j) : rf_w2 F a r k j = F j := by
  unfold rf_w2; rw [xn_un _ _ hj, xn_un _ _ (by omega)]
theorem rf_w2t (F : Nat → Nat) (a r k : Nat) : rf_w2 F a r k 10 = F 10 + 1 := by
  unfold rf_w2; rw [xn_ue, xn_un _ _ (by omega)]
theorem rf_w1t (F : Nat → Nat) (h : F 10 = 25) : rf_w1 F 10 = 24 := by
  unfold rf_w1; rw [xn_ue, rf_sho 24 1 F 10 (by omega) rfl (by omega), h]
theorem rf_wdo (F : Nat → Nat) (a r k j : Nat) (h : F 10 ≤ 25) (hj : j ≠ 10) (hj2 : j < 36 ∨ 61 ≤ j) : rf_wd F a r k j = F j := by
  unfold rf_wd
  split
  · rename_i h1
    rw [rf_w2o _ a r k j (by rw [rf_w1t F h1]; omega) hj hj2]
    unfold rf_w1
    rw [xn_un _ _ hj, rf_sho 24 1 F j (by omega) rfl (by omega)]
  · exact rf_w2o F a r k j (by omega) hj hj2
theorem rf_wdt (F : Nat → Nat) (a r k : Nat) (h : F 10 ≤ 25) : rf_wd F a r k 10 ≤ 25 := by
  unfold rf_wd
  split
  · rename_i h1
    rw [rf_w2t, rf_w1t F h1]
    omega
  · rw [rf_w2t]; omega
/-- the loop of 'writeDown' -/
theorem rf_shL {b : xi_W} {O A : Nat} {o : Nat × List Value} (B : rf_B b O A o) (d : Nat) (c s : Nat) (a r e : Nat) (R : xi_R) : ∀ (m k : Nat) (F : Nat → Nat), 1 ≤ k → k + m = 25 → xg d 241 50 [(4, .int (Int32.ofNat (25))), (0, .ref O), (1, .int (Int32.ofNat a)), (2, .int (Int32.ofNat r)), (3, .int (Int32.ofNat e))] [] (rf_w b A (rf_sh m k F)) c s R → xg d 241 15 [(4, .int (Int32.ofNat (k))), (0, .ref O), (1, .int (Int32.ofNat a)), (2, .int (Int32.ofNat r)), (3, .int (Int32.ofNat e))] [] (rf_w b A F) c s R
  | 0, k, F, hk1, hm, hk => by
    have e0 : k = 25 := by omega
    subst e0
    refine xg_stp rfl rfl rfl rfl ?_
    refine xg_stp (st' := .int (Int32.ofNat 25) :: _) rfl rfl rfl rfl ?_
    refine xg_j2 rfl rfl rfl rfl rfl (fun h19 => ?_) (fun h19 => ?_)
    · exact hk
    · exact absurd (nf_ge (by omega) (by omega) h19) (by omega)
  | m + 1, k, F, hk1, hm, hk => by
    unfold rf_sh at hk
    refine xg_stp rfl rfl rfl rfl ?_
    refine xg_stp (st' := .int (Int32.ofNat 25) :: _) rfl rfl rfl rfl ?_
    refine xg_j2 rfl rfl rfl rfl rfl (fun h19 => ?_) (fun h19 => ?_)
    · exact absurd (nt_ge (by omega) (by omega) h19) (by omega)
    · refine xg_stp rfl rfl rfl rfl ?_
      refine rf_fa B rfl rfl ?_
      refine xg_stp (st' := .int (Int32.ofNat 36) :: _) rfl rfl rfl rfl ?_
      refine xg_stp rfl rfl rfl rfl ?_
      refine xn_add rfl ?_
      refine xg_stp (st' := .int (Int32.ofNat 1) :: _) rfl rfl rfl rfl ?_
      refine xn_sub (by omega) rfl ?_
      refine xg_stp rfl rfl rfl rfl ?_
      refine rf_fa B rfl rfl ?_
      refine xg_stp (st' := .int (Int32.ofNat 36) :: _) rfl rfl rfl rfl ?_
      refine xg_stp rfl rfl rfl rfl ?_
      refine xn_add rfl ?_
      refine rf_ld B (by omega) rfl ?_
      refine rf_sto B (by omega) rfl ?_
      refine xn_inc (e := 1) rfl rfl rfl rfl ?_
      refine xg_stp rfl rfl rfl rfl ?_
      exact rf_shL B d c s a r e R m (k + 1) _ (by omega) (by omega) hk
/-- 'writeDown' -/
theorem rf_writeDown {b : xi_W} {O A : Nat} {o : Nat × List Value} (B : rf_B b O A o) (d : Nat) (c s : Nat) (a r e : Nat) (F : Nat → Nat) (h10 : F 10 ≤ 25) : xg d 241 0 [(0, .ref O), (1, .int (Int32.ofNat a)), (2, .int (Int32.ofNat r)), (3, .int (Int32.ofNat e))] [] (rf_w b A F) c s (none, rf_w b A (rf_wd F a r e), c, s) := by
  unfold rf_wd
  refine xg_stp rfl rfl rfl rfl ?_
  refine rf_fa B rfl rfl ?_
  refine xg_stp (st' := .int (Int32.ofNat 10) :: _) rfl rfl rfl rfl ?_
  refine rf_ld B (by omega) rfl ?_
  refine xg_stp (st' := .int (Int32.ofNat 25) :: _) rfl rfl rfl rfl ?_
  refine xg_j2 rfl rfl rfl rfl rfl (fun h9 => ?_) (fun h9 => ?_)
  · rw [if_neg (nt_ne h9)]
    have e2 := nt_ne h9
    refine xg_stp rfl rfl rfl rfl ?_
    refine rf_fa B rfl rfl ?_
    refine xg_stp (st' := .int (Int32.ofNat 36) :: _) rfl rfl rfl rfl ?_
    refine xg_stp rfl rfl rfl rfl ?_
    refine rf_fa B rfl rfl ?_
    refine xg_stp (st' := .int (Int32.ofNat 10) :: _) rfl rfl rfl rfl ?_
    refine rf_ld B (by omega) rfl ?_
    refine xn_add rfl ?_
    refine xg_stp rfl rfl rfl rfl ?_
    refine rf_fa B rfl rfl ?_
    refine xg_stp (st' := .int (Int32.ofNat 6) :: _) rfl rfl rfl rfl ?_
    refine rf_ld B (by omega) rfl ?_
    refine xg_stp (st' := .int (Int32.ofNat 5) :: _) rfl rfl rfl rfl ?_
    refine xn_mul rfl ?_
    refine xg_stp rfl rfl rfl rfl ?_
    refine xn_add rfl ?_
    refine xg_stp (st' := .int (Int32.ofNat 4) :: _) rfl rfl rfl rfl ?_
    refine xn_mul rfl ?_
    refine xg_stp rfl rfl rfl rfl ?_
    refine xn_add rfl ?_
    refine xg_stp (st' := .int (Int32.ofNat 4) :: _) rfl rfl rfl rfl ?_
    refine xn_mul rfl ?_
    refine xg_stp rfl rfl rfl rfl ?_
    refine xn_add rfl ?_
    refine rf_sto B (by omega) rfl ?_
    refine xg_stp rfl rfl rfl rfl ?_
    refine rf_fa B rfl rfl ?_
    refine xg_stp (st' := .int (Int32.ofNat 10) :: _) rfl rfl rfl rfl ?_
    refine xg_stp rfl rfl rfl rfl ?_
    refine rf_ld B (by omega) rfl ?_
    refine xg_stp (st' := .int (Int32.ofNat 1) :: _) rfl rfl rfl rfl ?_
    refine xn_add rfl ?_
    refine rf_sto B (by omega) rfl ?_
    exact xg_ret rfl rfl
  · have e2 := nf_ne (by omega) (by omega) h9
    rw [if_pos e2]
    have e1 : rf_sh 24 1 F 10 = 25 := by rw [rf_sho 24 1 F 10 (by omega) rfl (by omega), e2]
    have e3 := rf_w1t F e2
    unfold rf_w1 at e3
    refine xg_stp (st' := .int (Int32.ofNat 1) :: _) rfl rfl rfl rfl ?_
    refine xg_stp rfl rfl rfl rfl ?_
    refine rf_shL B d c s a r e _ 24 1 F (by omega) rfl ?_
    refine xg_stp rfl rfl rfl rfl ?_
    refine rf_fa B rfl rfl ?_
    refine xg_stp (st' := .int (Int32.ofNat 10) :: _) rfl rfl rfl rfl ?_
    refine xg_stp rfl rfl rfl rfl ?_
    refine rf_ld B (by omega) rfl ?_
    refine xg_stp (st' := .int (Int32.ofNat 1) :: _) rfl rfl rfl rfl ?_
    refine xn_sub (by rw [e1]; omega) rfl ?_
    refine rf_sto B (by omega) rfl ?_
    refine xg_stp rfl rfl rfl rfl ?_
    refine rf_fa B rfl rfl ?_
    refine xg_stp (st' := .int (Int32.ofNat 36) :: _) rfl rfl rfl rfl ?_
    refine xg_stp rfl rfl rfl rfl ?_
    refine rf_fa B rfl rfl ?_
    refine xg_stp (st' := .int (Int32.ofNat 10) :: _) rfl rfl rfl rfl ?_
    refine rf_ld B (by omega) rfl ?_
    refine xn_add rfl ?_
    refine xg_stp rfl rfl rfl rfl ?_
    refine rf_fa B rfl rfl ?_
    refine xg_stp (st' := .int (Int32.ofNat 6) :: _) rfl rfl rfl rfl ?_
    refine rf_ld B (by omega) rfl ?_
    refine xg_stp (st' := .int (Int32.ofNat 5) :: _) rfl rfl rfl rfl ?_
    refine xn_mul rfl ?_
    refine xg_stp rfl rfl rfl rfl ?_
    refine xn_add rfl ?_
    refine xg_stp (st' := .int (Int32.ofNat 4) :: _) rfl rfl rfl rfl ?_
    refine xn_mul rfl ?_
    refine xg_stp rfl rfl rfl rfl ?_
    refine xn_add rfl ?_
    refine xg_stp (st' := .int (Int32.ofNat 4) :: _) rfl rfl rfl rfl ?_
    refine xn_mul rfl ?_
    refine xg_stp rfl rfl rfl rfl ?_
    refine xn_add rfl ?_
    refine rf_sto B (by omega) rfl ?_
    refine xg_stp rfl rfl rfl rfl ?_
    refine rf_fa B rfl rfl ?_
    refine xg_stp (st' := .int (Int32.ofNat 10) :: _) rfl rfl rfl rfl ?_
    refine xg_stp rfl rfl rfl rfl ?_
    refine rf_ld B (by omega) rfl ?_
    refine xg_stp (st' := .int (Int32.ofNat 1) :: _) rfl rfl rfl rfl ?_
    refine xn_add rfl ?_
    refine rf_sto B (by omega) rfl ?_
    exact xg_ret rfl rfl
/-- whether a packed entry is of a key, of a field (or any) -/
def rf_is (p q f : Nat) : Nat := if p % 1200 / 300 = q ∧ (f = 4294967295 ∨ p / 100 % 3 = f) then 1 else 0
def rf_mo (F : Nat → Nat) (X q f : Nat) : Nat → Nat → Nat → Nat
  | 0, _, n => n
  | m + 1, i, n => rf_mo F X q f m (i + 1) (n + rf_is (F (X + 9 + i)) q f)
theorem rf_isb (p q f : Nat) : rf_is p q f < 2 := by unfold rf_is; split <;> omega
/-- the loop of 'manyOf' -/
theorem rf_moL {b : xi_W} {O A : Nat} {o : Nat × List Value} (B : rf_B b O A o) (d : Nat) (c s : Nat) (X q f : Nat) (hX : X + 57 ≤ 98262) (hq : q < 2147483648) (hf : f < 4294967296) (F : Nat → Nat) (h8 : F (X + 8) ≤ 48) (hp : ∀ i, i < F (X + 8) → F (X + 9 + i) < 2147483648) : ∀ (m i n : Nat), i + m = F (X + 8) → xg (d + 2) 250 6 [(5, .int (Int32.ofNat (i))), (4, .int (Int32.ofNat (n))), (0, .ref O), (1, .int (Int32.ofNat X)), (2, .int (Int32.ofNat q)), (3, .int (Int32.ofNat f))] [] (rf_w b A F) c s (some (.int (Int32.ofNat (rf_mo F X q f m i n))), rf_w b A F, c, s)
  | 0, i, n, hm => by
    unfold rf_mo
    refine xg_stp rfl rfl rfl rfl ?_
    refine xg_stp rfl rfl rfl rfl ?_
    refine xg_stp rfl rfl rfl rfl ?_
    refine rf_call B rfl rfl rfl rfl rfl rfl (rf_many B (d + 1) F 0 0 X (by omega)) ?_
    refine xg_j2 rfl rfl rfl rfl rfl (fun h13 => ?_) (fun h13 => ?_)
    · refine xg_stp rfl rfl rfl rfl ?_
      exact xg_ret rfl rfl
    · exact absurd (nf_ge (by omega) (by omega) h13) (by omega)
  | m + 1, i, n, hm => by
    have g := hp i (by omega)
    have gb := rf_isb (F (X + 9 + i)) q f
    unfold rf_mo
    refine xg_stp rfl rfl rfl rfl ?_
    refine xg_stp rfl rfl rfl rfl ?_
    refine xg_stp rfl rfl rfl rfl ?_
    refine rf_call B rfl rfl rfl rfl rfl rfl (rf_many B (d + 1) F 0 0 X (by omega)) ?_
    refine xg_j2 rfl rfl rfl rfl rfl (fun h13 => ?_) (fun h13 => ?_)
    · exact absurd (nt_ge (by omega) (by omega) h13) (by omega)
    · refine xg_stp rfl rfl rfl rfl ?_
      refine xg_stp rfl rfl rfl rfl ?_
      refine xg_stp rfl rfl rfl rfl ?_
      refine xg_stp rfl rfl rfl rfl ?_
      refine xg_stp rfl rfl rfl rfl ?_
      refine rf_call B rfl rfl rfl rfl rfl rfl (rf_packed B (d + 1) F 0 0 X i (by omega)) ?_
      refine xg_stp rfl rfl rfl rfl ?_
      refine xg_stp rfl rfl rfl rfl ?_
      refine rf_call B rfl rfl rfl rfl rfl rfl (rf_isOfThese B d F 0 0 (F (X + 9 + i)) q f g hq hf) ?_
      refine xg_j1 rfl rfl rfl rfl rfl (fun h31 => ?_) (fun h31 => ?_)
      · rw [show rf_is (F (X + 9 + i)) q f = 0 from nt1_eq (by change rf_is (F (X + 9 + i)) q f < 4294967296; omega) h31]
        refine xg_stp (st' := .int (Int32.ofNat 0) :: _) rfl rfl rfl rfl ?_
        refine xn_add rfl ?_
        refine xg_stp rfl rfl rfl rfl ?_
        refine xn_inc (e := 1) rfl rfl rfl rfl ?_
        refine xg_stp rfl rfl rfl rfl ?_
        exact rf_moL B d c s X q f hX hq hf F h8 hp m (i + 1) _ (by omega)
      · have e0 : rf_is (F (X + 9 + i)) q f ≠ 0 := nf1_eq h31
        rw [show rf_is (F (X + 9 + i)) q f = 1 by omega]
        refine xg_stp (st' := .int (Int32.ofNat 1) :: _) rfl rfl rfl rfl ?_
        refine xg_stp rfl rfl rfl rfl ?_
        refine xn_add rfl ?_
        refine xg_stp rfl rfl rfl rfl ?_
        refine xn_inc (e := 1) rfl rfl rfl rfl ?_
        refine xg_stp rfl rfl rfl rfl ?_
        exact rf_moL B d c s X q f hX hq hf F h8 hp m (i + 1) _ (by omega)
/-- 'manyOf' -/
theorem rf_manyOf {b : xi_W} {O A : Nat} {o : Nat × List Value} (B : rf_B b O A o) (d : Nat) (c s : Nat) (X q f : Nat) (hX : X + 57 ≤ 98262) (hq : q < 2147483648) (hf : f < 4294967296) (F : Nat → Nat) (h8 : F (X + 8) ≤ 48) (hp : ∀ i, i < F (X + 8) → F (X + 9 + i) < 2147483648) : xg (d + 2) 250 0 [(0, .ref O), (1, .int (Int32.ofNat X)), (2, .int (Int32.ofNat q)), (3, .int (Int32.ofNat f))] [] (rf_w b A F) c s (some (.int (Int32.ofNat (rf_mo F X q f (F (X + 8)) 0 0))), rf_w b A F, c, s) := by
  refine xg_stp (st' := .int (Int32.ofNat 0) :: _) rfl rfl rfl rfl ?_
  refine xg_stp rfl rfl rfl rfl ?_
  refine xg_stp (st' := .int (Int32.ofNat 0) :: _) rfl rfl rfl rfl ?_
  refine xg_stp rfl rfl rfl rfl ?_
  exact rf_moL B d c s X q f hX hq hf F h8 hp (F (X + 8)) 0 0 (Nat.zero_add _)
def rf_kn (F : Nat → Nat) (x t : Nat) : Nat → Nat := xn_u F (x + t / 32) (F (x + t / 32) ||| 1 * 2 ^ (t % 32))
/-- CHANGE knows the dots of these entries of a state -/
def rf_ll (X q f : Nat) : Nat → Nat → Nat → (Nat → Nat) → Nat × (Nat → Nat)
  | 0, _, n, F => (n, F)
  | m + 1, i, n, F => if rf_is (F (X + 9 + i)) q f = 0 then rf_ll X q f m (i + 1) n F else rf_ll X q f m (i + 1) (n + 1) (rf_kn F 3315 (F (X + 9 + i) / 1200))
theorem rf_knlo (F : Nat → Nat) (x t j : Nat) (h : j < x) : rf_kn F x t j = F j := xn_un _ _ (by omega)
/-- the loop of 'layChange' -/
theorem rf_llL {b : xi_W} {O A : Nat} {o : Nat × List Value} (B : rf_B b O A o) (d : Nat) (c s : Nat) (r q f : Nat) (hr : r < 4) (hq : q < 2147483648) (hf : f < 4294967296) : ∀ (m i n : Nat) (F : Nat → Nat) (L : xi_L), i + m = F (205 + 57 * r + 8) → F (205 + 57 * r + 8) ≤ 48 → (∀ j, j < F (205 + 57 * r + 8) → F (205 + 57 * r + 9 + j) < 307200) → (L = [(5, .int (Int32.ofNat (i))), (4, .int (Int32.ofNat (n))), (0, .ref O), (1, .int (Int32.ofNat r)), (2, .int (Int32.ofNat q)), (3, .int (Int32.ofNat f))] ∨ (∃ p0, L = [(5, .int (Int32.ofNat (i))), (6, .int (Int32.ofNat p0)), (4, .int (Int32.ofNat (n))), (0, .ref O), (1, .int (Int32.ofNat r)), (2, .int (Int32.ofNat q)), (3, .int (Int32.ofNat f))]) ∨ (∃ p0, L = [(5, .int (Int32.ofNat (i))), (4, .int (Int32.ofNat (n))), (6, .int (Int32.ofNat p0)), (0, .ref O), (1, .int (Int32.ofNat r)), (2, .int (Int32.ofNat q)), (3, .int (Int32.ofNat f))])) → xg (d + 2) 249 13 L [] (rf_w b A F) c s (some (.int (Int32.ofNat (rf_ll (205 + 57 * r) q f m i n F).1)), rf_w b A (rf_ll (205 + 57 * r) q f m i n F).2, c, s)
  | 0, i, n, F, L, hm, h8, hp, hL => by
    unfold rf_ll
    rcases hL with rfl | ⟨p0, rfl⟩ | ⟨p0, rfl⟩
    · refine xg_stp rfl rfl rfl rfl ?_
      refine xg_stp rfl rfl rfl rfl ?_
      refine xg_stp rfl rfl rfl rfl ?_
      refine xg_call rfl rfl rfl (rf_stateAt B (d + 1) F 0 0 r) ?_
      refine rf_call B rfl rfl rfl rfl rfl rfl (rf_many B (d + 1) F 0 0 (205 + 57 * r) (by omega)) ?_
      refine xg_j2 rfl rfl rfl rfl rfl (fun h23 => ?_) (fun h23 => ?_)
      · refine xg_stp rfl rfl rfl rfl ?_
        exact xg_ret rfl rfl
      · exact absurd (nf_ge (by omega) (by omega) h23) (by omega)
    · refine xg_stp rfl rfl rfl rfl ?_
      refine xg_stp rfl rfl rfl rfl ?_
      refine xg_stp rfl rfl rfl rfl ?_
      refine xg_call rfl rfl rfl (rf_stateAt B (d + 1) F 0 0 r) ?_
      refine rf_call B rfl rfl rfl rfl rfl rfl (rf_many B (d + 1) F 0 0 (205 + 57 * r) (by omega)) ?_
      refine xg_j2 rfl rfl rfl rfl rfl (fun h23 => ?_) (fun h23 => ?_)
      · refine xg_stp rfl rfl rfl rfl ?_
        exact xg_ret rfl rfl
      · exact absurd (nf_ge (by omega) (by omega) h23) (by omega)
    · refine xg_stp rfl rfl rfl rfl ?_
      refine xg_stp rfl rfl rfl rfl ?_
      refine xg_stp rfl rfl rfl rfl ?_
      refine xg_call rfl rfl rfl (rf_stateAt B (d + 1) F 0 0 r) ?_
      refine rf_call B rfl rfl rfl rfl rfl rfl (rf_many B (d + 1) F 0 0 (205 + 57 * r) (by omega)) ?_
      refine xg_j2 rfl rfl rfl rfl rfl (fun h23 => ?_) (fun h23 => ?_)
      · refine xg_stp rfl rfl rfl rfl ?_
        exact xg_ret rfl rfl
      · exact absurd (nf_ge (by omega) (by omega) h23) (by omega)
  | m + 1, i, n, F, L, hm, h8, hp, hL => by
    have g := hp i (by omega)
    have gb := rf_isb (F (205 + 57 * r + 9 + i)) q f
    unfold rf_ll
    rcases hL with rfl | ⟨p0, rfl⟩ | ⟨p0, rfl⟩
    · refine xg_stp rfl rfl rfl rfl ?_
      refine xg_stp rfl rfl rfl rfl ?_
      refine xg_stp rfl rfl rfl rfl ?_
      refine xg_call rfl rfl rfl (rf_stateAt B (d + 1) F 0 0 r) ?_
      refine rf_call B rfl rfl rfl rfl rfl rfl (rf_many B (d + 1) F 0 0 (205 + 57 * r) (by omega)) ?_
      refine xg_j2 rfl rfl rfl rfl rfl (fun h23 => ?_) (fun h23 => ?_)
      · exact absurd (nt_ge (by omega) (by omega) h23) (by omega)
      · refine xg_stp rfl rfl rfl rfl ?_
        refine xg_stp rfl rfl rfl rfl ?_
        refine xg_call rfl rfl rfl (rf_stateAt B (d + 1) F 0 0 r) ?_
        refine xg_stp rfl rfl rfl rfl ?_
        refine rf_call B rfl rfl rfl rfl rfl rfl (rf_packed B (d + 1) F 0 0 (205 + 57 * r) i (by omega)) ?_
        refine xg_stp rfl rfl rfl rfl ?_
        refine xg_stp rfl rfl rfl rfl ?_
        refine xg_stp rfl rfl rfl rfl ?_
        refine xg_stp rfl rfl rfl rfl ?_
        refine xg_stp rfl rfl rfl rfl ?_
        refine rf_call B rfl rfl rfl rfl rfl rfl (rf_isOfThese B d F 0 0 (F (205 + 57 * r + 9 + i)) q f (by omega) hq hf) ?_
        refine xg_j1 rfl rfl rfl rfl rfl (fun h46 => ?_) (fun h46 => ?_)
        · have e0 : rf_is (F (205 + 57 * r + 9 + i)) q f ≠ 0 := nt1_ne h46
          rw [if_neg e0]
          refine xg_stp rfl rfl rfl rfl ?_
          refine xg_stp (st' := .int (Int32.ofNat 3315) :: _) rfl rfl rfl rfl ?_
          refine xg_stp rfl rfl rfl rfl ?_
          refine xg_call rfl rfl rfl (rf_dotOf B (d + 1) F 0 0 (F (205 + 57 * r + 9 + i)) (by omega)) ?_
          refine rf_call B rfl rfl rfl rfl rfl rfl (rf_know B (d + 1) F 0 0 3315 (F (205 + 57 * r + 9 + i) / 1200) (by omega) (by omega)) ?_
          refine xn_inc (e := 1) rfl rfl rfl rfl ?_
          refine xn_inc (e := 1) rfl rfl rfl rfl ?_
          refine xg_stp rfl rfl rfl rfl ?_
          first
            | exact rf_llL B d c s r q f hr hq hf m (i + 1) n F _ (by omega) h8 hp (Or.inr (Or.inl ⟨_, rfl⟩))
            | exact rf_llL B d c s r q f hr hq hf m (i + 1) (n + 1) (rf_kn F 3315 (F (205 + 57 * r + 9 + i) / 1200)) _ (by rw [rf_knlo _ _ _ _ (by omega)]; omega) (by rw [rf_knlo _ _ _ _ (by omega)]; exact h8) (fun j hj => by rw [rf_knlo _ _ _ (205 + 57 * r + 8) (by omega)] at hj; rw [rf_knlo _ _ _ _ (by omega)]; exact hp j hj) (Or.inr (Or.inr ⟨_, rfl⟩))
        · have e0 : rf_is (F (205 + 57 * r + 9 + i)) q f = 0 := nf1_ne (by change rf_is (F (205 + 57 * r + 9 + i)) q f < 4294967296; omega) h46
          rw [if_pos e0]
          refine xg_stp rfl rfl rfl rfl ?_
          refine xn_inc (e := 1) rfl rfl rfl rfl ?_
          refine xg_stp rfl rfl rfl rfl ?_
          first
            | exact rf_llL B d c s r q f hr hq hf m (i + 1) n F _ (by omega) h8 hp (Or.inr (Or.inl ⟨_, rfl⟩))
            | exact rf_llL B d c s r q f hr hq hf m (i + 1) (n + 1) (rf_kn F 3315 (F (205 + 57 * r + 9 + i) / 1200)) _ (by rw [rf_knlo _ _ _ _ (by omega)]; omega) (by rw [rf_knlo _ _ _ _ (by omega)]; exact h8) (fun j hj => by rw [rf_knlo _ _ _ (205 + 57 * r + 8) (by omega)] at hj; rw [rf_knlo _ _ _ _ (by omega)]; exact hp j hj) (Or.inr (Or.inr ⟨_, rfl⟩))
    · refine xg_stp rfl rfl rfl rfl ?_
      refine xg_stp rfl rfl rfl rfl ?_
      refine xg_stp rfl rfl rfl rfl ?_
      refine xg_call rfl rfl rfl (rf_stateAt B (d + 1) F 0 0 r) ?_
      refine rf_call B rfl rfl rfl rfl rfl rfl (rf_many B (d + 1) F 0 0 (205 + 57 * r) (by omega)) ?_
      refine xg_j2 rfl rfl rfl rfl rfl (fun h23 => ?_) (fun h23 => ?_)
      · exact absurd (nt_ge (by omega) (by omega) h23) (by omega)
      · refine xg_stp rfl rfl rfl rfl ?_
        refine xg_stp rfl rfl rfl rfl ?_
        refine xg_call rfl rfl rfl (rf_stateAt B (d + 1) F 0 0 r) ?_
        refine xg_stp rfl rfl rfl rfl ?_
        refine rf_call B rfl rfl rfl rfl rfl rfl (rf_packed B (d + 1) F 0 0 (205 + 57 * r) i (by omega)) ?_
        refine xg_stp rfl rfl rfl rfl ?_
        refine xg_stp rfl rfl rfl rfl ?_
        refine xg_stp rfl rfl rfl rfl ?_
        refine xg_stp rfl rfl rfl rfl ?_
        refine xg_stp rfl rfl rfl rfl ?_
        refine rf_call B rfl rfl rfl rfl rfl rfl (rf_isOfThese B d F 0 0 (F (205 + 57 * r + 9 + i)) q f (by omega) hq hf) ?_
        refine xg_j1 rfl rfl rfl rfl rfl (fun h46 => ?_) (fun h46 => ?_)
        · have e0 : rf_is (F (205 + 57 * r + 9 + i)) q f ≠ 0 := nt1_ne h46
          rw [if_neg e0]
          refine xg_stp rfl rfl rfl rfl ?_
          refine xg_stp (st' := .int (Int32.ofNat 3315) :: _) rfl rfl rfl rfl ?_
          refine xg_stp rfl rfl rfl rfl ?_
          refine xg_call rfl rfl rfl (rf_dotOf B (d + 1) F 0 0 (F (205 + 57 * r + 9 + i)) (by omega)) ?_
          refine rf_call B rfl rfl rfl rfl rfl rfl (rf_know B (d + 1) F 0 0 3315 (F (205 + 57 * r + 9 + i) / 1200) (by omega) (by omega)) ?_
          refine xn_inc (e := 1) rfl rfl rfl rfl ?_
          refine xn_inc (e := 1) rfl rfl rfl rfl ?_
          refine xg_stp rfl rfl rfl rfl ?_
          first
            | exact rf_llL B d c s r q f hr hq hf m (i + 1) n F _ (by omega) h8 hp (Or.inr (Or.inl ⟨_, rfl⟩))
            | exact rf_llL B d c s r q f hr hq hf m (i + 1) (n + 1) (rf_kn F 3315 (F (205 + 57 * r + 9 + i) / 1200)) _ (by rw [rf_knlo _ _ _ _ (by omega)]; omega) (by rw [rf_knlo _ _ _ _ (by omega)]; exact h8) (fun j hj => by rw [rf_knlo _ _ _ (205 + 57 * r + 8) (by omega)] at hj; rw [rf_knlo _ _ _ _ (by omega)]; exact hp j hj) (Or.inr (Or.inr ⟨_, rfl⟩))
        · have e0 : rf_is (F (205 + 57 * r + 9 + i)) q f = 0 := nf1_ne (by change rf_is (F (205 + 57 * r + 9 + i)) q f < 4294967296; omega) h46
          rw [if_pos e0]
          refine xg_stp rfl rfl rfl rfl ?_
          refine xn_inc (e := 1) rfl rfl rfl rfl ?_
          refine xg_stp rfl rfl rfl rfl ?_
          first
            | exact rf_llL B d c s r q f hr hq hf m (i + 1) n F _ (by omega) h8 hp (Or.inr (Or.inl ⟨_, rfl⟩))
            | exact rf_llL B d c s r q f hr hq hf m (i + 1) (n + 1) (rf_kn F 3315 (F (205 + 57 * r + 9 + i) / 1200)) _ (by rw [rf_knlo _ _ _ _ (by omega)]; omega) (by rw [rf_knlo _ _ _ _ (by omega)]; exact h8) (fun j hj => by rw [rf_knlo _ _ _ (205 + 57 * r + 8) (by omega)] at hj; rw [rf_knlo _ _ _ _ (by omega)]; exact hp j hj) (Or.inr (Or.inr ⟨_, rfl⟩))
    · refine xg_stp rfl rfl rfl rfl ?_
      refine xg_stp rfl rfl rfl rfl ?_
      refine xg_stp rfl rfl rfl rfl ?_
      refine xg_call rfl rfl rfl (rf_stateAt B (d + 1) F 0 0 r) ?_
      refine rf_call B rfl rfl rfl rfl rfl rfl (rf_many B (d + 1) F 0 0 (205 + 57 * r) (by omega)) ?_
      refine xg_j2 rfl rfl rfl rfl rfl (fun h23 => ?_) (fun h23 => ?_)
      · exact absurd (nt_ge (by omega) (by omega) h23) (by omega)
      · refine xg_stp rfl rfl rfl rfl ?_
        refine xg_stp rfl rfl rfl rfl ?_
        refine xg_call rfl rfl rfl (rf_stateAt B (d + 1) F 0 0 r) ?_
        refine xg_stp rfl rfl rfl rfl ?_
        refine rf_call B rfl rfl rfl rfl rfl rfl (rf_packed B (d + 1) F 0 0 (205 + 57 * r) i (by omega)) ?_
        refine xg_stp rfl rfl rfl rfl ?_
        refine xg_stp rfl rfl rfl rfl ?_
        refine xg_stp rfl rfl rfl rfl ?_
        refine xg_stp rfl rfl rfl rfl ?_
        refine xg_stp rfl rfl rfl rfl ?_
        refine rf_call B rfl rfl rfl rfl rfl rfl (rf_isOfThese B d F 0 0 (F (205 + 57 * r + 9 + i)) q f (by omega) hq hf) ?_
        refine xg_j1 rfl rfl rfl rfl rfl (fun h46 => ?_) (fun h46 => ?_)
        · have e0 : rf_is (F (205 + 57 * r + 9 + i)) q f ≠ 0 := nt1_ne h46
          rw [if_neg e0]
          refine xg_stp rfl rfl rfl rfl ?_
          refine xg_stp (st' := .int (Int32.ofNat 3315) :: _) rfl rfl rfl rfl ?_
          refine xg_stp rfl rfl rfl rfl ?_
          refine xg_call rfl rfl rfl (rf_dotOf B (d + 1) F 0 0 (F (205 + 57 * r + 9 + i)) (by omega)) ?_
          refine rf_call B rfl rfl rfl rfl rfl rfl (rf_know B (d + 1) F 0 0 3315 (F (205 + 57 * r + 9 + i) / 1200) (by omega) (by omega)) ?_
          refine xn_inc (e := 1) rfl rfl rfl rfl ?_
          refine xn_inc (e := 1) rfl rfl rfl rfl ?_
          refine xg_stp rfl rfl rfl rfl ?_
          first
            | exact rf_llL B d c s r q f hr hq hf m (i + 1) n F _ (by omega) h8 hp (Or.inr (Or.inl ⟨_, rfl⟩))
            | exact rf_llL B d c s r q f hr hq hf m (i + 1) (n + 1) (rf_kn F 3315 (F (205 + 57 * r + 9 + i) / 1200)) _ (by rw [rf_knlo _ _ _ _ (by omega)]; omega) (by rw [rf_knlo _ _ _ _ (by omega)]; exact h8) (fun j hj => by rw [rf_knlo _ _ _ (205 + 57 * r + 8) (by omega)] at hj; rw [rf_knlo _ _ _ _ (by omega)]; exact hp j hj) (Or.inr (Or.inr ⟨_, rfl⟩))
        · have e0 : rf_is (F (205 + 57 * r + 9 + i)) q f = 0 := nf1_ne (by change rf_is (F (205 + 57 * r + 9 + i)) q f < 4294967296; omega) h46
          rw [if_pos e0]
          refine xg_stp rfl rfl rfl rfl ?_
          refine xn_inc (e := 1) rfl rfl rfl rfl ?_
          refine xg_stp rfl rfl rfl rfl ?_
          first
            | exact rf_llL B d c s r q f hr hq hf m (i + 1) n F _ (by omega) h8 hp (Or.inr (Or.inl ⟨_, rfl⟩))
            | exact rf_llL B d c s r q f hr hq hf m (i + 1) (n + 1) (rf_kn F 3315 (F (205 + 57 * r + 9 + i) / 1200)) _ (by rw [rf_knlo _ _ _ _ (by omega)]; omega) (by rw [rf_knlo _ _ _ _ (by omega)]; exact h8) (fun j hj => by rw [rf_knlo _ _ _ (205 + 57 * r + 8) (by omega)] at hj; rw [rf_knlo _ _ _ _ (by omega)]; exact hp j hj) (Or.inr (Or.inr ⟨_, rfl⟩))
theorem rf_zlo (F : Nat → Nat) (X k : Nat) {j : Nat} (h : j < X) : rf_z F X k j = F j := if_neg (by omega)
def rf_lay (F : Nat → Nat) (r q f : Nat) : Nat × (Nat → Nat) := rf_ll (205 + 57 * r) q f (F (205 + 57 * r + 8)) 0 0 (rf_z F 3315 0)
/-- 'layChange' -/
theorem rf_layChange {b : xi_W} {O A : Nat} {o : Nat × List Value} (B : rf_B b O A o) (d : Nat) (c s : Nat) (r q f : Nat) (hr : r < 4) (hq : q < 2147483648) (hf : f < 4294967296) (F : Nat → Nat) (h8 : F (205 + 57 * r + 8) ≤ 48) (hp : ∀ j, j < F (205 + 57 * r + 8) → F (205 + 57 * r + 9 + j) < 307200) : xg (d + 2) 249 0 [(0, .ref O), (1, .int (Int32.ofNat r)), (2, .int (Int32.ofNat q)), (3, .int (Int32.ofNat f))] [] (rf_w b A F) c s (some (.int (Int32.ofNat (rf_lay F r q f).1)), rf_w b A (rf_lay F r q f).2, c, s) := by
  refine xg_stp rfl rfl rfl rfl ?_
  refine xg_stp (st' := .int (Int32.ofNat 3315) :: _) rfl rfl rfl rfl ?_
  refine rf_call B rfl rfl rfl rfl rfl rfl (rf_clearState B (d + 1) F 0 0 3315 (by omega)) ?_
  refine xg_stp (st' := .int (Int32.ofNat 0) :: _) rfl rfl rfl rfl ?_
  refine xg_stp rfl rfl rfl rfl ?_
  refine xg_stp (st' := .int (Int32.ofNat 0) :: _) rfl rfl rfl rfl ?_
  refine xg_stp rfl rfl rfl rfl ?_
  exact rf_llL B d c s r q f hr hq hf _ 0 0 _ _ (by rw [rf_zlo _ _ _ (by omega)]; omega) (by rw [rf_zlo _ _ _ (by omega)]; exact h8) (fun j hj => by rw [rf_zlo _ _ _ (show 205 + 57 * r + 8 < 3315 by omega)] at hj; rw [rf_zlo _ _ _ (by omega)]; exact hp j hj) (Or.inl rfl)
/-- 'clauseOf' -/
theorem rf_clauseOf {b : xi_W} {O A : Nat} {o : Nat × List Value} (B : rf_B b O A o) (d : Nat) (F : Nat → Nat) (c s : Nat) (k : Nat) : xg (d) 237 0 ([(0, .ref O), (1, .int (Int32.ofNat 4294967295)), (2, .int (Int32.ofNat k))]) [] (rf_w b A F) c s (some (.int (Int32.ofNat (4294967295))), rf_w b A (F), c, s) := by
  refine xg_stp (st' := .int (Int32.ofNat 0) :: _) rfl rfl rfl rfl ?_
  refine xg_stp rfl rfl rfl rfl ?_
  refine xg_stp rfl rfl rfl rfl ?_
  refine xg_j1 rfl rfl rfl rfl rfl (fun h3 => ?_) (fun h3 => ?_)
  · refine xg_stp (st' := .int (Int32.ofNat 4294967295) :: _) rfl rfl rfl rfl ?_
    exact xg_ret rfl rfl
  · exact absurd h3 (by decide)
/-- 'losesNow' -/
theorem rf_losesNow {b : xi_W} {O A : Nat} {o : Nat × List Value} (B : rf_B b O A o) (d : Nat) (F : Nat → Nat) (c s : Nat) (p q e k : Nat) (h1 : F 1 = 4294967295) : xg (d + 1) 239 0 ([(0, .ref O), (1, .int (Int32.ofNat p)), (2, .int (Int32.ofNat q)), (3, .int (Int32.ofNat e)), (4, .int (Int32.ofNat k))]) [] (rf_w b A F) c s (some (.int (Int32.ofNat (3))), rf_w b A (F), c, s) := by
  refine xg_stp rfl rfl rfl rfl ?_
  refine xg_stp rfl rfl rfl rfl ?_
  refine rf_fa B rfl rfl ?_
  refine xg_stp (st' := .int (Int32.ofNat 1) :: _) rfl rfl rfl rfl ?_
  refine rf_ld B (by omega) rfl ?_
  refine xg_stp (st' := .int (Int32.ofNat 0) :: _) rfl rfl rfl rfl ?_
  refine rf_call B rfl rfl rfl rfl rfl rfl (by rw [h1]; exact rf_clauseOf B d F 0 0 0) ?_
  refine xg_stp rfl rfl rfl rfl ?_
  refine xg_stp rfl rfl rfl rfl ?_
  refine xg_stp (st' := .int (Int32.ofNat 4294967295) :: _) rfl rfl rfl rfl ?_
  refine xg_j2 rfl rfl rfl rfl rfl (fun h16 => ?_) (fun h16 => ?_)
  · exact absurd rfl (nt_ne h16)
  · refine xg_stp (st' := .int (Int32.ofNat 3) :: _) rfl rfl rfl rfl ?_
    exact xg_ret rfl rfl
/-- 'doesSpeak' -/
theorem rf_doesSpeak {b : xi_W} {O A : Nat} {o : Nat × List Value} (B : rf_B b O A o) (d : Nat) (F : Nat → Nat) (c s : Nat) (p q k : Nat) : xg (d + 1) 240 0 ([(0, .ref O), (1, .int (Int32.ofNat 4294967295)), (2, .int (Int32.ofNat p)), (3, .int (Int32.ofNat q)), (4, .int (Int32.ofNat k))]) [] (rf_w b A F) c s (some (.int (Int32.ofNat (0))), rf_w b A (F), c, s) := by
  refine xg_stp rfl rfl rfl rfl ?_
  refine xg_stp rfl rfl rfl rfl ?_
  refine xg_stp (st' := .int (Int32.ofNat 1) :: _) rfl rfl rfl rfl ?_
  refine rf_call B rfl rfl rfl rfl rfl rfl (rf_clauseOf B d F 0 0 1) ?_
  refine xg_stp rfl rfl rfl rfl ?_
  refine xg_stp rfl rfl rfl rfl ?_
  refine xg_stp (st' := .int (Int32.ofNat 4294967295) :: _) rfl rfl rfl rfl ?_
  refine xg_j2 rfl rfl rfl rfl rfl (fun h11 => ?_) (fun h11 => ?_)
  · exact absurd rfl (nt_ne h11)
  · refine xg_stp (st' := .int (Int32.ofNat 0) :: _) rfl rfl rfl rfl ?_
    exact xg_ret rfl rfl
def rf_or (X Y : Nat) : Nat → Nat → (Nat → Nat) → (Nat → Nat)
  | 0, _, F => F
  | m + 1, k, F => rf_or X Y m (k + 1) (xn_u F (3201 + k) (F (X + k) ||| F (Y + k)))
/-- the first loop of 'merge' -/
theorem rf_orL {b : xi_W} {O A : Nat} {o : Nat × List Value} (B : rf_B b O A o) (d : Nat) (c s : Nat) (X Y : Nat) (hX : X + 57 ≤ 98262) (hY : Y + 57 ≤ 98262) (R : xi_R) : ∀ (m k : Nat) (F : Nat → Nat), k + m = 8 → xg d 183 48 [(3, .int (Int32.ofNat (8))), (0, .ref O), (1, .int (Int32.ofNat X)), (2, .int (Int32.ofNat Y))] [] (rf_w b A (rf_or X Y m k F)) c s R → xg d 183 9 [(3, .int (Int32.ofNat (k))), (0, .ref O), (1, .int (Int32.ofNat X)), (2, .int (Int32.ofNat Y))] [] (rf_w b A F) c s R
  | 0, k, F, hm, hk => by
    have e0 : k = 8 := by omega
    subst e0
    refine xg_stp rfl rfl rfl rfl ?_
    refine xg_stp (st' := .int (Int32.ofNat 8) :: _) rfl rfl rfl rfl ?_
    refine xg_j2 rfl rfl rfl rfl rfl (fun h12 => ?_) (fun h12 => ?_)
    · exact hk
    · exact absurd (nf_ge (by omega) (by omega) h12) (by omega)
  | m + 1, k, F, hm, hk => by
    unfold rf_or at hk
    refine xg_stp rfl rfl rfl rfl ?_
    refine xg_stp (st' := .int (Int32.ofNat 8) :: _) rfl rfl rfl rfl ?_
    refine xg_j2 rfl rfl rfl rfl rfl (fun h12 => ?_) (fun h12 => ?_)
    · exact absurd (nt_ge (by omega) (by omega) h12) (by omega)
    · refine xg_stp rfl rfl rfl rfl ?_
      refine rf_fa B rfl rfl ?_
      refine xg_stp (st' := .int (Int32.ofNat 3201) :: _) rfl rfl rfl rfl ?_
      refine xg_stp rfl rfl rfl rfl ?_
      refine xn_add rfl ?_
      refine xg_stp rfl rfl rfl rfl ?_
      refine rf_fa B rfl rfl ?_
      refine xg_stp rfl rfl rfl rfl ?_
      refine xg_stp rfl rfl rfl rfl ?_
      refine xn_add rfl ?_
      refine rf_ld B (by omega) rfl ?_
      refine xg_stp rfl rfl rfl rfl ?_
      refine rf_fa B rfl rfl ?_
      refine xg_stp rfl rfl rfl rfl ?_
      refine xg_stp rfl rfl rfl rfl ?_
      refine xn_add rfl ?_
      refine rf_ld B (by omega) rfl ?_
      refine xn_or rfl ?_
      refine rf_sto B (by omega) rfl ?_
      refine xn_inc (e := 1) rfl rfl rfl rfl ?_
      refine xg_stp rfl rfl rfl rfl ?_
      exact rf_orL B d c s X Y hX hY R m (k + 1) _ (by omega) hk
def rf_p (F : Nat → Nat) (X i : Nat) : Nat := if i < F (X + 8) then F (X + 9 + i) else 1000000
def rf_ad (F : Nat → Nat) (x p : Nat) : Nat → Nat := xn_u (xn_u F (x + 9 + F (x + 8)) p) (x + 8) (xn_u F (x + 9 + F (x + 8)) p (x + 8) + 1)
theorem rf_ado (F : Nat → Nat) (x p j : Nat) (h : F (x + 8) ≤ 47) (hj : j < x ∨ x + 57 ≤ j) : rf_ad F x p j = F j := by
  unfold rf_ad; rw [xn_un _ _ (by omega), xn_un _ _ (by omega)]
theorem rf_adt (F : Nat → Nat) (x p : Nat) : rf_ad F x p (x + 8) = F (x + 8) + 1 := by
  unfold rf_ad; rw [xn_ue, xn_un _ _ (by omega)]
/-- the entries of a join, as they are laid down -/
def rf_mg (X Y : Nat) : Nat → Nat → Nat → (Nat → Nat) → (Nat → Nat)
  | 0, _, _, F => F
  | m + 1, i, j, F => if i < F (X + 8) ∨ j < F (Y + 8) then
      (if rf_p F X i = rf_p F Y j then rf_mg X Y m (i + 1) (j + 1) (rf_ad F 3201 (rf_p F X i))
       else if rf_p F X i < rf_p F Y j then (if rf_b F Y (rf_p F X i / 1200) = 0 then rf_mg X Y m (i + 1) j (rf_ad F 3201 (rf_p F X i)) else rf_mg X Y m (i + 1) j F)
       else (if rf_b F X (rf_p F Y j / 1200) = 0 then rf_mg X Y m i (j + 1) (rf_ad F 3201 (rf_p F Y j)) else rf_mg X Y m i (j + 1) F))
    else F
theorem rf_mgP {b : xi_W} {O A : Nat} {o : Nat × List Value} (B : rf_B b O A o) (d : Nat) (c s : Nat) (F : Nat → Nat) (X i : Nat) (hX : X + 57 ≤ 98262) (h8 : F (X + 8) ≤ 48) (hi : i ≤ 48) (R : xi_R) (L : xi_L) (g0 : xi_get L 0 = some (.ref O)) (g1 : xi_get L 1 = some (.int (Int32.ofNat X))) (g2 : xi_get L 3 = some (.int (Int32.ofNat i))) (hk : xg (d + 1) 183 94 (xi_st1 L 5 (.int (Int32.ofNat (rf_p F X i)))) [] (rf_w b A F) c s R) : xg (d + 1) 183 72 L [] (rf_w b A F) c s R := by
  refine xg_ldn g2 rfl ?_
  refine xg_lda g0 rfl ?_
  refine xg_ldn g1 rfl ?_
  refine rf_call B rfl rfl rfl rfl rfl rfl (rf_many B d F 0 0 X (by omega)) ?_
  refine xg_j2 rfl rfl rfl rfl rfl (fun h78 => ?_) (fun h78 => ?_)
  · rw [show rf_p F X i = 1000000 from if_neg (Nat.not_lt.mpr (nt_ge (by omega) (by omega) h78))] at hk
    refine xg_stp (st' := .int (Int32.ofNat 1000000) :: _) rfl rfl rfl rfl ?_
    refine xg_stp rfl rfl rfl rfl ?_
    exact hk
  · have e0 := nf_ge (by omega) (by omega) h78
    rw [show rf_p F X i = F (X + 9 + i) from if_pos e0] at hk
    refine xg_lda g0 rfl ?_
    refine xg_ldn g1 rfl ?_
    refine xg_ldn g2 rfl ?_
    refine rf_call B rfl rfl rfl rfl rfl rfl (rf_packed B d F 0 0 X i (by omega)) ?_
    refine xg_stp rfl rfl rfl rfl ?_
    refine xg_stp rfl rfl rfl rfl ?_
    exact hk
theorem rf_mgQ {b : xi_W} {O A : Nat} {o : Nat × List Value} (B : rf_B b O A o) (d : Nat) (c s : Nat) (F : Nat → Nat) (Y j : Nat) (hX : Y + 57 ≤ 98262) (h8 : F (Y + 8) ≤ 48) (hi : j ≤ 48) (R : xi_R) (L : xi_L) (g0 : xi_get L 0 = some (.ref O)) (g1 : xi_get L 2 = some (.int (Int32.ofNat Y))) (g2 : xi_get L 4 = some (.int (Int32.ofNat j))) (hk : xg (d + 1) 183 118 (xi_st1 L 6 (.int (Int32.ofNat (rf_p F Y j)))) [] (rf_w b A F) c s R) : xg (d + 1) 183 94 L [] (rf_w b A F) c s R := by
  refine xg_ldw g2 rfl ?_
  refine xg_lda g0 rfl ?_
  refine xg_ldn g1 rfl ?_
  refine rf_call B rfl rfl rfl rfl rfl rfl (rf_many B d F 0 0 Y (by omega)) ?_
  refine xg_j2 rfl rfl rfl rfl rfl (fun h101 => ?_) (fun h101 => ?_)
  · rw [show rf_p F Y j = 1000000 from if_neg (Nat.not_lt.mpr (nt_ge (by omega) (by omega) h101))] at hk
    refine xg_stp (st' := .int (Int32.ofNat 1000000) :: _) rfl rfl rfl rfl ?_
    refine xg_stp rfl rfl rfl rfl ?_
    exact hk
  · have e0 := nf_ge (by omega) (by omega) h101
    rw [show rf_p F Y j = F (Y + 9 + j) from if_pos e0] at hk
    refine xg_lda g0 rfl ?_
    refine xg_ldn g1 rfl ?_
    refine xg_ldw g2 rfl ?_
    refine rf_call B rfl rfl rfl rfl rfl rfl (rf_packed B d F 0 0 Y j (by omega)) ?_
    refine xg_stp rfl rfl rfl rfl ?_
    refine xg_stp rfl rfl rfl rfl ?_
    exact hk
theorem rf_blt (F : Nat → Nat) (X t : Nat) : rf_b F X t < 2 := Nat.mod_lt _ (by omega)
def rf_mI (X Y nx ny i j : Nat) (F : Nat → Nat) : Prop := F (X + 8) = nx ∧ F (Y + 8) = ny ∧ nx + ny ≤ 48 ∧ (∀ t, t < nx → F (X + 9 + t) < 307200) ∧ (∀ t, t < ny → F (Y + 9 + t) < 307200) ∧ (∀ t, t < 8 → F (X + t) < 2147483648) ∧ (∀ t, t < 8 → F (Y + t) < 2147483648) ∧ F (3201 + 8) ≤ i + j
theorem rf_mIa {X Y nx ny i j i2 j2 : Nat} {F : Nat → Nat} (p : Nat) (hX : X + 57 ≤ 3201 ∨ 3258 ≤ X) (hY : Y + 57 ≤ 3201 ∨ 3258 ≤ Y) (h : rf_mI X Y nx ny i j F) (h1 : i + j < nx + ny) (h2 : i + j + 1 ≤ i2 + j2) : rf_mI X Y nx ny i2 j2 (rf_ad F 3201 p) := by
  obtain ⟨a1, a2, a3, a4, a5, a6, a7, a8⟩ := h
  have ax : ∀ t, t < 57 → rf_ad F 3201 p (X + t) = F (X + t) := fun t ht => rf_ado F 3201 p _ (by omega) (by omega)
  have ay : ∀ t, t < 57 → rf_ad F 3201 p (Y + t) = F (Y + t) := fun t ht => rf_ado F 3201 p _ (by omega) (by omega)
  refine ⟨?_, ?_, a3, fun t ht => ?_, fun t ht => ?_, fun t ht => ?_, fun t ht => ?_, ?_⟩
  · rw [ax 8 (by omega)]; exact a1
  · rw [ay 8 (by omega)]; exact a2
  · have := ax (9 + t) (by omega); rw [← Nat.add_assoc] at this; rw [this]; exact a4 t ht
  · have := ay (9 + t) (by omega); rw [← Nat.add_assoc] at this; rw [this]; exact a5 t ht
  · rw [ax t (by omega)]; exact a6 t ht
  · rw [ay t (by omega)]; exact a7 t ht
  · rw [rf_adt]; omega
theorem rf_mIn {X Y nx ny i j i2 j2 : Nat} {F : Nat → Nat} (h : rf_mI X Y nx ny i j F) (h2 : i + j ≤ i2 + j2) : rf_mI X Y nx ny i2 j2 F := ⟨h.1, h.2.1, h.2.2.1, h.2.2.2.1, h.2.2.2.2.1, h.2.2.2.2.2.1, h.2.2.2.2.2.2.1, Nat.le_trans h.2.2.2.2.2.2.2 h2⟩
theorem rf_pc (F : Nat → Nat) (X i n : Nat) (hn : F (X + 8) = n) (h : ∀ t, t < n → F (X + 9 + t) < 307200) : (i < n ∧ rf_p F X i < 307200) ∨ (n ≤ i ∧ rf_p F X i = 1000000) := by
  unfold rf_p
  by_cases h1 : i < F (X + 8)
  · rw [if_pos h1]; exact Or.inl ⟨by omega, h i (by omega)⟩
  · rw [if_neg h1]; exact Or.inr ⟨by omega, rfl⟩
set_option maxHeartbeats 1600000 in
/-- the second loop of 'merge' -/
theorem rf_mgL {b : xi_W} {O A : Nat} {o : Nat × List Value} (B : rf_B b O A o) (d : Nat) (c s : Nat) (X Y nx ny : Nat) (hX2 : X + 57 ≤ 98262) (hY2 : Y + 57 ≤ 98262) (hX : X + 57 ≤ 3201 ∨ 3258 ≤ X) (hY : Y + 57 ≤ 3201 ∨ 3258 ≤ Y) : ∀ (m i j : Nat) (F : Nat → Nat) (L : xi_L), rf_mI X Y nx ny i j F → (nx - i) + (ny - j) ≤ m ∧ i ≤ nx ∧ j ≤ ny → (L = [(4, .int (Int32.ofNat j)), (3, .int (Int32.ofNat i)), (0, .ref O), (1, .int (Int32.ofNat X)), (2, .int (Int32.ofNat Y))] ∨ (∃ p0 q0, L = [(4, .int (Int32.ofNat j)), (3, .int (Int32.ofNat i)), (6, .int (Int32.ofNat q0)), (5, .int (Int32.ofNat p0)), (0, .ref O), (1, .int (Int32.ofNat X)), (2, .int (Int32.ofNat Y))]) ∨ (∃ p0 q0, L = [(3, .int (Int32.ofNat i)), (6, .int (Int32.ofNat q0)), (5, .int (Int32.ofNat p0)), (4, .int (Int32.ofNat j)), (0, .ref O), (1, .int (Int32.ofNat X)), (2, .int (Int32.ofNat Y))]) ∨ (∃ p0 q0, L = [(4, .int (Int32.ofNat j)), (6, .int (Int32.ofNat q0)), (5, .int (Int32.ofNat p0)), (3, .int (Int32.ofNat i)), (0, .ref O), (1, .int (Int32.ofNat X)), (2, .int (Int32.ofNat Y))])) → xg (d + 2) 183 53 L [] (rf_w b A F) c s (none, rf_w b A (rf_mg X Y m i j F), c, s)
  | 0, i, j, F, L, hI, hm, hL => by
    have hI0 := hI
    obtain ⟨a1, a2, a3, a4, a5, a6, a7, a8⟩ := hI0
    unfold rf_mg
    rcases hL with rfl | ⟨p0, q0, rfl⟩ | ⟨p0, q0, rfl⟩ | ⟨p0, q0, rfl⟩
    · refine xg_stp rfl rfl rfl rfl ?_
      refine xg_stp rfl rfl rfl rfl ?_
      refine xg_stp rfl rfl rfl rfl ?_
      refine rf_call B rfl rfl rfl rfl rfl rfl (rf_many B (d + 1) F 0 0 X (by omega)) ?_
      refine xg_j2 rfl rfl rfl rfl rfl (fun h59 => ?_) (fun h59 => ?_)
      · exact absurd (nt_lt (by omega) (by omega) h59) (by omega)
      · refine xg_stp rfl rfl rfl rfl ?_
        refine xg_stp rfl rfl rfl rfl ?_
        refine xg_stp rfl rfl rfl rfl ?_
        refine rf_call B rfl rfl rfl rfl rfl rfl (rf_many B (d + 1) F 0 0 Y (by omega)) ?_
        refine xg_j2 rfl rfl rfl rfl rfl (fun h69 => ?_) (fun h69 => ?_)
        · exact xg_ret rfl rfl
        · exact absurd (nf_ge (by omega) (by omega) h69) (by omega)
    · refine xg_stp rfl rfl rfl rfl ?_
      refine xg_stp rfl rfl rfl rfl ?_
      refine xg_stp rfl rfl rfl rfl ?_
      refine rf_call B rfl rfl rfl rfl rfl rfl (rf_many B (d + 1) F 0 0 X (by omega)) ?_
      refine xg_j2 rfl rfl rfl rfl rfl (fun h59 => ?_) (fun h59 => ?_)
      · exact absurd (nt_lt (by omega) (by omega) h59) (by omega)
      · refine xg_stp rfl rfl rfl rfl ?_
        refine xg_stp rfl rfl rfl rfl ?_
        refine xg_stp rfl rfl rfl rfl ?_
        refine rf_call B rfl rfl rfl rfl rfl rfl (rf_many B (d + 1) F 0 0 Y (by omega)) ?_
        refine xg_j2 rfl rfl rfl rfl rfl (fun h69 => ?_) (fun h69 => ?_)
        · exact xg_ret rfl rfl
        · exact absurd (nf_ge (by omega) (by omega) h69) (by omega)
    · refine xg_stp rfl rfl rfl rfl ?_
      refine xg_stp rfl rfl rfl rfl ?_
      refine xg_stp rfl rfl rfl rfl ?_
      refine rf_call B rfl rfl rfl rfl rfl rfl (rf_many B (d + 1) F 0 0 X (by omega)) ?_
      refine xg_j2 rfl rfl rfl rfl rfl (fun h59 => ?_) (fun h59 => ?_)
      · exact absurd (nt_lt (by omega) (by omega) h59) (by omega)
      · refine xg_stp rfl rfl rfl rfl ?_
        refine xg_stp rfl rfl rfl rfl ?_
        refine xg_stp rfl rfl rfl rfl ?_
        refine rf_call B rfl rfl rfl rfl rfl rfl (rf_many B (d + 1) F 0 0 Y (by omega)) ?_
        refine xg_j2 rfl rfl rfl rfl rfl (fun h69 => ?_) (fun h69 => ?_)
        · exact xg_ret rfl rfl
        · exact absurd (nf_ge (by omega) (by omega) h69) (by omega)
    · refine xg_stp rfl rfl rfl rfl ?_
      refine xg_stp rfl rfl rfl rfl ?_
      refine xg_stp rfl rfl rfl rfl ?_
      refine rf_call B rfl rfl rfl rfl rfl rfl (rf_many B (d + 1) F 0 0 X (by omega)) ?_
      refine xg_j2 rfl rfl rfl rfl rfl (fun h59 => ?_) (fun h59 => ?_)
      · exact absurd (nt_lt (by omega) (by omega) h59) (by omega)
      · refine xg_stp rfl rfl rfl rfl ?_
        refine xg_stp rfl rfl rfl rfl ?_
        refine xg_stp rfl rfl rfl rfl ?_
        refine rf_call B rfl rfl rfl rfl rfl rfl (rf_many B (d + 1) F 0 0 Y (by omega)) ?_
        refine xg_j2 rfl rfl rfl rfl rfl (fun h69 => ?_) (fun h69 => ?_)
        · exact xg_ret rfl rfl
        · exact absurd (nf_ge (by omega) (by omega) h69) (by omega)
  | m + 1, i, j, F, L, hI, hm, hL => by
    have hI0 := hI
    obtain ⟨a1, a2, a3, a4, a5, a6, a7, a8⟩ := hI0
    have b1 := rf_pc F X i nx a1 a4
    have b2 := rf_pc F Y j ny a2 a5
    unfold rf_mg
    rcases hL with rfl | ⟨p0, q0, rfl⟩ | ⟨p0, q0, rfl⟩ | ⟨p0, q0, rfl⟩
    · refine xg_stp rfl rfl rfl rfl ?_
      refine xg_stp rfl rfl rfl rfl ?_
      refine xg_stp rfl rfl rfl rfl ?_
      refine rf_call B rfl rfl rfl rfl rfl rfl (rf_many B (d + 1) F 0 0 X (by omega)) ?_
      refine xg_j2 rfl rfl rfl rfl rfl (fun h59 => ?_) (fun h59 => ?_)
      · have e5 := nt_lt (by omega) (by omega) h59
        rw [if_pos (Or.inl e5)]
        refine rf_mgP B (d + 1) c s F X i hX2 (by omega) (by omega) _ _ rfl rfl rfl ?_
        refine rf_mgQ B (d + 1) c s F Y j hY2 (by omega) (by omega) _ _ rfl rfl rfl ?_
        refine xg_stp rfl rfl rfl rfl ?_
        refine xg_stp rfl rfl rfl rfl ?_
        refine xg_j2 rfl rfl rfl rfl rfl (fun h122 => ?_) (fun h122 => ?_)
        · have e1 := nt_ne h122
          rw [if_neg e1]
          refine xg_stp rfl rfl rfl rfl ?_
          refine xg_stp rfl rfl rfl rfl ?_
          refine xg_j2 rfl rfl rfl rfl rfl (fun h147 => ?_) (fun h147 => ?_)
          · have e2 : rf_p F Y j ≤ rf_p F X i := nt_ge (by omega) (by omega) h147
            rw [if_neg (Nat.not_lt.mpr e2)]
            refine xg_stp rfl rfl rfl rfl ?_
            refine xg_stp rfl rfl rfl rfl ?_
            refine xg_stp rfl rfl rfl rfl ?_
            refine xg_call rfl rfl rfl (rf_dotOf B (d + 1) F 0 0 (rf_p F Y j) (by omega)) ?_
            refine rf_call B rfl rfl rfl rfl rfl rfl (rf_isKnown B d F 0 0 X (rf_p F Y j / 1200) (by omega) (by omega) (a6 _ (by omega))) ?_
            refine xg_j1 rfl rfl rfl rfl rfl (fun h188 => ?_) (fun h188 => ?_)
            · have e3 : rf_b F X (rf_p F Y j / 1200) ≠ 0 := nt1_ne h188
              rw [if_neg e3]
              refine xn_inc (e := 1) rfl rfl rfl rfl ?_
              refine xg_stp rfl rfl rfl rfl ?_
              first
                | exact rf_mgL B d c s X Y nx ny hX2 hY2 hX hY m (i + 1) (j + 1) (rf_ad F 3201 (rf_p F X i)) _ (rf_mIa _ hX hY hI (by omega) (by omega)) (by omega) (by first | exact Or.inr (Or.inl ⟨_, _, rfl⟩) | exact Or.inr (Or.inr (Or.inl ⟨_, _, rfl⟩)) | exact Or.inr (Or.inr (Or.inr ⟨_, _, rfl⟩)))
                | exact rf_mgL B d c s X Y nx ny hX2 hY2 hX hY m (i + 1) (j) (rf_ad F 3201 (rf_p F X i)) _ (rf_mIa _ hX hY hI (by omega) (by omega)) (by omega) (by first | exact Or.inr (Or.inl ⟨_, _, rfl⟩) | exact Or.inr (Or.inr (Or.inl ⟨_, _, rfl⟩)) | exact Or.inr (Or.inr (Or.inr ⟨_, _, rfl⟩)))
                | exact rf_mgL B d c s X Y nx ny hX2 hY2 hX hY m (i + 1) (j) (F) _ (rf_mIn hI (by omega)) (by omega) (by first | exact Or.inr (Or.inl ⟨_, _, rfl⟩) | exact Or.inr (Or.inr (Or.inl ⟨_, _, rfl⟩)) | exact Or.inr (Or.inr (Or.inr ⟨_, _, rfl⟩)))
                | exact rf_mgL B d c s X Y nx ny hX2 hY2 hX hY m (i) (j + 1) (rf_ad F 3201 (rf_p F Y j)) _ (rf_mIa _ hX hY hI (by omega) (by omega)) (by omega) (by first | exact Or.inr (Or.inl ⟨_, _, rfl⟩) | exact Or.inr (Or.inr (Or.inl ⟨_, _, rfl⟩)) | exact Or.inr (Or.inr (Or.inr ⟨_, _, rfl⟩)))
                | exact rf_mgL B d c s X Y nx ny hX2 hY2 hX hY m (i) (j + 1) (F) _ (rf_mIn hI (by omega)) (by omega) (by first | exact Or.inr (Or.inl ⟨_, _, rfl⟩) | exact Or.inr (Or.inr (Or.inl ⟨_, _, rfl⟩)) | exact Or.inr (Or.inr (Or.inr ⟨_, _, rfl⟩)))
            · have e3 : rf_b F X (rf_p F Y j / 1200) = 0 := nf1_ne (Nat.lt_trans (rf_blt _ _ _) (by omega)) h188
              rw [if_pos e3]
              refine xg_stp rfl rfl rfl rfl ?_
              refine xg_stp (st' := .int (Int32.ofNat 3201) :: _) rfl rfl rfl rfl ?_
              refine xg_stp rfl rfl rfl rfl ?_
              refine rf_call B rfl rfl rfl rfl rfl rfl (rf_add B d F 0 0 3201 (rf_p F Y j) (by omega)) ?_
              refine xn_inc (e := 1) rfl rfl rfl rfl ?_
              refine xg_stp rfl rfl rfl rfl ?_
              first
                | exact rf_mgL B d c s X Y nx ny hX2 hY2 hX hY m (i + 1) (j + 1) (rf_ad F 3201 (rf_p F X i)) _ (rf_mIa _ hX hY hI (by omega) (by omega)) (by omega) (by first | exact Or.inr (Or.inl ⟨_, _, rfl⟩) | exact Or.inr (Or.inr (Or.inl ⟨_, _, rfl⟩)) | exact Or.inr (Or.inr (Or.inr ⟨_, _, rfl⟩)))
                | exact rf_mgL B d c s X Y nx ny hX2 hY2 hX hY m (i + 1) (j) (rf_ad F 3201 (rf_p F X i)) _ (rf_mIa _ hX hY hI (by omega) (by omega)) (by omega) (by first | exact Or.inr (Or.inl ⟨_, _, rfl⟩) | exact Or.inr (Or.inr (Or.inl ⟨_, _, rfl⟩)) | exact Or.inr (Or.inr (Or.inr ⟨_, _, rfl⟩)))
                | exact rf_mgL B d c s X Y nx ny hX2 hY2 hX hY m (i + 1) (j) (F) _ (rf_mIn hI (by omega)) (by omega) (by first | exact Or.inr (Or.inl ⟨_, _, rfl⟩) | exact Or.inr (Or.inr (Or.inl ⟨_, _, rfl⟩)) | exact Or.inr (Or.inr (Or.inr ⟨_, _, rfl⟩)))
                | exact rf_mgL B d c s X Y nx ny hX2 hY2 hX hY m (i) (j + 1) (rf_ad F 3201 (rf_p F Y j)) _ (rf_mIa _ hX hY hI (by omega) (by omega)) (by omega) (by first | exact Or.inr (Or.inl ⟨_, _, rfl⟩) | exact Or.inr (Or.inr (Or.inl ⟨_, _, rfl⟩)) | exact Or.inr (Or.inr (Or.inr ⟨_, _, rfl⟩)))
                | exact rf_mgL B d c s X Y nx ny hX2 hY2 hX hY m (i) (j + 1) (F) _ (rf_mIn hI (by omega)) (by omega) (by first | exact Or.inr (Or.inl ⟨_, _, rfl⟩) | exact Or.inr (Or.inr (Or.inl ⟨_, _, rfl⟩)) | exact Or.inr (Or.inr (Or.inr ⟨_, _, rfl⟩)))
          · have e2 : rf_p F X i < rf_p F Y j := nf_ge (by omega) (by omega) h147
            rw [if_pos e2]
            refine xg_stp rfl rfl rfl rfl ?_
            refine xg_stp rfl rfl rfl rfl ?_
            refine xg_stp rfl rfl rfl rfl ?_
            refine xg_call rfl rfl rfl (rf_dotOf B (d + 1) F 0 0 (rf_p F X i) (by omega)) ?_
            refine rf_call B rfl rfl rfl rfl rfl rfl (rf_isKnown B d F 0 0 Y (rf_p F X i / 1200) (by omega) (by omega) (a7 _ (by omega))) ?_
            refine xg_j1 rfl rfl rfl rfl rfl (fun h160 => ?_) (fun h160 => ?_)
            · have e3 : rf_b F Y (rf_p F X i / 1200) ≠ 0 := nt1_ne h160
              rw [if_neg e3]
              refine xn_inc (e := 1) rfl rfl rfl rfl ?_
              refine xg_stp rfl rfl rfl rfl ?_
              refine xg_stp rfl rfl rfl rfl ?_
              first
                | exact rf_mgL B d c s X Y nx ny hX2 hY2 hX hY m (i + 1) (j + 1) (rf_ad F 3201 (rf_p F X i)) _ (rf_mIa _ hX hY hI (by omega) (by omega)) (by omega) (by first | exact Or.inr (Or.inl ⟨_, _, rfl⟩) | exact Or.inr (Or.inr (Or.inl ⟨_, _, rfl⟩)) | exact Or.inr (Or.inr (Or.inr ⟨_, _, rfl⟩)))
                | exact rf_mgL B d c s X Y nx ny hX2 hY2 hX hY m (i + 1) (j) (rf_ad F 3201 (rf_p F X i)) _ (rf_mIa _ hX hY hI (by omega) (by omega)) (by omega) (by first | exact Or.inr (Or.inl ⟨_, _, rfl⟩) | exact Or.inr (Or.inr (Or.inl ⟨_, _, rfl⟩)) | exact Or.inr (Or.inr (Or.inr ⟨_, _, rfl⟩)))
                | exact rf_mgL B d c s X Y nx ny hX2 hY2 hX hY m (i + 1) (j) (F) _ (rf_mIn hI (by omega)) (by omega) (by first | exact Or.inr (Or.inl ⟨_, _, rfl⟩) | exact Or.inr (Or.inr (Or.inl ⟨_, _, rfl⟩)) | exact Or.inr (Or.inr (Or.inr ⟨_, _, rfl⟩)))
                | exact rf_mgL B d c s X Y nx ny hX2 hY2 hX hY m (i) (j + 1) (rf_ad F 3201 (rf_p F Y j)) _ (rf_mIa _ hX hY hI (by omega) (by omega)) (by omega) (by first | exact Or.inr (Or.inl ⟨_, _, rfl⟩) | exact Or.inr (Or.inr (Or.inl ⟨_, _, rfl⟩)) | exact Or.inr (Or.inr (Or.inr ⟨_, _, rfl⟩)))
                | exact rf_mgL B d c s X Y nx ny hX2 hY2 hX hY m (i) (j + 1) (F) _ (rf_mIn hI (by omega)) (by omega) (by first | exact Or.inr (Or.inl ⟨_, _, rfl⟩) | exact Or.inr (Or.inr (Or.inl ⟨_, _, rfl⟩)) | exact Or.inr (Or.inr (Or.inr ⟨_, _, rfl⟩)))
            · have e3 : rf_b F Y (rf_p F X i / 1200) = 0 := nf1_ne (Nat.lt_trans (rf_blt _ _ _) (by omega)) h160
              rw [if_pos e3]
              refine xg_stp rfl rfl rfl rfl ?_
              refine xg_stp (st' := .int (Int32.ofNat 3201) :: _) rfl rfl rfl rfl ?_
              refine xg_stp rfl rfl rfl rfl ?_
              refine rf_call B rfl rfl rfl rfl rfl rfl (rf_add B d F 0 0 3201 (rf_p F X i) (by omega)) ?_
              refine xn_inc (e := 1) rfl rfl rfl rfl ?_
              refine xg_stp rfl rfl rfl rfl ?_
              refine xg_stp rfl rfl rfl rfl ?_
              first
                | exact rf_mgL B d c s X Y nx ny hX2 hY2 hX hY m (i + 1) (j + 1) (rf_ad F 3201 (rf_p F X i)) _ (rf_mIa _ hX hY hI (by omega) (by omega)) (by omega) (by first | exact Or.inr (Or.inl ⟨_, _, rfl⟩) | exact Or.inr (Or.inr (Or.inl ⟨_, _, rfl⟩)) | exact Or.inr (Or.inr (Or.inr ⟨_, _, rfl⟩)))
                | exact rf_mgL B d c s X Y nx ny hX2 hY2 hX hY m (i + 1) (j) (rf_ad F 3201 (rf_p F X i)) _ (rf_mIa _ hX hY hI (by omega) (by omega)) (by omega) (by first | exact Or.inr (Or.inl ⟨_, _, rfl⟩) | exact Or.inr (Or.inr (Or.inl ⟨_, _, rfl⟩)) | exact Or.inr (Or.inr (Or.inr ⟨_, _, rfl⟩)))
                | exact rf_mgL B d c s X Y nx ny hX2 hY2 hX hY m (i + 1) (j) (F) _ (rf_mIn hI (by omega)) (by omega) (by first | exact Or.inr (Or.inl ⟨_, _, rfl⟩) | exact Or.inr (Or.inr (Or.inl ⟨_, _, rfl⟩)) | exact Or.inr (Or.inr (Or.inr ⟨_, _, rfl⟩)))
                | exact rf_mgL B d c s X Y nx ny hX2 hY2 hX hY m (i) (j + 1) (rf_ad F 3201 (rf_p F Y j)) _ (rf_mIa _ hX hY hI (by omega) (by omega)) (by omega) (by first | exact Or.inr (Or.inl ⟨_, _, rfl⟩) | exact Or.inr (Or.inr (Or.inl ⟨_, _, rfl⟩)) | exact Or.inr (Or.inr (Or.inr ⟨_, _, rfl⟩)))
                | exact rf_mgL B d c s X Y nx ny hX2 hY2 hX hY m (i) (j + 1) (F) _ (rf_mIn hI (by omega)) (by omega) (by first | exact Or.inr (Or.inl ⟨_, _, rfl⟩) | exact Or.inr (Or.inr (Or.inl ⟨_, _, rfl⟩)) | exact Or.inr (Or.inr (Or.inr ⟨_, _, rfl⟩)))
        · have e1 : rf_p F X i = rf_p F Y j := nf_ne (by omega) (by omega) h122
          rw [if_pos e1]
          refine xg_stp rfl rfl rfl rfl ?_
          refine xg_stp (st' := .int (Int32.ofNat 3201) :: _) rfl rfl rfl rfl ?_
          refine xg_stp rfl rfl rfl rfl ?_
          refine rf_call B rfl rfl rfl rfl rfl rfl (rf_add B d F 0 0 3201 (rf_p F X i) (by omega)) ?_
          refine xn_inc (e := 1) rfl rfl rfl rfl ?_
          refine xn_inc (e := 1) rfl rfl rfl rfl ?_
          refine xg_stp rfl rfl rfl rfl ?_
          refine xg_stp rfl rfl rfl rfl ?_
          first
            | exact rf_mgL B d c s X Y nx ny hX2 hY2 hX hY m (i + 1) (j + 1) (rf_ad F 3201 (rf_p F X i)) _ (rf_mIa _ hX hY hI (by omega) (by omega)) (by omega) (by first | exact Or.inr (Or.inl ⟨_, _, rfl⟩) | exact Or.inr (Or.inr (Or.inl ⟨_, _, rfl⟩)) | exact Or.inr (Or.inr (Or.inr ⟨_, _, rfl⟩)))
            | exact rf_mgL B d c s X Y nx ny hX2 hY2 hX hY m (i + 1) (j) (rf_ad F 3201 (rf_p F X i)) _ (rf_mIa _ hX hY hI (by omega) (by omega)) (by omega) (by first | exact Or.inr (Or.inl ⟨_, _, rfl⟩) | exact Or.inr (Or.inr (Or.inl ⟨_, _, rfl⟩)) | exact Or.inr (Or.inr (Or.inr ⟨_, _, rfl⟩)))
            | exact rf_mgL B d c s X Y nx ny hX2 hY2 hX hY m (i + 1) (j) (F) _ (rf_mIn hI (by omega)) (by omega) (by first | exact Or.inr (Or.inl ⟨_, _, rfl⟩) | exact Or.inr (Or.inr (Or.inl ⟨_, _, rfl⟩)) | exact Or.inr (Or.inr (Or.inr ⟨_, _, rfl⟩)))
            | exact rf_mgL B d c s X Y nx ny hX2 hY2 hX hY m (i) (j + 1) (rf_ad F 3201 (rf_p F Y j)) _ (rf_mIa _ hX hY hI (by omega) (by omega)) (by omega) (by first | exact Or.inr (Or.inl ⟨_, _, rfl⟩) | exact Or.inr (Or.inr (Or.inl ⟨_, _, rfl⟩)) | exact Or.inr (Or.inr (Or.inr ⟨_, _, rfl⟩)))
            | exact rf_mgL B d c s X Y nx ny hX2 hY2 hX hY m (i) (j + 1) (F) _ (rf_mIn hI (by omega)) (by omega) (by first | exact Or.inr (Or.inl ⟨_, _, rfl⟩) | exact Or.inr (Or.inr (Or.inl ⟨_, _, rfl⟩)) | exact Or.inr (Or.inr (Or.inr ⟨_, _, rfl⟩)))
      · have e5 := nf_lt (by omega) (by omega) h59
        refine xg_stp rfl rfl rfl rfl ?_
        refine xg_stp rfl rfl rfl rfl ?_
        refine xg_stp rfl rfl rfl rfl ?_
        refine rf_call B rfl rfl rfl rfl rfl rfl (rf_many B (d + 1) F 0 0 Y (by omega)) ?_
        refine xg_j2 rfl rfl rfl rfl rfl (fun h69 => ?_) (fun h69 => ?_)
        · have e6 := nt_ge (by omega) (by omega) h69
          rw [if_neg (by omega)]
          exact xg_ret rfl rfl
        · have e6 := nf_ge (by omega) (by omega) h69
          rw [if_pos (Or.inr e6)]
          refine rf_mgP B (d + 1) c s F X i hX2 (by omega) (by omega) _ _ rfl rfl rfl ?_
          refine rf_mgQ B (d + 1) c s F Y j hY2 (by omega) (by omega) _ _ rfl rfl rfl ?_
          refine xg_stp rfl rfl rfl rfl ?_
          refine xg_stp rfl rfl rfl rfl ?_
          refine xg_j2 rfl rfl rfl rfl rfl (fun h122 => ?_) (fun h122 => ?_)
          · have e1 := nt_ne h122
            rw [if_neg e1]
            refine xg_stp rfl rfl rfl rfl ?_
            refine xg_stp rfl rfl rfl rfl ?_
            refine xg_j2 rfl rfl rfl rfl rfl (fun h147 => ?_) (fun h147 => ?_)
            · have e2 : rf_p F Y j ≤ rf_p F X i := nt_ge (by omega) (by omega) h147
              rw [if_neg (Nat.not_lt.mpr e2)]
              refine xg_stp rfl rfl rfl rfl ?_
              refine xg_stp rfl rfl rfl rfl ?_
              refine xg_stp rfl rfl rfl rfl ?_
              refine xg_call rfl rfl rfl (rf_dotOf B (d + 1) F 0 0 (rf_p F Y j) (by omega)) ?_
              refine rf_call B rfl rfl rfl rfl rfl rfl (rf_isKnown B d F 0 0 X (rf_p F Y j / 1200) (by omega) (by omega) (a6 _ (by omega))) ?_
              refine xg_j1 rfl rfl rfl rfl rfl (fun h188 => ?_) (fun h188 => ?_)
              · have e3 : rf_b F X (rf_p F Y j / 1200) ≠ 0 := nt1_ne h188
                rw [if_neg e3]
                refine xn_inc (e := 1) rfl rfl rfl rfl ?_
                refine xg_stp rfl rfl rfl rfl ?_
                first
                  | exact rf_mgL B d c s X Y nx ny hX2 hY2 hX hY m (i + 1) (j + 1) (rf_ad F 3201 (rf_p F X i)) _ (rf_mIa _ hX hY hI (by omega) (by omega)) (by omega) (by first | exact Or.inr (Or.inl ⟨_, _, rfl⟩) | exact Or.inr (Or.inr (Or.inl ⟨_, _, rfl⟩)) | exact Or.inr (Or.inr (Or.inr ⟨_, _, rfl⟩)))
                  | exact rf_mgL B d c s X Y nx ny hX2 hY2 hX hY m (i + 1) (j) (rf_ad F 3201 (rf_p F X i)) _ (rf_mIa _ hX hY hI (by omega) (by omega)) (by omega) (by first | exact Or.inr (Or.inl ⟨_, _, rfl⟩) | exact Or.inr (Or.inr (Or.inl ⟨_, _, rfl⟩)) | exact Or.inr (Or.inr (Or.inr ⟨_, _, rfl⟩)))
                  | exact rf_mgL B d c s X Y nx ny hX2 hY2 hX hY m (i + 1) (j) (F) _ (rf_mIn hI (by omega)) (by omega) (by first | exact Or.inr (Or.inl ⟨_, _, rfl⟩) | exact Or.inr (Or.inr (Or.inl ⟨_, _, rfl⟩)) | exact Or.inr (Or.inr (Or.inr ⟨_, _, rfl⟩)))
                  | exact rf_mgL B d c s X Y nx ny hX2 hY2 hX hY m (i) (j + 1) (rf_ad F 3201 (rf_p F Y j)) _ (rf_mIa _ hX hY hI (by omega) (by omega)) (by omega) (by first | exact Or.inr (Or.inl ⟨_, _, rfl⟩) | exact Or.inr (Or.inr (Or.inl ⟨_, _, rfl⟩)) | exact Or.inr (Or.inr (Or.inr ⟨_, _, rfl⟩)))
                  | exact rf_mgL B d c s X Y nx ny hX2 hY2 hX hY m (i) (j + 1) (F) _ (rf_mIn hI (by omega)) (by omega) (by first | exact Or.inr (Or.inl ⟨_, _, rfl⟩) | exact Or.inr (Or.inr (Or.inl ⟨_, _, rfl⟩)) | exact Or.inr (Or.inr (Or.inr ⟨_, _, rfl⟩)))
              · have e3 : rf_b F X (rf_p F Y j / 1200) = 0 := nf1_ne (Nat.lt_trans (rf_blt _ _ _) (by omega)) h188
                rw [if_pos e3]
                refine xg_stp rfl rfl rfl rfl ?_
                refine xg_stp (st' := .int (Int32.ofNat 3201) :: _) rfl rfl rfl rfl ?_
                refine xg_stp rfl rfl rfl rfl ?_
                refine rf_call B rfl rfl rfl rfl rfl rfl (rf_add B d F 0 0 3201 (rf_p F Y j) (by omega)) ?_
                refine xn_inc (e := 1) rfl rfl rfl rfl ?_
                refine xg_stp rfl rfl rfl rfl ?_
                first
                  | exact rf_mgL B d c s X Y nx ny hX2 hY2 hX hY m (i + 1) (j + 1) (rf_ad F 3201 (rf_p F X i)) _ (rf_mIa _ hX hY hI (by omega) (by omega)) (by omega) (by first | exact Or.inr (Or.inl ⟨_, _, rfl⟩) | exact Or.inr (Or.inr (Or.inl ⟨_, _, rfl⟩)) | exact Or.inr (Or.inr (Or.inr ⟨_, _, rfl⟩)))
                  | exact rf_mgL B d c s X Y nx ny hX2 hY2 hX hY m (i + 1) (j) (rf_ad F 3201 (rf_p F X i)) _ (rf_mIa _ hX hY hI (by omega) (by omega)) (by omega) (by first | exact Or.inr (Or.inl ⟨_, _, rfl⟩) | exact Or.inr (Or.inr (Or.inl ⟨_, _, rfl⟩)) | exact Or.inr (Or.inr (Or.inr ⟨_, _, rfl⟩)))
                  | exact rf_mgL B d c s X Y nx ny hX2 hY2 hX hY m (i + 1) (j) (F) _ (rf_mIn hI (by omega)) (by omega) (by first | exact Or.inr (Or.inl ⟨_, _, rfl⟩) | exact Or.inr (Or.inr (Or.inl ⟨_, _, rfl⟩)) | exact Or.inr (Or.inr (Or.inr ⟨_, _, rfl⟩)))
                  | exact rf_mgL B d c s X Y nx ny hX2 hY2 hX hY m (i) (j + 1) (rf_ad F 3201 (rf_p F Y j)) _ (rf_mIa _ hX hY hI (by omega) (by omega)) (by omega) (by first | exact Or.inr (Or.inl ⟨_, _, rfl⟩) | exact Or.inr (Or.inr (Or.inl ⟨_, _, rfl⟩)) | exact Or.inr (Or.inr (Or.inr ⟨_, _, rfl⟩)))
                  | exact rf_mgL B d c s X Y nx ny hX2 hY2 hX hY m (i) (j + 1) (F) _ (rf_mIn hI (by omega)) (by omega) (by first | exact Or.inr (Or.inl ⟨_, _, rfl⟩) | exact Or.inr (Or.inr (Or.inl ⟨_, _, rfl⟩)) | exact Or.inr (Or.inr (Or.inr ⟨_, _, rfl⟩)))
            · have e2 : rf_p F X i < rf_p F Y j := nf_ge (by omega) (by omega) h147
              rw [if_pos e2]
              refine xg_stp rfl rfl rfl rfl ?_
              refine xg_stp rfl rfl rfl rfl ?_
              refine xg_stp rfl rfl rfl rfl ?_
              refine xg_call rfl rfl rfl (rf_dotOf B (d + 1) F 0 0 (rf_p F X i) (by omega)) ?_
              refine rf_call B rfl rfl rfl rfl rfl rfl (rf_isKnown B d F 0 0 Y (rf_p F X i / 1200) (by omega) (by omega) (a7 _ (by omega))) ?_
              refine xg_j1 rfl rfl rfl rfl rfl (fun h160 => ?_) (fun h160 => ?_)
              · have e3 : rf_b F Y (rf_p F X i / 1200) ≠ 0 := nt1_ne h160
                rw [if_neg e3]
                refine xn_inc (e := 1) rfl rfl rfl rfl ?_
                refine xg_stp rfl rfl rfl rfl ?_
                refine xg_stp rfl rfl rfl rfl ?_
                first
                  | exact rf_mgL B d c s X Y nx ny hX2 hY2 hX hY m (i + 1) (j + 1) (rf_ad F 3201 (rf_p F X i)) _ (rf_mIa _ hX hY hI (by omega) (by omega)) (by omega) (by first | exact Or.inr (Or.inl ⟨_, _, rfl⟩) | exact Or.inr (Or.inr (Or.inl ⟨_, _, rfl⟩)) | exact Or.inr (Or.inr (Or.inr ⟨_, _, rfl⟩)))
                  | exact rf_mgL B d c s X Y nx ny hX2 hY2 hX hY m (i + 1) (j) (rf_ad F 3201 (rf_p F X i)) _ (rf_mIa _ hX hY hI (by omega) (by omega)) (by omega) (by first | exact Or.inr (Or.inl ⟨_, _, rfl⟩) | exact Or.inr (Or.inr (Or.inl ⟨_, _, rfl⟩)) | exact Or.inr (Or.inr (Or.inr ⟨_, _, rfl⟩)))
                  | exact rf_mgL B d c s X Y nx ny hX2 hY2 hX hY m (i + 1) (j) (F) _ (rf_mIn hI (by omega)) (by omega) (by first | exact Or.inr (Or.inl ⟨_, _, rfl⟩) | exact Or.inr (Or.inr (Or.inl ⟨_, _, rfl⟩)) | exact Or.inr (Or.inr (Or.inr ⟨_, _, rfl⟩)))
                  | exact rf_mgL B d c s X Y nx ny hX2 hY2 hX hY m (i) (j + 1) (rf_ad F 3201 (rf_p F Y j)) _ (rf_mIa _ hX hY hI (by omega) (by omega)) (by omega) (by first | exact Or.inr (Or.inl ⟨_, _, rfl⟩) | exact Or.inr (Or.inr (Or.inl ⟨_, _, rfl⟩)) | exact Or.inr (Or.inr (Or.inr ⟨_, _, rfl⟩)))
                  | exact rf_mgL B d c s X Y nx ny hX2 hY2 hX hY m (i) (j + 1) (F) _ (rf_mIn hI (by omega)) (by omega) (by first | exact Or.inr (Or.inl ⟨_, _, rfl⟩) | exact Or.inr (Or.inr (Or.inl ⟨_, _, rfl⟩)) | exact Or.inr (Or.inr (Or.inr ⟨_, _, rfl⟩)))
              · have e3 : rf_b F Y (rf_p F X i / 1200) = 0 := nf1_ne (Nat.lt_trans (rf_blt _ _ _) (by omega)) h160
                rw [if_pos e3]
                refine xg_stp rfl rfl rfl rfl ?_
                refine xg_stp (st' := .int (Int32.ofNat 3201) :: _) rfl rfl rfl rfl ?_
                refine xg_stp rfl rfl rfl rfl ?_
                refine rf_call B rfl rfl rfl rfl rfl rfl (rf_add B d F 0 0 3201 (rf_p F X i) (by omega)) ?_
                refine xn_inc (e := 1) rfl rfl rfl rfl ?_
                refine xg_stp rfl rfl rfl rfl ?_
                refine xg_stp rfl rfl rfl rfl ?_
                first
                  | exact rf_mgL B d c s X Y nx ny hX2 hY2 hX hY m (i + 1) (j + 1) (rf_ad F 3201 (rf_p F X i)) _ (rf_mIa _ hX hY hI (by omega) (by omega)) (by omega) (by first | exact Or.inr (Or.inl ⟨_, _, rfl⟩) | exact Or.inr (Or.inr (Or.inl ⟨_, _, rfl⟩)) | exact Or.inr (Or.inr (Or.inr ⟨_, _, rfl⟩)))
                  | exact rf_mgL B d c s X Y nx ny hX2 hY2 hX hY m (i + 1) (j) (rf_ad F 3201 (rf_p F X i)) _ (rf_mIa _ hX hY hI (by omega) (by omega)) (by omega) (by first | exact Or.inr (Or.inl ⟨_, _, rfl⟩) | exact Or.inr (Or.inr (Or.inl ⟨_, _, rfl⟩)) | exact Or.inr (Or.inr (Or.inr ⟨_, _, rfl⟩)))
                  | exact rf_mgL B d c s X Y nx ny hX2 hY2 hX hY m (i + 1) (j) (F) _ (rf_mIn hI (by omega)) (by omega) (by first | exact Or.inr (Or.inl ⟨_, _, rfl⟩) | exact Or.inr (Or.inr (Or.inl ⟨_, _, rfl⟩)) | exact Or.inr (Or.inr (Or.inr ⟨_, _, rfl⟩)))
                  | exact rf_mgL B d c s X Y nx ny hX2 hY2 hX hY m (i) (j + 1) (rf_ad F 3201 (rf_p F Y j)) _ (rf_mIa _ hX hY hI (by omega) (by omega)) (by omega) (by first | exact Or.inr (Or.inl ⟨_, _, rfl⟩) | exact Or.inr (Or.inr (Or.inl ⟨_, _, rfl⟩)) | exact Or.inr (Or.inr (Or.inr ⟨_, _, rfl⟩)))
                  | exact rf_mgL B d c s X Y nx ny hX2 hY2 hX hY m (i) (j + 1) (F) _ (rf_mIn hI (by omega)) (by omega) (by first | exact Or.inr (Or.inl ⟨_, _, rfl⟩) | exact Or.inr (Or.inr (Or.inl ⟨_, _, rfl⟩)) | exact Or.inr (Or.inr (Or.inr ⟨_, _, rfl⟩)))
          · have e1 : rf_p F X i = rf_p F Y j := nf_ne (by omega) (by omega) h122
            rw [if_pos e1]
            refine xg_stp rfl rfl rfl rfl ?_
            refine xg_stp (st' := .int (Int32.ofNat 3201) :: _) rfl rfl rfl rfl ?_
            refine xg_stp rfl rfl rfl rfl ?_
            refine rf_call B rfl rfl rfl rfl rfl rfl (rf_add B d F 0 0 3201 (rf_p F X i) (by omega)) ?_
            refine xn_inc (e := 1) rfl rfl rfl rfl ?_
            refine xn_inc (e := 1) rfl rfl rfl rfl ?_
            refine xg_stp rfl rfl rfl rfl ?_
            refine xg_stp rfl rfl rfl rfl ?_
            first
              | exact rf_mgL B d c s X Y nx ny hX2 hY2 hX hY m (i + 1) (j + 1) (rf_ad F 3201 (rf_p F X i)) _ (rf_mIa _ hX hY hI (by omega) (by omega)) (by omega) (by first | exact Or.inr (Or.inl ⟨_, _, rfl⟩) | exact Or.inr (Or.inr (Or.inl ⟨_, _, rfl⟩)) | exact Or.inr (Or.inr (Or.inr ⟨_, _, rfl⟩)))
              | exact rf_mgL B d c s X Y nx ny hX2 hY2 hX hY m (i + 1) (j) (rf_ad F 3201 (rf_p F X i)) _ (rf_mIa _ hX hY hI (by omega) (by omega)) (by omega) (by first | exact Or.inr (Or.inl ⟨_, _, rfl⟩) | exact Or.inr (Or.inr (Or.inl ⟨_, _, rfl⟩)) | exact Or.inr (Or.inr (Or.inr ⟨_, _, rfl⟩)))
              | exact rf_mgL B d c s X Y nx ny hX2 hY2 hX hY m (i + 1) (j) (F) _ (rf_mIn hI (by omega)) (by omega) (by first | exact Or.inr (Or.inl ⟨_, _, rfl⟩) | exact Or.inr (Or.inr (Or.inl ⟨_, _, rfl⟩)) | exact Or.inr (Or.inr (Or.inr ⟨_, _, rfl⟩)))
              | exact rf_mgL B d c s X Y nx ny hX2 hY2 hX hY m (i) (j + 1) (rf_ad F 3201 (rf_p F Y j)) _ (rf_mIa _ hX hY hI (by omega) (by omega)) (by omega) (by first | exact Or.inr (Or.inl ⟨_, _, rfl⟩) | exact Or.inr (Or.inr (Or.inl ⟨_, _, rfl⟩)) | exact Or.inr (Or.inr (Or.inr ⟨_, _, rfl⟩)))
              | exact rf_mgL B d c s X Y nx ny hX2 hY2 hX hY m (i) (j + 1) (F) _ (rf_mIn hI (by omega)) (by omega) (by first | exact Or.inr (Or.inl ⟨_, _, rfl⟩) | exact Or.inr (Or.inr (Or.inl ⟨_, _, rfl⟩)) | exact Or.inr (Or.inr (Or.inr ⟨_, _, rfl⟩)))
    · refine xg_stp rfl rfl rfl rfl ?_
      refine xg_stp rfl rfl rfl rfl ?_
      refine xg_stp rfl rfl rfl rfl ?_
      refine rf_call B rfl rfl rfl rfl rfl rfl (rf_many B (d + 1) F 0 0 X (by omega)) ?_
      refine xg_j2 rfl rfl rfl rfl rfl (fun h59 => ?_) (fun h59 => ?_)
      · have e5 := nt_lt (by omega) (by omega) h59
        rw [if_pos (Or.inl e5)]
        refine rf_mgP B (d + 1) c s F X i hX2 (by omega) (by omega) _ _ rfl rfl rfl ?_
        refine rf_mgQ B (d + 1) c s F Y j hY2 (by omega) (by omega) _ _ rfl rfl rfl ?_
        refine xg_stp rfl rfl rfl rfl ?_
        refine xg_stp rfl rfl rfl rfl ?_
        refine xg_j2 rfl rfl rfl rfl rfl (fun h122 => ?_) (fun h122 => ?_)
        · have e1 := nt_ne h122
          rw [if_neg e1]
          refine xg_stp rfl rfl rfl rfl ?_
          refine xg_stp rfl rfl rfl rfl ?_
          refine xg_j2 rfl rfl rfl rfl rfl (fun h147 => ?_) (fun h147 => ?_)
          · have e2 : rf_p F Y j ≤ rf_p F X i := nt_ge (by omega) (by omega) h147
            rw [if_neg (Nat.not_lt.mpr e2)]
            refine xg_stp rfl rfl rfl rfl ?_
            refine xg_stp rfl rfl rfl rfl ?_
            refine xg_stp rfl rfl rfl rfl ?_
            refine xg_call rfl rfl rfl (rf_dotOf B (d + 1) F 0 0 (rf_p F Y j) (by omega)) ?_
            refine rf_call B rfl rfl rfl rfl rfl rfl (rf_isKnown B d F 0 0 X (rf_p F Y j / 1200) (by omega) (by omega) (a6 _ (by omega))) ?_
            refine xg_j1 rfl rfl rfl rfl rfl (fun h188 => ?_) (fun h188 => ?_)
            · have e3 : rf_b F X (rf_p F Y j / 1200) ≠ 0 := nt1_ne h188
              rw [if_neg e3]
              refine xn_inc (e := 1) rfl rfl rfl rfl ?_
              refine xg_stp rfl rfl rfl rfl ?_
              first
                | exact rf_mgL B d c s X Y nx ny hX2 hY2 hX hY m (i + 1) (j + 1) (rf_ad F 3201 (rf_p F X i)) _ (rf_mIa _ hX hY hI (by omega) (by omega)) (by omega) (by first | exact Or.inr (Or.inl ⟨_, _, rfl⟩) | exact Or.inr (Or.inr (Or.inl ⟨_, _, rfl⟩)) | exact Or.inr (Or.inr (Or.inr ⟨_, _, rfl⟩)))
                | exact rf_mgL B d c s X Y nx ny hX2 hY2 hX hY m (i + 1) (j) (rf_ad F 3201 (rf_p F X i)) _ (rf_mIa _ hX hY hI (by omega) (by omega)) (by omega) (by first | exact Or.inr (Or.inl ⟨_, _, rfl⟩) | exact Or.inr (Or.inr (Or.inl ⟨_, _, rfl⟩)) | exact Or.inr (Or.inr (Or.inr ⟨_, _, rfl⟩)))
                | exact rf_mgL B d c s X Y nx ny hX2 hY2 hX hY m (i + 1) (j) (F) _ (rf_mIn hI (by omega)) (by omega) (by first | exact Or.inr (Or.inl ⟨_, _, rfl⟩) | exact Or.inr (Or.inr (Or.inl ⟨_, _, rfl⟩)) | exact Or.inr (Or.inr (Or.inr ⟨_, _, rfl⟩)))
                | exact rf_mgL B d c s X Y nx ny hX2 hY2 hX hY m (i) (j + 1) (rf_ad F 3201 (rf_p F Y j)) _ (rf_mIa _ hX hY hI (by omega) (by omega)) (by omega) (by first | exact Or.inr (Or.inl ⟨_, _, rfl⟩) | exact Or.inr (Or.inr (Or.inl ⟨_, _, rfl⟩)) | exact Or.inr (Or.inr (Or.inr ⟨_, _, rfl⟩)))
                | exact rf_mgL B d c s X Y nx ny hX2 hY2 hX hY m (i) (j + 1) (F) _ (rf_mIn hI (by omega)) (by omega) (by first | exact Or.inr (Or.inl ⟨_, _, rfl⟩) | exact Or.inr (Or.inr (Or.inl ⟨_, _, rfl⟩)) | exact Or.inr (Or.inr (Or.inr ⟨_, _, rfl⟩)))
            · have e3 : rf_b F X (rf_p F Y j / 1200) = 0 := nf1_ne (Nat.lt_trans (rf_blt _ _ _) (by omega)) h188
              rw [if_pos e3]
              refine xg_stp rfl rfl rfl rfl ?_
              refine xg_stp (st' := .int (Int32.ofNat 3201) :: _) rfl rfl rfl rfl ?_
              refine xg_stp rfl rfl rfl rfl ?_
              refine rf_call B rfl rfl rfl rfl rfl rfl (rf_add B d F 0 0 3201 (rf_p F Y j) (by omega)) ?_
              refine xn_inc (e := 1) rfl rfl rfl rfl ?_
              refine xg_stp rfl rfl rfl rfl ?_
              first
                | exact rf_mgL B d c s X Y nx ny hX2 hY2 hX hY m (i + 1) (j + 1) (rf_ad F 3201 (rf_p F X i)) _ (rf_mIa _ hX hY hI (by omega) (by omega)) (by omega) (by first | exact Or.inr (Or.inl ⟨_, _, rfl⟩) | exact Or.inr (Or.inr (Or.inl ⟨_, _, rfl⟩)) | exact Or.inr (Or.inr (Or.inr ⟨_, _, rfl⟩)))
                | exact rf_mgL B d c s X Y nx ny hX2 hY2 hX hY m (i + 1) (j) (rf_ad F 3201 (rf_p F X i)) _ (rf_mIa _ hX hY hI (by omega) (by omega)) (by omega) (by first | exact Or.inr (Or.inl ⟨_, _, rfl⟩) | exact Or.inr (Or.inr (Or.inl ⟨_, _, rfl⟩)) | exact Or.inr (Or.inr (Or.inr ⟨_, _, rfl⟩)))
                | exact rf_mgL B d c s X Y nx ny hX2 hY2 hX hY m (i + 1) (j) (F) _ (rf_mIn hI (by omega)) (by omega) (by first | exact Or.inr (Or.inl ⟨_, _, rfl⟩) | exact Or.inr (Or.inr (Or.inl ⟨_, _, rfl⟩)) | exact Or.inr (Or.inr (Or.inr ⟨_, _, rfl⟩)))
                | exact rf_mgL B d c s X Y nx ny hX2 hY2 hX hY m (i) (j + 1) (rf_ad F 3201 (rf_p F Y j)) _ (rf_mIa _ hX hY hI (by omega) (by omega)) (by omega) (by first | exact Or.inr (Or.inl ⟨_, _, rfl⟩) | exact Or.inr (Or.inr (Or.inl ⟨_, _, rfl⟩)) | exact Or.inr (Or.inr (Or.inr ⟨_, _, rfl⟩)))
                | exact rf_mgL B d c s X Y nx ny hX2 hY2 hX hY m (i) (j + 1) (F) _ (rf_mIn hI (by omega)) (by omega) (by first | exact Or.inr (Or.inl ⟨_, _, rfl⟩) | exact Or.inr (Or.inr (Or.inl ⟨_, _, rfl⟩)) | exact Or.inr (Or.inr (Or.inr ⟨_, _, rfl⟩)))
          · have e2 : rf_p F X i < rf_p F Y j := nf_ge (by omega) (by omega) h147
            rw [if_pos e2]
            refine xg_stp rfl rfl rfl rfl ?_
            refine xg_stp rfl rfl rfl rfl ?_
            refine xg_stp rfl rfl rfl rfl ?_
            refine xg_call rfl rfl rfl (rf_dotOf B (d + 1) F 0 0 (rf_p F X i) (by omega)) ?_
            refine rf_call B rfl rfl rfl rfl rfl rfl (rf_isKnown B d F 0 0 Y (rf_p F X i / 1200) (by omega) (by omega) (a7 _ (by omega))) ?_
            refine xg_j1 rfl rfl rfl rfl rfl (fun h160 => ?_) (fun h160 => ?_)
            · have e3 : rf_b F Y (rf_p F X i / 1200) ≠ 0 := nt1_ne h160
              rw [if_neg e3]
              refine xn_inc (e := 1) rfl rfl rfl rfl ?_
              refine xg_stp rfl rfl rfl rfl ?_
              refine xg_stp rfl rfl rfl rfl ?_
              first
                | exact rf_mgL B d c s X Y nx ny hX2 hY2 hX hY m (i + 1) (j + 1) (rf_ad F 3201 (rf_p F X i)) _ (rf_mIa _ hX hY hI (by omega) (by omega)) (by omega) (by first | exact Or.inr (Or.inl ⟨_, _, rfl⟩) | exact Or.inr (Or.inr (Or.inl ⟨_, _, rfl⟩)) | exact Or.inr (Or.inr (Or.inr ⟨_, _, rfl⟩)))
                | exact rf_mgL B d c s X Y nx ny hX2 hY2 hX hY m (i + 1) (j) (rf_ad F 3201 (rf_p F X i)) _ (rf_mIa _ hX hY hI (by omega) (by omega)) (by omega) (by first | exact Or.inr (Or.inl ⟨_, _, rfl⟩) | exact Or.inr (Or.inr (Or.inl ⟨_, _, rfl⟩)) | exact Or.inr (Or.inr (Or.inr ⟨_, _, rfl⟩)))
                | exact rf_mgL B d c s X Y nx ny hX2 hY2 hX hY m (i + 1) (j) (F) _ (rf_mIn hI (by omega)) (by omega) (by first | exact Or.inr (Or.inl ⟨_, _, rfl⟩) | exact Or.inr (Or.inr (Or.inl ⟨_, _, rfl⟩)) | exact Or.inr (Or.inr (Or.inr ⟨_, _, rfl⟩)))
                | exact rf_mgL B d c s X Y nx ny hX2 hY2 hX hY m (i) (j + 1) (rf_ad F 3201 (rf_p F Y j)) _ (rf_mIa _ hX hY hI (by omega) (by omega)) (by omega) (by first | exact Or.inr (Or.inl ⟨_, _, rfl⟩) | exact Or.inr (Or.inr (Or.inl ⟨_, _, rfl⟩)) | exact Or.inr (Or.inr (Or.inr ⟨_, _, rfl⟩)))
                | exact rf_mgL B d c s X Y nx ny hX2 hY2 hX hY m (i) (j + 1) (F) _ (rf_mIn hI (by omega)) (by omega) (by first | exact Or.inr (Or.inl ⟨_, _, rfl⟩) | exact Or.inr (Or.inr (Or.inl ⟨_, _, rfl⟩)) | exact Or.inr (Or.inr (Or.inr ⟨_, _, rfl⟩)))
            · have e3 : rf_b F Y (rf_p F X i / 1200) = 0 := nf1_ne (Nat.lt_trans (rf_blt _ _ _) (by omega)) h160
              rw [if_pos e3]
              refine xg_stp rfl rfl rfl rfl ?_
              refine xg_stp (st' := .int (Int32.ofNat 3201) :: _) rfl rfl rfl rfl ?_
              refine xg_stp rfl rfl rfl rfl ?_
              refine rf_call B rfl rfl rfl rfl rfl rfl (rf_add B d F 0 0 3201 (rf_p F X i) (by omega)) ?_
              refine xn_inc (e := 1) rfl rfl rfl rfl ?_
              refine xg_stp rfl rfl rfl rfl ?_
              refine xg_stp rfl rfl rfl rfl ?_
              first
                | exact rf_mgL B d c s X Y nx ny hX2 hY2 hX hY m (i + 1) (j + 1) (rf_ad F 3201 (rf_p F X i)) _ (rf_mIa _ hX hY hI (by omega) (by omega)) (by omega) (by first | exact Or.inr (Or.inl ⟨_, _, rfl⟩) | exact Or.inr (Or.inr (Or.inl ⟨_, _, rfl⟩)) | exact Or.inr (Or.inr (Or.inr ⟨_, _, rfl⟩)))
                | exact rf_mgL B d c s X Y nx ny hX2 hY2 hX hY m (i + 1) (j) (rf_ad F 3201 (rf_p F X i)) _ (rf_mIa _ hX hY hI (by omega) (by omega)) (by omega) (by first | exact Or.inr (Or.inl ⟨_, _, rfl⟩) | exact Or.inr (Or.inr (Or.inl ⟨_, _, rfl⟩)) | exact Or.inr (Or.inr (Or.inr ⟨_, _, rfl⟩)))
                | exact rf_mgL B d c s X Y nx ny hX2 hY2 hX hY m (i + 1) (j) (F) _ (rf_mIn hI (by omega)) (by omega) (by first | exact Or.inr (Or.inl ⟨_, _, rfl⟩) | exact Or.inr (Or.inr (Or.inl ⟨_, _, rfl⟩)) | exact Or.inr (Or.inr (Or.inr ⟨_, _, rfl⟩)))
                | exact rf_mgL B d c s X Y nx ny hX2 hY2 hX hY m (i) (j + 1) (rf_ad F 3201 (rf_p F Y j)) _ (rf_mIa _ hX hY hI (by omega) (by omega)) (by omega) (by first | exact Or.inr (Or.inl ⟨_, _, rfl⟩) | exact Or.inr (Or.inr (Or.inl ⟨_, _, rfl⟩)) | exact Or.inr (Or.inr (Or.inr ⟨_, _, rfl⟩)))
                | exact rf_mgL B d c s X Y nx ny hX2 hY2 hX hY m (i) (j + 1) (F) _ (rf_mIn hI (by omega)) (by omega) (by first | exact Or.inr (Or.inl ⟨_, _, rfl⟩) | exact Or.inr (Or.inr (Or.inl ⟨_, _, rfl⟩)) | exact Or.inr (Or.inr (Or.inr ⟨_, _, rfl⟩)))
        · have e1 : rf_p F X i = rf_p F Y j := nf_ne (by omega) (by omega) h122
          rw [if_pos e1]
          refine xg_stp rfl rfl rfl rfl ?_
          refine xg_stp (st' := .int (Int32.ofNat 3201) :: _) rfl rfl rfl rfl ?_
          refine xg_stp rfl rfl rfl rfl ?_
          refine rf_call B rfl rfl rfl rfl rfl rfl (rf_add B d F 0 0 3201 (rf_p F X i) (by omega)) ?_
          refine xn_inc (e := 1) rfl rfl rfl rfl ?_
          refine xn_inc (e := 1) rfl rfl rfl rfl ?_
          refine xg_stp rfl rfl rfl rfl ?_
          refine xg_stp rfl rfl rfl rfl ?_
          first
            | exact rf_mgL B d c s X Y nx ny hX2 hY2 hX hY m (i + 1) (j + 1) (rf_ad F 3201 (rf_p F X i)) _ (rf_mIa _ hX hY hI (by omega) (by omega)) (by omega) (by first | exact Or.inr (Or.inl ⟨_, _, rfl⟩) | exact Or.inr (Or.inr (Or.inl ⟨_, _, rfl⟩)) | exact Or.inr (Or.inr (Or.inr ⟨_, _, rfl⟩)))
            | exact rf_mgL B d c s X Y nx ny hX2 hY2 hX hY m (i + 1) (j) (rf_ad F 3201 (rf_p F X i)) _ (rf_mIa _ hX hY hI (by omega) (by omega)) (by omega) (by first | exact Or.inr (Or.inl ⟨_, _, rfl⟩) | exact Or.inr (Or.inr (Or.inl ⟨_, _, rfl⟩)) | exact Or.inr (Or.inr (Or.inr ⟨_, _, rfl⟩)))
            | exact rf_mgL B d c s X Y nx ny hX2 hY2 hX hY m (i + 1) (j) (F) _ (rf_mIn hI (by omega)) (by omega) (by first | exact Or.inr (Or.inl ⟨_, _, rfl⟩) | exact Or.inr (Or.inr (Or.inl ⟨_, _, rfl⟩)) | exact Or.inr (Or.inr (Or.inr ⟨_, _, rfl⟩)))
            | exact rf_mgL B d c s X Y nx ny hX2 hY2 hX hY m (i) (j + 1) (rf_ad F 3201 (rf_p F Y j)) _ (rf_mIa _ hX hY hI (by omega) (by omega)) (by omega) (by first | exact Or.inr (Or.inl ⟨_, _, rfl⟩) | exact Or.inr (Or.inr (Or.inl ⟨_, _, rfl⟩)) | exact Or.inr (Or.inr (Or.inr ⟨_, _, rfl⟩)))
            | exact rf_mgL B d c s X Y nx ny hX2 hY2 hX hY m (i) (j + 1) (F) _ (rf_mIn hI (by omega)) (by omega) (by first | exact Or.inr (Or.inl ⟨_, _, rfl⟩) | exact Or.inr (Or.inr (Or.inl ⟨_, _, rfl⟩)) | exact Or.inr (Or.inr (Or.inr ⟨_, _, rfl⟩)))
      · have e5 := nf_lt (by omega) (by omega) h59
        refine xg_stp rfl rfl rfl rfl ?_
        refine xg_stp rfl rfl rfl rfl ?_
        refine xg_stp rfl rfl rfl rfl ?_
        refine rf_call B rfl rfl rfl rfl rfl rfl (rf_many B (d + 1) F 0 0 Y (by omega)) ?_
        refine xg_j2 rfl rfl rfl rfl rfl (fun h69 => ?_) (fun h69 => ?_)
        · have e6 := nt_ge (by omega) (by omega) h69
          rw [if_neg (by omega)]
          exact xg_ret rfl rfl
        · have e6 := nf_ge (by omega) (by omega) h69
          rw [if_pos (Or.inr e6)]
          refine rf_mgP B (d + 1) c s F X i hX2 (by omega) (by omega) _ _ rfl rfl rfl ?_
          refine rf_mgQ B (d + 1) c s F Y j hY2 (by omega) (by omega) _ _ rfl rfl rfl ?_
          refine xg_stp rfl rfl rfl rfl ?_
          refine xg_stp rfl rfl rfl rfl ?_
          refine xg_j2 rfl rfl rfl rfl rfl (fun h122 => ?_) (fun h122 => ?_)
          · have e1 := nt_ne h122
            rw [if_neg e1]
            refine xg_stp rfl rfl rfl rfl ?_
            refine xg_stp rfl rfl rfl rfl ?_
            refine xg_j2 rfl rfl rfl rfl rfl (fun h147 => ?_) (fun h147 => ?_)
            · have e2 : rf_p F Y j ≤ rf_p F X i := nt_ge (by omega) (by omega) h147
              rw [if_neg (Nat.not_lt.mpr e2)]
              refine xg_stp rfl rfl rfl rfl ?_
              refine xg_stp rfl rfl rfl rfl ?_
              refine xg_stp rfl rfl rfl rfl ?_
              refine xg_call rfl rfl rfl (rf_dotOf B (d + 1) F 0 0 (rf_p F Y j) (by omega)) ?_
              refine rf_call B rfl rfl rfl rfl rfl rfl (rf_isKnown B d F 0 0 X (rf_p F Y j / 1200) (by omega) (by omega) (a6 _ (by omega))) ?_
              refine xg_j1 rfl rfl rfl rfl rfl (fun h188 => ?_) (fun h188 => ?_)
              · have e3 : rf_b F X (rf_p F Y j / 1200) ≠ 0 := nt1_ne h188
                rw [if_neg e3]
                refine xn_inc (e := 1) rfl rfl rfl rfl ?_
                refine xg_stp rfl rfl rfl rfl ?_
                first
                  | exact rf_mgL B d c s X Y nx ny hX2 hY2 hX hY m (i + 1) (j + 1) (rf_ad F 3201 (rf_p F X i)) _ (rf_mIa _ hX hY hI (by omega) (by omega)) (by omega) (by first | exact Or.inr (Or.inl ⟨_, _, rfl⟩) | exact Or.inr (Or.inr (Or.inl ⟨_, _, rfl⟩)) | exact Or.inr (Or.inr (Or.inr ⟨_, _, rfl⟩)))
                  | exact rf_mgL B d c s X Y nx ny hX2 hY2 hX hY m (i + 1) (j) (rf_ad F 3201 (rf_p F X i)) _ (rf_mIa _ hX hY hI (by omega) (by omega)) (by omega) (by first | exact Or.inr (Or.inl ⟨_, _, rfl⟩) | exact Or.inr (Or.inr (Or.inl ⟨_, _, rfl⟩)) | exact Or.inr (Or.inr (Or.inr ⟨_, _, rfl⟩)))
                  | exact rf_mgL B d c s X Y nx ny hX2 hY2 hX hY m (i + 1) (j) (F) _ (rf_mIn hI (by omega)) (by omega) (by first | exact Or.inr (Or.inl ⟨_, _, rfl⟩) | exact Or.inr (Or.inr (Or.inl ⟨_, _, rfl⟩)) | exact Or.inr (Or.inr (Or.inr ⟨_, _, rfl⟩)))
                  | exact rf_mgL B d c s X Y nx ny hX2 hY2 hX hY m (i) (j + 1) (rf_ad F 3201 (rf_p F Y j)) _ (rf_mIa _ hX hY hI (by omega) (by omega)) (by omega) (by first | exact Or.inr (Or.inl ⟨_, _, rfl⟩) | exact Or.inr (Or.inr (Or.inl ⟨_, _, rfl⟩)) | exact Or.inr (Or.inr (Or.inr ⟨_, _, rfl⟩)))
                  | exact rf_mgL B d c s X Y nx ny hX2 hY2 hX hY m (i) (j + 1) (F) _ (rf_mIn hI (by omega)) (by omega) (by first | exact Or.inr (Or.inl ⟨_, _, rfl⟩) | exact Or.inr (Or.inr (Or.inl ⟨_, _, rfl⟩)) | exact Or.inr (Or.inr (Or.inr ⟨_, _, rfl⟩)))
              · have e3 : rf_b F X (rf_p F Y j / 1200) = 0 := nf1_ne (Nat.lt_trans (rf_blt _ _ _) (by omega)) h188
                rw [if_pos e3]
                refine xg_stp rfl rfl rfl rfl ?_
                refine xg_stp (st' := .int (Int32.ofNat 3201) :: _) rfl rfl rfl rfl ?_
                refine xg_stp rfl rfl rfl rfl ?_
                refine rf_call B rfl rfl rfl rfl rfl rfl (rf_add B d F 0 0 3201 (rf_p F Y j) (by omega)) ?_
                refine xn_inc (e := 1) rfl rfl rfl rfl ?_
                refine xg_stp rfl rfl rfl rfl ?_
                first
                  | exact rf_mgL B d c s X Y nx ny hX2 hY2 hX hY m (i + 1) (j + 1) (rf_ad F 3201 (rf_p F X i)) _ (rf_mIa _ hX hY hI (by omega) (by omega)) (by omega) (by first | exact Or.inr (Or.inl ⟨_, _, rfl⟩) | exact Or.inr (Or.inr (Or.inl ⟨_, _, rfl⟩)) | exact Or.inr (Or.inr (Or.inr ⟨_, _, rfl⟩)))
                  | exact rf_mgL B d c s X Y nx ny hX2 hY2 hX hY m (i + 1) (j) (rf_ad F 3201 (rf_p F X i)) _ (rf_mIa _ hX hY hI (by omega) (by omega)) (by omega) (by first | exact Or.inr (Or.inl ⟨_, _, rfl⟩) | exact Or.inr (Or.inr (Or.inl ⟨_, _, rfl⟩)) | exact Or.inr (Or.inr (Or.inr ⟨_, _, rfl⟩)))
                  | exact rf_mgL B d c s X Y nx ny hX2 hY2 hX hY m (i + 1) (j) (F) _ (rf_mIn hI (by omega)) (by omega) (by first | exact Or.inr (Or.inl ⟨_, _, rfl⟩) | exact Or.inr (Or.inr (Or.inl ⟨_, _, rfl⟩)) | exact Or.inr (Or.inr (Or.inr ⟨_, _, rfl⟩)))
                  | exact rf_mgL B d c s X Y nx ny hX2 hY2 hX hY m (i) (j + 1) (rf_ad F 3201 (rf_p F Y j)) _ (rf_mIa _ hX hY hI (by omega) (by omega)) (by omega) (by first | exact Or.inr (Or.inl ⟨_, _, rfl⟩) | exact Or.inr (Or.inr (Or.inl ⟨_, _, rfl⟩)) | exact Or.inr (Or.inr (Or.inr ⟨_, _, rfl⟩)))
                  | exact rf_mgL B d c s X Y nx ny hX2 hY2 hX hY m (i) (j + 1) (F) _ (rf_mIn hI (by omega)) (by omega) (by first | exact Or.inr (Or.inl ⟨_, _, rfl⟩) | exact Or.inr (Or.inr (Or.inl ⟨_, _, rfl⟩)) | exact Or.inr (Or.inr (Or.inr ⟨_, _, rfl⟩)))
            · have e2 : rf_p F X i < rf_p F Y j := nf_ge (by omega) (by omega) h147
              rw [if_pos e2]
              refine xg_stp rfl rfl rfl rfl ?_
              refine xg_stp rfl rfl rfl rfl ?_
              refine xg_stp rfl rfl rfl rfl ?_
              refine xg_call rfl rfl rfl (rf_dotOf B (d + 1) F 0 0 (rf_p F X i) (by omega)) ?_
              refine rf_call B rfl rfl rfl rfl rfl rfl (rf_isKnown B d F 0 0 Y (rf_p F X i / 1200) (by omega) (by omega) (a7 _ (by omega))) ?_
              refine xg_j1 rfl rfl rfl rfl rfl (fun h160 => ?_) (fun h160 => ?_)
              · have e3 : rf_b F Y (rf_p F X i / 1200) ≠ 0 := nt1_ne h160
                rw [if_neg e3]
                refine xn_inc (e := 1) rfl rfl rfl rfl ?_
                refine xg_stp rfl rfl rfl rfl ?_
                refine xg_stp rfl rfl rfl rfl ?_
                first
                  | exact rf_mgL B d c s X Y nx ny hX2 hY2 hX hY m (i + 1) (j + 1) (rf_ad F 3201 (rf_p F X i)) _ (rf_mIa _ hX hY hI (by omega) (by omega)) (by omega) (by first | exact Or.inr (Or.inl ⟨_, _, rfl⟩) | exact Or.inr (Or.inr (Or.inl ⟨_, _, rfl⟩)) | exact Or.inr (Or.inr (Or.inr ⟨_, _, rfl⟩)))
                  | exact rf_mgL B d c s X Y nx ny hX2 hY2 hX hY m (i + 1) (j) (rf_ad F 3201 (rf_p F X i)) _ (rf_mIa _ hX hY hI (by omega) (by omega)) (by omega) (by first | exact Or.inr (Or.inl ⟨_, _, rfl⟩) | exact Or.inr (Or.inr (Or.inl ⟨_, _, rfl⟩)) | exact Or.inr (Or.inr (Or.inr ⟨_, _, rfl⟩)))
                  | exact rf_mgL B d c s X Y nx ny hX2 hY2 hX hY m (i + 1) (j) (F) _ (rf_mIn hI (by omega)) (by omega) (by first | exact Or.inr (Or.inl ⟨_, _, rfl⟩) | exact Or.inr (Or.inr (Or.inl ⟨_, _, rfl⟩)) | exact Or.inr (Or.inr (Or.inr ⟨_, _, rfl⟩)))
                  | exact rf_mgL B d c s X Y nx ny hX2 hY2 hX hY m (i) (j + 1) (rf_ad F 3201 (rf_p F Y j)) _ (rf_mIa _ hX hY hI (by omega) (by omega)) (by omega) (by first | exact Or.inr (Or.inl ⟨_, _, rfl⟩) | exact Or.inr (Or.inr (Or.inl ⟨_, _, rfl⟩)) | exact Or.inr (Or.inr (Or.inr ⟨_, _, rfl⟩)))
                  | exact rf_mgL B d c s X Y nx ny hX2 hY2 hX hY m (i) (j + 1) (F) _ (rf_mIn hI (by omega)) (by omega) (by first | exact Or.inr (Or.inl ⟨_, _, rfl⟩) | exact Or.inr (Or.inr (Or.inl ⟨_, _, rfl⟩)) | exact Or.inr (Or.inr (Or.inr ⟨_, _, rfl⟩)))
              · have e3 : rf_b F Y (rf_p F X i / 1200) = 0 := nf1_ne (Nat.lt_trans (rf_blt _ _ _) (by omega)) h160
                rw [if_pos e3]
                refine xg_stp rfl rfl rfl rfl ?_
                refine xg_stp (st' := .int (Int32.ofNat 3201) :: _) rfl rfl rfl rfl ?_
                refine xg_stp rfl rfl rfl rfl ?_
                refine rf_call B rfl rfl rfl rfl rfl rfl (rf_add B d F 0 0 3201 (rf_p F X i) (by omega)) ?_
                refine xn_inc (e := 1) rfl rfl rfl rfl ?_
                refine xg_stp rfl rfl rfl rfl ?_
                refine xg_stp rfl rfl rfl rfl ?_
                first
                  | exact rf_mgL B d c s X Y nx ny hX2 hY2 hX hY m (i + 1) (j + 1) (rf_ad F 3201 (rf_p F X i)) _ (rf_mIa _ hX hY hI (by omega) (by omega)) (by omega) (by first | exact Or.inr (Or.inl ⟨_, _, rfl⟩) | exact Or.inr (Or.inr (Or.inl ⟨_, _, rfl⟩)) | exact Or.inr (Or.inr (Or.inr ⟨_, _, rfl⟩)))
                  | exact rf_mgL B d c s X Y nx ny hX2 hY2 hX hY m (i + 1) (j) (rf_ad F 3201 (rf_p F X i)) _ (rf_mIa _ hX hY hI (by omega) (by omega)) (by omega) (by first | exact Or.inr (Or.inl ⟨_, _, rfl⟩) | exact Or.inr (Or.inr (Or.inl ⟨_, _, rfl⟩)) | exact Or.inr (Or.inr (Or.inr ⟨_, _, rfl⟩)))
                  | exact rf_mgL B d c s X Y nx ny hX2 hY2 hX hY m (i + 1) (j) (F) _ (rf_mIn hI (by omega)) (by omega) (by first | exact Or.inr (Or.inl ⟨_, _, rfl⟩) | exact Or.inr (Or.inr (Or.inl ⟨_, _, rfl⟩)) | exact Or.inr (Or.inr (Or.inr ⟨_, _, rfl⟩)))
                  | exact rf_mgL B d c s X Y nx ny hX2 hY2 hX hY m (i) (j + 1) (rf_ad F 3201 (rf_p F Y j)) _ (rf_mIa _ hX hY hI (by omega) (by omega)) (by omega) (by first | exact Or.inr (Or.inl ⟨_, _, rfl⟩) | exact Or.inr (Or.inr (Or.inl ⟨_, _, rfl⟩)) | exact Or.inr (Or.inr (Or.inr ⟨_, _, rfl⟩)))
                  | exact rf_mgL B d c s X Y nx ny hX2 hY2 hX hY m (i) (j + 1) (F) _ (rf_mIn hI (by omega)) (by omega) (by first | exact Or.inr (Or.inl ⟨_, _, rfl⟩) | exact Or.inr (Or.inr (Or.inl ⟨_, _, rfl⟩)) | exact Or.inr (Or.inr (Or.inr ⟨_, _, rfl⟩)))
          · have e1 : rf_p F X i = rf_p F Y j := nf_ne (by omega) (by omega) h122
            rw [if_pos e1]
            refine xg_stp rfl rfl rfl rfl ?_
            refine xg_stp (st' := .int (Int32.ofNat 3201) :: _) rfl rfl rfl rfl ?_
            refine xg_stp rfl rfl rfl rfl ?_
            refine rf_call B rfl rfl rfl rfl rfl rfl (rf_add B d F 0 0 3201 (rf_p F X i) (by omega)) ?_
            refine xn_inc (e := 1) rfl rfl rfl rfl ?_
            refine xn_inc (e := 1) rfl rfl rfl rfl ?_
            refine xg_stp rfl rfl rfl rfl ?_
            refine xg_stp rfl rfl rfl rfl ?_
            first
              | exact rf_mgL B d c s X Y nx ny hX2 hY2 hX hY m (i + 1) (j + 1) (rf_ad F 3201 (rf_p F X i)) _ (rf_mIa _ hX hY hI (by omega) (by omega)) (by omega) (by first | exact Or.inr (Or.inl ⟨_, _, rfl⟩) | exact Or.inr (Or.inr (Or.inl ⟨_, _, rfl⟩)) | exact Or.inr (Or.inr (Or.inr ⟨_, _, rfl⟩)))
              | exact rf_mgL B d c s X Y nx ny hX2 hY2 hX hY m (i + 1) (j) (rf_ad F 3201 (rf_p F X i)) _ (rf_mIa _ hX hY hI (by omega) (by omega)) (by omega) (by first | exact Or.inr (Or.inl ⟨_, _, rfl⟩) | exact Or.inr (Or.inr (Or.inl ⟨_, _, rfl⟩)) | exact Or.inr (Or.inr (Or.inr ⟨_, _, rfl⟩)))
              | exact rf_mgL B d c s X Y nx ny hX2 hY2 hX hY m (i + 1) (j) (F) _ (rf_mIn hI (by omega)) (by omega) (by first | exact Or.inr (Or.inl ⟨_, _, rfl⟩) | exact Or.inr (Or.inr (Or.inl ⟨_, _, rfl⟩)) | exact Or.inr (Or.inr (Or.inr ⟨_, _, rfl⟩)))
              | exact rf_mgL B d c s X Y nx ny hX2 hY2 hX hY m (i) (j + 1) (rf_ad F 3201 (rf_p F Y j)) _ (rf_mIa _ hX hY hI (by omega) (by omega)) (by omega) (by first | exact Or.inr (Or.inl ⟨_, _, rfl⟩) | exact Or.inr (Or.inr (Or.inl ⟨_, _, rfl⟩)) | exact Or.inr (Or.inr (Or.inr ⟨_, _, rfl⟩)))
              | exact rf_mgL B d c s X Y nx ny hX2 hY2 hX hY m (i) (j + 1) (F) _ (rf_mIn hI (by omega)) (by omega) (by first | exact Or.inr (Or.inl ⟨_, _, rfl⟩) | exact Or.inr (Or.inr (Or.inl ⟨_, _, rfl⟩)) | exact Or.inr (Or.inr (Or.inr ⟨_, _, rfl⟩)))
    · refine xg_stp rfl rfl rfl rfl ?_
      refine xg_stp rfl rfl rfl rfl ?_
      refine xg_stp rfl rfl rfl rfl ?_
      refine rf_call B rfl rfl rfl rfl rfl rfl (rf_many B (d + 1) F 0 0 X (by omega)) ?_
      refine xg_j2 rfl rfl rfl rfl rfl (fun h59 => ?_) (fun h59 => ?_)
      · have e5 := nt_lt (by omega) (by omega) h59
        rw [if_pos (Or.inl e5)]
        refine rf_mgP B (d + 1) c s F X i hX2 (by omega) (by omega) _ _ rfl rfl rfl ?_
        refine rf_mgQ B (d + 1) c s F Y j hY2 (by omega) (by omega) _ _ rfl rfl rfl ?_
        refine xg_stp rfl rfl rfl rfl ?_
        refine xg_stp rfl rfl rfl rfl ?_
        refine xg_j2 rfl rfl rfl rfl rfl (fun h122 => ?_) (fun h122 => ?_)
        · have e1 := nt_ne h122
          rw [if_neg e1]
          refine xg_stp rfl rfl rfl rfl ?_
          refine xg_stp rfl rfl rfl rfl ?_
          refine xg_j2 rfl rfl rfl rfl rfl (fun h147 => ?_) (fun h147 => ?_)
          · have e2 : rf_p F Y j ≤ rf_p F X i := nt_ge (by omega) (by omega) h147
            rw [if_neg (Nat.not_lt.mpr e2)]
            refine xg_stp rfl rfl rfl rfl ?_
            refine xg_stp rfl rfl rfl rfl ?_
            refine xg_stp rfl rfl rfl rfl ?_
            refine xg_call rfl rfl rfl (rf_dotOf B (d + 1) F 0 0 (rf_p F Y j) (by omega)) ?_
            refine rf_call B rfl rfl rfl rfl rfl rfl (rf_isKnown B d F 0 0 X (rf_p F Y j / 1200) (by omega) (by omega) (a6 _ (by omega))) ?_
            refine xg_j1 rfl rfl rfl rfl rfl (fun h188 => ?_) (fun h188 => ?_)
            · have e3 : rf_b F X (rf_p F Y j / 1200) ≠ 0 := nt1_ne h188
              rw [if_neg e3]
              refine xn_inc (e := 1) rfl rfl rfl rfl ?_
              refine xg_stp rfl rfl rfl rfl ?_
              first
                | exact rf_mgL B d c s X Y nx ny hX2 hY2 hX hY m (i + 1) (j + 1) (rf_ad F 3201 (rf_p F X i)) _ (rf_mIa _ hX hY hI (by omega) (by omega)) (by omega) (by first | exact Or.inr (Or.inl ⟨_, _, rfl⟩) | exact Or.inr (Or.inr (Or.inl ⟨_, _, rfl⟩)) | exact Or.inr (Or.inr (Or.inr ⟨_, _, rfl⟩)))
                | exact rf_mgL B d c s X Y nx ny hX2 hY2 hX hY m (i + 1) (j) (rf_ad F 3201 (rf_p F X i)) _ (rf_mIa _ hX hY hI (by omega) (by omega)) (by omega) (by first | exact Or.inr (Or.inl ⟨_, _, rfl⟩) | exact Or.inr (Or.inr (Or.inl ⟨_, _, rfl⟩)) | exact Or.inr (Or.inr (Or.inr ⟨_, _, rfl⟩)))
                | exact rf_mgL B d c s X Y nx ny hX2 hY2 hX hY m (i + 1) (j) (F) _ (rf_mIn hI (by omega)) (by omega) (by first | exact Or.inr (Or.inl ⟨_, _, rfl⟩) | exact Or.inr (Or.inr (Or.inl ⟨_, _, rfl⟩)) | exact Or.inr (Or.inr (Or.inr ⟨_, _, rfl⟩)))
                | exact rf_mgL B d c s X Y nx ny hX2 hY2 hX hY m (i) (j + 1) (rf_ad F 3201 (rf_p F Y j)) _ (rf_mIa _ hX hY hI (by omega) (by omega)) (by omega) (by first | exact Or.inr (Or.inl ⟨_, _, rfl⟩) | exact Or.inr (Or.inr (Or.inl ⟨_, _, rfl⟩)) | exact Or.inr (Or.inr (Or.inr ⟨_, _, rfl⟩)))
                | exact rf_mgL B d c s X Y nx ny hX2 hY2 hX hY m (i) (j + 1) (F) _ (rf_mIn hI (by omega)) (by omega) (by first | exact Or.inr (Or.inl ⟨_, _, rfl⟩) | exact Or.inr (Or.inr (Or.inl ⟨_, _, rfl⟩)) | exact Or.inr (Or.inr (Or.inr ⟨_, _, rfl⟩)))
            · have e3 : rf_b F X (rf_p F Y j / 1200) = 0 := nf1_ne (Nat.lt_trans (rf_blt _ _ _) (by omega)) h188
              rw [if_pos e3]
              refine xg_stp rfl rfl rfl rfl ?_
              refine xg_stp (st' := .int (Int32.ofNat 3201) :: _) rfl rfl rfl rfl ?_
              refine xg_stp rfl rfl rfl rfl ?_
              refine rf_call B rfl rfl rfl rfl rfl rfl (rf_add B d F 0 0 3201 (rf_p F Y j) (by omega)) ?_
              refine xn_inc (e := 1) rfl rfl rfl rfl ?_
              refine xg_stp rfl rfl rfl rfl ?_
              first
                | exact rf_mgL B d c s X Y nx ny hX2 hY2 hX hY m (i + 1) (j + 1) (rf_ad F 3201 (rf_p F X i)) _ (rf_mIa _ hX hY hI (by omega) (by omega)) (by omega) (by first | exact Or.inr (Or.inl ⟨_, _, rfl⟩) | exact Or.inr (Or.inr (Or.inl ⟨_, _, rfl⟩)) | exact Or.inr (Or.inr (Or.inr ⟨_, _, rfl⟩)))
                | exact rf_mgL B d c s X Y nx ny hX2 hY2 hX hY m (i + 1) (j) (rf_ad F 3201 (rf_p F X i)) _ (rf_mIa _ hX hY hI (by omega) (by omega)) (by omega) (by first | exact Or.inr (Or.inl ⟨_, _, rfl⟩) | exact Or.inr (Or.inr (Or.inl ⟨_, _, rfl⟩)) | exact Or.inr (Or.inr (Or.inr ⟨_, _, rfl⟩)))
                | exact rf_mgL B d c s X Y nx ny hX2 hY2 hX hY m (i + 1) (j) (F) _ (rf_mIn hI (by omega)) (by omega) (by first | exact Or.inr (Or.inl ⟨_, _, rfl⟩) | exact Or.inr (Or.inr (Or.inl ⟨_, _, rfl⟩)) | exact Or.inr (Or.inr (Or.inr ⟨_, _, rfl⟩)))
                | exact rf_mgL B d c s X Y nx ny hX2 hY2 hX hY m (i) (j + 1) (rf_ad F 3201 (rf_p F Y j)) _ (rf_mIa _ hX hY hI (by omega) (by omega)) (by omega) (by first | exact Or.inr (Or.inl ⟨_, _, rfl⟩) | exact Or.inr (Or.inr (Or.inl ⟨_, _, rfl⟩)) | exact Or.inr (Or.inr (Or.inr ⟨_, _, rfl⟩)))
                | exact rf_mgL B d c s X Y nx ny hX2 hY2 hX hY m (i) (j + 1) (F) _ (rf_mIn hI (by omega)) (by omega) (by first | exact Or.inr (Or.inl ⟨_, _, rfl⟩) | exact Or.inr (Or.inr (Or.inl ⟨_, _, rfl⟩)) | exact Or.inr (Or.inr (Or.inr ⟨_, _, rfl⟩)))
          · have e2 : rf_p F X i < rf_p F Y j := nf_ge (by omega) (by omega) h147
            rw [if_pos e2]
            refine xg_stp rfl rfl rfl rfl ?_
            refine xg_stp rfl rfl rfl rfl ?_
            refine xg_stp rfl rfl rfl rfl ?_
            refine xg_call rfl rfl rfl (rf_dotOf B (d + 1) F 0 0 (rf_p F X i) (by omega)) ?_
            refine rf_call B rfl rfl rfl rfl rfl rfl (rf_isKnown B d F 0 0 Y (rf_p F X i / 1200) (by omega) (by omega) (a7 _ (by omega))) ?_
            refine xg_j1 rfl rfl rfl rfl rfl (fun h160 => ?_) (fun h160 => ?_)
            · have e3 : rf_b F Y (rf_p F X i / 1200) ≠ 0 := nt1_ne h160
              rw [if_neg e3]
              refine xn_inc (e := 1) rfl rfl rfl rfl ?_
              refine xg_stp rfl rfl rfl rfl ?_
              refine xg_stp rfl rfl rfl rfl ?_
              first
                | exact rf_mgL B d c s X Y nx ny hX2 hY2 hX hY m (i + 1) (j + 1) (rf_ad F 3201 (rf_p F X i)) _ (rf_mIa _ hX hY hI (by omega) (by omega)) (by omega) (by first | exact Or.inr (Or.inl ⟨_, _, rfl⟩) | exact Or.inr (Or.inr (Or.inl ⟨_, _, rfl⟩)) | exact Or.inr (Or.inr (Or.inr ⟨_, _, rfl⟩)))
                | exact rf_mgL B d c s X Y nx ny hX2 hY2 hX hY m (i + 1) (j) (rf_ad F 3201 (rf_p F X i)) _ (rf_mIa _ hX hY hI (by omega) (by omega)) (by omega) (by first | exact Or.inr (Or.inl ⟨_, _, rfl⟩) | exact Or.inr (Or.inr (Or.inl ⟨_, _, rfl⟩)) | exact Or.inr (Or.inr (Or.inr ⟨_, _, rfl⟩)))
                | exact rf_mgL B d c s X Y nx ny hX2 hY2 hX hY m (i + 1) (j) (F) _ (rf_mIn hI (by omega)) (by omega) (by first | exact Or.inr (Or.inl ⟨_, _, rfl⟩) | exact Or.inr (Or.inr (Or.inl ⟨_, _, rfl⟩)) | exact Or.inr (Or.inr (Or.inr ⟨_, _, rfl⟩)))
                | exact rf_mgL B d c s X Y nx ny hX2 hY2 hX hY m (i) (j + 1) (rf_ad F 3201 (rf_p F Y j)) _ (rf_mIa _ hX hY hI (by omega) (by omega)) (by omega) (by first | exact Or.inr (Or.inl ⟨_, _, rfl⟩) | exact Or.inr (Or.inr (Or.inl ⟨_, _, rfl⟩)) | exact Or.inr (Or.inr (Or.inr ⟨_, _, rfl⟩)))
                | exact rf_mgL B d c s X Y nx ny hX2 hY2 hX hY m (i) (j + 1) (F) _ (rf_mIn hI (by omega)) (by omega) (by first | exact Or.inr (Or.inl ⟨_, _, rfl⟩) | exact Or.inr (Or.inr (Or.inl ⟨_, _, rfl⟩)) | exact Or.inr (Or.inr (Or.inr ⟨_, _, rfl⟩)))
            · have e3 : rf_b F Y (rf_p F X i / 1200) = 0 := nf1_ne (Nat.lt_trans (rf_blt _ _ _) (by omega)) h160
              rw [if_pos e3]
              refine xg_stp rfl rfl rfl rfl ?_
              refine xg_stp (st' := .int (Int32.ofNat 3201) :: _) rfl rfl rfl rfl ?_
              refine xg_stp rfl rfl rfl rfl ?_
              refine rf_call B rfl rfl rfl rfl rfl rfl (rf_add B d F 0 0 3201 (rf_p F X i) (by omega)) ?_
              refine xn_inc (e := 1) rfl rfl rfl rfl ?_
              refine xg_stp rfl rfl rfl rfl ?_
              refine xg_stp rfl rfl rfl rfl ?_
              first
                | exact rf_mgL B d c s X Y nx ny hX2 hY2 hX hY m (i + 1) (j + 1) (rf_ad F 3201 (rf_p F X i)) _ (rf_mIa _ hX hY hI (by omega) (by omega)) (by omega) (by first | exact Or.inr (Or.inl ⟨_, _, rfl⟩) | exact Or.inr (Or.inr (Or.inl ⟨_, _, rfl⟩)) | exact Or.inr (Or.inr (Or.inr ⟨_, _, rfl⟩)))
                | exact rf_mgL B d c s X Y nx ny hX2 hY2 hX hY m (i + 1) (j) (rf_ad F 3201 (rf_p F X i)) _ (rf_mIa _ hX hY hI (by omega) (by omega)) (by omega) (by first | exact Or.inr (Or.inl ⟨_, _, rfl⟩) | exact Or.inr (Or.inr (Or.inl ⟨_, _, rfl⟩)) | exact Or.inr (Or.inr (Or.inr ⟨_, _, rfl⟩)))
                | exact rf_mgL B d c s X Y nx ny hX2 hY2 hX hY m (i + 1) (j) (F) _ (rf_mIn hI (by omega)) (by omega) (by first | exact Or.inr (Or.inl ⟨_, _, rfl⟩) | exact Or.inr (Or.inr (Or.inl ⟨_, _, rfl⟩)) | exact Or.inr (Or.inr (Or.inr ⟨_, _, rfl⟩)))
                | exact rf_mgL B d c s X Y nx ny hX2 hY2 hX hY m (i) (j + 1) (rf_ad F 3201 (rf_p F Y j)) _ (rf_mIa _ hX hY hI (by omega) (by omega)) (by omega) (by first | exact Or.inr (Or.inl ⟨_, _, rfl⟩) | exact Or.inr (Or.inr (Or.inl ⟨_, _, rfl⟩)) | exact Or.inr (Or.inr (Or.inr ⟨_, _, rfl⟩)))
                | exact rf_mgL B d c s X Y nx ny hX2 hY2 hX hY m (i) (j + 1) (F) _ (rf_mIn hI (by omega)) (by omega) (by first | exact Or.inr (Or.inl ⟨_, _, rfl⟩) | exact Or.inr (Or.inr (Or.inl ⟨_, _, rfl⟩)) | exact Or.inr (Or.inr (Or.inr ⟨_, _, rfl⟩)))
        · have e1 : rf_p F X i = rf_p F Y j := nf_ne (by omega) (by omega) h122
          rw [if_pos e1]
          refine xg_stp rfl rfl rfl rfl ?_
          refine xg_stp (st' := .int (Int32.ofNat 3201) :: _) rfl rfl rfl rfl ?_
          refine xg_stp rfl rfl rfl rfl ?_
          refine rf_call B rfl rfl rfl rfl rfl rfl (rf_add B d F 0 0 3201 (rf_p F X i) (by omega)) ?_
          refine xn_inc (e := 1) rfl rfl rfl rfl ?_
          refine xn_inc (e := 1) rfl rfl rfl rfl ?_
          refine xg_stp rfl rfl rfl rfl ?_
          refine xg_stp rfl rfl rfl rfl ?_
          first
            | exact rf_mgL B d c s X Y nx ny hX2 hY2 hX hY m (i + 1) (j + 1) (rf_ad F 3201 (rf_p F X i)) _ (rf_mIa _ hX hY hI (by omega) (by omega)) (by omega) (by first | exact Or.inr (Or.inl ⟨_, _, rfl⟩) | exact Or.inr (Or.inr (Or.inl ⟨_, _, rfl⟩)) | exact Or.inr (Or.inr (Or.inr ⟨_, _, rfl⟩)))
            | exact rf_mgL B d c s X Y nx ny hX2 hY2 hX hY m (i + 1) (j) (rf_ad F 3201 (rf_p F X i)) _ (rf_mIa _ hX hY hI (by omega) (by omega)) (by omega) (by first | exact Or.inr (Or.inl ⟨_, _, rfl⟩) | exact Or.inr (Or.inr (Or.inl ⟨_, _, rfl⟩)) | exact Or.inr (Or.inr (Or.inr ⟨_, _, rfl⟩)))
            | exact rf_mgL B d c s X Y nx ny hX2 hY2 hX hY m (i + 1) (j) (F) _ (rf_mIn hI (by omega)) (by omega) (by first | exact Or.inr (Or.inl ⟨_, _, rfl⟩) | exact Or.inr (Or.inr (Or.inl ⟨_, _, rfl⟩)) | exact Or.inr (Or.inr (Or.inr ⟨_, _, rfl⟩)))
            | exact rf_mgL B d c s X Y nx ny hX2 hY2 hX hY m (i) (j + 1) (rf_ad F 3201 (rf_p F Y j)) _ (rf_mIa _ hX hY hI (by omega) (by omega)) (by omega) (by first | exact Or.inr (Or.inl ⟨_, _, rfl⟩) | exact Or.inr (Or.inr (Or.inl ⟨_, _, rfl⟩)) | exact Or.inr (Or.inr (Or.inr ⟨_, _, rfl⟩)))
            | exact rf_mgL B d c s X Y nx ny hX2 hY2 hX hY m (i) (j + 1) (F) _ (rf_mIn hI (by omega)) (by omega) (by first | exact Or.inr (Or.inl ⟨_, _, rfl⟩) | exact Or.inr (Or.inr (Or.inl ⟨_, _, rfl⟩)) | exact Or.inr (Or.inr (Or.inr ⟨_, _, rfl⟩)))
      · have e5 := nf_lt (by omega) (by omega) h59
        refine xg_stp rfl rfl rfl rfl ?_
        refine xg_stp rfl rfl rfl rfl ?_
        refine xg_stp rfl rfl rfl rfl ?_
        refine rf_call B rfl rfl rfl rfl rfl rfl (rf_many B (d + 1) F 0 0 Y (by omega)) ?_
        refine xg_j2 rfl rfl rfl rfl rfl (fun h69 => ?_) (fun h69 => ?_)
        · have e6 := nt_ge (by omega) (by omega) h69
          rw [if_neg (by omega)]
          exact xg_ret rfl rfl
        · have e6 := nf_ge (by omega) (by omega) h69
          rw [if_pos (Or.inr e6)]
          refine rf_mgP B (d + 1) c s F X i hX2 (by omega) (by omega) _ _ rfl rfl rfl ?_
          refine rf_mgQ B (d + 1) c s F Y j hY2 (by omega) (by omega) _ _ rfl rfl rfl ?_
          refine xg_stp rfl rfl rfl rfl ?_
          refine xg_stp rfl rfl rfl rfl ?_
          refine xg_j2 rfl rfl rfl rfl rfl (fun h122 => ?_) (fun h122 => ?_)
          · have e1 := nt_ne h122
            rw [if_neg e1]
            refine xg_stp rfl rfl rfl rfl ?_
            refine xg_stp rfl rfl rfl rfl ?_
            refine xg_j2 rfl rfl rfl rfl rfl (fun h147 => ?_) (fun h147 => ?_)
            · have e2 : rf_p F Y j ≤ rf_p F X i := nt_ge (by omega) (by omega) h147
              rw [if_neg (Nat.not_lt.mpr e2)]
              refine xg_stp rfl rfl rfl rfl ?_
              refine xg_stp rfl rfl rfl rfl ?_
              refine xg_stp rfl rfl rfl rfl ?_
              refine xg_call rfl rfl rfl (rf_dotOf B (d + 1) F 0 0 (rf_p F Y j) (by omega)) ?_
              refine rf_call B rfl rfl rfl rfl rfl rfl (rf_isKnown B d F 0 0 X (rf_p F Y j / 1200) (by omega) (by omega) (a6 _ (by omega))) ?_
              refine xg_j1 rfl rfl rfl rfl rfl (fun h188 => ?_) (fun h188 => ?_)
              · have e3 : rf_b F X (rf_p F Y j / 1200) ≠ 0 := nt1_ne h188
                rw [if_neg e3]
                refine xn_inc (e := 1) rfl rfl rfl rfl ?_
                refine xg_stp rfl rfl rfl rfl ?_
                first
                  | exact rf_mgL B d c s X Y nx ny hX2 hY2 hX hY m (i + 1) (j + 1) (rf_ad F 3201 (rf_p F X i)) _ (rf_mIa _ hX hY hI (by omega) (by omega)) (by omega) (by first | exact Or.inr (Or.inl ⟨_, _, rfl⟩) | exact Or.inr (Or.inr (Or.inl ⟨_, _, rfl⟩)) | exact Or.inr (Or.inr (Or.inr ⟨_, _, rfl⟩)))
                  | exact rf_mgL B d c s X Y nx ny hX2 hY2 hX hY m (i + 1) (j) (rf_ad F 3201 (rf_p F X i)) _ (rf_mIa _ hX hY hI (by omega) (by omega)) (by omega) (by first | exact Or.inr (Or.inl ⟨_, _, rfl⟩) | exact Or.inr (Or.inr (Or.inl ⟨_, _, rfl⟩)) | exact Or.inr (Or.inr (Or.inr ⟨_, _, rfl⟩)))
                  | exact rf_mgL B d c s X Y nx ny hX2 hY2 hX hY m (i + 1) (j) (F) _ (rf_mIn hI (by omega)) (by omega) (by first | exact Or.inr (Or.inl ⟨_, _, rfl⟩) | exact Or.inr (Or.inr (Or.inl ⟨_, _, rfl⟩)) | exact Or.inr (Or.inr (Or.inr ⟨_, _, rfl⟩)))
                  | exact rf_mgL B d c s X Y nx ny hX2 hY2 hX hY m (i) (j + 1) (rf_ad F 3201 (rf_p F Y j)) _ (rf_mIa _ hX hY hI (by omega) (by omega)) (by omega) (by first | exact Or.inr (Or.inl ⟨_, _, rfl⟩) | exact Or.inr (Or.inr (Or.inl ⟨_, _, rfl⟩)) | exact Or.inr (Or.inr (Or.inr ⟨_, _, rfl⟩)))
                  | exact rf_mgL B d c s X Y nx ny hX2 hY2 hX hY m (i) (j + 1) (F) _ (rf_mIn hI (by omega)) (by omega) (by first | exact Or.inr (Or.inl ⟨_, _, rfl⟩) | exact Or.inr (Or.inr (Or.inl ⟨_, _, rfl⟩)) | exact Or.inr (Or.inr (Or.inr ⟨_, _, rfl⟩)))
              · have e3 : rf_b F X (rf_p F Y j / 1200) = 0 := nf1_ne (Nat.lt_trans (rf_blt _ _ _) (by omega)) h188
                rw [if_pos e3]
                refine xg_stp rfl rfl rfl rfl ?_
                refine xg_stp (st' := .int (Int32.ofNat 3201) :: _) rfl rfl rfl rfl ?_
                refine xg_stp rfl rfl rfl rfl ?_
                refine rf_call B rfl rfl rfl rfl rfl rfl (rf_add B d F 0 0 3201 (rf_p F Y j) (by omega)) ?_
                refine xn_inc (e := 1) rfl rfl rfl rfl ?_
                refine xg_stp rfl rfl rfl rfl ?_
                first
                  | exact rf_mgL B d c s X Y nx ny hX2 hY2 hX hY m (i + 1) (j + 1) (rf_ad F 3201 (rf_p F X i)) _ (rf_mIa _ hX hY hI (by omega) (by omega)) (by omega) (by first | exact Or.inr (Or.inl ⟨_, _, rfl⟩) | exact Or.inr (Or.inr (Or.inl ⟨_, _, rfl⟩)) | exact Or.inr (Or.inr (Or.inr ⟨_, _, rfl⟩)))
                  | exact rf_mgL B d c s X Y nx ny hX2 hY2 hX hY m (i + 1) (j) (rf_ad F 3201 (rf_p F X i)) _ (rf_mIa _ hX hY hI (by omega) (by omega)) (by omega) (by first | exact Or.inr (Or.inl ⟨_, _, rfl⟩) | exact Or.inr (Or.inr (Or.inl ⟨_, _, rfl⟩)) | exact Or.inr (Or.inr (Or.inr ⟨_, _, rfl⟩)))
                  | exact rf_mgL B d c s X Y nx ny hX2 hY2 hX hY m (i + 1) (j) (F) _ (rf_mIn hI (by omega)) (by omega) (by first | exact Or.inr (Or.inl ⟨_, _, rfl⟩) | exact Or.inr (Or.inr (Or.inl ⟨_, _, rfl⟩)) | exact Or.inr (Or.inr (Or.inr ⟨_, _, rfl⟩)))
                  | exact rf_mgL B d c s X Y nx ny hX2 hY2 hX hY m (i) (j + 1) (rf_ad F 3201 (rf_p F Y j)) _ (rf_mIa _ hX hY hI (by omega) (by omega)) (by omega) (by first | exact Or.inr (Or.inl ⟨_, _, rfl⟩) | exact Or.inr (Or.inr (Or.inl ⟨_, _, rfl⟩)) | exact Or.inr (Or.inr (Or.inr ⟨_, _, rfl⟩)))
                  | exact rf_mgL B d c s X Y nx ny hX2 hY2 hX hY m (i) (j + 1) (F) _ (rf_mIn hI (by omega)) (by omega) (by first | exact Or.inr (Or.inl ⟨_, _, rfl⟩) | exact Or.inr (Or.inr (Or.inl ⟨_, _, rfl⟩)) | exact Or.inr (Or.inr (Or.inr ⟨_, _, rfl⟩)))
            · have e2 : rf_p F X i < rf_p F Y j := nf_ge (by omega) (by omega) h147
              rw [if_pos e2]
              refine xg_stp rfl rfl rfl rfl ?_
              refine xg_stp rfl rfl rfl rfl ?_
              refine xg_stp rfl rfl rfl rfl ?_
              refine xg_call rfl rfl rfl (rf_dotOf B (d + 1) F 0 0 (rf_p F X i) (by omega)) ?_
              refine rf_call B rfl rfl rfl rfl rfl rfl (rf_isKnown B d F 0 0 Y (rf_p F X i / 1200) (by omega) (by omega) (a7 _ (by omega))) ?_
              refine xg_j1 rfl rfl rfl rfl rfl (fun h160 => ?_) (fun h160 => ?_)
              · have e3 : rf_b F Y (rf_p F X i / 1200) ≠ 0 := nt1_ne h160
                rw [if_neg e3]
                refine xn_inc (e := 1) rfl rfl rfl rfl ?_
                refine xg_stp rfl rfl rfl rfl ?_
                refine xg_stp rfl rfl rfl rfl ?_
                first
                  | exact rf_mgL B d c s X Y nx ny hX2 hY2 hX hY m (i + 1) (j + 1) (rf_ad F 3201 (rf_p F X i)) _ (rf_mIa _ hX hY hI (by omega) (by omega)) (by omega) (by first | exact Or.inr (Or.inl ⟨_, _, rfl⟩) | exact Or.inr (Or.inr (Or.inl ⟨_, _, rfl⟩)) | exact Or.inr (Or.inr (Or.inr ⟨_, _, rfl⟩)))
                  | exact rf_mgL B d c s X Y nx ny hX2 hY2 hX hY m (i + 1) (j) (rf_ad F 3201 (rf_p F X i)) _ (rf_mIa _ hX hY hI (by omega) (by omega)) (by omega) (by first | exact Or.inr (Or.inl ⟨_, _, rfl⟩) | exact Or.inr (Or.inr (Or.inl ⟨_, _, rfl⟩)) | exact Or.inr (Or.inr (Or.inr ⟨_, _, rfl⟩)))
                  | exact rf_mgL B d c s X Y nx ny hX2 hY2 hX hY m (i + 1) (j) (F) _ (rf_mIn hI (by omega)) (by omega) (by first | exact Or.inr (Or.inl ⟨_, _, rfl⟩) | exact Or.inr (Or.inr (Or.inl ⟨_, _, rfl⟩)) | exact Or.inr (Or.inr (Or.inr ⟨_, _, rfl⟩)))
                  | exact rf_mgL B d c s X Y nx ny hX2 hY2 hX hY m (i) (j + 1) (rf_ad F 3201 (rf_p F Y j)) _ (rf_mIa _ hX hY hI (by omega) (by omega)) (by omega) (by first | exact Or.inr (Or.inl ⟨_, _, rfl⟩) | exact Or.inr (Or.inr (Or.inl ⟨_, _, rfl⟩)) | exact Or.inr (Or.inr (Or.inr ⟨_, _, rfl⟩)))
                  | exact rf_mgL B d c s X Y nx ny hX2 hY2 hX hY m (i) (j + 1) (F) _ (rf_mIn hI (by omega)) (by omega) (by first | exact Or.inr (Or.inl ⟨_, _, rfl⟩) | exact Or.inr (Or.inr (Or.inl ⟨_, _, rfl⟩)) | exact Or.inr (Or.inr (Or.inr ⟨_, _, rfl⟩)))
              · have e3 : rf_b F Y (rf_p F X i / 1200) = 0 := nf1_ne (Nat.lt_trans (rf_blt _ _ _) (by omega)) h160
                rw [if_pos e3]
                refine xg_stp rfl rfl rfl rfl ?_
                refine xg_stp (st' := .int (Int32.ofNat 3201) :: _) rfl rfl rfl rfl ?_
                refine xg_stp rfl rfl rfl rfl ?_
                refine rf_call B rfl rfl rfl rfl rfl rfl (rf_add B d F 0 0 3201 (rf_p F X i) (by omega)) ?_
                refine xn_inc (e := 1) rfl rfl rfl rfl ?_
                refine xg_stp rfl rfl rfl rfl ?_
                refine xg_stp rfl rfl rfl rfl ?_
                first
                  | exact rf_mgL B d c s X Y nx ny hX2 hY2 hX hY m (i + 1) (j + 1) (rf_ad F 3201 (rf_p F X i)) _ (rf_mIa _ hX hY hI (by omega) (by omega)) (by omega) (by first | exact Or.inr (Or.inl ⟨_, _, rfl⟩) | exact Or.inr (Or.inr (Or.inl ⟨_, _, rfl⟩)) | exact Or.inr (Or.inr (Or.inr ⟨_, _, rfl⟩)))
                  | exact rf_mgL B d c s X Y nx ny hX2 hY2 hX hY m (i + 1) (j) (rf_ad F 3201 (rf_p F X i)) _ (rf_mIa _ hX hY hI (by omega) (by omega)) (by omega) (by first | exact Or.inr (Or.inl ⟨_, _, rfl⟩) | exact Or.inr (Or.inr (Or.inl ⟨_, _, rfl⟩)) | exact Or.inr (Or.inr (Or.inr ⟨_, _, rfl⟩)))
                  | exact rf_mgL B d c s X Y nx ny hX2 hY2 hX hY m (i + 1) (j) (F) _ (rf_mIn hI (by omega)) (by omega) (by first | exact Or.inr (Or.inl ⟨_, _, rfl⟩) | exact Or.inr (Or.inr (Or.inl ⟨_, _, rfl⟩)) | exact Or.inr (Or.inr (Or.inr ⟨_, _, rfl⟩)))
                  | exact rf_mgL B d c s X Y nx ny hX2 hY2 hX hY m (i) (j + 1) (rf_ad F 3201 (rf_p F Y j)) _ (rf_mIa _ hX hY hI (by omega) (by omega)) (by omega) (by first | exact Or.inr (Or.inl ⟨_, _, rfl⟩) | exact Or.inr (Or.inr (Or.inl ⟨_, _, rfl⟩)) | exact Or.inr (Or.inr (Or.inr ⟨_, _, rfl⟩)))
                  | exact rf_mgL B d c s X Y nx ny hX2 hY2 hX hY m (i) (j + 1) (F) _ (rf_mIn hI (by omega)) (by omega) (by first | exact Or.inr (Or.inl ⟨_, _, rfl⟩) | exact Or.inr (Or.inr (Or.inl ⟨_, _, rfl⟩)) | exact Or.inr (Or.inr (Or.inr ⟨_, _, rfl⟩)))
          · have e1 : rf_p F X i = rf_p F Y j := nf_ne (by omega) (by omega) h122
            rw [if_pos e1]
            refine xg_stp rfl rfl rfl rfl ?_
            refine xg_stp (st' := .int (Int32.ofNat 3201) :: _) rfl rfl rfl rfl ?_
            refine xg_stp rfl rfl rfl rfl ?_
            refine rf_call B rfl rfl rfl rfl rfl rfl (rf_add B d F 0 0 3201 (rf_p F X i) (by omega)) ?_
            refine xn_inc (e := 1) rfl rfl rfl rfl ?_
            refine xn_inc (e := 1) rfl rfl rfl rfl ?_
            refine xg_stp rfl rfl rfl rfl ?_
            refine xg_stp rfl rfl rfl rfl ?_
            first
              | exact rf_mgL B d c s X Y nx ny hX2 hY2 hX hY m (i + 1) (j + 1) (rf_ad F 3201 (rf_p F X i)) _ (rf_mIa _ hX hY hI (by omega) (by omega)) (by omega) (by first | exact Or.inr (Or.inl ⟨_, _, rfl⟩) | exact Or.inr (Or.inr (Or.inl ⟨_, _, rfl⟩)) | exact Or.inr (Or.inr (Or.inr ⟨_, _, rfl⟩)))
              | exact rf_mgL B d c s X Y nx ny hX2 hY2 hX hY m (i + 1) (j) (rf_ad F 3201 (rf_p F X i)) _ (rf_mIa _ hX hY hI (by omega) (by omega)) (by omega) (by first | exact Or.inr (Or.inl ⟨_, _, rfl⟩) | exact Or.inr (Or.inr (Or.inl ⟨_, _, rfl⟩)) | exact Or.inr (Or.inr (Or.inr ⟨_, _, rfl⟩)))
              | exact rf_mgL B d c s X Y nx ny hX2 hY2 hX hY m (i + 1) (j) (F) _ (rf_mIn hI (by omega)) (by omega) (by first | exact Or.inr (Or.inl ⟨_, _, rfl⟩) | exact Or.inr (Or.inr (Or.inl ⟨_, _, rfl⟩)) | exact Or.inr (Or.inr (Or.inr ⟨_, _, rfl⟩)))
              | exact rf_mgL B d c s X Y nx ny hX2 hY2 hX hY m (i) (j + 1) (rf_ad F 3201 (rf_p F Y j)) _ (rf_mIa _ hX hY hI (by omega) (by omega)) (by omega) (by first | exact Or.inr (Or.inl ⟨_, _, rfl⟩) | exact Or.inr (Or.inr (Or.inl ⟨_, _, rfl⟩)) | exact Or.inr (Or.inr (Or.inr ⟨_, _, rfl⟩)))
              | exact rf_mgL B d c s X Y nx ny hX2 hY2 hX hY m (i) (j + 1) (F) _ (rf_mIn hI (by omega)) (by omega) (by first | exact Or.inr (Or.inl ⟨_, _, rfl⟩) | exact Or.inr (Or.inr (Or.inl ⟨_, _, rfl⟩)) | exact Or.inr (Or.inr (Or.inr ⟨_, _, rfl⟩)))
    · refine xg_stp rfl rfl rfl rfl ?_
      refine xg_stp rfl rfl rfl rfl ?_
      refine xg_stp rfl rfl rfl rfl ?_
      refine rf_call B rfl rfl rfl rfl rfl rfl (rf_many B (d + 1) F 0 0 X (by omega)) ?_
      refine xg_j2 rfl rfl rfl rfl rfl (fun h59 => ?_) (fun h59 => ?_)
      · have e5 := nt_lt (by omega) (by omega) h59
        rw [if_pos (Or.inl e5)]
        refine rf_mgP B (d + 1) c s F X i hX2 (by omega) (by omega) _ _ rfl rfl rfl ?_
        refine rf_mgQ B (d + 1) c s F Y j hY2 (by omega) (by omega) _ _ rfl rfl rfl ?_
        refine xg_stp rfl rfl rfl rfl ?_
        refine xg_stp rfl rfl rfl rfl ?_
        refine xg_j2 rfl rfl rfl rfl rfl (fun h122 => ?_) (fun h122 => ?_)
        · have e1 := nt_ne h122
          rw [if_neg e1]
          refine xg_stp rfl rfl rfl rfl ?_
          refine xg_stp rfl rfl rfl rfl ?_
          refine xg_j2 rfl rfl rfl rfl rfl (fun h147 => ?_) (fun h147 => ?_)
          · have e2 : rf_p F Y j ≤ rf_p F X i := nt_ge (by omega) (by omega) h147
            rw [if_neg (Nat.not_lt.mpr e2)]
            refine xg_stp rfl rfl rfl rfl ?_
            refine xg_stp rfl rfl rfl rfl ?_
            refine xg_stp rfl rfl rfl rfl ?_
            refine xg_call rfl rfl rfl (rf_dotOf B (d + 1) F 0 0 (rf_p F Y j) (by omega)) ?_
            refine rf_call B rfl rfl rfl rfl rfl rfl (rf_isKnown B d F 0 0 X (rf_p F Y j / 1200) (by omega) (by omega) (a6 _ (by omega))) ?_
            refine xg_j1 rfl rfl rfl rfl rfl (fun h188 => ?_) (fun h188 => ?_)
            · have e3 : rf_b F X (rf_p F Y j / 1200) ≠ 0 := nt1_ne h188
              rw [if_neg e3]
              refine xn_inc (e := 1) rfl rfl rfl rfl ?_
              refine xg_stp rfl rfl rfl rfl ?_
              first
                | exact rf_mgL B d c s X Y nx ny hX2 hY2 hX hY m (i + 1) (j + 1) (rf_ad F 3201 (rf_p F X i)) _ (rf_mIa _ hX hY hI (by omega) (by omega)) (by omega) (by first | exact Or.inr (Or.inl ⟨_, _, rfl⟩) | exact Or.inr (Or.inr (Or.inl ⟨_, _, rfl⟩)) | exact Or.inr (Or.inr (Or.inr ⟨_, _, rfl⟩)))
                | exact rf_mgL B d c s X Y nx ny hX2 hY2 hX hY m (i + 1) (j) (rf_ad F 3201 (rf_p F X i)) _ (rf_mIa _ hX hY hI (by omega) (by omega)) (by omega) (by first | exact Or.inr (Or.inl ⟨_, _, rfl⟩) | exact Or.inr (Or.inr (Or.inl ⟨_, _, rfl⟩)) | exact Or.inr (Or.inr (Or.inr ⟨_, _, rfl⟩)))
                | exact rf_mgL B d c s X Y nx ny hX2 hY2 hX hY m (i + 1) (j) (F) _ (rf_mIn hI (by omega)) (by omega) (by first | exact Or.inr (Or.inl ⟨_, _, rfl⟩) | exact Or.inr (Or.inr (Or.inl ⟨_, _, rfl⟩)) | exact Or.inr (Or.inr (Or.inr ⟨_, _, rfl⟩)))
                | exact rf_mgL B d c s X Y nx ny hX2 hY2 hX hY m (i) (j + 1) (rf_ad F 3201 (rf_p F Y j)) _ (rf_mIa _ hX hY hI (by omega) (by omega)) (by omega) (by first | exact Or.inr (Or.inl ⟨_, _, rfl⟩) | exact Or.inr (Or.inr (Or.inl ⟨_, _, rfl⟩)) | exact Or.inr (Or.inr (Or.inr ⟨_, _, rfl⟩)))
                | exact rf_mgL B d c s X Y nx ny hX2 hY2 hX hY m (i) (j + 1) (F) _ (rf_mIn hI (by omega)) (by omega) (by first | exact Or.inr (Or.inl ⟨_, _, rfl⟩) | exact Or.inr (Or.inr (Or.inl ⟨_, _, rfl⟩)) | exact Or.inr (Or.inr (Or.inr ⟨_, _, rfl⟩)))
            · have e3 : rf_b F X (rf_p F Y j / 1200) = 0 := nf1_ne (Nat.lt_trans (rf_blt _ _ _) (by omega)) h188
              rw [if_pos e3]
              refine xg_stp rfl rfl rfl rfl ?_
              refine xg_stp (st' := .int (Int32.ofNat 3201) :: _) rfl rfl rfl rfl ?_
              refine xg_stp rfl rfl rfl rfl ?_
              refine rf_call B rfl rfl rfl rfl rfl rfl (rf_add B d F 0 0 3201 (rf_p F Y j) (by omega)) ?_
              refine xn_inc (e := 1) rfl rfl rfl rfl ?_
              refine xg_stp rfl rfl rfl rfl ?_
              first
                | exact rf_mgL B d c s X Y nx ny hX2 hY2 hX hY m (i + 1) (j + 1) (rf_ad F 3201 (rf_p F X i)) _ (rf_mIa _ hX hY hI (by omega) (by omega)) (by omega) (by first | exact Or.inr (Or.inl ⟨_, _, rfl⟩) | exact Or.inr (Or.inr (Or.inl ⟨_, _, rfl⟩)) | exact Or.inr (Or.inr (Or.inr ⟨_, _, rfl⟩)))
                | exact rf_mgL B d c s X Y nx ny hX2 hY2 hX hY m (i + 1) (j) (rf_ad F 3201 (rf_p F X i)) _ (rf_mIa _ hX hY hI (by omega) (by omega)) (by omega) (by first | exact Or.inr (Or.inl ⟨_, _, rfl⟩) | exact Or.inr (Or.inr (Or.inl ⟨_, _, rfl⟩)) | exact Or.inr (Or.inr (Or.inr ⟨_, _, rfl⟩)))
                | exact rf_mgL B d c s X Y nx ny hX2 hY2 hX hY m (i + 1) (j) (F) _ (rf_mIn hI (by omega)) (by omega) (by first | exact Or.inr (Or.inl ⟨_, _, rfl⟩) | exact Or.inr (Or.inr (Or.inl ⟨_, _, rfl⟩)) | exact Or.inr (Or.inr (Or.inr ⟨_, _, rfl⟩)))
                | exact rf_mgL B d c s X Y nx ny hX2 hY2 hX hY m (i) (j + 1) (rf_ad F 3201 (rf_p F Y j)) _ (rf_mIa _ hX hY hI (by omega) (by omega)) (by omega) (by first | exact Or.inr (Or.inl ⟨_, _, rfl⟩) | exact Or.inr (Or.inr (Or.inl ⟨_, _, rfl⟩)) | exact Or.inr (Or.inr (Or.inr ⟨_, _, rfl⟩)))
                | exact rf_mgL B d c s X Y nx ny hX2 hY2 hX hY m (i) (j + 1) (F) _ (rf_mIn hI (by omega)) (by omega) (by first | exact Or.inr (Or.inl ⟨_, _, rfl⟩) | exact Or.inr (Or.inr (Or.inl ⟨_, _, rfl⟩)) | exact Or.inr (Or.inr (Or.inr ⟨_, _, rfl⟩)))
          · have e2 : rf_p F X i < rf_p F Y j := nf_ge (by omega) (by omega) h147
            rw [if_pos e2]
            refine xg_stp rfl rfl rfl rfl ?_
            refine xg_stp rfl rfl rfl rfl ?_
            refine xg_stp rfl rfl rfl rfl ?_
            refine xg_call rfl rfl rfl (rf_dotOf B (d + 1) F 0 0 (rf_p F X i) (by omega)) ?_
            refine rf_call B rfl rfl rfl rfl rfl rfl (rf_isKnown B d F 0 0 Y (rf_p F X i / 1200) (by omega) (by omega) (a7 _ (by omega))) ?_
            refine xg_j1 rfl rfl rfl rfl rfl (fun h160 => ?_) (fun h160 => ?_)
            · have e3 : rf_b F Y (rf_p F X i / 1200) ≠ 0 := nt1_ne h160
              rw [if_neg e3]
              refine xn_inc (e := 1) rfl rfl rfl rfl ?_
              refine xg_stp rfl rfl rfl rfl ?_
              refine xg_stp rfl rfl rfl rfl ?_
              first
                | exact rf_mgL B d c s X Y nx ny hX2 hY2 hX hY m (i + 1) (j + 1) (rf_ad F 3201 (rf_p F X i)) _ (rf_mIa _ hX hY hI (by omega) (by omega)) (by omega) (by first | exact Or.inr (Or.inl ⟨_, _, rfl⟩) | exact Or.inr (Or.inr (Or.inl ⟨_, _, rfl⟩)) | exact Or.inr (Or.inr (Or.inr ⟨_, _, rfl⟩)))
                | exact rf_mgL B d c s X Y nx ny hX2 hY2 hX hY m (i + 1) (j) (rf_ad F 3201 (rf_p F X i)) _ (rf_mIa _ hX hY hI (by omega) (by omega)) (by omega) (by first | exact Or.inr (Or.inl ⟨_, _, rfl⟩) | exact Or.inr (Or.inr (Or.inl ⟨_, _, rfl⟩)) | exact Or.inr (Or.inr (Or.inr ⟨_, _, rfl⟩)))
                | exact rf_mgL B d c s X Y nx ny hX2 hY2 hX hY m (i + 1) (j) (F) _ (rf_mIn hI (by omega)) (by omega) (by first | exact Or.inr (Or.inl ⟨_, _, rfl⟩) | exact Or.inr (Or.inr (Or.inl ⟨_, _, rfl⟩)) | exact Or.inr (Or.inr (Or.inr ⟨_, _, rfl⟩)))
                | exact rf_mgL B d c s X Y nx ny hX2 hY2 hX hY m (i) (j + 1) (rf_ad F 3201 (rf_p F Y j)) _ (rf_mIa _ hX hY hI (by omega) (by omega)) (by omega) (by first | exact Or.inr (Or.inl ⟨_, _, rfl⟩) | exact Or.inr (Or.inr (Or.inl ⟨_, _, rfl⟩)) | exact Or.inr (Or.inr (Or.inr ⟨_, _, rfl⟩)))
                | exact rf_mgL B d c s X Y nx ny hX2 hY2 hX hY m (i) (j + 1) (F) _ (rf_mIn hI (by omega)) (by omega) (by first | exact Or.inr (Or.inl ⟨_, _, rfl⟩) | exact Or.inr (Or.inr (Or.inl ⟨_, _, rfl⟩)) | exact Or.inr (Or.inr (Or.inr ⟨_, _, rfl⟩)))
            · have e3 : rf_b F Y (rf_p F X i / 1200) = 0 := nf1_ne (Nat.lt_trans (rf_blt _ _ _) (by omega)) h160
              rw [if_pos e3]
              refine xg_stp rfl rfl rfl rfl ?_
              refine xg_stp (st' := .int (Int32.ofNat 3201) :: _) rfl rfl rfl rfl ?_
              refine xg_stp rfl rfl rfl rfl ?_
              refine rf_call B rfl rfl rfl rfl rfl rfl (rf_add B d F 0 0 3201 (rf_p F X i) (by omega)) ?_
              refine xn_inc (e := 1) rfl rfl rfl rfl ?_
              refine xg_stp rfl rfl rfl rfl ?_
              refine xg_stp rfl rfl rfl rfl ?_
              first
                | exact rf_mgL B d c s X Y nx ny hX2 hY2 hX hY m (i + 1) (j + 1) (rf_ad F 3201 (rf_p F X i)) _ (rf_mIa _ hX hY hI (by omega) (by omega)) (by omega) (by first | exact Or.inr (Or.inl ⟨_, _, rfl⟩) | exact Or.inr (Or.inr (Or.inl ⟨_, _, rfl⟩)) | exact Or.inr (Or.inr (Or.inr ⟨_, _, rfl⟩)))
                | exact rf_mgL B d c s X Y nx ny hX2 hY2 hX hY m (i + 1) (j) (rf_ad F 3201 (rf_p F X i)) _ (rf_mIa _ hX hY hI (by omega) (by omega)) (by omega) (by first | exact Or.inr (Or.inl ⟨_, _, rfl⟩) | exact Or.inr (Or.inr (Or.inl ⟨_, _, rfl⟩)) | exact Or.inr (Or.inr (Or.inr ⟨_, _, rfl⟩)))
                | exact rf_mgL B d c s X Y nx ny hX2 hY2 hX hY m (i + 1) (j) (F) _ (rf_mIn hI (by omega)) (by omega) (by first | exact Or.inr (Or.inl ⟨_, _, rfl⟩) | exact Or.inr (Or.inr (Or.inl ⟨_, _, rfl⟩)) | exact Or.inr (Or.inr (Or.inr ⟨_, _, rfl⟩)))
                | exact rf_mgL B d c s X Y nx ny hX2 hY2 hX hY m (i) (j + 1) (rf_ad F 3201 (rf_p F Y j)) _ (rf_mIa _ hX hY hI (by omega) (by omega)) (by omega) (by first | exact Or.inr (Or.inl ⟨_, _, rfl⟩) | exact Or.inr (Or.inr (Or.inl ⟨_, _, rfl⟩)) | exact Or.inr (Or.inr (Or.inr ⟨_, _, rfl⟩)))
                | exact rf_mgL B d c s X Y nx ny hX2 hY2 hX hY m (i) (j + 1) (F) _ (rf_mIn hI (by omega)) (by omega) (by first | exact Or.inr (Or.inl ⟨_, _, rfl⟩) | exact Or.inr (Or.inr (Or.inl ⟨_, _, rfl⟩)) | exact Or.inr (Or.inr (Or.inr ⟨_, _, rfl⟩)))
        · have e1 : rf_p F X i = rf_p F Y j := nf_ne (by omega) (by omega) h122
          rw [if_pos e1]
          refine xg_stp rfl rfl rfl rfl ?_
          refine xg_stp (st' := .int (Int32.ofNat 3201) :: _) rfl rfl rfl rfl ?_
          refine xg_stp rfl rfl rfl rfl ?_
          refine rf_call B rfl rfl rfl rfl rfl rfl (rf_add B d F 0 0 3201 (rf_p F X i) (by omega)) ?_
          refine xn_inc (e := 1) rfl rfl rfl rfl ?_
          refine xn_inc (e := 1) rfl rfl rfl rfl ?_
          refine xg_stp rfl rfl rfl rfl ?_
          refine xg_stp rfl rfl rfl rfl ?_
          first
            | exact rf_mgL B d c s X Y nx ny hX2 hY2 hX hY m (i + 1) (j + 1) (rf_ad F 3201 (rf_p F X i)) _ (rf_mIa _ hX hY hI (by omega) (by omega)) (by omega) (by first | exact Or.inr (Or.inl ⟨_, _, rfl⟩) | exact Or.inr (Or.inr (Or.inl ⟨_, _, rfl⟩)) | exact Or.inr (Or.inr (Or.inr ⟨_, _, rfl⟩)))
            | exact rf_mgL B d c s X Y nx ny hX2 hY2 hX hY m (i + 1) (j) (rf_ad F 3201 (rf_p F X i)) _ (rf_mIa _ hX hY hI (by omega) (by omega)) (by omega) (by first | exact Or.inr (Or.inl ⟨_, _, rfl⟩) | exact Or.inr (Or.inr (Or.inl ⟨_, _, rfl⟩)) | exact Or.inr (Or.inr (Or.inr ⟨_, _, rfl⟩)))
            | exact rf_mgL B d c s X Y nx ny hX2 hY2 hX hY m (i + 1) (j) (F) _ (rf_mIn hI (by omega)) (by omega) (by first | exact Or.inr (Or.inl ⟨_, _, rfl⟩) | exact Or.inr (Or.inr (Or.inl ⟨_, _, rfl⟩)) | exact Or.inr (Or.inr (Or.inr ⟨_, _, rfl⟩)))
            | exact rf_mgL B d c s X Y nx ny hX2 hY2 hX hY m (i) (j + 1) (rf_ad F 3201 (rf_p F Y j)) _ (rf_mIa _ hX hY hI (by omega) (by omega)) (by omega) (by first | exact Or.inr (Or.inl ⟨_, _, rfl⟩) | exact Or.inr (Or.inr (Or.inl ⟨_, _, rfl⟩)) | exact Or.inr (Or.inr (Or.inr ⟨_, _, rfl⟩)))
            | exact rf_mgL B d c s X Y nx ny hX2 hY2 hX hY m (i) (j + 1) (F) _ (rf_mIn hI (by omega)) (by omega) (by first | exact Or.inr (Or.inl ⟨_, _, rfl⟩) | exact Or.inr (Or.inr (Or.inl ⟨_, _, rfl⟩)) | exact Or.inr (Or.inr (Or.inr ⟨_, _, rfl⟩)))
      · have e5 := nf_lt (by omega) (by omega) h59
        refine xg_stp rfl rfl rfl rfl ?_
        refine xg_stp rfl rfl rfl rfl ?_
        refine xg_stp rfl rfl rfl rfl ?_
        refine rf_call B rfl rfl rfl rfl rfl rfl (rf_many B (d + 1) F 0 0 Y (by omega)) ?_
        refine xg_j2 rfl rfl rfl rfl rfl (fun h69 => ?_) (fun h69 => ?_)
        · have e6 := nt_ge (by omega) (by omega) h69
          rw [if_neg (by omega)]
          exact xg_ret rfl rfl
        · have e6 := nf_ge (by omega) (by omega) h69
          rw [if_pos (Or.inr e6)]
          refine rf_mgP B (d + 1) c s F X i hX2 (by omega) (by omega) _ _ rfl rfl rfl ?_
          refine rf_mgQ B (d + 1) c s F Y j hY2 (by omega) (by omega) _ _ rfl rfl rfl ?_
          refine xg_stp rfl rfl rfl rfl ?_
          refine xg_stp rfl rfl rfl rfl ?_
          refine xg_j2 rfl rfl rfl rfl rfl (fun h122 => ?_) (fun h122 => ?_)
          · have e1 := nt_ne h122
            rw [if_neg e1]
            refine xg_stp rfl rfl rfl rfl ?_
            refine xg_stp rfl rfl rfl rfl ?_
            refine xg_j2 rfl rfl rfl rfl rfl (fun h147 => ?_) (fun h147 => ?_)
            · have e2 : rf_p F Y j ≤ rf_p F X i := nt_ge (by omega) (by omega) h147
              rw [if_neg (Nat.not_lt.mpr e2)]
              refine xg_stp rfl rfl rfl rfl ?_
              refine xg_stp rfl rfl rfl rfl ?_
              refine xg_stp rfl rfl rfl rfl ?_
              refine xg_call rfl rfl rfl (rf_dotOf B (d + 1) F 0 0 (rf_p F Y j) (by omega)) ?_
              refine rf_call B rfl rfl rfl rfl rfl rfl (rf_isKnown B d F 0 0 X (rf_p F Y j / 1200) (by omega) (by omega) (a6 _ (by omega))) ?_
              refine xg_j1 rfl rfl rfl rfl rfl (fun h188 => ?_) (fun h188 => ?_)
              · have e3 : rf_b F X (rf_p F Y j / 1200) ≠ 0 := nt1_ne h188
                rw [if_neg e3]
                refine xn_inc (e := 1) rfl rfl rfl rfl ?_
                refine xg_stp rfl rfl rfl rfl ?_
                first
                  | exact rf_mgL B d c s X Y nx ny hX2 hY2 hX hY m (i + 1) (j + 1) (rf_ad F 3201 (rf_p F X i)) _ (rf_mIa _ hX hY hI (by omega) (by omega)) (by omega) (by first | exact Or.inr (Or.inl ⟨_, _, rfl⟩) | exact Or.inr (Or.inr (Or.inl ⟨_, _, rfl⟩)) | exact Or.inr (Or.inr (Or.inr ⟨_, _, rfl⟩)))
                  | exact rf_mgL B d c s X Y nx ny hX2 hY2 hX hY m (i + 1) (j) (rf_ad F 3201 (rf_p F X i)) _ (rf_mIa _ hX hY hI (by omega) (by omega)) (by omega) (by first | exact Or.inr (Or.inl ⟨_, _, rfl⟩) | exact Or.inr (Or.inr (Or.inl ⟨_, _, rfl⟩)) | exact Or.inr (Or.inr (Or.inr ⟨_, _, rfl⟩)))
                  | exact rf_mgL B d c s X Y nx ny hX2 hY2 hX hY m (i + 1) (j) (F) _ (rf_mIn hI (by omega)) (by omega) (by first | exact Or.inr (Or.inl ⟨_, _, rfl⟩) | exact Or.inr (Or.inr (Or.inl ⟨_, _, rfl⟩)) | exact Or.inr (Or.inr (Or.inr ⟨_, _, rfl⟩)))
                  | exact rf_mgL B d c s X Y nx ny hX2 hY2 hX hY m (i) (j + 1) (rf_ad F 3201 (rf_p F Y j)) _ (rf_mIa _ hX hY hI (by omega) (by omega)) (by omega) (by first | exact Or.inr (Or.inl ⟨_, _, rfl⟩) | exact Or.inr (Or.inr (Or.inl ⟨_, _, rfl⟩)) | exact Or.inr (Or.inr (Or.inr ⟨_, _, rfl⟩)))
                  | exact rf_mgL B d c s X Y nx ny hX2 hY2 hX hY m (i) (j + 1) (F) _ (rf_mIn hI (by omega)) (by omega) (by first | exact Or.inr (Or.inl ⟨_, _, rfl⟩) | exact Or.inr (Or.inr (Or.inl ⟨_, _, rfl⟩)) | exact Or.inr (Or.inr (Or.inr ⟨_, _, rfl⟩)))
              · have e3 : rf_b F X (rf_p F Y j / 1200) = 0 := nf1_ne (Nat.lt_trans (rf_blt _ _ _) (by omega)) h188
                rw [if_pos e3]
                refine xg_stp rfl rfl rfl rfl ?_
                refine xg_stp (st' := .int (Int32.ofNat 3201) :: _) rfl rfl rfl rfl ?_
                refine xg_stp rfl rfl rfl rfl ?_
                refine rf_call B rfl rfl rfl rfl rfl rfl (rf_add B d F 0 0 3201 (rf_p F Y j) (by omega)) ?_
                refine xn_inc (e := 1) rfl rfl rfl rfl ?_
                refine xg_stp rfl rfl rfl rfl ?_
                first
                  | exact rf_mgL B d c s X Y nx ny hX2 hY2 hX hY m (i + 1) (j + 1) (rf_ad F 3201 (rf_p F X i)) _ (rf_mIa _ hX hY hI (by omega) (by omega)) (by omega) (by first | exact Or.inr (Or.inl ⟨_, _, rfl⟩) | exact Or.inr (Or.inr (Or.inl ⟨_, _, rfl⟩)) | exact Or.inr (Or.inr (Or.inr ⟨_, _, rfl⟩)))
                  | exact rf_mgL B d c s X Y nx ny hX2 hY2 hX hY m (i + 1) (j) (rf_ad F 3201 (rf_p F X i)) _ (rf_mIa _ hX hY hI (by omega) (by omega)) (by omega) (by first | exact Or.inr (Or.inl ⟨_, _, rfl⟩) | exact Or.inr (Or.inr (Or.inl ⟨_, _, rfl⟩)) | exact Or.inr (Or.inr (Or.inr ⟨_, _, rfl⟩)))
                  | exact rf_mgL B d c s X Y nx ny hX2 hY2 hX hY m (i + 1) (j) (F) _ (rf_mIn hI (by omega)) (by omega) (by first | exact Or.inr (Or.inl ⟨_, _, rfl⟩) | exact Or.inr (Or.inr (Or.inl ⟨_, _, rfl⟩)) | exact Or.inr (Or.inr (Or.inr ⟨_, _, rfl⟩)))
                  | exact rf_mgL B d c s X Y nx ny hX2 hY2 hX hY m (i) (j + 1) (rf_ad F 3201 (rf_p F Y j)) _ (rf_mIa _ hX hY hI (by omega) (by omega)) (by omega) (by first | exact Or.inr (Or.inl ⟨_, _, rfl⟩) | exact Or.inr (Or.inr (Or.inl ⟨_, _, rfl⟩)) | exact Or.inr (Or.inr (Or.inr ⟨_, _, rfl⟩)))
                  | exact rf_mgL B d c s X Y nx ny hX2 hY2 hX hY m (i) (j + 1) (F) _ (rf_mIn hI (by omega)) (by omega) (by first | exact Or.inr (Or.inl ⟨_, _, rfl⟩) | exact Or.inr (Or.inr (Or.inl ⟨_, _, rfl⟩)) | exact Or.inr (Or.inr (Or.inr ⟨_, _, rfl⟩)))
            · have e2 : rf_p F X i < rf_p F Y j := nf_ge (by omega) (by omega) h147
              rw [if_pos e2]
              refine xg_stp rfl rfl rfl rfl ?_
              refine xg_stp rfl rfl rfl rfl ?_
              refine xg_stp rfl rfl rfl rfl ?_
              refine xg_call rfl rfl rfl (rf_dotOf B (d + 1) F 0 0 (rf_p F X i) (by omega)) ?_
              refine rf_call B rfl rfl rfl rfl rfl rfl (rf_isKnown B d F 0 0 Y (rf_p F X i / 1200) (by omega) (by omega) (a7 _ (by omega))) ?_
              refine xg_j1 rfl rfl rfl rfl rfl (fun h160 => ?_) (fun h160 => ?_)
              · have e3 : rf_b F Y (rf_p F X i / 1200) ≠ 0 := nt1_ne h160
                rw [if_neg e3]
                refine xn_inc (e := 1) rfl rfl rfl rfl ?_
                refine xg_stp rfl rfl rfl rfl ?_
                refine xg_stp rfl rfl rfl rfl ?_
                first
                  | exact rf_mgL B d c s X Y nx ny hX2 hY2 hX hY m (i + 1) (j + 1) (rf_ad F 3201 (rf_p F X i)) _ (rf_mIa _ hX hY hI (by omega) (by omega)) (by omega) (by first | exact Or.inr (Or.inl ⟨_, _, rfl⟩) | exact Or.inr (Or.inr (Or.inl ⟨_, _, rfl⟩)) | exact Or.inr (Or.inr (Or.inr ⟨_, _, rfl⟩)))
                  | exact rf_mgL B d c s X Y nx ny hX2 hY2 hX hY m (i + 1) (j) (rf_ad F 3201 (rf_p F X i)) _ (rf_mIa _ hX hY hI (by omega) (by omega)) (by omega) (by first | exact Or.inr (Or.inl ⟨_, _, rfl⟩) | exact Or.inr (Or.inr (Or.inl ⟨_, _, rfl⟩)) | exact Or.inr (Or.inr (Or.inr ⟨_, _, rfl⟩)))
                  | exact rf_mgL B d c s X Y nx ny hX2 hY2 hX hY m (i + 1) (j) (F) _ (rf_mIn hI (by omega)) (by omega) (by first | exact Or.inr (Or.inl ⟨_, _, rfl⟩) | exact Or.inr (Or.inr (Or.inl ⟨_, _, rfl⟩)) | exact Or.inr (Or.inr (Or.inr ⟨_, _, rfl⟩)))
                  | exact rf_mgL B d c s X Y nx ny hX2 hY2 hX hY m (i) (j + 1) (rf_ad F 3201 (rf_p F Y j)) _ (rf_mIa _ hX hY hI (by omega) (by omega)) (by omega) (by first | exact Or.inr (Or.inl ⟨_, _, rfl⟩) | exact Or.inr (Or.inr (Or.inl ⟨_, _, rfl⟩)) | exact Or.inr (Or.inr (Or.inr ⟨_, _, rfl⟩)))
                  | exact rf_mgL B d c s X Y nx ny hX2 hY2 hX hY m (i) (j + 1) (F) _ (rf_mIn hI (by omega)) (by omega) (by first | exact Or.inr (Or.inl ⟨_, _, rfl⟩) | exact Or.inr (Or.inr (Or.inl ⟨_, _, rfl⟩)) | exact Or.inr (Or.inr (Or.inr ⟨_, _, rfl⟩)))
              · have e3 : rf_b F Y (rf_p F X i / 1200) = 0 := nf1_ne (Nat.lt_trans (rf_blt _ _ _) (by omega)) h160
                rw [if_pos e3]
                refine xg_stp rfl rfl rfl rfl ?_
                refine xg_stp (st' := .int (Int32.ofNat 3201) :: _) rfl rfl rfl rfl ?_
                refine xg_stp rfl rfl rfl rfl ?_
                refine rf_call B rfl rfl rfl rfl rfl rfl (rf_add B d F 0 0 3201 (rf_p F X i) (by omega)) ?_
                refine xn_inc (e := 1) rfl rfl rfl rfl ?_
                refine xg_stp rfl rfl rfl rfl ?_
                refine xg_stp rfl rfl rfl rfl ?_
                first
                  | exact rf_mgL B d c s X Y nx ny hX2 hY2 hX hY m (i + 1) (j + 1) (rf_ad F 3201 (rf_p F X i)) _ (rf_mIa _ hX hY hI (by omega) (by omega)) (by omega) (by first | exact Or.inr (Or.inl ⟨_, _, rfl⟩) | exact Or.inr (Or.inr (Or.inl ⟨_, _, rfl⟩)) | exact Or.inr (Or.inr (Or.inr ⟨_, _, rfl⟩)))
                  | exact rf_mgL B d c s X Y nx ny hX2 hY2 hX hY m (i + 1) (j) (rf_ad F 3201 (rf_p F X i)) _ (rf_mIa _ hX hY hI (by omega) (by omega)) (by omega) (by first | exact Or.inr (Or.inl ⟨_, _, rfl⟩) | exact Or.inr (Or.inr (Or.inl ⟨_, _, rfl⟩)) | exact Or.inr (Or.inr (Or.inr ⟨_, _, rfl⟩)))
                  | exact rf_mgL B d c s X Y nx ny hX2 hY2 hX hY m (i + 1) (j) (F) _ (rf_mIn hI (by omega)) (by omega) (by first | exact Or.inr (Or.inl ⟨_, _, rfl⟩) | exact Or.inr (Or.inr (Or.inl ⟨_, _, rfl⟩)) | exact Or.inr (Or.inr (Or.inr ⟨_, _, rfl⟩)))
                  | exact rf_mgL B d c s X Y nx ny hX2 hY2 hX hY m (i) (j + 1) (rf_ad F 3201 (rf_p F Y j)) _ (rf_mIa _ hX hY hI (by omega) (by omega)) (by omega) (by first | exact Or.inr (Or.inl ⟨_, _, rfl⟩) | exact Or.inr (Or.inr (Or.inl ⟨_, _, rfl⟩)) | exact Or.inr (Or.inr (Or.inr ⟨_, _, rfl⟩)))
                  | exact rf_mgL B d c s X Y nx ny hX2 hY2 hX hY m (i) (j + 1) (F) _ (rf_mIn hI (by omega)) (by omega) (by first | exact Or.inr (Or.inl ⟨_, _, rfl⟩) | exact Or.inr (Or.inr (Or.inl ⟨_, _, rfl⟩)) | exact Or.inr (Or.inr (Or.inr ⟨_, _, rfl⟩)))
          · have e1 : rf_p F X i = rf_p F Y j := nf_ne (by omega) (by omega) h122
            rw [if_pos e1]
            refine xg_stp rfl rfl rfl rfl ?_
            refine xg_stp (st' := .int (Int32.ofNat 3201) :: _) rfl rfl rfl rfl ?_
            refine xg_stp rfl rfl rfl rfl ?_
            refine rf_call B rfl rfl rfl rfl rfl rfl (rf_add B d F 0 0 3201 (rf_p F X i) (by omega)) ?_
            refine xn_inc (e := 1) rfl rfl rfl rfl ?_
            refine xn_inc (e := 1) rfl rfl rfl rfl ?_
            refine xg_stp rfl rfl rfl rfl ?_
            refine xg_stp rfl rfl rfl rfl ?_
            first
              | exact rf_mgL B d c s X Y nx ny hX2 hY2 hX hY m (i + 1) (j + 1) (rf_ad F 3201 (rf_p F X i)) _ (rf_mIa _ hX hY hI (by omega) (by omega)) (by omega) (by first | exact Or.inr (Or.inl ⟨_, _, rfl⟩) | exact Or.inr (Or.inr (Or.inl ⟨_, _, rfl⟩)) | exact Or.inr (Or.inr (Or.inr ⟨_, _, rfl⟩)))
              | exact rf_mgL B d c s X Y nx ny hX2 hY2 hX hY m (i + 1) (j) (rf_ad F 3201 (rf_p F X i)) _ (rf_mIa _ hX hY hI (by omega) (by omega)) (by omega) (by first | exact Or.inr (Or.inl ⟨_, _, rfl⟩) | exact Or.inr (Or.inr (Or.inl ⟨_, _, rfl⟩)) | exact Or.inr (Or.inr (Or.inr ⟨_, _, rfl⟩)))
              | exact rf_mgL B d c s X Y nx ny hX2 hY2 hX hY m (i + 1) (j) (F) _ (rf_mIn hI (by omega)) (by omega) (by first | exact Or.inr (Or.inl ⟨_, _, rfl⟩) | exact Or.inr (Or.inr (Or.inl ⟨_, _, rfl⟩)) | exact Or.inr (Or.inr (Or.inr ⟨_, _, rfl⟩)))
              | exact rf_mgL B d c s X Y nx ny hX2 hY2 hX hY m (i) (j + 1) (rf_ad F 3201 (rf_p F Y j)) _ (rf_mIa _ hX hY hI (by omega) (by omega)) (by omega) (by first | exact Or.inr (Or.inl ⟨_, _, rfl⟩) | exact Or.inr (Or.inr (Or.inl ⟨_, _, rfl⟩)) | exact Or.inr (Or.inr (Or.inr ⟨_, _, rfl⟩)))
              | exact rf_mgL B d c s X Y nx ny hX2 hY2 hX hY m (i) (j + 1) (F) _ (rf_mIn hI (by omega)) (by omega) (by first | exact Or.inr (Or.inl ⟨_, _, rfl⟩) | exact Or.inr (Or.inr (Or.inl ⟨_, _, rfl⟩)) | exact Or.inr (Or.inr (Or.inr ⟨_, _, rfl⟩)))
theorem rf_oro (X Y : Nat) : ∀ (m k : Nat) (F : Nat → Nat) (j : Nat), k + m = 8 → (j < 3201 ∨ 3209 ≤ j) → rf_or X Y m k F j = F j
  | 0, _, _, _, _, _ => rfl
  | m + 1, k, F, j, hm, hj => by
    unfold rf_or
    rw [rf_oro X Y m (k + 1) _ j (by omega) hj, xn_un _ _ (by omega)]
theorem rf_zo (F : Nat → Nat) (X k : Nat) {j : Nat} (h : j < X ∨ X + 57 ≤ j) : rf_z F X k j = F j := if_neg (by omega)
def rf_mer (F : Nat → Nat) (X Y : Nat) : Nat → Nat := rf_mg X Y 48 0 0 (rf_or X Y 8 0 (rf_z F 3201 0))
theorem rf_mI0 {X Y : Nat} {F : Nat → Nat} (hX : X + 57 ≤ 3201 ∨ 3258 ≤ X) (hY : Y + 57 ≤ 3201 ∨ 3258 ≤ Y) (h : F (X + 8) + F (Y + 8) ≤ 48) (h1 : ∀ t, t < F (X + 8) → F (X + 9 + t) < 307200) (h2 : ∀ t, t < F (Y + 8) → F (Y + 9 + t) < 307200) (h3 : ∀ t, t < 8 → F (X + t) < 2147483648) (h4 : ∀ t, t < 8 → F (Y + t) < 2147483648) : rf_mI X Y (F (X + 8)) (F (Y + 8)) 0 0 (rf_or X Y 8 0 (rf_z F 3201 0)) := by
  have ax : ∀ t, t < 57 → rf_or X Y 8 0 (rf_z F 3201 0) (X + t) = F (X + t) := fun t ht => by rw [rf_oro X Y 8 0 _ _ rfl (by omega), rf_zo _ _ _ (by omega)]
  have ay : ∀ t, t < 57 → rf_or X Y 8 0 (rf_z F 3201 0) (Y + t) = F (Y + t) := fun t ht => by rw [rf_oro X Y 8 0 _ _ rfl (by omega), rf_zo _ _ _ (by omega)]
  refine ⟨ax 8 (by omega), ay 8 (by omega), h, fun t ht => ?_, fun t ht => ?_, fun t ht => ?_, fun t ht => ?_, ?_⟩
  · have := ax (9 + t) (by omega); rw [← Nat.add_assoc] at this; rw [this]; exact h1 t ht
  · have := ay (9 + t) (by omega); rw [← Nat.add_assoc] at this; rw [this]; exact h2 t ht
  · rw [ax t (by omega)]; exact h3 t ht
  · rw [ay t (by omega)]; exact h4 t ht
  · rw [rf_oro X Y 8 0 _ _ rfl (by omega)]
    exact Nat.le_of_eq (if_pos (by omega))
/-- 'merge' -/
theorem rf_merge {b : xi_W} {O A : Nat} {o : Nat × List Value} (B : rf_B b O A o) (d : Nat) (c s : Nat) (X Y : Nat) (hX2 : X + 57 ≤ 98262) (hY2 : Y + 57 ≤ 98262) (hX : X + 57 ≤ 3201 ∨ 3258 ≤ X) (hY : Y + 57 ≤ 3201 ∨ 3258 ≤ Y) (F : Nat → Nat) (h : F (X + 8) + F (Y + 8) ≤ 48) (h1 : ∀ t, t < F (X + 8) → F (X + 9 + t) < 307200) (h2 : ∀ t, t < F (Y + 8) → F (Y + 9 + t) < 307200) (h3 : ∀ t, t < 8 → F (X + t) < 2147483648) (h4 : ∀ t, t < 8 → F (Y + t) < 2147483648) : xg (d + 2) 183 0 [(0, .ref O), (1, .int (Int32.ofNat X)), (2, .int (Int32.ofNat Y))] [] (rf_w b A F) c s (none, rf_w b A (rf_mer F X Y), c, s) := by
  refine xg_stp rfl rfl rfl rfl ?_
  refine xg_stp (st' := .int (Int32.ofNat 3201) :: _) rfl rfl rfl rfl ?_
  refine rf_call B rfl rfl rfl rfl rfl rfl (rf_clearState B (d + 1) F 0 0 3201 (by omega)) ?_
  refine xg_stp (st' := .int (Int32.ofNat 0) :: _) rfl rfl rfl rfl ?_
  refine xg_stp rfl rfl rfl rfl ?_
  refine rf_orL B (d + 2) c s X Y hX2 hY2 _ 8 0 _ rfl ?_
  refine xg_stp (st' := .int (Int32.ofNat 0) :: _) rfl rfl rfl rfl ?_
  refine xg_stp rfl rfl rfl rfl ?_
  refine xg_stp (st' := .int (Int32.ofNat 0) :: _) rfl rfl rfl rfl ?_
  refine xg_stp rfl rfl rfl rfl ?_
  exact rf_mgL B d c s X Y _ _ hX2 hY2 hX hY 48 0 0 _ _ (rf_mI0 hX hY h h1 h2 h3 h4) (by omega) (Or.inl rfl)
