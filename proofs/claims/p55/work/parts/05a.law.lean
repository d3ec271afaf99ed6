theorem xf_o199_0 : xi_okr xt_m199 0 = true := by decide +kernel
theorem xf_o199_1 : xi_okr xt_m199 1 = true := by decide +kernel
theorem xf_o199_2 : xi_okr xt_m199 2 = true := by decide +kernel
theorem xf_o199_3 : xi_okr xt_m199 3 = true := by decide +kernel
theorem xf_o199_4 : xi_okr xt_m199 4 = true := by decide +kernel
theorem xf_o199_5 : xi_okr xt_m199 5 = true := by decide +kernel
theorem xf_o199_6 : xi_okr xt_m199 6 = true := by decide +kernel
theorem xf_o199_7 : xi_okr xt_m199 7 = true := by decide +kernel
theorem xf_o199_8 : xi_okr xt_m199 8 = true := by decide +kernel
theorem xf_o199_9 : xi_okr xt_m199 9 = true := by decide +kernel
theorem xf_o199_10 : xi_okr xt_m199 10 = true := by decide +kernel
theorem xf_o199_11 : xi_okr xt_m199 11 = true := by decide +kernel
theorem xf_o199_12 : xi_okr xt_m199 12 = true := by decide +kernel
theorem xf_o199_13 : xi_okr xt_m199 13 = true := by decide +kernel
theorem xf_o199_14 : xi_okr xt_m199 14 = true := by decide +kernel
theorem xf_o199_15 : xi_okr xt_m199 15 = true := by decide +kernel
theorem xf_o199_16 : xi_okr xt_m199 16 = true := by decide +kernel
theorem xf_o199_17 : xi_okr xt_m199 17 = true := by decide +kernel
theorem xf_o199_18 : xi_okr xt_m199 18 = true := by decide +kernel
theorem xf_o199_19 : xi_okr xt_m199 19 = true := by decide +kernel
theorem xf_o199_20 : xi_okr xt_m199 20 = true := by decide +kernel
theorem xf_o199_21 : xi_okr xt_m199 21 = true := by decide +kernel
theorem xf_o199_22 : xi_okr xt_m199 22 = true := by decide +kernel
theorem xf_o199_23 : xi_okr xt_m199 23 = true := by decide +kernel
theorem xf_o199_24 : xi_okr xt_m199 24 = true := by decide +kernel
theorem xf_o199_25 : xi_okr xt_m199 25 = true := by decide +kernel
theorem xf_o199_26 : xi_okr xt_m199 26 = true := by decide +kernel
theorem xf_o199_27 : xi_okr xt_m199 27 = true := by decide +kernel
set_option maxRecDepth 100000 in
theorem xf_i199 : Cond.code xt_m199.1 xt_m199.2.1 xt_m199.2.2.2.2.2.1 xt_m199.2.2.2.2.2.2.1 ∈ lw_tb2 := List.mem_cons_self
theorem xf_m199 : xi_Q xt_m199 := xi_ckm_ok2 (n := 1115) (q := 36) (K := 28) rfl xf_i199 (by decide +kernel) (by decide +kernel) (by decide) (fun a h => by
  match a, h with
  | 0, _ => exact xf_o199_0
  | 1, _ => exact xf_o199_1
  | 2, _ => exact xf_o199_2
  | 3, _ => exact xf_o199_3
  | 4, _ => exact xf_o199_4
  | 5, _ => exact xf_o199_5
  | 6, _ => exact xf_o199_6
  | 7, _ => exact xf_o199_7
  | 8, _ => exact xf_o199_8
  | 9, _ => exact xf_o199_9
  | 10, _ => exact xf_o199_10
  | 11, _ => exact xf_o199_11
  | 12, _ => exact xf_o199_12
  | 13, _ => exact xf_o199_13
  | 14, _ => exact xf_o199_14
  | 15, _ => exact xf_o199_15
  | 16, _ => exact xf_o199_16
  | 17, _ => exact xf_o199_17
  | 18, _ => exact xf_o199_18
  | 19, _ => exact xf_o199_19
  | 20, _ => exact xf_o199_20
  | 21, _ => exact xf_o199_21
  | 22, _ => exact xf_o199_22
  | 23, _ => exact xf_o199_23
  | 24, _ => exact xf_o199_24
  | 25, _ => exact xf_o199_25
  | 26, _ => exact xf_o199_26
  | 27, _ => exact xf_o199_27
  | k + 28, h => exact absurd h (by omega))
