theorem xf_o202_0 : xi_okr xt_m202 0 = true := by decide +kernel
theorem xf_o202_1 : xi_okr xt_m202 1 = true := by decide +kernel
theorem xf_o202_2 : xi_okr xt_m202 2 = true := by decide +kernel
theorem xf_o202_3 : xi_okr xt_m202 3 = true := by decide +kernel
theorem xf_o202_4 : xi_okr xt_m202 4 = true := by decide +kernel
theorem xf_o202_5 : xi_okr xt_m202 5 = true := by decide +kernel
theorem xf_o202_6 : xi_okr xt_m202 6 = true := by decide +kernel
theorem xf_o202_7 : xi_okr xt_m202 7 = true := by decide +kernel
theorem xf_o202_8 : xi_okr xt_m202 8 = true := by decide +kernel
theorem xf_o202_9 : xi_okr xt_m202 9 = true := by decide +kernel
theorem xf_o202_10 : xi_okr xt_m202 10 = true := by decide +kernel
theorem xf_o202_11 : xi_okr xt_m202 11 = true := by decide +kernel
theorem xf_o202_12 : xi_okr xt_m202 12 = true := by decide +kernel
theorem xf_o202_13 : xi_okr xt_m202 13 = true := by decide +kernel
theorem xf_o202_14 : xi_okr xt_m202 14 = true := by decide +kernel
theorem xf_o202_15 : xi_okr xt_m202 15 = true := by decide +kernel
theorem xf_o202_16 : xi_okr xt_m202 16 = true := by decide +kernel
theorem xf_o202_17 : xi_okr xt_m202 17 = true := by decide +kernel
theorem xf_o202_18 : xi_okr xt_m202 18 = true := by decide +kernel
theorem xf_o202_19 : xi_okr xt_m202 19 = true := by decide +kernel
theorem xf_o202_20 : xi_okr xt_m202 20 = true := by decide +kernel
theorem xf_o202_21 : xi_okr xt_m202 21 = true := by decide +kernel
theorem xf_o202_22 : xi_okr xt_m202 22 = true := by decide +kernel
theorem xf_o202_23 : xi_okr xt_m202 23 = true := by decide +kernel
theorem xf_o202_24 : xi_okr xt_m202 24 = true := by decide +kernel
theorem xf_o202_25 : xi_okr xt_m202 25 = true := by decide +kernel
theorem xf_o202_26 : xi_okr xt_m202 26 = true := by decide +kernel
set_option maxRecDepth 100000 in
theorem xf_i202 : Cond.code xt_m202.1 xt_m202.2.1 xt_m202.2.2.2.2.2.1 xt_m202.2.2.2.2.2.2.1 ∈ lw_tb2 := List.mem_cons_of_mem _ (List.mem_append_right _ (show _ ∈ tables_1 from (show _ ∈ tables_1_1 ++ (tables_1_2 ++ (tables_1_3 ++ (tables_1_4 ++ (tables_1_5)))) from (List.mem_append_right _ (List.mem_append_right _ (List.mem_append_right _ (List.mem_append_left _ (List.mem_of_getElem? (i := 216) (show tables_1_4[216]? = some _ from rfl)))))))))
theorem xf_m202 : xi_Q xt_m202 := xi_ckm_ok2 (n := 1054) (q := 36) (K := 27) rfl xf_i202 (by decide +kernel) (by decide +kernel) (by decide) (fun a h => by
  match a, h with
  | 0, _ => exact xf_o202_0
  | 1, _ => exact xf_o202_1
  | 2, _ => exact xf_o202_2
  | 3, _ => exact xf_o202_3
  | 4, _ => exact xf_o202_4
  | 5, _ => exact xf_o202_5
  | 6, _ => exact xf_o202_6
  | 7, _ => exact xf_o202_7
  | 8, _ => exact xf_o202_8
  | 9, _ => exact xf_o202_9
  | 10, _ => exact xf_o202_10
  | 11, _ => exact xf_o202_11
  | 12, _ => exact xf_o202_12
  | 13, _ => exact xf_o202_13
  | 14, _ => exact xf_o202_14
  | 15, _ => exact xf_o202_15
  | 16, _ => exact xf_o202_16
  | 17, _ => exact xf_o202_17
  | 18, _ => exact xf_o202_18
  | 19, _ => exact xf_o202_19
  | 20, _ => exact xf_o202_20
  | 21, _ => exact xf_o202_21
  | 22, _ => exact xf_o202_22
  | 23, _ => exact xf_o202_23
  | 24, _ => exact xf_o202_24
  | 25, _ => exact xf_o202_25
  | 26, _ => exact xf_o202_26
  | k + 27, h => exact absurd h (by omega))
