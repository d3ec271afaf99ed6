theorem xf_o204_0 : xi_okr xt_m204 0 = true := by decide +kernel
theorem xf_o204_1 : xi_okr xt_m204 1 = true := by decide +kernel
theorem xf_o204_2 : xi_okr xt_m204 2 = true := by decide +kernel
theorem xf_o204_3 : xi_okr xt_m204 3 = true := by decide +kernel
theorem xf_o204_4 : xi_okr xt_m204 4 = true := by decide +kernel
theorem xf_o204_5 : xi_okr xt_m204 5 = true := by decide +kernel
theorem xf_o204_6 : xi_okr xt_m204 6 = true := by decide +kernel
theorem xf_o204_7 : xi_okr xt_m204 7 = true := by decide +kernel
theorem xf_o204_8 : xi_okr xt_m204 8 = true := by decide +kernel
theorem xf_o204_9 : xi_okr xt_m204 9 = true := by decide +kernel
theorem xf_o204_10 : xi_okr xt_m204 10 = true := by decide +kernel
theorem xf_o204_11 : xi_okr xt_m204 11 = true := by decide +kernel
theorem xf_o204_12 : xi_okr xt_m204 12 = true := by decide +kernel
theorem xf_o204_13 : xi_okr xt_m204 13 = true := by decide +kernel
theorem xf_o204_14 : xi_okr xt_m204 14 = true := by decide +kernel
theorem xf_o204_15 : xi_okr xt_m204 15 = true := by decide +kernel
theorem xf_o204_16 : xi_okr xt_m204 16 = true := by decide +kernel
theorem xf_o204_17 : xi_okr xt_m204 17 = true := by decide +kernel
theorem xf_o204_18 : xi_okr xt_m204 18 = true := by decide +kernel
theorem xf_o204_19 : xi_okr xt_m204 19 = true := by decide +kernel
theorem xf_o204_20 : xi_okr xt_m204 20 = true := by decide +kernel
theorem xf_o204_21 : xi_okr xt_m204 21 = true := by decide +kernel
theorem xf_o204_22 : xi_okr xt_m204 22 = true := by decide +kernel
theorem xf_o204_23 : xi_okr xt_m204 23 = true := by decide +kernel
theorem xf_o204_24 : xi_okr xt_m204 24 = true := by decide +kernel
theorem xf_o204_25 : xi_okr xt_m204 25 = true := by decide +kernel
theorem xf_o204_26 : xi_okr xt_m204 26 = true := by decide +kernel
theorem xf_o204_27 : xi_okr xt_m204 27 = true := by decide +kernel
theorem xf_o204_28 : xi_okr xt_m204 28 = true := by decide +kernel
theorem xf_o204_29 : xi_okr xt_m204 29 = true := by decide +kernel
theorem xf_o204_30 : xi_okr xt_m204 30 = true := by decide +kernel
theorem xf_o204_31 : xi_okr xt_m204 31 = true := by decide +kernel
theorem xf_o204_32 : xi_okr xt_m204 32 = true := by decide +kernel
theorem xf_o204_33 : xi_okr xt_m204 33 = true := by decide +kernel
theorem xf_o204_34 : xi_okr xt_m204 34 = true := by decide +kernel
theorem xf_o204_35 : xi_okr xt_m204 35 = true := by decide +kernel
theorem xf_o204_36 : xi_okr xt_m204 36 = true := by decide +kernel
theorem xf_o204_37 : xi_okr xt_m204 37 = true := by decide +kernel
theorem xf_o204_38 : xi_okr xt_m204 38 = true := by decide +kernel
theorem xf_o204_39 : xi_okr xt_m204 39 = true := by decide +kernel
theorem xf_o204_40 : xi_okr xt_m204 40 = true := by decide +kernel
theorem xf_o204_41 : xi_okr xt_m204 41 = true := by decide +kernel
theorem xf_o204_42 : xi_okr xt_m204 42 = true := by decide +kernel
theorem xf_o204_43 : xi_okr xt_m204 43 = true := by decide +kernel
theorem xf_o204_44 : xi_okr xt_m204 44 = true := by decide +kernel
theorem xf_o204_45 : xi_okr xt_m204 45 = true := by decide +kernel
theorem xf_o204_46 : xi_okr xt_m204 46 = true := by decide +kernel
theorem xf_o204_47 : xi_okr xt_m204 47 = true := by decide +kernel
theorem xf_o204_48 : xi_okr xt_m204 48 = true := by decide +kernel
theorem xf_o204_49 : xi_okr xt_m204 49 = true := by decide +kernel
set_option maxRecDepth 100000 in
theorem xf_i204 : Cond.code xt_m204.1 xt_m204.2.1 xt_m204.2.2.2.2.2.1 xt_m204.2.2.2.2.2.2.1 ∈ lw_tb2 := List.mem_cons_of_mem _ (List.mem_append_right _ (show _ ∈ tables_1 from (show _ ∈ tables_1_1 ++ (tables_1_2 ++ (tables_1_3 ++ (tables_1_4 ++ (tables_1_5)))) from (List.mem_append_right _ (List.mem_append_right _ (List.mem_append_right _ (List.mem_append_right _ (List.mem_of_getElem? (i := 69) (show tables_1_5[69]? = some _ from rfl)))))))))
theorem xf_m204 : xi_Q xt_m204 := xi_ckm_ok2 (n := 1994) (q := 36) (K := 50) rfl xf_i204 (by decide +kernel) (by decide +kernel) (by decide) (fun a h => by
  match a, h with
  | 0, _ => exact xf_o204_0
  | 1, _ => exact xf_o204_1
  | 2, _ => exact xf_o204_2
  | 3, _ => exact xf_o204_3
  | 4, _ => exact xf_o204_4
  | 5, _ => exact xf_o204_5
  | 6, _ => exact xf_o204_6
  | 7, _ => exact xf_o204_7
  | 8, _ => exact xf_o204_8
  | 9, _ => exact xf_o204_9
  | 10, _ => exact xf_o204_10
  | 11, _ => exact xf_o204_11
  | 12, _ => exact xf_o204_12
  | 13, _ => exact xf_o204_13
  | 14, _ => exact xf_o204_14
  | 15, _ => exact xf_o204_15
  | 16, _ => exact xf_o204_16
  | 17, _ => exact xf_o204_17
  | 18, _ => exact xf_o204_18
  | 19, _ => exact xf_o204_19
  | 20, _ => exact xf_o204_20
  | 21, _ => exact xf_o204_21
  | 22, _ => exact xf_o204_22
  | 23, _ => exact xf_o204_23
  | 24, _ => exact xf_o204_24
  | 25, _ => exact xf_o204_25
  | 26, _ => exact xf_o204_26
  | 27, _ => exact xf_o204_27
  | 28, _ => exact xf_o204_28
  | 29, _ => exact xf_o204_29
  | 30, _ => exact xf_o204_30
  | 31, _ => exact xf_o204_31
  | 32, _ => exact xf_o204_32
  | 33, _ => exact xf_o204_33
  | 34, _ => exact xf_o204_34
  | 35, _ => exact xf_o204_35
  | 36, _ => exact xf_o204_36
  | 37, _ => exact xf_o204_37
  | 38, _ => exact xf_o204_38
  | 39, _ => exact xf_o204_39
  | 40, _ => exact xf_o204_40
  | 41, _ => exact xf_o204_41
  | 42, _ => exact xf_o204_42
  | 43, _ => exact xf_o204_43
  | 44, _ => exact xf_o204_44
  | 45, _ => exact xf_o204_45
  | 46, _ => exact xf_o204_46
  | 47, _ => exact xf_o204_47
  | 48, _ => exact xf_o204_48
  | 49, _ => exact xf_o204_49
  | k + 50, h => exact absurd h (by omega))
