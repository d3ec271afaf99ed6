/-! the calls: day -/
set_option maxRecDepth 1000000 in
theorem cb_day_0 : cl_is (cl_t (cl_lf 0 0 106 272 100000) 2 [none] [((-2147483648), 0)]) = true := by decide +kernel
set_option maxRecDepth 1000000 in
theorem cb_day_1 : cl_is (cl_t (cl_lf 0 0 106 272 100000) 2 [none] [(1, 1)]) = true := by decide +kernel
set_option maxRecDepth 1000000 in
theorem cb_day_2 : cl_is (cl_t (cl_lf 0 0 106 272 100000) 2 [none] [(2, 2)]) = true := by decide +kernel
set_option maxRecDepth 1000000 in
theorem cb_day_3 : cl_is (cl_t (cl_lf 0 0 106 272 100000) 2 [none] [(3, 3)]) = true := by decide +kernel
set_option maxRecDepth 1000000 in
theorem cb_day_4 : cl_is (cl_t (cl_lf 0 0 106 272 100000) 2 [none] [(4, 4)]) = true := by decide +kernel
set_option maxRecDepth 1000000 in
theorem cb_day_5 : cl_is (cl_t (cl_lf 0 0 106 272 100000) 2 [none] [(5, 5)]) = true := by decide +kernel
set_option maxRecDepth 1000000 in
theorem cb_day_6 : cl_is (cl_t (cl_lf 0 0 106 272 100000) 2 [none] [(6, 6)]) = true := by decide +kernel
set_option maxRecDepth 1000000 in
theorem cb_day_7 : cl_is (cl_t (cl_lf 0 0 106 272 100000) 2 [none] [(7, 7)]) = true := by decide +kernel
set_option maxRecDepth 1000000 in
theorem cb_day_8 : cl_is (cl_t (cl_lf 0 0 106 272 100000) 2 [none] [(8, 8)]) = true := by decide +kernel
set_option maxRecDepth 1000000 in
theorem cb_day_9 : cl_is (cl_t (cl_lf 0 0 106 272 100000) 2 [none] [(9, 9)]) = true := by decide +kernel
set_option maxRecDepth 1000000 in
theorem cb_day_10 : cl_is (cl_t (cl_lf 0 0 106 272 100000) 2 [none] [(10, 10)]) = true := by decide +kernel
set_option maxRecDepth 1000000 in
theorem cb_day_11 : cl_is (cl_t (cl_lf 0 0 106 272 100000) 2 [none] [(11, 11)]) = true := by decide +kernel
set_option maxRecDepth 1000000 in
theorem cb_day_12 : cl_is (cl_t (cl_lf 0 0 106 272 100000) 2 [none] [(12, 12)]) = true := by decide +kernel
set_option maxRecDepth 1000000 in
theorem cb_day_13 : cl_is (cl_t (cl_lf 0 0 106 272 100000) 2 [none] [(13, 2147483647)]) = true := by decide +kernel
theorem cd_day {W : xi_W} (hW : ag_w (fw_w, [], 680) W) (x0 : Int32) (h : cl_in [((-2147483648), 2147483647)] [x0]) : cl_ok 0 0 106 272 W [x0] := (cl_cut [((-2147483648), 2147483647)] 0 1 [x0] h).elim (fun h => cl_of cb_day_0 hW h) (fun h => (cl_cut [(1, 2147483647)] 0 12 [x0] h).elim (fun h => (cl_cut [(1, 11)] 0 2 [x0] h).elim (fun h => cl_of cb_day_1 hW h) (fun h => (cl_cut [(2, 11)] 0 3 [x0] h).elim (fun h => cl_of cb_day_2 hW h) (fun h => (cl_cut [(3, 11)] 0 4 [x0] h).elim (fun h => cl_of cb_day_3 hW h) (fun h => (cl_cut [(4, 11)] 0 5 [x0] h).elim (fun h => cl_of cb_day_4 hW h) (fun h => (cl_cut [(5, 11)] 0 6 [x0] h).elim (fun h => cl_of cb_day_5 hW h) (fun h => (cl_cut [(6, 11)] 0 7 [x0] h).elim (fun h => cl_of cb_day_6 hW h) (fun h => (cl_cut [(7, 11)] 0 8 [x0] h).elim (fun h => cl_of cb_day_7 hW h) (fun h => (cl_cut [(8, 11)] 0 9 [x0] h).elim (fun h => cl_of cb_day_8 hW h) (fun h => (cl_cut [(9, 11)] 0 10 [x0] h).elim (fun h => cl_of cb_day_9 hW h) (fun h => (cl_cut [(10, 11)] 0 11 [x0] h).elim (fun h => cl_of cb_day_10 hW h) (fun h => cl_of cb_day_11 hW h))))))))))) (fun h => (cl_cut [(12, 2147483647)] 0 13 [x0] h).elim (fun h => cl_of cb_day_12 hW h) (fun h => cl_of cb_day_13 hW h)))
theorem cs_day {W : xi_W} (hW : ag_w (fw_w, [], 680) W) (x0 : Int32) : cl_ok 0 0 106 272 W [x0] := cd_day hW x0 ⟨cl_top x0, trivial⟩
