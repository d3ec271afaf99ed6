/-! the calls: set foretold -/
set_option maxRecDepth 1000000 in
theorem cb_set_0 : cl_is (cl_t (cl_lf 0 0 102 267 100000) 2 [none] [((-2147483648), (-1)), ((-2147483648), 2147483647), ((-2147483648), 2147483647), ((-2147483648), 2147483647)]) = true := by decide +kernel
set_option maxRecDepth 1000000 in
theorem cb_set_1 : cl_is (cl_t (cl_lf 0 0 102 267 100000) 2 [none] [(0, 3), ((-2147483648), (-1)), ((-2147483648), 2147483647), ((-2147483648), 2147483647)]) = true := by decide +kernel
set_option maxRecDepth 1000000 in
theorem cb_set_2 : cl_is (cl_t (cl_lf 0 0 102 267 100000) 2 [none] [(0, 3), (0, 3), ((-2147483648), (-1)), ((-2147483648), 2147483647)]) = true := by decide +kernel
set_option maxRecDepth 1000000 in
theorem cb_set_3 : cl_is (cl_t (cl_lf 0 0 102 267 100000) 2 [none] [(0, 3), (0, 3), (0, 2), ((-2147483648), (-1))]) = true := by decide +kernel
set_option maxRecDepth 1000000 in
theorem cb_set_4 : cl_is (cl_t (cl_lf 0 0 102 267 100000) 2 [none] [(0, 0), (0, 3), (0, 2), (0, 99)]) = true := by decide +kernel
set_option maxRecDepth 1000000 in
theorem cb_set_5 : cl_is (cl_t (cl_lf 0 0 102 267 100000) 2 [none] [(1, 1), (0, 3), (0, 2), (0, 99)]) = true := by decide +kernel
set_option maxRecDepth 1000000 in
theorem cb_set_6 : cl_is (cl_t (cl_lf 0 0 102 267 100000) 2 [none] [(2, 2), (0, 3), (0, 2), (0, 99)]) = true := by decide +kernel
set_option maxRecDepth 1000000 in
theorem cb_set_7 : cl_is (cl_t (cl_lf 0 0 102 267 100000) 2 [none] [(3, 3), (0, 3), (0, 2), (0, 99)]) = true := by decide +kernel
set_option maxRecDepth 1000000 in
theorem cb_set_8 : cl_is (cl_t (cl_lf 0 0 102 267 100000) 2 [none] [(0, 3), (0, 3), (0, 2), (100, 2147483647)]) = true := by decide +kernel
set_option maxRecDepth 1000000 in
theorem cb_set_9 : cl_is (cl_t (cl_lf 0 0 102 267 100000) 2 [none] [(0, 3), (0, 3), (3, 2147483647), ((-2147483648), 2147483647)]) = true := by decide +kernel
set_option maxRecDepth 1000000 in
theorem cb_set_10 : cl_is (cl_t (cl_lf 0 0 102 267 100000) 2 [none] [(0, 3), (4, 2147483647), ((-2147483648), 2147483647), ((-2147483648), 2147483647)]) = true := by decide +kernel
set_option maxRecDepth 1000000 in
theorem cb_set_11 : cl_is (cl_t (cl_lf 0 0 102 267 100000) 2 [none] [(4, 2147483647), ((-2147483648), 2147483647), ((-2147483648), 2147483647), ((-2147483648), 2147483647)]) = true := by decide +kernel
theorem cd_set {W : xi_W} (hW : ag_w (fw_w, [], 680) W) (x0 x1 x2 x3 : Int32) (h : cl_in [((-2147483648), 2147483647), ((-2147483648), 2147483647), ((-2147483648), 2147483647), ((-2147483648), 2147483647)] [x0, x1, x2, x3]) : cl_ok 0 0 102 267 W [x0, x1, x2, x3] := (cl_cut [((-2147483648), 2147483647), ((-2147483648), 2147483647), ((-2147483648), 2147483647), ((-2147483648), 2147483647)] 0 0 [x0, x1, x2, x3] h).elim (fun h => cl_of cb_set_0 hW h) (fun h => (cl_cut [(0, 2147483647), ((-2147483648), 2147483647), ((-2147483648), 2147483647), ((-2147483648), 2147483647)] 0 4 [x0, x1, x2, x3] h).elim (fun h => (cl_cut [(0, 3), ((-2147483648), 2147483647), ((-2147483648), 2147483647), ((-2147483648), 2147483647)] 1 0 [x0, x1, x2, x3] h).elim (fun h => cl_of cb_set_1 hW h) (fun h => (cl_cut [(0, 3), (0, 2147483647), ((-2147483648), 2147483647), ((-2147483648), 2147483647)] 1 4 [x0, x1, x2, x3] h).elim (fun h => (cl_cut [(0, 3), (0, 3), ((-2147483648), 2147483647), ((-2147483648), 2147483647)] 2 0 [x0, x1, x2, x3] h).elim (fun h => cl_of cb_set_2 hW h) (fun h => (cl_cut [(0, 3), (0, 3), (0, 2147483647), ((-2147483648), 2147483647)] 2 3 [x0, x1, x2, x3] h).elim (fun h => (cl_cut [(0, 3), (0, 3), (0, 2), ((-2147483648), 2147483647)] 3 0 [x0, x1, x2, x3] h).elim (fun h => cl_of cb_set_3 hW h) (fun h => (cl_cut [(0, 3), (0, 3), (0, 2), (0, 2147483647)] 3 100 [x0, x1, x2, x3] h).elim (fun h => (cl_cut [(0, 3), (0, 3), (0, 2), (0, 99)] 0 1 [x0, x1, x2, x3] h).elim (fun h => cl_of cb_set_4 hW h) (fun h => (cl_cut [(1, 3), (0, 3), (0, 2), (0, 99)] 0 2 [x0, x1, x2, x3] h).elim (fun h => cl_of cb_set_5 hW h) (fun h => (cl_cut [(2, 3), (0, 3), (0, 2), (0, 99)] 0 3 [x0, x1, x2, x3] h).elim (fun h => cl_of cb_set_6 hW h) (fun h => cl_of cb_set_7 hW h)))) (fun h => cl_of cb_set_8 hW h))) (fun h => cl_of cb_set_9 hW h))) (fun h => cl_of cb_set_10 hW h))) (fun h => cl_of cb_set_11 hW h))
theorem cs_set {W : xi_W} (hW : ag_w (fw_w, [], 680) W) (x0 x1 x2 x3 : Int32) : cl_ok 0 0 102 267 W [x0, x1, x2, x3] := cd_set hW x0 x1 x2 x3 ⟨cl_top x0, ⟨cl_top x1, ⟨cl_top x2, ⟨cl_top x3, trivial⟩⟩⟩⟩
set_option maxRecDepth 1000000 in
theorem cb_foretold_0 : cl_is (cl_t (cl_lf 0 0 121 295 100000) 2 [none] [((-2147483648), 0), ((-2147483648), 2147483647)]) = true := by decide +kernel
set_option maxRecDepth 1000000 in
theorem cb_foretold_1 : cl_is (cl_t (cl_lf 0 0 121 295 100000) 2 [none] [(1, 11), ((-2147483648), (-1))]) = true := by decide +kernel
set_option maxRecDepth 1000000 in
theorem cb_foretold_2 : cl_is (cl_t (cl_lf 0 0 121 295 100000) 2 [none] [(1, 1), (0, 3)]) = true := by decide +kernel
set_option maxRecDepth 1000000 in
theorem cb_foretold_3 : cl_is (cl_t (cl_lf 0 0 121 295 100000) 2 [none] [(2, 2), (0, 3)]) = true := by decide +kernel
set_option maxRecDepth 1000000 in
theorem cb_foretold_4 : cl_is (cl_t (cl_lf 0 0 121 295 100000) 2 [none] [(3, 3), (0, 3)]) = true := by decide +kernel
set_option maxRecDepth 1000000 in
theorem cb_foretold_5 : cl_is (cl_t (cl_lf 0 0 121 295 100000) 2 [none] [(4, 4), (0, 3)]) = true := by decide +kernel
set_option maxRecDepth 1000000 in
theorem cb_foretold_6 : cl_is (cl_t (cl_lf 0 0 121 295 100000) 2 [none] [(5, 5), (0, 3)]) = true := by decide +kernel
set_option maxRecDepth 1000000 in
theorem cb_foretold_7 : cl_is (cl_t (cl_lf 0 0 121 295 100000) 2 [none] [(6, 6), (0, 3)]) = true := by decide +kernel
set_option maxRecDepth 1000000 in
theorem cb_foretold_8 : cl_is (cl_t (cl_lf 0 0 121 295 100000) 2 [none] [(7, 7), (0, 3)]) = true := by decide +kernel
set_option maxRecDepth 1000000 in
theorem cb_foretold_9 : cl_is (cl_t (cl_lf 0 0 121 295 100000) 2 [none] [(8, 8), (0, 3)]) = true := by decide +kernel
set_option maxRecDepth 1000000 in
theorem cb_foretold_10 : cl_is (cl_t (cl_lf 0 0 121 295 100000) 2 [none] [(9, 9), (0, 3)]) = true := by decide +kernel
set_option maxRecDepth 1000000 in
theorem cb_foretold_11 : cl_is (cl_t (cl_lf 0 0 121 295 100000) 2 [none] [(10, 10), (0, 3)]) = true := by decide +kernel
set_option maxRecDepth 1000000 in
theorem cb_foretold_12 : cl_is (cl_t (cl_lf 0 0 121 295 100000) 2 [none] [(11, 11), (0, 3)]) = true := by decide +kernel
set_option maxRecDepth 1000000 in
theorem cb_foretold_13 : cl_is (cl_t (cl_lf 0 0 121 295 100000) 2 [none] [(1, 11), (4, 2147483647)]) = true := by decide +kernel
set_option maxRecDepth 1000000 in
theorem cb_foretold_14 : cl_is (cl_t (cl_lf 0 0 121 295 100000) 2 [none] [(12, 12), ((-2147483648), (-1))]) = true := by decide +kernel
set_option maxRecDepth 1000000 in
theorem cb_foretold_15 : cl_is (cl_t (cl_lf 0 0 121 295 100000) 2 [none] [(12, 12), (0, 3)]) = true := by decide +kernel
set_option maxRecDepth 1000000 in
theorem cb_foretold_16 : cl_is (cl_t (cl_lf 0 0 121 295 100000) 2 [none] [(12, 12), (4, 2147483647)]) = true := by decide +kernel
set_option maxRecDepth 1000000 in
theorem cb_foretold_17 : cl_is (cl_t (cl_lf 0 0 121 295 100000) 2 [none] [(13, 2147483647), ((-2147483648), 2147483647)]) = true := by decide +kernel
theorem cd_foretold {W : xi_W} (hW : ag_w (fw_w, [], 680) W) (x0 x1 : Int32) (h : cl_in [((-2147483648), 2147483647), ((-2147483648), 2147483647)] [x0, x1]) : cl_ok 0 0 121 295 W [x0, x1] := (cl_cut [((-2147483648), 2147483647), ((-2147483648), 2147483647)] 0 1 [x0, x1] h).elim (fun h => cl_of cb_foretold_0 hW h) (fun h => (cl_cut [(1, 2147483647), ((-2147483648), 2147483647)] 0 12 [x0, x1] h).elim (fun h => (cl_cut [(1, 11), ((-2147483648), 2147483647)] 1 0 [x0, x1] h).elim (fun h => cl_of cb_foretold_1 hW h) (fun h => (cl_cut [(1, 11), (0, 2147483647)] 1 4 [x0, x1] h).elim (fun h => (cl_cut [(1, 11), (0, 3)] 0 2 [x0, x1] h).elim (fun h => cl_of cb_foretold_2 hW h) (fun h => (cl_cut [(2, 11), (0, 3)] 0 3 [x0, x1] h).elim (fun h => cl_of cb_foretold_3 hW h) (fun h => (cl_cut [(3, 11), (0, 3)] 0 4 [x0, x1] h).elim (fun h => cl_of cb_foretold_4 hW h) (fun h => (cl_cut [(4, 11), (0, 3)] 0 5 [x0, x1] h).elim (fun h => cl_of cb_foretold_5 hW h) (fun h => (cl_cut [(5, 11), (0, 3)] 0 6 [x0, x1] h).elim (fun h => cl_of cb_foretold_6 hW h) (fun h => (cl_cut [(6, 11), (0, 3)] 0 7 [x0, x1] h).elim (fun h => cl_of cb_foretold_7 hW h) (fun h => (cl_cut [(7, 11), (0, 3)] 0 8 [x0, x1] h).elim (fun h => cl_of cb_foretold_8 hW h) (fun h => (cl_cut [(8, 11), (0, 3)] 0 9 [x0, x1] h).elim (fun h => cl_of cb_foretold_9 hW h) (fun h => (cl_cut [(9, 11), (0, 3)] 0 10 [x0, x1] h).elim (fun h => cl_of cb_foretold_10 hW h) (fun h => (cl_cut [(10, 11), (0, 3)] 0 11 [x0, x1] h).elim (fun h => cl_of cb_foretold_11 hW h) (fun h => cl_of cb_foretold_12 hW h))))))))))) (fun h => cl_of cb_foretold_13 hW h))) (fun h => (cl_cut [(12, 2147483647), ((-2147483648), 2147483647)] 0 13 [x0, x1] h).elim (fun h => (cl_cut [(12, 12), ((-2147483648), 2147483647)] 1 0 [x0, x1] h).elim (fun h => cl_of cb_foretold_14 hW h) (fun h => (cl_cut [(12, 12), (0, 2147483647)] 1 4 [x0, x1] h).elim (fun h => cl_of cb_foretold_15 hW h) (fun h => cl_of cb_foretold_16 hW h))) (fun h => cl_of cb_foretold_17 hW h)))
theorem cs_foretold {W : xi_W} (hW : ag_w (fw_w, [], 680) W) (x0 x1 : Int32) : cl_ok 0 0 121 295 W [x0, x1] := cd_foretold hW x0 x1 ⟨cl_top x0, ⟨cl_top x1, trivial⟩⟩
