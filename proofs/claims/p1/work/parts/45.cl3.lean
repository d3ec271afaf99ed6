/-! the calls: knows torn join -/
set_option maxRecDepth 1000000 in
theorem cb_knows_0 : cl_is (cl_t (cl_lf 0 0 114 283 100000) 12 [some (0, 0), none, some (0, 4), some (1, 0), none, some (1, 4), some (2, 1), none, some (2, 63), some (0, 1), none, some (0, 2), none, some (0, 3), none, none, some (2, 64), some (0, 1), none, some (0, 2), none, some (0, 3), none, none, none, none, none] [((-2147483648), 2147483647), ((-2147483648), 2147483647), ((-2147483648), 2147483647)]) = true := by decide +kernel
theorem cd_knows {W : xi_W} (hW : ag_w (fw_w, [], 680) W) (x0 x1 x2 : Int32) (h : cl_in [((-2147483648), 2147483647), ((-2147483648), 2147483647), ((-2147483648), 2147483647)] [x0, x1, x2]) : cl_ok 0 0 114 283 W [x0, x1, x2] := cl_of cb_knows_0 hW h
theorem cs_knows {W : xi_W} (hW : ag_w (fw_w, [], 680) W) (x0 x1 x2 : Int32) : cl_ok 0 0 114 283 W [x0, x1, x2] := cd_knows hW x0 x1 x2 ⟨cl_top x0, ⟨cl_top x1, ⟨cl_top x2, trivial⟩⟩⟩
set_option maxRecDepth 1000000 in
theorem cb_join_0 : cl_is (cl_t (cl_lf 0 0 127 301 100000) 2 [none] [((-2147483648), (-1)), ((-2147483648), 2147483647), ((-2147483648), 2147483647)]) = true := by decide +kernel
set_option maxRecDepth 1000000 in
theorem cb_join_1 : cl_is (cl_t (cl_lf 0 0 127 301 100000) 2 [none] [(0, 3), ((-2147483648), (-1)), ((-2147483648), 2147483647)]) = true := by decide +kernel
set_option maxRecDepth 1000000 in
theorem cb_join_2 : cl_is (cl_t (cl_lf 0 0 127 301 100000) 2 [none] [(0, 0), (0, 3), ((-2147483648), (-1))]) = true := by decide +kernel
set_option maxRecDepth 1000000 in
theorem cb_join_3 : cl_is (cl_t (cl_lf 0 0 127 301 100000) 4 [some (2, 1), none, some (2, 2), none, none] [(0, 0), (0, 0), (0, 2)]) = true := by decide +kernel
set_option maxRecDepth 1000000 in
theorem cb_join_4 : cl_is (cl_t (cl_lf 0 0 127 301 100000) 6 [some (1, 2), some (2, 1), none, some (2, 2), none, none, some (1, 3), some (2, 1), none, some (2, 2), none, none, some (2, 1), none, some (2, 2), none, none] [(0, 0), (1, 3), (0, 2)]) = true := by decide +kernel
set_option maxRecDepth 1000000 in
theorem cb_join_5 : cl_is (cl_t (cl_lf 0 0 127 301 100000) 2 [none] [(0, 0), (0, 3), (3, 2147483647)]) = true := by decide +kernel
set_option maxRecDepth 1000000 in
theorem cb_join_6 : cl_is (cl_t (cl_lf 0 0 127 301 100000) 2 [none] [(1, 1), (0, 3), ((-2147483648), (-1))]) = true := by decide +kernel
set_option maxRecDepth 1000000 in
theorem cb_join_7 : cl_is (cl_t (cl_lf 0 0 127 301 100000) 4 [some (2, 1), none, some (2, 2), none, none] [(1, 1), (0, 0), (0, 2)]) = true := by decide +kernel
set_option maxRecDepth 1000000 in
theorem cb_join_8 : cl_is (cl_t (cl_lf 0 0 127 301 100000) 6 [some (1, 2), some (2, 1), none, some (2, 2), none, none, some (1, 3), some (2, 1), none, some (2, 2), none, none, some (2, 1), none, some (2, 2), none, none] [(1, 1), (1, 3), (0, 2)]) = true := by decide +kernel
set_option maxRecDepth 1000000 in
theorem cb_join_9 : cl_is (cl_t (cl_lf 0 0 127 301 100000) 2 [none] [(1, 1), (0, 3), (3, 2147483647)]) = true := by decide +kernel
set_option maxRecDepth 1000000 in
theorem cb_join_10 : cl_is (cl_t (cl_lf 0 0 127 301 100000) 2 [none] [(2, 2), (0, 3), ((-2147483648), (-1))]) = true := by decide +kernel
set_option maxRecDepth 1000000 in
theorem cb_join_11 : cl_is (cl_t (cl_lf 0 0 127 301 100000) 4 [some (2, 1), none, some (2, 2), none, none] [(2, 2), (0, 0), (0, 2)]) = true := by decide +kernel
set_option maxRecDepth 1000000 in
theorem cb_join_12 : cl_is (cl_t (cl_lf 0 0 127 301 100000) 6 [some (1, 2), some (2, 1), none, some (2, 2), none, none, some (1, 3), some (2, 1), none, some (2, 2), none, none, some (2, 1), none, some (2, 2), none, none] [(2, 2), (1, 3), (0, 2)]) = true := by decide +kernel
set_option maxRecDepth 1000000 in
theorem cb_join_13 : cl_is (cl_t (cl_lf 0 0 127 301 100000) 2 [none] [(2, 2), (0, 3), (3, 2147483647)]) = true := by decide +kernel
set_option maxRecDepth 1000000 in
theorem cb_join_14 : cl_is (cl_t (cl_lf 0 0 127 301 100000) 2 [none] [(3, 3), (0, 3), ((-2147483648), (-1))]) = true := by decide +kernel
set_option maxRecDepth 1000000 in
theorem cb_join_15 : cl_is (cl_t (cl_lf 0 0 127 301 100000) 4 [some (2, 1), none, some (2, 2), none, none] [(3, 3), (0, 0), (0, 2)]) = true := by decide +kernel
set_option maxRecDepth 1000000 in
theorem cb_join_16 : cl_is (cl_t (cl_lf 0 0 127 301 100000) 6 [some (1, 2), some (2, 1), none, some (2, 2), none, none, some (1, 3), some (2, 1), none, some (2, 2), none, none, some (2, 1), none, some (2, 2), none, none] [(3, 3), (1, 3), (0, 2)]) = true := by decide +kernel
set_option maxRecDepth 1000000 in
theorem cb_join_17 : cl_is (cl_t (cl_lf 0 0 127 301 100000) 2 [none] [(3, 3), (0, 3), (3, 2147483647)]) = true := by decide +kernel
set_option maxRecDepth 1000000 in
theorem cb_join_18 : cl_is (cl_t (cl_lf 0 0 127 301 100000) 2 [none] [(0, 3), (4, 2147483647), ((-2147483648), 2147483647)]) = true := by decide +kernel
set_option maxRecDepth 1000000 in
theorem cb_join_19 : cl_is (cl_t (cl_lf 0 0 127 301 100000) 2 [none] [(4, 2147483647), ((-2147483648), 2147483647), ((-2147483648), 2147483647)]) = true := by decide +kernel
theorem cd_join {W : xi_W} (hW : ag_w (fw_w, [], 680) W) (x0 x1 x2 : Int32) (h : cl_in [((-2147483648), 2147483647), ((-2147483648), 2147483647), ((-2147483648), 2147483647)] [x0, x1, x2]) : cl_ok 0 0 127 301 W [x0, x1, x2] := (cl_cut [((-2147483648), 2147483647), ((-2147483648), 2147483647), ((-2147483648), 2147483647)] 0 0 [x0, x1, x2] h).elim (fun h => cl_of cb_join_0 hW h) (fun h => (cl_cut [(0, 2147483647), ((-2147483648), 2147483647), ((-2147483648), 2147483647)] 0 4 [x0, x1, x2] h).elim (fun h => (cl_cut [(0, 3), ((-2147483648), 2147483647), ((-2147483648), 2147483647)] 1 0 [x0, x1, x2] h).elim (fun h => cl_of cb_join_1 hW h) (fun h => (cl_cut [(0, 3), (0, 2147483647), ((-2147483648), 2147483647)] 1 4 [x0, x1, x2] h).elim (fun h => (cl_cut [(0, 3), (0, 3), ((-2147483648), 2147483647)] 0 1 [x0, x1, x2] h).elim (fun h => (cl_cut [(0, 0), (0, 3), ((-2147483648), 2147483647)] 2 0 [x0, x1, x2] h).elim (fun h => cl_of cb_join_2 hW h) (fun h => (cl_cut [(0, 0), (0, 3), (0, 2147483647)] 2 3 [x0, x1, x2] h).elim (fun h => (cl_cut [(0, 0), (0, 3), (0, 2)] 1 1 [x0, x1, x2] h).elim (fun h => cl_of cb_join_3 hW h) (fun h => cl_of cb_join_4 hW h)) (fun h => cl_of cb_join_5 hW h))) (fun h => (cl_cut [(1, 3), (0, 3), ((-2147483648), 2147483647)] 0 2 [x0, x1, x2] h).elim (fun h => (cl_cut [(1, 1), (0, 3), ((-2147483648), 2147483647)] 2 0 [x0, x1, x2] h).elim (fun h => cl_of cb_join_6 hW h) (fun h => (cl_cut [(1, 1), (0, 3), (0, 2147483647)] 2 3 [x0, x1, x2] h).elim (fun h => (cl_cut [(1, 1), (0, 3), (0, 2)] 1 1 [x0, x1, x2] h).elim (fun h => cl_of cb_join_7 hW h) (fun h => cl_of cb_join_8 hW h)) (fun h => cl_of cb_join_9 hW h))) (fun h => (cl_cut [(2, 3), (0, 3), ((-2147483648), 2147483647)] 0 3 [x0, x1, x2] h).elim (fun h => (cl_cut [(2, 2), (0, 3), ((-2147483648), 2147483647)] 2 0 [x0, x1, x2] h).elim (fun h => cl_of cb_join_10 hW h) (fun h => (cl_cut [(2, 2), (0, 3), (0, 2147483647)] 2 3 [x0, x1, x2] h).elim (fun h => (cl_cut [(2, 2), (0, 3), (0, 2)] 1 1 [x0, x1, x2] h).elim (fun h => cl_of cb_join_11 hW h) (fun h => cl_of cb_join_12 hW h)) (fun h => cl_of cb_join_13 hW h))) (fun h => (cl_cut [(3, 3), (0, 3), ((-2147483648), 2147483647)] 2 0 [x0, x1, x2] h).elim (fun h => cl_of cb_join_14 hW h) (fun h => (cl_cut [(3, 3), (0, 3), (0, 2147483647)] 2 3 [x0, x1, x2] h).elim (fun h => (cl_cut [(3, 3), (0, 3), (0, 2)] 1 1 [x0, x1, x2] h).elim (fun h => cl_of cb_join_15 hW h) (fun h => cl_of cb_join_16 hW h)) (fun h => cl_of cb_join_17 hW h)))))) (fun h => cl_of cb_join_18 hW h))) (fun h => cl_of cb_join_19 hW h))
theorem cs_join {W : xi_W} (hW : ag_w (fw_w, [], 680) W) (x0 x1 x2 : Int32) : cl_ok 0 0 127 301 W [x0, x1, x2] := cd_join hW x0 x1 x2 ⟨cl_top x0, ⟨cl_top x1, ⟨cl_top x2, trivial⟩⟩⟩
set_option maxRecDepth 1000000 in
theorem cb_torn_0 : cl_is (cl_t (cl_lf 0 0 133 309 100000) 4 [some (0, 0), none, some (0, 4), none, none] [((-2147483648), 2147483647)]) = true := by decide +kernel
theorem cd_torn {W : xi_W} (hW : ag_w (fw_w, [], 680) W) (x0 : Int32) (h : cl_in [((-2147483648), 2147483647)] [x0]) : cl_ok 0 0 133 309 W [x0] := cl_of cb_torn_0 hW h
theorem cs_torn {W : xi_W} (hW : ag_w (fw_w, [], 680) W) (x0 : Int32) : cl_ok 0 0 133 309 W [x0] := cd_torn hW x0 ⟨cl_top x0, trivial⟩
