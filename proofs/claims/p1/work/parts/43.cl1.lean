/-! the calls: end text fault by delay played undo about whose back image ledger share is flight book delta -/
set_option maxRecDepth 1000000 in
theorem cb_end : cl_is (cl_t (cl_lf 0 0 97 189 100000) 4 [some (0, 0), none, some (0, 1), none, none] [(-2147483648, 2147483647)]) = true := by decide +kernel
theorem cs_end {W : xi_W} (hW : ag_w (fw_w, [], 680) W) (x0 : Int32) : cl_ok 0 0 97 189 W [x0] := cl_of cb_end hW ⟨cl_top x0, trivial⟩
set_option maxRecDepth 1000000 in
theorem cb_text : cl_is (cl_t (cl_lf 4 8 98 228 100000) 2 [none] []) = true := by decide +kernel
theorem cs_text {W : xi_W} (hW : ag_w (fw_w, [], 680) W) : cl_ok 4 8 98 228 W [] := cl_of cb_text hW trivial
set_option maxRecDepth 1000000 in
theorem cb_fault : cl_is (cl_t (cl_lf 0 0 99 229 100000) 5 [some (0, 0), none, some (0, 1), none, some (0, 2), none, none] [(-2147483648, 2147483647)]) = true := by decide +kernel
theorem cs_fault {W : xi_W} (hW : ag_w (fw_w, [], 680) W) (x0 : Int32) : cl_ok 0 0 99 229 W [x0] := cl_of cb_fault hW ⟨cl_top x0, trivial⟩
set_option maxRecDepth 1000000 in
theorem cb_by : cl_is (cl_t (cl_lf 0 0 100 230 100000) 4 [some (0, (-1)), none, some (0, 0), none, none] [(-2147483648, 2147483647)]) = true := by decide +kernel
theorem cs_by {W : xi_W} (hW : ag_w (fw_w, [], 680) W) (x0 : Int32) : cl_ok 0 0 100 230 W [x0] := cl_of cb_by hW ⟨cl_top x0, trivial⟩
set_option maxRecDepth 1000000 in
theorem cb_delay : cl_is (cl_t (cl_lf 0 0 101 266 100000) 5 [some (0, 1), none, some (0, 9), none, some (0, 10), none, none] [(-2147483648, 2147483647)]) = true := by decide +kernel
theorem cs_delay {W : xi_W} (hW : ag_w (fw_w, [], 680) W) (x0 : Int32) : cl_ok 0 0 101 266 W [x0] := cl_of cb_delay hW ⟨cl_top x0, trivial⟩
set_option maxRecDepth 1000000 in
theorem cb_played : cl_is (cl_t (cl_lf 0 0 107 274 100000) 3 [some (0, 0), none, none] [(-2147483648, 2147483647)]) = true := by decide +kernel
theorem cs_played {W : xi_W} (hW : ag_w (fw_w, [], 680) W) (x0 : Int32) : cl_ok 0 0 107 274 W [x0] := cl_of cb_played hW ⟨cl_top x0, trivial⟩
set_option maxRecDepth 1000000 in
theorem cb_undo : cl_is (cl_t (cl_lf 0 0 109 265 100000) 2 [none] []) = true := by decide +kernel
theorem cs_undo {W : xi_W} (hW : ag_w (fw_w, [], 680) W) : cl_ok 0 0 109 265 W [] := cl_of cb_undo hW trivial
set_option maxRecDepth 1000000 in
theorem cb_delta : cl_is (cl_t (cl_lf 0 0 115 284 100000) 6 [some (0, 0), none, some (0, 4), some (1, (-1)), none, some (1, 0), none, none, none] [(-2147483648, 2147483647), (-2147483648, 2147483647), (-2147483648, 2147483647)]) = true := by decide +kernel
theorem cs_delta {W : xi_W} (hW : ag_w (fw_w, [], 680) W) (x0 x1 x2 : Int32) : cl_ok 0 0 115 284 W [x0, x1, x2] := cl_of cb_delta hW ⟨cl_top x0, ⟨cl_top x1, ⟨cl_top x2, trivial⟩⟩⟩
set_option maxRecDepth 1000000 in
theorem cb_flight : cl_is (cl_t (cl_lf 0 0 118 288 100000) 4 [some (0, (-1)), none, some (0, 0), none, none] [(-2147483648, 2147483647), (-2147483648, 2147483647)]) = true := by decide +kernel
theorem cs_flight {W : xi_W} (hW : ag_w (fw_w, [], 680) W) (x0 x1 : Int32) : cl_ok 0 0 118 288 W [x0, x1] := cl_of cb_flight hW ⟨cl_top x0, ⟨cl_top x1, trivial⟩⟩
set_option maxRecDepth 1000000 in
theorem cb_is : cl_is (cl_t (cl_lf 0 0 119 289 100000) 7 [some (0, 0), none, some (0, 4), some (0, 1), none, some (0, 2), none, some (0, 3), none, none, none] [(-2147483648, 2147483647)]) = true := by decide +kernel
theorem cs_is {W : xi_W} (hW : ag_w (fw_w, [], 680) W) (x0 : Int32) : cl_ok 0 0 119 289 W [x0] := cl_of cb_is hW ⟨cl_top x0, trivial⟩
set_option maxRecDepth 1000000 in
theorem cb_book : cl_is (cl_t (cl_lf 0 0 120 291 100000) 4 [some (0, (-1)), none, some (0, 0), none, none] [(-2147483648, 2147483647), (-2147483648, 2147483647)]) = true := by decide +kernel
theorem cs_book {W : xi_W} (hW : ag_w (fw_w, [], 680) W) (x0 x1 : Int32) : cl_ok 0 0 120 291 W [x0, x1] := cl_of cb_book hW ⟨cl_top x0, ⟨cl_top x1, trivial⟩⟩
set_option maxRecDepth 1000000 in
theorem cb_share : cl_is (cl_t (cl_lf 0 0 136 312 100000) 6 [some (0, 0), none, some (0, 4), some (1, 0), none, some (1, 4), none, none, none] [(-2147483648, 2147483647), (-2147483648, 2147483647)]) = true := by decide +kernel
theorem cs_share {W : xi_W} (hW : ag_w (fw_w, [], 680) W) (x0 x1 : Int32) : cl_ok 0 0 136 312 W [x0, x1] := cl_of cb_share hW ⟨cl_top x0, ⟨cl_top x1, trivial⟩⟩
set_option maxRecDepth 1000000 in
theorem cb_whose : cl_is (cl_t (cl_lf 0 0 143 320 100000) 2 [none] []) = true := by decide +kernel
theorem cs_whose {W : xi_W} (hW : ag_w (fw_w, [], 680) W) : cl_ok 0 0 143 320 W [] := cl_of cb_whose hW trivial
set_option maxRecDepth 1000000 in
theorem cb_ledger : cl_is (cl_t (cl_lf 0 0 144 292 100000) 4 [some (0, 0), none, some (0, 5), none, none] [(-2147483648, 2147483647)]) = true := by decide +kernel
theorem cs_ledger {W : xi_W} (hW : ag_w (fw_w, [], 680) W) (x0 : Int32) : cl_ok 0 0 144 292 W [x0] := cl_of cb_ledger hW ⟨cl_top x0, trivial⟩
set_option maxRecDepth 1000000 in
theorem cb_image : cl_is (cl_t (cl_lf 0 0 145 321 100000) 2 [none] []) = true := by decide +kernel
theorem cs_image {W : xi_W} (hW : ag_w (fw_w, [], 680) W) : cl_ok 0 0 145 321 W [] := cl_of cb_image hW trivial
set_option maxRecDepth 1000000 in
theorem cb_back : cl_is (cl_t (cl_lf 0 0 146 322 100000) 2 [none] []) = true := by decide +kernel
theorem cs_back {W : xi_W} (hW : ag_w (fw_w, [], 680) W) : cl_ok 0 0 146 322 W [] := cl_of cb_back hW trivial
set_option maxRecDepth 1000000 in
theorem cb_about : cl_is (cl_t (cl_lf 0 0 147 323 100000) 9 [some (0, 0), none, some (0, 6), some (0, 1), none, some (0, 2), none, some (0, 3), none, some (0, 4), none, some (0, 5), none, none, none] [(-2147483648, 2147483647)]) = true := by decide +kernel
theorem cs_about {W : xi_W} (hW : ag_w (fw_w, [], 680) W) (x0 : Int32) : cl_ok 0 0 147 323 W [x0] := cl_of cb_about hW ⟨cl_top x0, trivial⟩
