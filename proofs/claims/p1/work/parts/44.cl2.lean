/-! the calls: feed reset clear send values entry context cloud of acked need would digest same below all parts unlike spared winner fields sum behind freshest quiet till speaks said -/
set_option maxRecDepth 1000000 in
theorem cb_feed : cl_is (cl_t (cl_lf 0 0 96 188 100000) 2 [none] [(-2147483648, 2147483647), (-2147483648, 2147483647), (-2147483648, 2147483647), (-2147483648, 2147483647), (-2147483648, 2147483647)]) = true := by decide +kernel
theorem cs_feed {W : xi_W} (hW : ag_w (fw_w, [], 680) W) (x0 x1 x2 x3 x4 : Int32) : cl_ok 0 0 96 188 W [x0, x1, x2, x3, x4] := cl_of cb_feed hW ⟨cl_top x0, ⟨cl_top x1, ⟨cl_top x2, ⟨cl_top x3, ⟨cl_top x4, trivial⟩⟩⟩⟩⟩
set_option maxRecDepth 1000000 in
theorem cb_clear : cl_is (cl_t (cl_lf 0 0 103 268 100000) 8 [some (0, 0), none, some (0, 4), some (1, 0), none, some (1, 4), some (2, 0), none, some (2, 3), none, none, none, none] [(-2147483648, 2147483647), (-2147483648, 2147483647), (-2147483648, 2147483647)]) = true := by decide +kernel
theorem cs_clear {W : xi_W} (hW : ag_w (fw_w, [], 680) W) (x0 x1 x2 : Int32) : cl_ok 0 0 103 268 W [x0, x1, x2] := cl_of cb_clear hW ⟨cl_top x0, ⟨cl_top x1, ⟨cl_top x2, trivial⟩⟩⟩
set_option maxRecDepth 1000000 in
theorem cb_reset : cl_is (cl_t (cl_lf 0 0 104 269 100000) 6 [some (0, 0), none, some (0, 4), some (1, 0), none, some (1, 4), none, none, none] [(-2147483648, 2147483647), (-2147483648, 2147483647)]) = true := by decide +kernel
theorem cs_reset {W : xi_W} (hW : ag_w (fw_w, [], 680) W) (x0 x1 : Int32) : cl_ok 0 0 104 269 W [x0, x1] := cl_of cb_reset hW ⟨cl_top x0, ⟨cl_top x1, trivial⟩⟩
set_option maxRecDepth 1000000 in
theorem cb_send : cl_is (cl_t (cl_lf 0 0 105 270 100000) 11 [some (0, 0), none, some (0, 4), some (1, 0), none, some (1, 4), some (0, 1), some (1, 1), none, none, some (0, 2), some (1, 1), none, some (1, 2), none, none, some (0, 3), some (1, 2), none, some (1, 3), none, none, some (1, 3), none, none, none, none] [(-2147483648, 2147483647), (-2147483648, 2147483647)]) = true := by decide +kernel
theorem cs_send {W : xi_W} (hW : ag_w (fw_w, [], 680) W) (x0 x1 : Int32) : cl_ok 0 0 105 270 W [x0, x1] := cl_of cb_send hW ⟨cl_top x0, ⟨cl_top x1, trivial⟩⟩
set_option maxRecDepth 1000000 in
theorem cb_values : cl_is (cl_t (cl_lf 0 0 110 278 100000) 10 [some (0, 0), none, some (0, 4), some (1, 0), none, some (1, 4), some (2, 0), none, some (2, 3), some (3, (-1)), none, some (3, 0), none, none, none, none, none] [(-2147483648, 2147483647), (-2147483648, 2147483647), (-2147483648, 2147483647), (-2147483648, 2147483647)]) = true := by decide +kernel
theorem cs_values {W : xi_W} (hW : ag_w (fw_w, [], 680) W) (x0 x1 x2 x3 : Int32) : cl_ok 0 0 110 278 W [x0, x1, x2, x3] := cl_of cb_values hW ⟨cl_top x0, ⟨cl_top x1, ⟨cl_top x2, ⟨cl_top x3, trivial⟩⟩⟩⟩
set_option maxRecDepth 1000000 in
theorem cb_entry : cl_is (cl_t (cl_lf 0 0 111 279 100000) 9 [some (0, 0), none, some (0, 4), some (1, (-1)), none, some (1, 0), some (0, 1), none, some (0, 2), none, some (0, 3), none, none, none, none] [(-2147483648, 2147483647), (-2147483648, 2147483647), (-2147483648, 2147483647)]) = true := by decide +kernel
theorem cs_entry {W : xi_W} (hW : ag_w (fw_w, [], 680) W) (x0 x1 x2 : Int32) : cl_ok 0 0 111 279 W [x0, x1, x2] := cl_of cb_entry hW ⟨cl_top x0, ⟨cl_top x1, ⟨cl_top x2, trivial⟩⟩⟩
set_option maxRecDepth 1000000 in
theorem cb_context : cl_is (cl_t (cl_lf 0 0 112 280 100000) 12 [some (0, 0), none, some (0, 4), some (1, 0), none, some (1, 4), some (0, 1), some (1, 1), none, some (1, 2), none, some (1, 3), none, none, some (0, 2), some (1, 1), none, some (1, 2), none, some (1, 3), none, none, some (0, 3), some (1, 1), none, some (1, 2), none, some (1, 3), none, none, some (1, 1), none, some (1, 2), none, some (1, 3), none, none, none, none] [(-2147483648, 2147483647), (-2147483648, 2147483647)]) = true := by decide +kernel
theorem cs_context {W : xi_W} (hW : ag_w (fw_w, [], 680) W) (x0 x1 : Int32) : cl_ok 0 0 112 280 W [x0, x1] := cl_of cb_context hW ⟨cl_top x0, ⟨cl_top x1, trivial⟩⟩
set_option maxRecDepth 1000000 in
theorem cb_cloud : cl_is (cl_t (cl_lf 0 0 113 282 100000) 11 [some (0, 0), none, some (0, 4), some (1, 0), none, some (1, 4), some (0, 1), some (1, 1), none, none, some (0, 2), some (1, 1), none, some (1, 2), none, none, some (0, 3), some (1, 2), none, some (1, 3), none, none, some (1, 3), none, none, none, none] [(-2147483648, 2147483647), (-2147483648, 2147483647), (-2147483648, 2147483647), (-2147483648, 2147483647)]) = true := by decide +kernel
theorem cs_cloud {W : xi_W} (hW : ag_w (fw_w, [], 680) W) (x0 x1 x2 x3 : Int32) : cl_ok 0 0 113 282 W [x0, x1, x2, x3] := cl_of cb_cloud hW ⟨cl_top x0, ⟨cl_top x1, ⟨cl_top x2, ⟨cl_top x3, trivial⟩⟩⟩⟩
set_option maxRecDepth 1000000 in
theorem cb_of : cl_is (cl_t (cl_lf 0 0 116 286 100000) 12 [some (0, 0), none, some (0, 4), some (1, 0), none, some (1, 4), some (0, 1), some (1, 1), none, some (1, 2), none, some (1, 3), none, none, some (0, 2), some (1, 1), none, some (1, 2), none, some (1, 3), none, none, some (0, 3), some (1, 1), none, some (1, 2), none, some (1, 3), none, none, some (1, 1), none, some (1, 2), none, some (1, 3), none, none, none, none] [(-2147483648, 2147483647), (-2147483648, 2147483647)]) = true := by decide +kernel
theorem cs_of {W : xi_W} (hW : ag_w (fw_w, [], 680) W) (x0 x1 : Int32) : cl_ok 0 0 116 286 W [x0, x1] := cl_of cb_of hW ⟨cl_top x0, ⟨cl_top x1, trivial⟩⟩
set_option maxRecDepth 1000000 in
theorem cb_acked : cl_is (cl_t (cl_lf 0 0 117 287 100000) 11 [some (0, 0), none, some (0, 4), some (1, 0), none, some (1, 4), some (0, 1), some (1, 1), none, none, some (0, 2), some (1, 1), none, some (1, 2), none, none, some (0, 3), some (1, 2), none, some (1, 3), none, none, some (1, 3), none, none, none, none] [(-2147483648, 2147483647), (-2147483648, 2147483647)]) = true := by decide +kernel
theorem cs_acked {W : xi_W} (hW : ag_w (fw_w, [], 680) W) (x0 x1 : Int32) : cl_ok 0 0 117 287 W [x0, x1] := cl_of cb_acked hW ⟨cl_top x0, ⟨cl_top x1, trivial⟩⟩
set_option maxRecDepth 1000000 in
theorem cb_need : cl_is (cl_t (cl_lf 0 0 122 296 100000) 11 [some (0, 0), none, some (0, 4), some (1, 0), none, some (1, 4), some (0, 1), some (1, 1), none, none, some (0, 2), some (1, 1), none, some (1, 2), none, none, some (0, 3), some (1, 2), none, some (1, 3), none, none, some (1, 3), none, none, none, none] [(-2147483648, 2147483647), (-2147483648, 2147483647)]) = true := by decide +kernel
theorem cs_need {W : xi_W} (hW : ag_w (fw_w, [], 680) W) (x0 x1 : Int32) : cl_ok 0 0 122 296 W [x0, x1] := cl_of cb_need hW ⟨cl_top x0, ⟨cl_top x1, trivial⟩⟩
set_option maxRecDepth 1000000 in
theorem cb_would : cl_is (cl_t (cl_lf 0 0 123 297 100000) 11 [some (0, 0), none, some (0, 4), some (1, 0), none, some (1, 4), some (0, 1), some (1, 1), none, none, some (0, 2), some (1, 1), none, some (1, 2), none, none, some (0, 3), some (1, 2), none, some (1, 3), none, none, some (1, 3), none, none, none, none] [(-2147483648, 2147483647), (-2147483648, 2147483647), (-2147483648, 2147483647)]) = true := by decide +kernel
theorem cs_would {W : xi_W} (hW : ag_w (fw_w, [], 680) W) (x0 x1 x2 : Int32) : cl_ok 0 0 123 297 W [x0, x1, x2] := cl_of cb_would hW ⟨cl_top x0, ⟨cl_top x1, ⟨cl_top x2, trivial⟩⟩⟩
set_option maxRecDepth 1000000 in
theorem cb_digest : cl_is (cl_t (cl_lf 0 0 124 298 100000) 4 [some (0, 0), none, some (0, 4), none, none] [(-2147483648, 2147483647)]) = true := by decide +kernel
theorem cs_digest {W : xi_W} (hW : ag_w (fw_w, [], 680) W) (x0 : Int32) : cl_ok 0 0 124 298 W [x0] := cl_of cb_digest hW ⟨cl_top x0, trivial⟩
set_option maxRecDepth 1000000 in
theorem cb_same : cl_is (cl_t (cl_lf 0 0 125 299 100000) 6 [some (0, 0), none, some (0, 4), some (1, 0), none, some (1, 4), none, none, none] [(-2147483648, 2147483647), (-2147483648, 2147483647)]) = true := by decide +kernel
theorem cs_same {W : xi_W} (hW : ag_w (fw_w, [], 680) W) (x0 x1 : Int32) : cl_ok 0 0 125 299 W [x0, x1] := cl_of cb_same hW ⟨cl_top x0, ⟨cl_top x1, trivial⟩⟩
set_option maxRecDepth 1000000 in
theorem cb_below : cl_is (cl_t (cl_lf 0 0 126 300 100000) 9 [some (0, 0), none, some (0, 4), some (1, 0), none, some (1, 4), some (0, 1), none, some (0, 2), none, some (0, 3), none, none, none, none] [(-2147483648, 2147483647), (-2147483648, 2147483647)]) = true := by decide +kernel
theorem cs_below {W : xi_W} (hW : ag_w (fw_w, [], 680) W) (x0 x1 : Int32) : cl_ok 0 0 126 300 W [x0, x1] := cl_of cb_below hW ⟨cl_top x0, ⟨cl_top x1, trivial⟩⟩
set_option maxRecDepth 1000000 in
theorem cb_all : cl_is (cl_t (cl_lf 0 0 128 303 100000) 6 [some (0, 0), none, some (0, 3), some (0, 1), none, some (0, 2), none, none, none] [(-2147483648, 2147483647)]) = true := by decide +kernel
theorem cs_all {W : xi_W} (hW : ag_w (fw_w, [], 680) W) (x0 : Int32) : cl_ok 0 0 128 303 W [x0] := cl_of cb_all hW ⟨cl_top x0, trivial⟩
set_option maxRecDepth 1000000 in
theorem cb_parts : cl_is (cl_t (cl_lf 0 0 129 304 100000) 7 [some (0, 0), none, some (0, 4), some (0, 1), none, some (0, 2), none, some (0, 3), none, none, none] [(-2147483648, 2147483647)]) = true := by decide +kernel
theorem cs_parts {W : xi_W} (hW : ag_w (fw_w, [], 680) W) (x0 : Int32) : cl_ok 0 0 129 304 W [x0] := cl_of cb_parts hW ⟨cl_top x0, trivial⟩
set_option maxRecDepth 1000000 in
theorem cb_unlike : cl_is (cl_t (cl_lf 0 0 130 306 100000) 6 [some (0, 0), none, some (0, 4), some (1, 0), none, some (1, 4), none, none, none] [(-2147483648, 2147483647), (-2147483648, 2147483647)]) = true := by decide +kernel
theorem cs_unlike {W : xi_W} (hW : ag_w (fw_w, [], 680) W) (x0 x1 : Int32) : cl_ok 0 0 130 306 W [x0, x1] := cl_of cb_unlike hW ⟨cl_top x0, ⟨cl_top x1, trivial⟩⟩
set_option maxRecDepth 1000000 in
theorem cb_spared : cl_is (cl_t (cl_lf 0 0 131 307 100000) 6 [some (0, 0), none, some (0, 4), some (1, 0), none, some (1, 4), none, none, none] [(-2147483648, 2147483647), (-2147483648, 2147483647)]) = true := by decide +kernel
theorem cs_spared {W : xi_W} (hW : ag_w (fw_w, [], 680) W) (x0 x1 : Int32) : cl_ok 0 0 131 307 W [x0, x1] := cl_of cb_spared hW ⟨cl_top x0, ⟨cl_top x1, trivial⟩⟩
set_option maxRecDepth 1000000 in
theorem cb_winner : cl_is (cl_t (cl_lf 0 0 132 308 100000) 8 [some (0, 0), none, some (0, 4), some (1, 0), none, some (1, 4), some (2, 0), none, some (2, 3), none, none, none, none] [(-2147483648, 2147483647), (-2147483648, 2147483647), (-2147483648, 2147483647)]) = true := by decide +kernel
theorem cs_winner {W : xi_W} (hW : ag_w (fw_w, [], 680) W) (x0 x1 x2 : Int32) : cl_ok 0 0 132 308 W [x0, x1, x2] := cl_of cb_winner hW ⟨cl_top x0, ⟨cl_top x1, ⟨cl_top x2, trivial⟩⟩⟩
set_option maxRecDepth 1000000 in
theorem cb_fields : cl_is (cl_t (cl_lf 0 0 134 310 100000) 6 [some (0, 0), none, some (0, 4), some (1, 0), none, some (1, 4), none, none, none] [(-2147483648, 2147483647), (-2147483648, 2147483647)]) = true := by decide +kernel
theorem cs_fields {W : xi_W} (hW : ag_w (fw_w, [], 680) W) (x0 x1 : Int32) : cl_ok 0 0 134 310 W [x0, x1] := cl_of cb_fields hW ⟨cl_top x0, ⟨cl_top x1, trivial⟩⟩
set_option maxRecDepth 1000000 in
theorem cb_sum : cl_is (cl_t (cl_lf 0 0 135 311 100000) 6 [some (0, 0), none, some (0, 4), some (1, 0), none, some (1, 4), none, none, none] [(-2147483648, 2147483647), (-2147483648, 2147483647)]) = true := by decide +kernel
theorem cs_sum {W : xi_W} (hW : ag_w (fw_w, [], 680) W) (x0 x1 : Int32) : cl_ok 0 0 135 311 W [x0, x1] := cl_of cb_sum hW ⟨cl_top x0, ⟨cl_top x1, trivial⟩⟩
set_option maxRecDepth 1000000 in
theorem cb_behind : cl_is (cl_t (cl_lf 0 0 137 313 100000) 7 [some (0, 0), none, some (0, 4), some (0, 1), none, some (0, 2), none, some (0, 3), none, none, none] [(-2147483648, 2147483647)]) = true := by decide +kernel
theorem cs_behind {W : xi_W} (hW : ag_w (fw_w, [], 680) W) (x0 : Int32) : cl_ok 0 0 137 313 W [x0] := cl_of cb_behind hW ⟨cl_top x0, trivial⟩
set_option maxRecDepth 1000000 in
theorem cb_freshest : cl_is (cl_t (cl_lf 0 0 138 314 100000) 2 [none] []) = true := by decide +kernel
theorem cs_freshest {W : xi_W} (hW : ag_w (fw_w, [], 680) W) : cl_ok 0 0 138 314 W [] := cl_of cb_freshest hW trivial
set_option maxRecDepth 1000000 in
theorem cb_quiet : cl_is (cl_t (cl_lf 0 0 139 316 100000) 2 [none] []) = true := by decide +kernel
theorem cs_quiet {W : xi_W} (hW : ag_w (fw_w, [], 680) W) : cl_ok 0 0 139 316 W [] := cl_of cb_quiet hW trivial
set_option maxRecDepth 1000000 in
theorem cb_till : cl_is (cl_t (cl_lf 0 0 140 317 100000) 2 [none] []) = true := by decide +kernel
theorem cs_till {W : xi_W} (hW : ag_w (fw_w, [], 680) W) : cl_ok 0 0 140 317 W [] := cl_of cb_till hW trivial
set_option maxRecDepth 1000000 in
theorem cb_speaks : cl_is (cl_t (cl_lf 0 0 141 318 100000) 11 [some (0, 0), none, some (0, 4), some (1, 0), none, some (1, 4), some (0, 1), some (1, 1), none, none, some (0, 2), some (1, 1), none, some (1, 2), none, none, some (0, 3), some (1, 2), none, some (1, 3), none, none, some (1, 3), none, none, none, none] [(-2147483648, 2147483647), (-2147483648, 2147483647)]) = true := by decide +kernel
theorem cs_speaks {W : xi_W} (hW : ag_w (fw_w, [], 680) W) (x0 x1 : Int32) : cl_ok 0 0 141 318 W [x0, x1] := cl_of cb_speaks hW ⟨cl_top x0, ⟨cl_top x1, trivial⟩⟩
set_option maxRecDepth 1000000 in
theorem cb_said : cl_is (cl_t (cl_lf 0 0 142 319 100000) 18 [some (0, (-1)), none, some (0, 0), none, some (0, 4), some (1, 0), none, some (1, 4), some (0, 1), some (1, 1), none, some (2, 0), none, some (2, 99), some (3, 0), none, some (3, 1), none, some (3, 2), none, none, some (2, 100), some (3, 0), none, some (3, 1), none, some (3, 2), none, none, none, some (0, 2), some (1, 1), some (2, 0), none, some (2, 99), some (3, 0), none, some (3, 1), none, some (3, 2), none, none, some (2, 100), some (3, 0), none, some (3, 1), none, some (3, 2), none, none, none, some (1, 2), none, some (2, 0), none, some (2, 99), some (3, 0), none, some (3, 1), none, some (3, 2), none, none, some (2, 100), some (3, 0), none, some (3, 1), none, some (3, 2), none, none, none, some (0, 3), some (1, 2), some (2, 0), none, some (2, 99), some (3, 0), none, some (3, 1), none, some (3, 2), none, none, some (2, 100), some (3, 0), none, some (3, 1), none, some (3, 2), none, none, none, some (1, 3), none, some (2, 0), none, some (2, 99), some (3, 0), none, some (3, 1), none, some (3, 2), none, none, some (2, 100), some (3, 0), none, some (3, 1), none, some (3, 2), none, none, none, some (1, 3), some (2, 0), none, some (2, 99), some (3, 0), none, some (3, 1), none, some (3, 2), none, none, some (2, 100), some (3, 0), none, some (3, 1), none, some (3, 2), none, none, none, none, none, none] [(-2147483648, 2147483647), (-2147483648, 2147483647), (-2147483648, 2147483647), (-2147483648, 2147483647)]) = true := by decide +kernel
theorem cs_said {W : xi_W} (hW : ag_w (fw_w, [], 680) W) (x0 x1 x2 x3 : Int32) : cl_ok 0 0 142 319 W [x0, x1, x2, x3] := cl_of cb_said hW ⟨cl_top x0, ⟨cl_top x1, ⟨cl_top x2, ⟨cl_top x3, trivial⟩⟩⟩⟩
