/-! YEARS on fresh objects, for all ints -/
set_option maxRecDepth 1000000 in
theorem cb_years_0 : cl_is (cl_t (cl_lf 0 0 108 276 1000) 2 [none] [(-2147483648, -1), (-2147483648, 2147483647)]) = true := by decide +kernel
set_option maxRecDepth 1000000 in
theorem cb_years_1 : cl_is (cl_t (cl_lf 0 0 108 276 1000) 2 [none] [(10000, 2147483647), (-2147483648, 2147483647)]) = true := by decide +kernel
set_option maxRecDepth 1000000 in
theorem cb_years_2 : cl_is (cl_t (cl_lf 0 0 108 276 1000) 2 [none] [(0, 9999), (-2147483648, 0)]) = true := by decide +kernel
set_option maxRecDepth 1000000 in
theorem cb_years_3 : cl_is (cl_t (cl_lf 0 0 108 276 1000) 2 [none] [(0, 9999), (25, 2147483647)]) = true := by decide +kernel
theorem sm_of0 (x : Int32) (h : 0 ≤ x.toInt) : Int32.ofNat x.toInt.toNat = x := by
  apply Int32.toInt_inj.mp
  have := x.toInt_lt
  rw [n_int (show x.toInt.toNat < 2147483648 by omega)]
  omega
theorem cs_years {W : xi_W} (hW : ag_w (fw_w, [], 680) W) (x0 x1 : Int32) : cl_ok 0 0 108 276 W [x0, x1] := by
  have a0 := cl_top x0
  have a1 := cl_top x1
  by_cases h0 : x0.toInt < 0
  · exact cl_of cb_years_0 hW ⟨⟨a0.1, by show x0.toInt ≤ -1; omega⟩, a1, trivial⟩
  · by_cases h1 : 9999 < x0.toInt
    · exact cl_of cb_years_1 hW ⟨⟨by show 10000 ≤ x0.toInt; omega, a0.2⟩, a1, trivial⟩
    · by_cases h2 : x1.toInt < 1
      · exact cl_of cb_years_2 hW ⟨⟨by show 0 ≤ x0.toInt; omega, by show x0.toInt ≤ 9999; omega⟩, ⟨a1.1, by show x1.toInt ≤ 0; omega⟩, trivial⟩
      · by_cases h3 : 24 < x1.toInt
        · exact cl_of cb_years_3 hW ⟨⟨by show 0 ≤ x0.toInt; omega, by show x0.toInt ≤ 9999; omega⟩, ⟨by show 25 ≤ x1.toInt; omega, a1.2⟩, trivial⟩
        · obtain ⟨v, W2, W3, k1, k2⟩ := yr_same (fw_wq hW) x0.toInt.toNat x1.toInt.toNat (by omega) (by omega) (by omega)
          rw [sm_of0 x0 (by omega), sm_of0 x1 (by omega)] at k1 k2
          exact ⟨v, W2, W3, 0, 0, 0, 0, k1, k2, Nat.le_refl 0, Nat.le_refl 0⟩
