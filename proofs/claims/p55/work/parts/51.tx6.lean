/-! the class: the two laws of the text -/
theorem tx_loses (d c s T M K CO CL BO NC p0 A B C D : Nat) (v : Value) (W : xi_W) (P : Nat → Nat) (g : Nat → Int32) (F : Nat → Nat) (hT : W[T]? = some (.inr (4, [v, .ref CL, .ref CO, .ref BO]))) (hc : W[CO]? = some (lw_i NC P)) (hNC : NC < 2147483648) (hk : W[K]? = some (lw_s 64 g)) (hg : 17 ≤ K) (hm : W[M]? = some (lw_i 14 F)) (hMK : M ≠ K) (hTK : T ≠ K) (hCK : CO ≠ K) (hp : p0 < 1000) (hz : 2 * (p0 + 16) ≤ NC) (hP : P (2 * (p0 + 0)) = 38 ∧ P (2 * (p0 + 0) + 1) = A ∧ P (2 * (p0 + 1)) = 41 ∧ P (2 * (p0 + 1) + 1) = 4 ∧ P (2 * (p0 + 2)) = 38 ∧ P (2 * (p0 + 2) + 1) = B ∧ P (2 * (p0 + 3)) = 32 ∧ P (2 * (p0 + 4)) = 30 ∧ P (2 * (p0 + 5)) = 41 ∧ P (2 * (p0 + 5) + 1) = 3 ∧ P (2 * (p0 + 6)) = 38 ∧ P (2 * (p0 + 6) + 1) = C ∧ P (2 * (p0 + 7)) = 31 ∧ P (2 * (p0 + 8)) = 38 ∧ P (2 * (p0 + 8) + 1) = 4 ∧ P (2 * (p0 + 9)) = 32 ∧ P (2 * (p0 + 10)) = 29 ∧ P (2 * (p0 + 11)) = 38 ∧ P (2 * (p0 + 11) + 1) = 1 ∧ P (2 * (p0 + 12)) = 17 ∧ P (2 * (p0 + 13)) = 38 ∧ P (2 * (p0 + 13) + 1) = D ∧ P (2 * (p0 + 14)) = 32 ∧ P (2 * (p0 + 15)) = 30) (hA : 1 ≤ A ∧ A ≤ 9) (hB : 1 ≤ B ∧ B ≤ 9) (hC : 1 ≤ C ∧ C ≤ 9) (hD : 1 ≤ D ∧ D ≤ 9) (h3 : F 3 < 2) (h4 : F 4 < 100) (h7 : F 7 < 100) (r : xi_R → Prop) (k : ∀ W' g2, W'[K]? = some (lw_s 64 g2) → fr (· = K) W W' → r (some (.int (Int32.ofInt ((((((A : Nat) : Int) - ((((F 4) / (B)) : Nat) : Int)) + ((((((F 3) * (C))) / (4)) : Nat) : Int)) - ((((F 7) / (D)) : Nat) : Int))))), W', c, s)) (L : xi_L) (hL : tx_L T M K 0 0 0 (p0 + 16) p0 L) : xr (d + 1) 69 28 L [] W c s r := by
  have q1 := Nat.div_le_self (F 4) B
  have q2 := Int.natCast_nonneg (F 4 / B)
  have m1 : F 3 * C ≤ 1 * 9 := Nat.mul_le_mul (by omega) hC.2
  have q3 := Nat.div_le_self (F 7) D
  have q4 := Int.natCast_nonneg (F 7 / D)
  obtain ⟨o0, x0, o1, x1, o2, x2, o3, o4, o5, x5, o6, x6, o7, o8, x8, o9, o10, o11, x11, o12, o13, x13, o14, o15⟩ := hP
  have hF : fr (· = K) W W := fr.rf
  refine tx_fetch _ _ _ T M K CO CL BO NC 0 v W P hT hc hNC 0 0 (p0 + 16) (p0 + 0) (by omega) (by omega) hz _ hL r ?_
  rw [o0, x0]
  refine tx_number _ _ _ T M K 0 W _ F hk hg hm hMK 0 0 (p0 + 16) (p0 + 0) (A) (by omega) r (fun W L hk hf1 hL => ?_)
  have hm := hf1.at hm hMK
  have hT := hf1.at hT hTK
  have hc := hf1.at hc hCK
  have hF := hF.tr hf1
  refine tx_fetch _ _ _ T M K CO CL BO NC 0 v W P hT hc hNC 1 1 (p0 + 16) (p0 + 1) (by omega) (by omega) hz _ hL r ?_
  rw [o1, x1]
  refine tx_named _ _ _ T M K 0 W _ F hk hg hm hMK 1 1 (p0 + 16) (p0 + 1) (4) (by omega) (by omega) r (fun W L hk hf1 hL => ?_)
  have hm := hf1.at hm hMK
  have hT := hf1.at hT hTK
  have hc := hf1.at hc hCK
  have hF := hF.tr hf1
  refine tx_fetch _ _ _ T M K CO CL BO NC 0 v W P hT hc hNC 2 2 (p0 + 16) (p0 + 2) (by omega) (by omega) hz _ hL r ?_
  rw [o2, x2]
  refine tx_number _ _ _ T M K 0 W _ F hk hg hm hMK 2 2 (p0 + 16) (p0 + 2) (B) (by omega) r (fun W L hk hf1 hL => ?_)
  have hm := hf1.at hm hMK
  have hT := hf1.at hT hTK
  have hc := hf1.at hc hCK
  have hF := hF.tr hf1
  refine tx_fetch _ _ _ T M K CO CL BO NC 0 v W P hT hc hNC 3 3 (p0 + 16) (p0 + 3) (by omega) (by omega) hz _ hL r ?_
  rw [o3]
  refine tx_ofTwo _ _ _ T M K 0 W _ F hk hg hm hMK 3 1 (p0 + 16) (p0 + 3) _ (by omega) 32 (by omega) tx_one32 (Int32.ofInt ((((F 4) / (B) : Nat) : Int))) (fun d c s W r q => ?_) r (fun W L hk hf1 hL => ?_)
  · change xr d 72 0 [(0, .int (Int32.ofNat 32)), (1, .int (Int32.ofNat (F 4))), (2, .int (Int32.ofNat (B)))] [] W c s r
    exact tx_over d c s W (F 4) (B) (by omega) (by omega) (by omega) r q
  have eV : Int32.ofInt ((((F 4) / (B) : Nat) : Int)) = Int32.ofNat (((F 4) / (B))) := Int32.ofInt_eq_ofNat
  rw [eV] at hk
  have hm := hf1.at hm hMK
  have hT := hf1.at hT hTK
  have hc := hf1.at hc hCK
  have hF := hF.tr hf1
  refine tx_fetch _ _ _ T M K CO CL BO NC 0 v W P hT hc hNC 4 2 (p0 + 16) (p0 + 4) (by omega) (by omega) hz _ hL r ?_
  rw [o4]
  refine tx_ofTwo _ _ _ T M K 0 W _ F hk hg hm hMK 4 0 (p0 + 16) (p0 + 4) _ (by omega) 30 (by omega) tx_one30 (Int32.ofInt (((A : Nat) : Int) - ((((F 4) / (B)) : Nat) : Int))) (fun d c s W r q => ?_) r (fun W L hk hf1 hL => ?_)
  · change xr d 72 0 [(0, .int (Int32.ofNat 30)), (1, .int (Int32.ofNat (A))), (2, .int (Int32.ofNat (((F 4) / (B)))))] [] W c s r
    rw [show Int32.ofNat (A) = Int32.ofInt ((A : Nat) : Int) from Int32.ofInt_eq_ofNat.symm]
    exact tx_minus d c s W (((A : Nat) : Int)) (((F 4) / (B))) (by omega) (by omega) r q
  have hm := hf1.at hm hMK
  have hT := hf1.at hT hTK
  have hc := hf1.at hc hCK
  have hF := hF.tr hf1
  refine tx_fetch _ _ _ T M K CO CL BO NC 0 v W P hT hc hNC 5 1 (p0 + 16) (p0 + 5) (by omega) (by omega) hz _ hL r ?_
  rw [o5, x5]
  refine tx_named _ _ _ T M K 0 W _ F hk hg hm hMK 5 1 (p0 + 16) (p0 + 5) (3) (by omega) (by omega) r (fun W L hk hf1 hL => ?_)
  have hm := hf1.at hm hMK
  have hT := hf1.at hT hTK
  have hc := hf1.at hc hCK
  have hF := hF.tr hf1
  refine tx_fetch _ _ _ T M K CO CL BO NC 0 v W P hT hc hNC 6 2 (p0 + 16) (p0 + 6) (by omega) (by omega) hz _ hL r ?_
  rw [o6, x6]
  refine tx_number _ _ _ T M K 0 W _ F hk hg hm hMK 6 2 (p0 + 16) (p0 + 6) (C) (by omega) r (fun W L hk hf1 hL => ?_)
  have hm := hf1.at hm hMK
  have hT := hf1.at hT hTK
  have hc := hf1.at hc hCK
  have hF := hF.tr hf1
  refine tx_fetch _ _ _ T M K CO CL BO NC 0 v W P hT hc hNC 7 3 (p0 + 16) (p0 + 7) (by omega) (by omega) hz _ hL r ?_
  rw [o7]
  refine tx_ofTwo _ _ _ T M K 0 W _ F hk hg hm hMK 7 1 (p0 + 16) (p0 + 7) _ (by omega) 31 (by omega) tx_one31 (Int32.ofInt ((((F 3) * (C) : Nat) : Int))) (fun d c s W r q => ?_) r (fun W L hk hf1 hL => ?_)
  · change xr d 72 0 [(0, .int (Int32.ofNat 31)), (1, .int (Int32.ofNat (F 3))), (2, .int (Int32.ofNat (C)))] [] W c s r
    exact tx_times d c s W (F 3) (C) (by omega) (by omega) (by omega) r q
  have eV : Int32.ofInt ((((F 3) * (C) : Nat) : Int)) = Int32.ofNat (((F 3) * (C))) := Int32.ofInt_eq_ofNat
  rw [eV] at hk
  have hm := hf1.at hm hMK
  have hT := hf1.at hT hTK
  have hc := hf1.at hc hCK
  have hF := hF.tr hf1
  refine tx_fetch _ _ _ T M K CO CL BO NC 0 v W P hT hc hNC 8 2 (p0 + 16) (p0 + 8) (by omega) (by omega) hz _ hL r ?_
  rw [o8, x8]
  refine tx_number _ _ _ T M K 0 W _ F hk hg hm hMK 8 2 (p0 + 16) (p0 + 8) (4) (by omega) r (fun W L hk hf1 hL => ?_)
  have hm := hf1.at hm hMK
  have hT := hf1.at hT hTK
  have hc := hf1.at hc hCK
  have hF := hF.tr hf1
  refine tx_fetch _ _ _ T M K CO CL BO NC 0 v W P hT hc hNC 9 3 (p0 + 16) (p0 + 9) (by omega) (by omega) hz _ hL r ?_
  rw [o9]
  refine tx_ofTwo _ _ _ T M K 0 W _ F hk hg hm hMK 9 1 (p0 + 16) (p0 + 9) _ (by omega) 32 (by omega) tx_one32 (Int32.ofInt ((((((F 3) * (C))) / (4) : Nat) : Int))) (fun d c s W r q => ?_) r (fun W L hk hf1 hL => ?_)
  · change xr d 72 0 [(0, .int (Int32.ofNat 32)), (1, .int (Int32.ofNat (((F 3) * (C))))), (2, .int (Int32.ofNat (4)))] [] W c s r
    exact tx_over d c s W (((F 3) * (C))) (4) (by omega) (by omega) (by omega) r q
  have eV : Int32.ofInt ((((((F 3) * (C))) / (4) : Nat) : Int)) = Int32.ofNat (((((F 3) * (C))) / (4))) := Int32.ofInt_eq_ofNat
  rw [eV] at hk
  have hm := hf1.at hm hMK
  have hT := hf1.at hT hTK
  have hc := hf1.at hc hCK
  have hF := hF.tr hf1
  refine tx_fetch _ _ _ T M K CO CL BO NC 0 v W P hT hc hNC 10 2 (p0 + 16) (p0 + 10) (by omega) (by omega) hz _ hL r ?_
  rw [o10]
  refine tx_ofTwo _ _ _ T M K 0 W _ F hk hg hm hMK 10 0 (p0 + 16) (p0 + 10) _ (by omega) 29 (by omega) tx_one29 (Int32.ofInt ((((A : Nat) : Int) - ((((F 4) / (B)) : Nat) : Int)) + ((((((F 3) * (C))) / (4)) : Nat) : Int))) (fun d c s W r q => ?_) r (fun W L hk hf1 hL => ?_)
  · change xr d 72 0 [(0, .int (Int32.ofNat 29)), (1, .int (Int32.ofInt ((((A : Nat) : Int) - ((((F 4) / (B)) : Nat) : Int))))), (2, .int (Int32.ofNat (((((F 3) * (C))) / (4)))))] [] W c s r
    exact tx_plus d c s W ((((A : Nat) : Int) - ((((F 4) / (B)) : Nat) : Int))) (((((F 3) * (C))) / (4))) (by omega) (by omega) r q
  have hm := hf1.at hm hMK
  have hT := hf1.at hT hTK
  have hc := hf1.at hc hCK
  have hF := hF.tr hf1
  refine tx_fetch _ _ _ T M K CO CL BO NC 0 v W P hT hc hNC 11 1 (p0 + 16) (p0 + 11) (by omega) (by omega) hz _ hL r ?_
  rw [o11, x11]
  refine tx_number _ _ _ T M K 0 W _ F hk hg hm hMK 11 1 (p0 + 16) (p0 + 11) (1) (by omega) r (fun W L hk hf1 hL => ?_)
  have hm := hf1.at hm hMK
  have hT := hf1.at hT hTK
  have hc := hf1.at hc hCK
  have hF := hF.tr hf1
  refine tx_fetch _ _ _ T M K CO CL BO NC 0 v W P hT hc hNC 12 2 (p0 + 16) (p0 + 12) (by omega) (by omega) hz _ hL r ?_
  rw [o12]
  refine tx_ofOne _ _ _ T M K 0 W _ F hk hg hm hMK 12 1 (p0 + 16) (p0 + 12) _ (by omega) 17 (by omega) tx_one17 (Int32.ofNat (F 7)) (fun d c s W r q1 q2 => ?_) r (fun W L hk hf1 hL => ?_)
  · exact tx_has d c s M 1 W F q1 (by omega) r q2
  have hm := hf1.at hm hMK
  have hT := hf1.at hT hTK
  have hc := hf1.at hc hCK
  have hF := hF.tr hf1
  refine tx_fetch _ _ _ T M K CO CL BO NC 0 v W P hT hc hNC 13 2 (p0 + 16) (p0 + 13) (by omega) (by omega) hz _ hL r ?_
  rw [o13, x13]
  refine tx_number _ _ _ T M K 0 W _ F hk hg hm hMK 13 2 (p0 + 16) (p0 + 13) (D) (by omega) r (fun W L hk hf1 hL => ?_)
  have hm := hf1.at hm hMK
  have hT := hf1.at hT hTK
  have hc := hf1.at hc hCK
  have hF := hF.tr hf1
  refine tx_fetch _ _ _ T M K CO CL BO NC 0 v W P hT hc hNC 14 3 (p0 + 16) (p0 + 14) (by omega) (by omega) hz _ hL r ?_
  rw [o14]
  refine tx_ofTwo _ _ _ T M K 0 W _ F hk hg hm hMK 14 1 (p0 + 16) (p0 + 14) _ (by omega) 32 (by omega) tx_one32 (Int32.ofInt ((((F 7) / (D) : Nat) : Int))) (fun d c s W r q => ?_) r (fun W L hk hf1 hL => ?_)
  · change xr d 72 0 [(0, .int (Int32.ofNat 32)), (1, .int (Int32.ofNat (F 7))), (2, .int (Int32.ofNat (D)))] [] W c s r
    exact tx_over d c s W (F 7) (D) (by omega) (by omega) (by omega) r q
  have eV : Int32.ofInt ((((F 7) / (D) : Nat) : Int)) = Int32.ofNat (((F 7) / (D))) := Int32.ofInt_eq_ofNat
  rw [eV] at hk
  have hm := hf1.at hm hMK
  have hT := hf1.at hT hTK
  have hc := hf1.at hc hCK
  have hF := hF.tr hf1
  refine tx_fetch _ _ _ T M K CO CL BO NC 0 v W P hT hc hNC 15 2 (p0 + 16) (p0 + 15) (by omega) (by omega) hz _ hL r ?_
  rw [o15]
  refine tx_ofTwo _ _ _ T M K 0 W _ F hk hg hm hMK 15 0 (p0 + 16) (p0 + 15) _ (by omega) 30 (by omega) tx_one30 (Int32.ofInt (((((A : Nat) : Int) - ((((F 4) / (B)) : Nat) : Int)) + ((((((F 3) * (C))) / (4)) : Nat) : Int)) - ((((F 7) / (D)) : Nat) : Int))) (fun d c s W r q => ?_) r (fun W L hk hf1 hL => ?_)
  · change xr d 72 0 [(0, .int (Int32.ofNat 30)), (1, .int (Int32.ofInt (((((A : Nat) : Int) - ((((F 4) / (B)) : Nat) : Int)) + ((((((F 3) * (C))) / (4)) : Nat) : Int))))), (2, .int (Int32.ofNat (((F 7) / (D)))))] [] W c s r
    exact tx_minus d c s W (((((A : Nat) : Int) - ((((F 4) / (B)) : Nat) : Int)) + ((((((F 3) * (C))) / (4)) : Nat) : Int))) (((F 7) / (D))) (by omega) (by omega) r q
  have hm := hf1.at hm hMK
  have hT := hf1.at hT hTK
  have hc := hf1.at hc hCK
  have hF := hF.tr hf1
  refine tx_end _ _ _ T M K CO CL BO NC 0 v W P hT hc hNC _ hk 16 1 (p0 + 16) (p0 + 16) (by omega) (by omega) (by omega) (by omega) (by omega) _ hL r ?_
  exact k W _ hk hF
theorem tx_speaks (d c s T M K CO CL BO NC p0 A B C D : Nat) (v : Value) (W : xi_W) (P : Nat → Nat) (g : Nat → Int32) (F : Nat → Nat) (hT : W[T]? = some (.inr (4, [v, .ref CL, .ref CO, .ref BO]))) (hc : W[CO]? = some (lw_i NC P)) (hNC : NC < 2147483648) (hk : W[K]? = some (lw_s 64 g)) (hg : 17 ≤ K) (hm : W[M]? = some (lw_i 14 F)) (hMK : M ≠ K) (hTK : T ≠ K) (hCK : CO ≠ K) (hp : p0 < 1000) (hz : 2 * (p0 + 16) ≤ NC) (hP : P (2 * (p0 + 0)) = 41 ∧ P (2 * (p0 + 0) + 1) = 5 ∧ P (2 * (p0 + 1)) = 38 ∧ P (2 * (p0 + 1) + 1) = A ∧ P (2 * (p0 + 2)) = 31 ∧ P (2 * (p0 + 3)) = 41 ∧ P (2 * (p0 + 3) + 1) = 1 ∧ P (2 * (p0 + 4)) = 30 ∧ P (2 * (p0 + 5)) = 41 ∧ P (2 * (p0 + 5) + 1) = 2 ∧ P (2 * (p0 + 6)) = 38 ∧ P (2 * (p0 + 6) + 1) = B ∧ P (2 * (p0 + 7)) = 32 ∧ P (2 * (p0 + 8)) = 30 ∧ P (2 * (p0 + 9)) = 38 ∧ P (2 * (p0 + 9) + 1) = 0 ∧ P (2 * (p0 + 10)) = 18 ∧ P (2 * (p0 + 11)) = 38 ∧ P (2 * (p0 + 11) + 1) = C ∧ P (2 * (p0 + 12)) = 32 ∧ P (2 * (p0 + 13)) = 29 ∧ P (2 * (p0 + 14)) = 38 ∧ P (2 * (p0 + 14) + 1) = D ∧ P (2 * (p0 + 15)) = 30) (hA : 1 ≤ A ∧ A ≤ 9) (hB : 1 ≤ B ∧ B ≤ 9) (hC : 1 ≤ C ∧ C ≤ 9) (hD : 1 ≤ D ∧ D ≤ 9) (h5 : F 5 < 100000) (h1 : F 1 < 4) (h2 : F 2 < 4) (h10 : F 10 < 100) (r : xi_R → Prop) (k : ∀ W' g2, W'[K]? = some (lw_s 64 g2) → fr (· = K) W W' → r (some (.int (Int32.ofInt (((((((((F 5) * (A)) : Nat) : Int) - ((F 1 : Nat) : Int)) - ((((F 2) / (B)) : Nat) : Int)) + ((((F 10) / (C)) : Nat) : Int)) - ((D : Nat) : Int))))), W', c, s)) (L : xi_L) (hL : tx_L T M K 1 0 0 (p0 + 16) p0 L) : xr (d + 1) 69 28 L [] W c s r := by
  have m1 : F 5 * A ≤ 99999 * 9 := Nat.mul_le_mul (by omega) hA.2
  have q1 := Nat.div_le_self (F 2) B
  have q2 := Int.natCast_nonneg (F 2 / B)
  have q3 := Nat.div_le_self (F 10) C
  have q4 := Int.natCast_nonneg (F 10 / C)
  obtain ⟨o0, x0, o1, x1, o2, o3, x3, o4, o5, x5, o6, x6, o7, o8, o9, x9, o10, o11, x11, o12, o13, o14, x14, o15⟩ := hP
  have hF : fr (· = K) W W := fr.rf
  refine tx_fetch _ _ _ T M K CO CL BO NC 1 v W P hT hc hNC 0 0 (p0 + 16) (p0 + 0) (by omega) (by omega) hz _ hL r ?_
  rw [o0, x0]
  refine tx_named _ _ _ T M K 1 W _ F hk hg hm hMK 0 0 (p0 + 16) (p0 + 0) (5) (by omega) (by omega) r (fun W L hk hf1 hL => ?_)
  have hm := hf1.at hm hMK
  have hT := hf1.at hT hTK
  have hc := hf1.at hc hCK
  have hF := hF.tr hf1
  refine tx_fetch _ _ _ T M K CO CL BO NC 1 v W P hT hc hNC 1 1 (p0 + 16) (p0 + 1) (by omega) (by omega) hz _ hL r ?_
  rw [o1, x1]
  refine tx_number _ _ _ T M K 1 W _ F hk hg hm hMK 1 1 (p0 + 16) (p0 + 1) (A) (by omega) r (fun W L hk hf1 hL => ?_)
  have hm := hf1.at hm hMK
  have hT := hf1.at hT hTK
  have hc := hf1.at hc hCK
  have hF := hF.tr hf1
  refine tx_fetch _ _ _ T M K CO CL BO NC 1 v W P hT hc hNC 2 2 (p0 + 16) (p0 + 2) (by omega) (by omega) hz _ hL r ?_
  rw [o2]
  refine tx_ofTwo _ _ _ T M K 1 W _ F hk hg hm hMK 2 0 (p0 + 16) (p0 + 2) _ (by omega) 31 (by omega) tx_one31 (Int32.ofInt ((((F 5) * (A) : Nat) : Int))) (fun d c s W r q => ?_) r (fun W L hk hf1 hL => ?_)
  · change xr d 72 0 [(0, .int (Int32.ofNat 31)), (1, .int (Int32.ofNat (F 5))), (2, .int (Int32.ofNat (A)))] [] W c s r
    exact tx_times d c s W (F 5) (A) (by omega) (by omega) (by omega) r q
  have eV : Int32.ofInt ((((F 5) * (A) : Nat) : Int)) = Int32.ofNat (((F 5) * (A))) := Int32.ofInt_eq_ofNat
  rw [eV] at hk
  have hm := hf1.at hm hMK
  have hT := hf1.at hT hTK
  have hc := hf1.at hc hCK
  have hF := hF.tr hf1
  refine tx_fetch _ _ _ T M K CO CL BO NC 1 v W P hT hc hNC 3 1 (p0 + 16) (p0 + 3) (by omega) (by omega) hz _ hL r ?_
  rw [o3, x3]
  refine tx_named _ _ _ T M K 1 W _ F hk hg hm hMK 3 1 (p0 + 16) (p0 + 3) (1) (by omega) (by omega) r (fun W L hk hf1 hL => ?_)
  have hm := hf1.at hm hMK
  have hT := hf1.at hT hTK
  have hc := hf1.at hc hCK
  have hF := hF.tr hf1
  refine tx_fetch _ _ _ T M K CO CL BO NC 1 v W P hT hc hNC 4 2 (p0 + 16) (p0 + 4) (by omega) (by omega) hz _ hL r ?_
  rw [o4]
  refine tx_ofTwo _ _ _ T M K 1 W _ F hk hg hm hMK 4 0 (p0 + 16) (p0 + 4) _ (by omega) 30 (by omega) tx_one30 (Int32.ofInt (((((F 5) * (A)) : Nat) : Int) - ((F 1 : Nat) : Int))) (fun d c s W r q => ?_) r (fun W L hk hf1 hL => ?_)
  · change xr d 72 0 [(0, .int (Int32.ofNat 30)), (1, .int (Int32.ofNat (((F 5) * (A))))), (2, .int (Int32.ofNat (F 1)))] [] W c s r
    rw [show Int32.ofNat (((F 5) * (A))) = Int32.ofInt ((((F 5) * (A)) : Nat) : Int) from Int32.ofInt_eq_ofNat.symm]
    exact tx_minus d c s W (((((F 5) * (A)) : Nat) : Int)) (F 1) (by omega) (by omega) r q
  have hm := hf1.at hm hMK
  have hT := hf1.at hT hTK
  have hc := hf1.at hc hCK
  have hF := hF.tr hf1
  refine tx_fetch _ _ _ T M K CO CL BO NC 1 v W P hT hc hNC 5 1 (p0 + 16) (p0 + 5) (by omega) (by omega) hz _ hL r ?_
  rw [o5, x5]
  refine tx_named _ _ _ T M K 1 W _ F hk hg hm hMK 5 1 (p0 + 16) (p0 + 5) (2) (by omega) (by omega) r (fun W L hk hf1 hL => ?_)
  have hm := hf1.at hm hMK
  have hT := hf1.at hT hTK
  have hc := hf1.at hc hCK
  have hF := hF.tr hf1
  refine tx_fetch _ _ _ T M K CO CL BO NC 1 v W P hT hc hNC 6 2 (p0 + 16) (p0 + 6) (by omega) (by omega) hz _ hL r ?_
  rw [o6, x6]
  refine tx_number _ _ _ T M K 1 W _ F hk hg hm hMK 6 2 (p0 + 16) (p0 + 6) (B) (by omega) r (fun W L hk hf1 hL => ?_)
  have hm := hf1.at hm hMK
  have hT := hf1.at hT hTK
  have hc := hf1.at hc hCK
  have hF := hF.tr hf1
  refine tx_fetch _ _ _ T M K CO CL BO NC 1 v W P hT hc hNC 7 3 (p0 + 16) (p0 + 7) (by omega) (by omega) hz _ hL r ?_
  rw [o7]
  refine tx_ofTwo _ _ _ T M K 1 W _ F hk hg hm hMK 7 1 (p0 + 16) (p0 + 7) _ (by omega) 32 (by omega) tx_one32 (Int32.ofInt ((((F 2) / (B) : Nat) : Int))) (fun d c s W r q => ?_) r (fun W L hk hf1 hL => ?_)
  · change xr d 72 0 [(0, .int (Int32.ofNat 32)), (1, .int (Int32.ofNat (F 2))), (2, .int (Int32.ofNat (B)))] [] W c s r
    exact tx_over d c s W (F 2) (B) (by omega) (by omega) (by omega) r q
  have eV : Int32.ofInt ((((F 2) / (B) : Nat) : Int)) = Int32.ofNat (((F 2) / (B))) := Int32.ofInt_eq_ofNat
  rw [eV] at hk
  have hm := hf1.at hm hMK
  have hT := hf1.at hT hTK
  have hc := hf1.at hc hCK
  have hF := hF.tr hf1
  refine tx_fetch _ _ _ T M K CO CL BO NC 1 v W P hT hc hNC 8 2 (p0 + 16) (p0 + 8) (by omega) (by omega) hz _ hL r ?_
  rw [o8]
  refine tx_ofTwo _ _ _ T M K 1 W _ F hk hg hm hMK 8 0 (p0 + 16) (p0 + 8) _ (by omega) 30 (by omega) tx_one30 (Int32.ofInt ((((((F 5) * (A)) : Nat) : Int) - ((F 1 : Nat) : Int)) - ((((F 2) / (B)) : Nat) : Int))) (fun d c s W r q => ?_) r (fun W L hk hf1 hL => ?_)
  · change xr d 72 0 [(0, .int (Int32.ofNat 30)), (1, .int (Int32.ofInt ((((((F 5) * (A)) : Nat) : Int) - ((F 1 : Nat) : Int))))), (2, .int (Int32.ofNat (((F 2) / (B)))))] [] W c s r
    exact tx_minus d c s W ((((((F 5) * (A)) : Nat) : Int) - ((F 1 : Nat) : Int))) (((F 2) / (B))) (by omega) (by omega) r q
  have hm := hf1.at hm hMK
  have hT := hf1.at hT hTK
  have hc := hf1.at hc hCK
  have hF := hF.tr hf1
  refine tx_fetch _ _ _ T M K CO CL BO NC 1 v W P hT hc hNC 9 1 (p0 + 16) (p0 + 9) (by omega) (by omega) hz _ hL r ?_
  rw [o9, x9]
  refine tx_number _ _ _ T M K 1 W _ F hk hg hm hMK 9 1 (p0 + 16) (p0 + 9) (0) (by omega) r (fun W L hk hf1 hL => ?_)
  have hm := hf1.at hm hMK
  have hT := hf1.at hT hTK
  have hc := hf1.at hc hCK
  have hF := hF.tr hf1
  refine tx_fetch _ _ _ T M K CO CL BO NC 1 v W P hT hc hNC 10 2 (p0 + 16) (p0 + 10) (by omega) (by omega) hz _ hL r ?_
  rw [o10]
  refine tx_ofOne _ _ _ T M K 1 W _ F hk hg hm hMK 10 1 (p0 + 16) (p0 + 10) _ (by omega) 18 (by omega) tx_one18 (Int32.ofNat (F 10)) (fun d c s W r q1 q2 => ?_) r (fun W L hk hf1 hL => ?_)
  · exact tx_known d c s M 0 W F q1 (by omega) r q2
  have hm := hf1.at hm hMK
  have hT := hf1.at hT hTK
  have hc := hf1.at hc hCK
  have hF := hF.tr hf1
  refine tx_fetch _ _ _ T M K CO CL BO NC 1 v W P hT hc hNC 11 2 (p0 + 16) (p0 + 11) (by omega) (by omega) hz _ hL r ?_
  rw [o11, x11]
  refine tx_number _ _ _ T M K 1 W _ F hk hg hm hMK 11 2 (p0 + 16) (p0 + 11) (C) (by omega) r (fun W L hk hf1 hL => ?_)
  have hm := hf1.at hm hMK
  have hT := hf1.at hT hTK
  have hc := hf1.at hc hCK
  have hF := hF.tr hf1
  refine tx_fetch _ _ _ T M K CO CL BO NC 1 v W P hT hc hNC 12 3 (p0 + 16) (p0 + 12) (by omega) (by omega) hz _ hL r ?_
  rw [o12]
  refine tx_ofTwo _ _ _ T M K 1 W _ F hk hg hm hMK 12 1 (p0 + 16) (p0 + 12) _ (by omega) 32 (by omega) tx_one32 (Int32.ofInt ((((F 10) / (C) : Nat) : Int))) (fun d c s W r q => ?_) r (fun W L hk hf1 hL => ?_)
  · change xr d 72 0 [(0, .int (Int32.ofNat 32)), (1, .int (Int32.ofNat (F 10))), (2, .int (Int32.ofNat (C)))] [] W c s r
    exact tx_over d c s W (F 10) (C) (by omega) (by omega) (by omega) r q
  have eV : Int32.ofInt ((((F 10) / (C) : Nat) : Int)) = Int32.ofNat (((F 10) / (C))) := Int32.ofInt_eq_ofNat
  rw [eV] at hk
  have hm := hf1.at hm hMK
  have hT := hf1.at hT hTK
  have hc := hf1.at hc hCK
  have hF := hF.tr hf1
  refine tx_fetch _ _ _ T M K CO CL BO NC 1 v W P hT hc hNC 13 2 (p0 + 16) (p0 + 13) (by omega) (by omega) hz _ hL r ?_
  rw [o13]
  refine tx_ofTwo _ _ _ T M K 1 W _ F hk hg hm hMK 13 0 (p0 + 16) (p0 + 13) _ (by omega) 29 (by omega) tx_one29 (Int32.ofInt (((((((F 5) * (A)) : Nat) : Int) - ((F 1 : Nat) : Int)) - ((((F 2) / (B)) : Nat) : Int)) + ((((F 10) / (C)) : Nat) : Int))) (fun d c s W r q => ?_) r (fun W L hk hf1 hL => ?_)
  · change xr d 72 0 [(0, .int (Int32.ofNat 29)), (1, .int (Int32.ofInt (((((((F 5) * (A)) : Nat) : Int) - ((F 1 : Nat) : Int)) - ((((F 2) / (B)) : Nat) : Int))))), (2, .int (Int32.ofNat (((F 10) / (C)))))] [] W c s r
    exact tx_plus d c s W (((((((F 5) * (A)) : Nat) : Int) - ((F 1 : Nat) : Int)) - ((((F 2) / (B)) : Nat) : Int))) (((F 10) / (C))) (by omega) (by omega) r q
  have hm := hf1.at hm hMK
  have hT := hf1.at hT hTK
  have hc := hf1.at hc hCK
  have hF := hF.tr hf1
  refine tx_fetch _ _ _ T M K CO CL BO NC 1 v W P hT hc hNC 14 1 (p0 + 16) (p0 + 14) (by omega) (by omega) hz _ hL r ?_
  rw [o14, x14]
  refine tx_number _ _ _ T M K 1 W _ F hk hg hm hMK 14 1 (p0 + 16) (p0 + 14) (D) (by omega) r (fun W L hk hf1 hL => ?_)
  have hm := hf1.at hm hMK
  have hT := hf1.at hT hTK
  have hc := hf1.at hc hCK
  have hF := hF.tr hf1
  refine tx_fetch _ _ _ T M K CO CL BO NC 1 v W P hT hc hNC 15 2 (p0 + 16) (p0 + 15) (by omega) (by omega) hz _ hL r ?_
  rw [o15]
  refine tx_ofTwo _ _ _ T M K 1 W _ F hk hg hm hMK 15 0 (p0 + 16) (p0 + 15) _ (by omega) 30 (by omega) tx_one30 (Int32.ofInt ((((((((F 5) * (A)) : Nat) : Int) - ((F 1 : Nat) : Int)) - ((((F 2) / (B)) : Nat) : Int)) + ((((F 10) / (C)) : Nat) : Int)) - ((D : Nat) : Int))) (fun d c s W r q => ?_) r (fun W L hk hf1 hL => ?_)
  · change xr d 72 0 [(0, .int (Int32.ofNat 30)), (1, .int (Int32.ofInt ((((((((F 5) * (A)) : Nat) : Int) - ((F 1 : Nat) : Int)) - ((((F 2) / (B)) : Nat) : Int)) + ((((F 10) / (C)) : Nat) : Int))))), (2, .int (Int32.ofNat (D)))] [] W c s r
    exact tx_minus d c s W ((((((((F 5) * (A)) : Nat) : Int) - ((F 1 : Nat) : Int)) - ((((F 2) / (B)) : Nat) : Int)) + ((((F 10) / (C)) : Nat) : Int))) (D) (by omega) (by omega) r q
  have hm := hf1.at hm hMK
  have hT := hf1.at hT hTK
  have hc := hf1.at hc hCK
  have hF := hF.tr hf1
  refine tx_end _ _ _ T M K CO CL BO NC 1 v W P hT hc hNC _ hk 16 1 (p0 + 16) (p0 + 16) (by omega) (by omega) (by omega) (by omega) (by omega) _ hL r ?_
  exact k W _ hk hF
