/-- the bytes of a number, each told as how many bits are set -/
def pC : Nat → Nat → Nat
  | 0, _ => 0
  | n + 1, x => 256 * pC n (x / 256) + bc 8 (x % 256)
theorem pc_all : ∀ (n x : Nat), x < 256 ^ n → p4 n (pd 4 pf2 (2 * n) (pd 2 pf1 (4 * n) x)) ∧ pd 4 pf2 (2 * n) (pd 2 pf1 (4 * n) x) < 256 ^ n ∧ pd 2 pf1 (4 * n) x < 256 ^ n ∧ pd 8 pf3 n (pd 4 pf2 (2 * n) (pd 2 pf1 (4 * n) x)) = pC n x
  | 0, x, h => ⟨trivial, Nat.one_pos, Nat.one_pos, rfl⟩
  | n + 1, x, h => by
    have hx : x / 256 < 256 ^ n := by
      rw [Nat.pow_succ] at h
      exact Nat.div_lt_of_lt_mul (by omega)
    obtain ⟨i1, i2, i3, i4⟩ := pc_all n (x / 256) hx
    obtain ⟨b1, b2, b3, b4⟩ := pc_byte ⟨x % 256, Nat.mod_lt _ (by omega)⟩
    simp only at b1 b2 b3 b4
    have e1 := pd2_4 pf1 n x
    generalize pd 2 pf1 4 (x % 256) = q at *
    generalize pd 2 pf1 (4 * n) (x / 256) = P at *
    have e2 : pd 4 pf2 (2 * (n + 1)) (pd 2 pf1 (4 * (n + 1)) x) = 256 * pd 4 pf2 (2 * n) P + pd 4 pf2 2 q := by
      rw [e1, pd4_2, show (256 * P + q) / 256 = P by omega, show (256 * P + q) % 256 = q by omega]
    generalize pd 4 pf2 2 q = u at *
    generalize pd 4 pf2 (2 * n) P = V at *
    rw [e2, e1]
    have g1 : (256 * V + u) / 256 = V := by omega
    have g2 : (256 * V + u) % 256 = u := by omega
    refine ⟨⟨by omega, by omega, by rw [g1]; exact i1⟩, ?_, ?_, ?_⟩
    · rw [Nat.pow_succ]; omega
    · rw [Nat.pow_succ]; omega
    · rw [pd8_1, g1, g2, i4, b4]; rfl
theorem bc_add : ∀ (n m x : Nat), bc (n + m) x = bc n x + bc m (x / 2 ^ n)
  | 0, m, x => by rw [Nat.zero_add, Nat.pow_zero, Nat.div_one]; show bc m x = 0 + bc m x; omega
  | n + 1, m, x => by
    rw [show n + 1 + m = n + m + 1 by omega]
    show x % 2 + bc (n + m) (x / 2) = x % 2 + bc n (x / 2) + bc m (x / 2 ^ (n + 1))
    rw [bc_add n m (x / 2), Nat.div_div_eq_div_mul, Nat.pow_succ, Nat.mul_comm 2]
    omega
theorem bc_mod : ∀ (n x : Nat), bc n (x % 2 ^ n) = bc n x
  | 0, _ => rfl
  | n + 1, x => by
    show x % 2 ^ (n + 1) % 2 + bc n (x % 2 ^ (n + 1) / 2) = x % 2 + bc n (x / 2)
    have h1 : x % 2 ^ (n + 1) % 2 = x % 2 := Nat.mod_mod_of_dvd x (Nat.dvd_of_mod_eq_zero (by rw [Nat.pow_succ]; omega))
    have h2 : x % 2 ^ (n + 1) / 2 = x / 2 % 2 ^ n := by rw [Nat.pow_succ, Nat.mul_comm, Nat.mod_mul_right_div_self]
    rw [h1, h2, bc_mod n]
theorem pC_sum (x : Nat) : ∃ c0 c1 c2 c3 c4 c5 c6 c7 : Nat, c0 ≤ 8 ∧ c1 ≤ 8 ∧ c2 ≤ 8 ∧ c3 ≤ 8 ∧ c4 ≤ 8 ∧ c5 ≤ 8 ∧ c6 ≤ 8 ∧ c7 ≤ 8 ∧ pC 8 x = c0 + 256 * (c1 + 256 * (c2 + 256 * (c3 + 256 * (c4 + 256 * (c5 + 256 * (c6 + 256 * (c7))))))) ∧ bc 64 x = c0 + c1 + c2 + c3 + c4 + c5 + c6 + c7 := by
  have s : ∀ (m y : Nat), bc (8 + m) y = bc 8 (y % 256) + bc m (y / 256) := fun m y => by
    rw [bc_add 8 m y, ← bc_mod 8 y]
  have t : bc 64 x = bc 8 (x % 256) + (bc 8 (x / 256 % 256) + (bc 8 (x / 256 / 256 % 256) + (bc 8 (x / 256 / 256 / 256 % 256) + (bc 8 (x / 256 / 256 / 256 / 256 % 256) + (bc 8 (x / 256 / 256 / 256 / 256 / 256 % 256) + (bc 8 (x / 256 / 256 / 256 / 256 / 256 / 256 % 256) + (bc 8 (x / 256 / 256 / 256 / 256 / 256 / 256 / 256 % 256) + 0))))))) := by
    rw [show 64 = 8 + 56 from rfl, s, show 56 = 8 + 48 from rfl, s, show 48 = 8 + 40 from rfl, s, show 40 = 8 + 32 from rfl, s, show 32 = 8 + 24 from rfl, s, show 24 = 8 + 16 from rfl, s, show 16 = 8 + 8 from rfl, s, show bc 8 (x / 256 / 256 / 256 / 256 / 256 / 256 / 256) = bc (8 + 0) (x / 256 / 256 / 256 / 256 / 256 / 256 / 256) from rfl, s]
    rfl
  have u : pC 8 x = 256 * (256 * (256 * (256 * (256 * (256 * (256 * (256 * 0 + bc 8 (x / 256 / 256 / 256 / 256 / 256 / 256 / 256 % 256)) + bc 8 (x / 256 / 256 / 256 / 256 / 256 / 256 % 256)) + bc 8 (x / 256 / 256 / 256 / 256 / 256 % 256)) + bc 8 (x / 256 / 256 / 256 / 256 % 256)) + bc 8 (x / 256 / 256 / 256 % 256)) + bc 8 (x / 256 / 256 % 256)) + bc 8 (x / 256 % 256)) + bc 8 (x % 256) := rfl
  refine ⟨bc 8 (x % 256), bc 8 (x / 256 % 256), bc 8 (x / 256 / 256 % 256), bc 8 (x / 256 / 256 / 256 % 256), bc 8 (x / 256 / 256 / 256 / 256 % 256), bc 8 (x / 256 / 256 / 256 / 256 / 256 % 256), bc 8 (x / 256 / 256 / 256 / 256 / 256 / 256 % 256), bc 8 (x / 256 / 256 / 256 / 256 / 256 / 256 / 256 % 256), bcle 8 _, bcle 8 _, bcle 8 _, bcle 8 _, bcle 8 _, bcle 8 _, bcle 8 _, bcle 8 _, u.trans ?_, t.trans ?_⟩
  · omega
  · omega
theorem ps_d1 {c K : Nat} (h : c < 256) : (c + 256 * K) / 256 = K := by omega
theorem ps_d2 {c d K : Nat} (h : c < 256) (h2 : d < 256) : (c + 256 * (d + 256 * K)) / 65536 = K := by omega
theorem ps_d4 {a b c d K : Nat} (h : a < 256) (h2 : b < 256) (h3 : c < 256) (h4 : d < 256) : (a + 256 * (b + 256 * (c + 256 * (d + 256 * K)))) / 4294967296 = K := by omega
theorem ps_m {c K : Nat} (h : c < 128) : (c + 256 * K) % 128 = c := by omega
theorem ps_l1 (c0 c1 c2 c3 c4 c5 c6 c7 : Nat) : (c0 + 256 * (c1 + 256 * (c2 + 256 * (c3 + 256 * (c4 + 256 * (c5 + 256 * (c6 + 256 * (c7)))))))) + (c1 + 256 * (c2 + 256 * (c3 + 256 * (c4 + 256 * (c5 + 256 * (c6 + 256 * (c7))))))) = (c0 + c1) + 256 * ((c1 + c2) + 256 * ((c2 + c3) + 256 * ((c3 + c4) + 256 * ((c4 + c5) + 256 * ((c5 + c6) + 256 * ((c6 + c7) + 256 * (c7))))))) := by omega
theorem ps_l2 (c0 c1 c2 c3 c4 c5 c6 c7 : Nat) : ((c0 + c1) + 256 * ((c1 + c2) + 256 * ((c2 + c3) + 256 * ((c3 + c4) + 256 * ((c4 + c5) + 256 * ((c5 + c6) + 256 * ((c6 + c7) + 256 * (c7)))))))) + ((c2 + c3) + 256 * ((c3 + c4) + 256 * ((c4 + c5) + 256 * ((c5 + c6) + 256 * ((c6 + c7) + 256 * (c7)))))) = (c0 + c1 + c2 + c3) + 256 * ((c1 + c2 + c3 + c4) + 256 * ((c2 + c3 + c4 + c5) + 256 * ((c3 + c4 + c5 + c6) + 256 * ((c4 + c5 + c6 + c7) + 256 * ((c5 + c6 + c7) + 256 * ((c6 + c7) + 256 * (c7))))))) := by omega
theorem ps_l3 (c0 c1 c2 c3 c4 c5 c6 c7 : Nat) : ((c0 + c1 + c2 + c3) + 256 * ((c1 + c2 + c3 + c4) + 256 * ((c2 + c3 + c4 + c5) + 256 * ((c3 + c4 + c5 + c6) + 256 * ((c4 + c5 + c6 + c7) + 256 * ((c5 + c6 + c7) + 256 * ((c6 + c7) + 256 * (c7)))))))) + ((c4 + c5 + c6 + c7) + 256 * ((c5 + c6 + c7) + 256 * ((c6 + c7) + 256 * (c7)))) = (c0 + c1 + c2 + c3 + c4 + c5 + c6 + c7) + 256 * ((c1 + c2 + c3 + c4 + c5 + c6 + c7) + 256 * ((c2 + c3 + c4 + c5 + c6 + c7) + 256 * ((c3 + c4 + c5 + c6 + c7) + 256 * ((c4 + c5 + c6 + c7) + 256 * ((c5 + c6 + c7) + 256 * ((c6 + c7) + 256 * (c7))))))) := by omega
theorem ps_b {a b c d e f g h : Nat} (ha : a < 256) (hb : b < 256) (hc : c < 256) (hd : d < 256) (he : e < 256) (hf : f < 256) (hg : g < 256) (hh : h < 256) : a + 256 * (b + 256 * (c + 256 * (d + 256 * (e + 256 * (f + 256 * (g + 256 * (h))))))) < 18446744073709551616 := by omega
theorem pc_sum {C c0 c1 c2 c3 c4 c5 c6 c7 : Nat} (h0 : c0 ≤ 8) (h1 : c1 ≤ 8) (h2 : c2 ≤ 8) (h3 : c3 ≤ 8) (h4 : c4 ≤ 8) (h5 : c5 ≤ 8) (h6 : c6 ≤ 8) (h7 : c7 ≤ 8) (e : C = c0 + 256 * (c1 + 256 * (c2 + 256 * (c3 + 256 * (c4 + 256 * (c5 + 256 * (c6 + 256 * (c7)))))))) : ∃ D E Q, D = C + C / 256 ∧ E = D + D / 65536 ∧ Q = E + E / 4294967296 ∧ C < 18446744073709551616 ∧ D < 18446744073709551616 ∧ E < 18446744073709551616 ∧ Q % 128 = c0 + c1 + c2 + c3 + c4 + c5 + c6 + c7 := by
  subst e
  refine ⟨_, _, _, rfl, rfl, rfl, ?_⟩
  rw [ps_d1 (by omega), ps_l1, ps_d2 (by omega) (by omega), ps_l2, ps_d4 (by omega) (by omega) (by omega) (by omega), ps_l3, ps_m (by omega)]
  exact ⟨ps_b (by omega) (by omega) (by omega) (by omega) (by omega) (by omega) (by omega) (by omega), ps_b (by omega) (by omega) (by omega) (by omega) (by omega) (by omega) (by omega) (by omega), ps_b (by omega) (by omega) (by omega) (by omega) (by omega) (by omega) (by omega) (by omega), rfl⟩
theorem cn_bc64 {x : Nat} (hx : x < 18446744073709551616) : cn_bc (Int64.ofNat x) = Int32.ofNat (bc 64 x) := by
  have p1 := pc_1 32 x hx
  obtain ⟨a1, a2, a3, a4⟩ := pc_all 8 x hx
  have p2 := pc_2 16 (pd 2 pf1 32 x) a3
  have p3 := pc_4 8 (pd 4 pf2 16 (pd 2 pf1 32 x)) a2 a1
  obtain ⟨c0, c1, c2, c3, c4, c5, c6, c7, h0, h1, h2, h3, h4, h5, h6, h7, u, t⟩ := pC_sum x
  obtain ⟨D, E, Q, eD, eE, eQ, lC, lD, lE, eq⟩ := pc_sum h0 h1 h2 h3 h4 h5 h6 h7 u
  have b1 : cn_b1 (Int64.ofNat x) = Int64.ofNat (pd 2 pf1 32 x) := by
    unfold cn_b1
    rw [nl_ushr hx (by omega) (by decide +kernel), nl_and, ← pm1, show 2 ^ 1 = 2 from rfl, nl_sub p1.1, p1.2]
    rfl
  have b2 : cn_b2 (Int64.ofNat (pd 2 pf1 32 x)) = Int64.ofNat (pd 4 pf2 16 (pd 2 pf1 32 x)) := by
    unfold cn_b2
    rw [nl_ushr (Nat.lt_of_lt_of_eq a3 (by decide +kernel)) (by omega) (by decide +kernel), nl_and, nl_and, ← pm2, nl_add, show 2 ^ 2 = 4 from rfl, p2]
    rfl
  have b3 : cn_b3 (Int64.ofNat (pd 4 pf2 16 (pd 2 pf1 32 x))) = Int64.ofNat (pC 8 x) := by
    unfold cn_b3
    rw [nl_ushr (Nat.lt_of_lt_of_eq a2 (by decide +kernel)) (by omega) (by decide +kernel), nl_add, nl_and, ← pm3, show 2 ^ 4 = 16 from rfl, p3]
    exact congrArg Int64.ofNat a4
  unfold cn_bc
  rw [b1, b2, b3]
  unfold cn_b4
  rw [nl_ushr lC (by omega) (by decide +kernel), nl_add, show 2 ^ 8 = 256 from rfl, ← eD, nl_ushr lD (by omega) (by decide +kernel), nl_add, show 2 ^ 16 = 65536 from rfl, ← eE, nl_ushr lE (by omega) (by decide +kernel), nl_add, show 2 ^ 32 = 4294967296 from rfl, ← eQ, n_l2i, n_and, show 127 = 2 ^ 7 - 1 from rfl, Nat.and_two_pow_sub_one_eq_mod, show 2 ^ 7 = 128 from rfl, eq, t]
theorem cn_bcv {x : Nat} (hx : x < 9223372036854775808) : cn_bc (Int64.ofNat x) = Int32.ofNat (bc 63 x) := by
  rw [cn_bc64 (by omega), show 64 = 63 + 1 from rfl, bc_add, show x / 2 ^ 63 = 0 from Nat.div_eq_of_lt hx, bc0, Nat.add_zero]
theorem xr_bitCount (d c s x : Nat) (W : xi_W) (hx : x < 9223372036854775808) (r : xi_R → Prop) (k : r (some (.int (Int32.ofNat (bc 63 x))), W, c, s)) : xr d 156 0 [(0, .long (Int64.ofNat x))] [] W c s r :=
  xr_of (cn_bitCount d W c s (Int64.ofNat x)) (by rw [cn_bcv hx]; exact k)
