/-! how many bits are set: the class's way is right -/
theorem nl_ushr {v k : Nat} (hv : v < 18446744073709551616) (hk : k < 64) (e : ((Int32.ofNat k).toInt64.toUInt64 &&& Int64.toUInt64 63).toNat = k) : ((Int64.ofNat v).toUInt64 >>> ((Int32.ofNat k).toInt64.toUInt64 &&& Int64.toUInt64 63)).toInt64 = Int64.ofNat (v / 2 ^ k) := by
  apply Int64.toBitVec_inj.mp
  apply BitVec.eq_of_toNat_eq
  show ((Int64.ofNat v).toUInt64 >>> ((Int32.ofNat k).toInt64.toUInt64 &&& Int64.toUInt64 63)).toNat = (BitVec.ofNat 64 (v / 2 ^ k)).toNat
  have h1 : ((Int64.ofNat v).toUInt64).toNat = v := by
    show (BitVec.ofNat 64 v).toNat = v
    rw [BitVec.toNat_ofNat]
    exact Nat.mod_eq_of_lt hv
  have h2 : v / 2 ^ k < 18446744073709551616 := Nat.lt_of_le_of_lt (Nat.div_le_self _ _) hv
  rw [UInt64.toNat_shiftRight, e, h1, Nat.mod_eq_of_lt hk, Nat.shiftRight_eq_div_pow, BitVec.toNat_ofNat]
  exact (Nat.mod_eq_of_lt h2).symm
theorem pm1 : pm 2 1 32 = 6148914691236517205 := by decide +kernel
theorem pm2 : pm 4 3 16 = 3689348814741910323 := by decide +kernel
theorem pm3 : pm 8 15 8 = 1085102592571150095 := by decide +kernel
def pf1 (d : Nat) : Nat := d - d / 2
def pf2 (e : Nat) : Nat := e % 4 + e / 4
def pf3 (b : Nat) : Nat := b % 16 + b / 16
theorem pd2_4 (f : Nat → Nat) (n x : Nat) : pd 2 f (4 * (n + 1)) x = 256 * pd 2 f (4 * n) (x / 256) + pd 2 f 4 (x % 256) := by
  have L : pd 2 f (4 * (n + 1)) x = 4 * (4 * (4 * (4 * pd 2 f (4 * n) (x / 4 / 4 / 4 / 4) + f (x / 4 / 4 / 4 % 4)) + f (x / 4 / 4 % 4)) + f (x / 4 % 4)) + f (x % 4) := rfl
  have R : pd 2 f 4 (x % 256) = 4 * (4 * (4 * (4 * 0 + f (x % 256 / 4 / 4 / 4 % 4)) + f (x % 256 / 4 / 4 % 4)) + f (x % 256 / 4 % 4)) + f (x % 256 % 4) := rfl
  have e4 : x / 4 / 4 / 4 / 4 = x / 256 := by omega
  have d0 : x % 256 % 4 = x % 4 := by omega
  have d1 : x % 256 / 4 % 4 = x / 4 % 4 := by omega
  have d2 : x % 256 / 4 / 4 % 4 = x / 4 / 4 % 4 := by omega
  have d3 : x % 256 / 4 / 4 / 4 % 4 = x / 4 / 4 / 4 % 4 := by omega
  rw [L, R, e4, d0, d1, d2, d3]
  omega
theorem pd4_2 (f : Nat → Nat) (n x : Nat) : pd 4 f (2 * (n + 1)) x = 256 * pd 4 f (2 * n) (x / 256) + pd 4 f 2 (x % 256) := by
  have L : pd 4 f (2 * (n + 1)) x = 16 * (16 * pd 4 f (2 * n) (x / 16 / 16) + f (x / 16 % 16)) + f (x % 16) := rfl
  have R : pd 4 f 2 (x % 256) = 16 * (16 * 0 + f (x % 256 / 16 % 16)) + f (x % 256 % 16) := rfl
  have e4 : x / 16 / 16 = x / 256 := by omega
  have d0 : x % 256 % 16 = x % 16 := by omega
  have d1 : x % 256 / 16 % 16 = x / 16 % 16 := by omega
  rw [L, R, e4, d0, d1]
  omega
theorem pd8_1 (f : Nat → Nat) (n x : Nat) : pd 8 f (n + 1) x = 256 * pd 8 f n (x / 256) + f (x % 256) := rfl
theorem pc_byte : ∀ y : Fin 256, pd 2 pf1 4 y.val < 256 ∧ pd 4 pf2 2 (pd 2 pf1 4 y.val) % 16 ≤ 4 ∧ pd 4 pf2 2 (pd 2 pf1 4 y.val) / 16 ≤ 4 ∧ pf3 (pd 4 pf2 2 (pd 2 pf1 4 y.val)) = bc 8 y.val := by decide +kernel
