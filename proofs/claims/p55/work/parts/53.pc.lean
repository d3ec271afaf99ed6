/-! how many bits are set, two at a time, four at a time .. -/
theorem pc_and (k a b u v : Nat) (hu : u < 2 ^ k) (hv : v < 2 ^ k) : (2 ^ k * a + u) &&& (2 ^ k * b + v) = 2 ^ k * (a &&& b) + (u &&& v) := by
  apply Nat.eq_of_testBit_eq
  intro i
  rw [Nat.testBit_and, Nat.testBit_two_pow_mul_add _ hu, Nat.testBit_two_pow_mul_add _ hv, Nat.testBit_two_pow_mul_add _ (Nat.and_lt_two_pow u hv)]
  split
  · rw [Nat.testBit_and]
  · rw [Nat.testBit_and]
/-- the mask of n digits, each v, to the base 2 ^ k -/
def pm (k v : Nat) : Nat → Nat
  | 0 => 0
  | n + 1 => 2 ^ k * pm k v n + v
/-- a number's n digits to the base 2 ^ k, each one told anew -/
def pd (k : Nat) (f : Nat → Nat) : Nat → Nat → Nat
  | 0, _ => 0
  | n + 1, x => 2 ^ k * pd k f n (x / 2 ^ k) + f (x % 2 ^ k)
/-- pairs -/
theorem pc_1 : ∀ (n x : Nat), x < 4 ^ n → (x / 2 &&& pm 2 1 n) ≤ x ∧ x - (x / 2 &&& pm 2 1 n) = pd 2 (fun d => d - d / 2) n x
  | 0, x, h => by
    rw [Nat.pow_zero] at h
    obtain rfl : x = 0 := by omega
    exact ⟨Nat.le_refl _, rfl⟩
  | n + 1, x, h => by
    obtain ⟨h1, h2⟩ := pc_1 n (x / 4) (by rw [Nat.pow_succ] at h; omega)
    have e : x / 2 &&& pm 2 1 (n + 1) = 4 * (x / 4 / 2 &&& pm 2 1 n) + x % 4 / 2 := by
      have q := pc_and 2 (x / 4 / 2) (pm 2 1 n) (x / 2 % 4) 1 (by omega) (by omega)
      have q1 : 2 ^ 2 * (x / 4 / 2) + x / 2 % 4 = x / 2 := by omega
      rw [q1] at q
      show x / 2 &&& (2 ^ 2 * pm 2 1 n + 1) = _
      rw [q]
      have q2 : x / 2 % 4 &&& 1 = x % 4 / 2 := by
        rw [Nat.and_one_is_mod]
        omega
      rw [q2]
    rw [e]
    show _ ∧ _ = 2 ^ 2 * pd 2 (fun d => d - d / 2) n (x / 2 ^ 2) + (x % 2 ^ 2 - x % 2 ^ 2 / 2)
    rw [show x / 2 ^ 2 = x / 4 from rfl, ← h2]
    omega
