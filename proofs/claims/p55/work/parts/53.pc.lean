/-! how many bits are set, two at a time, four at a time .. -/
theorem pc_and (k a b u v : Nat) (hu : u < 2 ^ k) (hv : v < 2 ^ k) : (2 ^ k * a + u) &&& (2 ^ k * b + v) = 2 ^ k * (a &&& b) + (u &&& v) := by
  apply Nat.eq_of_testBit_eq
  intro i
  rw [Nat.testBit_and, Nat.testBit_two_pow_mul_add _ hu, Nat.testBit_two_pow_mul_add _ hv, Nat.testBit_two_pow_mul_add _ (Nat.and_lt_two_pow u hv)]
  split
  · rw [Nat.testBit_and]
  · rw [Nat.testBit_and]
/-- the mask of n digits, each v, to the base 2 ^ k -/
def pm (k v : Nat) : Nat → Nat
  | 0 => 0
  | n + 1 => 2 ^ k * pm k v n + v
/-- a number's n digits to the base 2 ^ k, each one told anew -/
def pd (k : Nat) (f : Nat → Nat) : Nat → Nat → Nat
  | 0, _ => 0
  | n + 1, x => 2 ^ k * pd k f n (x / 2 ^ k) + f (x % 2 ^ k)
/-- pairs -/
theorem pc_1 : ∀ (n x : Nat), x < 4 ^ n → (x / 2 &&& pm 2 1 n) ≤ x ∧ x - (x / 2 &&& pm 2 1 n) = pd 2 (fun d => d - d / 2) n x
  | 0, x, h => by
    rw [Nat.pow_zero] at h
    obtain rfl : x = 0 := by omega
    exact ⟨Nat.le_refl _, rfl⟩
  | n + 1, x, h => by
    obtain ⟨h1, h2⟩ := pc_1 n (x / 4) (by rw [Nat.pow_succ] at h; omega)
    have e : x / 2 &&& pm 2 1 (n + 1) = 4 * (x / 4 / 2 &&& pm 2 1 n) + x % 4 / 2 := by
      have q := pc_and 2 (x / 4 / 2) (pm 2 1 n) (x / 2 % 4) 1 (by omega) (by omega)
      have q1 : 2 ^ 2 * (x / 4 / 2) + x / 2 % 4 = x / 2 := by omega
      rw [q1] at q
      show x / 2 &&& (2 ^ 2 * pm 2 1 n + 1) = _
      rw [q]
      have q2 : x / 2 % 4 &&& 1 = x % 4 / 2 := by
        rw [Nat.and_one_is_mod]
        omega
      rw [q2]
    rw [e]
    show _ ∧ _ = 2 ^ 2 * pd 2 (fun d => d - d / 2) n (x / 2 ^ 2) + (x % 2 ^ 2 - x % 2 ^ 2 / 2)
    rw [show x / 2 ^ 2 = x / 4 from rfl, ← h2]
    omega
/-- fours -/
theorem pc_2 : ∀ (n x : Nat), x < 16 ^ n → (x &&& pm 4 3 n) + (x / 4 &&& pm 4 3 n) = pd 4 (fun e => e % 4 + e / 4) n x
  | 0, x, h => by
    rw [Nat.pow_zero] at h
    obtain rfl : x = 0 := by omega
    rfl
  | n + 1, x, h => by
    have h1 := pc_2 n (x / 16) (by rw [Nat.pow_succ] at h; omega)
    have a3 : ∀ u : Nat, u &&& 3 = u % 4 := fun u => Nat.and_two_pow_sub_one_eq_mod u 2
    have e1 : x &&& pm 4 3 (n + 1) = 16 * (x / 16 &&& pm 4 3 n) + x % 16 % 4 := by
      have q := pc_and 4 (x / 16) (pm 4 3 n) (x % 16) 3 (by omega) (by omega)
      have q1 : 2 ^ 4 * (x / 16) + x % 16 = x := by omega
      rw [q1] at q
      show x &&& (2 ^ 4 * pm 4 3 n + 3) = _
      rw [q, a3]
    have e2 : x / 4 &&& pm 4 3 (n + 1) = 16 * (x / 16 / 4 &&& pm 4 3 n) + x % 16 / 4 := by
      have q := pc_and 4 (x / 16 / 4) (pm 4 3 n) (x / 4 % 16) 3 (by omega) (by omega)
      have q1 : 2 ^ 4 * (x / 16 / 4) + x / 4 % 16 = x / 4 := by omega
      rw [q1] at q
      show x / 4 &&& (2 ^ 4 * pm 4 3 n + 3) = _
      rw [q, a3, show x / 4 % 16 % 4 = x % 16 / 4 by omega]
    rw [e1, e2]
    show _ = 2 ^ 4 * pd 4 (fun e => e % 4 + e / 4) n (x / 2 ^ 4) + (x % 2 ^ 4 % 4 + x % 2 ^ 4 / 4)
    rw [show x / 2 ^ 4 = x / 16 from rfl, ← h1]
    omega
/-- every byte's two halves are at most four -/
def p4 : Nat → Nat → Prop
  | 0, _ => True
  | n + 1, x => x % 16 ≤ 4 ∧ x / 16 % 16 ≤ 4 ∧ p4 n (x / 256)
/-- eights -/
theorem pc_4 : ∀ (n x : Nat), x < 256 ^ n → p4 n x → (x + x / 16) &&& pm 8 15 n = pd 8 (fun b => b % 16 + b / 16) n x
  | 0, x, h, _ => by
    rw [Nat.pow_zero] at h
    obtain rfl : x = 0 := by omega
    rfl
  | n + 1, x, h, ⟨p1, p2, p3⟩ => by
    have h1 := pc_4 n (x / 256) (by rw [Nat.pow_succ] at h; omega) p3
    have a15 : ∀ u : Nat, u &&& 15 = u % 16 := fun u => Nat.and_two_pow_sub_one_eq_mod u 4
    have hy : x / 256 % 16 ≤ 4 := by
      cases n with
      | zero =>
        rw [show (256 : Nat) ^ (0 + 1) = 256 from rfl] at h
        omega
      | succ n => exact p3.1
    have hb : x % 256 ≤ 68 := by omega
    have t : x + x / 16 = 2 ^ 8 * (x / 256 + x / 256 / 16) + (x % 256 + x % 256 / 16 + 16 * (x / 256 % 16)) := by
      have e2 : x / 16 = 16 * (x / 256) + x % 256 / 16 := by omega
      have e3 : x / 256 = 16 * (x / 256 / 16) + x / 256 % 16 := by omega
      generalize x / 256 / 16 = y1 at *
      generalize x / 256 % 16 = y0 at *
      omega
    have tl : x % 256 + x % 256 / 16 + 16 * (x / 256 % 16) < 2 ^ 8 := by
      generalize x / 256 % 16 = y0 at *
      generalize x % 256 = b at *
      omega
    have q := pc_and 8 (x / 256 + x / 256 / 16) (pm 8 15 n) (x % 256 + x % 256 / 16 + 16 * (x / 256 % 16)) 15 tl (by omega)
    rw [← t, a15, h1] at q
    show (x + x / 16) &&& (2 ^ 8 * pm 8 15 n + 15) = 2 ^ 8 * pd 8 (fun b => b % 16 + b / 16) n (x / 256) + (x % 256 % 16 + x % 256 / 16)
    rw [q]
    have b1 : x % 256 % 16 ≤ 4 := by omega
    have b2 : x % 256 / 16 ≤ 4 := by omega
    generalize x / 256 % 16 = y0 at *
    generalize x % 256 = b at *
    omega
