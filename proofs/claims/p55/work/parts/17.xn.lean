/-! whole numbers in ints; steps over them -/
theorem n_int {a : Nat} (ha : a < 2147483648) : (Int32.ofNat a).toInt = a := Int32.toInt_ofNat_of_lt ha
theorem n_nat {a : Nat} (ha : a < 2147483648) : (Int32.ofNat a).toNatClampNeg = a := by
  unfold Int32.toNatClampNeg; rw [n_int ha]; rfl
theorem n_le {a b : Nat} (ha : a < 2147483648) (hb : b < 2147483648) : Int32.ofNat a ≤ Int32.ofNat b ↔ a ≤ b := by
  rw [Int32.le_iff_toInt_le, n_int ha, n_int hb]; omega
theorem n_lt {a b : Nat} (ha : a < 2147483648) (hb : b < 2147483648) : Int32.ofNat a < Int32.ofNat b ↔ a < b := by
  rw [Int32.lt_iff_toInt_lt, n_int ha, n_int hb]; omega
theorem n_eq {a b : Nat} (ha : a < 4294967296) (hb : b < 4294967296) : Int32.ofNat a = Int32.ofNat b ↔ a = b := by
  constructor
  · intro h
    have h2 : (BitVec.ofNat 32 a).toNat = (BitVec.ofNat 32 b).toNat := congrArg (fun x : Int32 => x.toBitVec.toNat) h
    rw [BitVec.toNat_ofNat, BitVec.toNat_ofNat] at h2
    omega
  · intro h; rw [h]
theorem n_add (a b : Nat) : Int32.ofNat a + Int32.ofNat b = Int32.ofNat (a + b) := (Int32.ofNat_add a b).symm
theorem n_mul (a b : Nat) : Int32.ofNat a * Int32.ofNat b = Int32.ofNat (a * b) := (Int32.ofNat_mul a b).symm
theorem n_inc (k : Nat) : Int32.ofNat (k + 1) = Int32.ofNat k + Int32.ofInt 1 := Int32.ofNat_add k 1
theorem n_sub {a b : Nat} (h : b ≤ a) : Int32.ofNat a - Int32.ofNat b = Int32.ofNat (a - b) := by
  have h1 : Int32.ofNat a = Int32.ofNat (a - b) + Int32.ofNat b := by rw [n_add, Nat.sub_add_cancel h]
  rw [h1, Int32.add_sub_cancel]
theorem n_div {a b : Nat} (ha : a < 2147483648) (hb : b < 2147483648) (h0 : 0 < b) : Int32.ofNat a / Int32.ofNat b = Int32.ofNat (a / b) := by
  have hne : Int32.ofNat b ≠ -1 := by
    intro h
    have h2 := congrArg Int32.toInt h
    rw [n_int hb] at h2
    have h3 : (-1 : Int32).toInt = -1 := rfl
    omega
  have hlt : a / b < 2147483648 := Nat.lt_of_le_of_lt (Nat.div_le_self a b) ha
  apply Int32.toInt_inj.mp
  rw [Int32.toInt_div_of_ne_right _ _ hne, n_int ha, n_int hb, n_int hlt]
  rfl
theorem n_mod {a b : Nat} (ha : a < 2147483648) (hb : b < 2147483648) (h0 : 0 < b) : Int32.ofNat a - Int32.ofNat a / Int32.ofNat b * Int32.ofNat b = Int32.ofNat (a % b) := by
  rw [n_div ha hb h0, n_mul, n_sub (Nat.div_mul_le_self a b)]
  congr 1
  have := Nat.div_add_mod a b
  have h2 : b * (a / b) = a / b * b := Nat.mul_comm _ _
  omega
theorem n_ix {a n : Nat} (ha : a < n) (hn : n < 2147483648) : xi_ix (Int32.ofNat a) n = true := by
  have h0 : ¬ Int32.ofNat a < 0 := by
    have := n_lt (a := a) (b := 0) (by omega) (by omega)
    intro h
    have := this.mp h
    omega
  simp only [xi_ix, decide_eq_false h0, n_nat (show a < 2147483648 by omega), Bool.not_false, Bool.true_and]
  exact Nat.blt_eq.mpr ha
theorem xg_to {d i pc : Nat} {l : xi_L} {st st' : List Value} {w : xi_W} {c s : Nat} {r : xi_R} (e : st = st') (h : xg d i pc l st' w c s r) : xg d i pc l st w c s r := e ▸ h
theorem xn_add {d i pc a b : Nat} {l : xi_L} {st : List Value} {w : xi_W} {c s : Nat} {r : xi_R} (hc : xt_cd i pc = some .iadd) (h : xg d i (pc + 1) l (.int (Int32.ofNat (a + b)) :: st) w c s r) : xg d i pc l (.int (Int32.ofNat b) :: .int (Int32.ofNat a) :: st) w c s r :=
  xg_stp hc rfl rfl (by simp only [xi_stp, xi_b2, n_add]) h
theorem xn_mul {d i pc a b : Nat} {l : xi_L} {st : List Value} {w : xi_W} {c s : Nat} {r : xi_R} (hc : xt_cd i pc = some .imul) (h : xg d i (pc + 1) l (.int (Int32.ofNat (a * b)) :: st) w c s r) : xg d i pc l (.int (Int32.ofNat b) :: .int (Int32.ofNat a) :: st) w c s r :=
  xg_stp hc rfl rfl (by simp only [xi_stp, xi_b2, n_mul]) h
theorem xn_sub {d i pc a b : Nat} {l : xi_L} {st : List Value} {w : xi_W} {c s : Nat} {r : xi_R} (hle : b ≤ a) (hc : xt_cd i pc = some .isub) (h : xg d i (pc + 1) l (.int (Int32.ofNat (a - b)) :: st) w c s r) : xg d i pc l (.int (Int32.ofNat b) :: .int (Int32.ofNat a) :: st) w c s r :=
  xg_stp hc rfl rfl (by simp only [xi_stp, xi_b2, n_sub hle]) h
theorem n_ne0 {b : Nat} (hb : b < 2147483648) (h0 : 0 < b) : decide (Int32.ofNat b = 0) = false :=
  decide_eq_false (fun h => by have h2 := (n_eq (a := b) (b := 0) (by omega) (by omega)).mp h; omega)
theorem xn_div {d i pc a b : Nat} {l : xi_L} {st : List Value} {w : xi_W} {c s : Nat} {r : xi_R} (ha : a < 2147483648) (hb : b < 2147483648) (h0 : 0 < b) (hc : xt_cd i pc = some .idiv) (h : xg d i (pc + 1) l (.int (Int32.ofNat (a / b)) :: st) w c s r) : xg d i pc l (.int (Int32.ofNat b) :: .int (Int32.ofNat a) :: st) w c s r :=
  xg_stp hc rfl rfl (by simp only [xi_stp, n_ne0 hb h0, cond_false, n_div ha hb h0]) h
theorem xn_mod {d i pc a b : Nat} {l : xi_L} {st : List Value} {w : xi_W} {c s : Nat} {r : xi_R} (ha : a < 2147483648) (hb : b < 2147483648) (h0 : 0 < b) (hc : xt_cd i pc = some .irem) (h : xg d i (pc + 1) l (.int (Int32.ofNat (a % b)) :: st) w c s r) : xg d i pc l (.int (Int32.ofNat b) :: .int (Int32.ofNat a) :: st) w c s r :=
  xg_stp hc rfl rfl (by simp only [xi_stp, n_ne0 hb h0, cond_false, n_mod ha hb h0]) h
theorem xn_inc {d i pc a k : Nat} {m : Int} {e : Nat} {l : xi_L} {st : List Value} {w : xi_W} {c s : Nat} {r : xi_R} (he : Int32.ofInt m = Int32.ofNat e) (hc : xt_cd i pc = some (.iinc k m)) (hl : xi_get l k = some (.int (Int32.ofNat a))) (hk : Nat.blt k (xt_ml i) = true) (h : xg d i (pc + 3) (xi_st1 l k (.int (Int32.ofNat (a + e)))) st w c s r) : xg d i pc l st w c s r :=
  xg_stp hc rfl rfl (by simp only [xi_stp, hl, hk, he, n_add, cond_true]) h
/-- an array of whole numbers -/
def xn_f (F : Nat → Nat) : Nat → Int32 := fun j => Int32.ofNat (F j)
def xn_u (F : Nat → Nat) (k v : Nat) : Nat → Nat := fun j => if j = k then v else F j
theorem xn_upd (F : Nat → Nat) (k v : Nat) : upd (xn_f F) k (Int32.ofNat v) = xn_f (xn_u F k v) := by
  funext j; unfold upd xn_f xn_u; by_cases h : j = k
  · rw [if_pos h, if_pos h]
  · rw [if_neg h, if_neg h]
theorem xn_iaload {d i pc a n j : Nat} {l : xi_L} {st : List Value} {w : xi_W} {c s : Nat} {r : xi_R} {F : Nat → Nat} (hw : w[a]? = some (.inl (.int, n, .inl (xn_f F)))) (hj : j < n) (hn : n < 2147483648) (hc : xt_cd i pc = some .iaload) (h : xg d i (pc + 1) l (.int (Int32.ofNat (F j)) :: st) w c s r) : xg d i pc l (.int (Int32.ofNat j) :: .ref a :: st) w c s r :=
  xg_iaload hw hc (n_ix hj hn) rfl (by rw [n_nat (by omega)]; exact h)
theorem xn_iastore {d i pc a n j v : Nat} {l : xi_L} {st : List Value} {w : xi_W} {c s : Nat} {r : xi_R} {F : Nat → Nat} (hw : w[a]? = some (.inl (.int, n, .inl (xn_f F)))) (hj : j < n) (hn : n < 2147483648) (hg : Nat.ble 17 a = true) (hc : xt_cd i pc = some .iastore) (h : xg d i (pc + 1) l st (w.set a (.inl (.int, n, .inl (xn_f (xn_u F j v))))) c s r) : xg d i pc l (.int (Int32.ofNat v) :: .int (Int32.ofNat j) :: .ref a :: st) w c s r :=
  xg_iastore hw hg hc (n_ix hj hn) rfl (by rw [n_nat (by omega), xn_upd]; exact h)
/-! what a branch says -/
theorem nt_eq {off : Int} {a b : Nat} (ha : a < 4294967296) (hb : b < 4294967296) (h : xg_t2 (.if_icmp .eq off) (Int32.ofNat a) (Int32.ofNat b) = true) : a = b := (n_eq ha hb).mp (of_decide_eq_true h)
theorem nf_eq {off : Int} {a b : Nat} (h : xg_t2 (.if_icmp .eq off) (Int32.ofNat a) (Int32.ofNat b) = false) : a ≠ b := fun e => of_decide_eq_false h (by rw [e])
theorem nt_ne {off : Int} {a b : Nat} (h : xg_t2 (.if_icmp .ne off) (Int32.ofNat a) (Int32.ofNat b) = true) : a ≠ b := fun e => by
  have h2 : (!decide (Int32.ofNat a = Int32.ofNat b)) = true := h
  rw [decide_eq_true (by rw [e])] at h2
  cases h2
theorem nf_ne {off : Int} {a b : Nat} (ha : a < 4294967296) (hb : b < 4294967296) (h : xg_t2 (.if_icmp .ne off) (Int32.ofNat a) (Int32.ofNat b) = false) : a = b := by
  have h2 : (!decide (Int32.ofNat a = Int32.ofNat b)) = false := h
  by_cases e : Int32.ofNat a = Int32.ofNat b
  · exact (n_eq ha hb).mp e
  · rw [decide_eq_false e] at h2; cases h2
theorem nt_lt {off : Int} {a b : Nat} (ha : a < 2147483648) (hb : b < 2147483648) (h : xg_t2 (.if_icmp .lt off) (Int32.ofNat a) (Int32.ofNat b) = true) : a < b := (n_lt ha hb).mp (of_decide_eq_true h)
theorem nf_lt {off : Int} {a b : Nat} (ha : a < 2147483648) (hb : b < 2147483648) (h : xg_t2 (.if_icmp .lt off) (Int32.ofNat a) (Int32.ofNat b) = false) : b ≤ a := Nat.le_of_not_lt fun e => of_decide_eq_false h ((n_lt ha hb).mpr e)
theorem nt_ge {off : Int} {a b : Nat} (ha : a < 2147483648) (hb : b < 2147483648) (h : xg_t2 (.if_icmp .ge off) (Int32.ofNat a) (Int32.ofNat b) = true) : b ≤ a := (n_le hb ha).mp (of_decide_eq_true h)
theorem nf_ge {off : Int} {a b : Nat} (ha : a < 2147483648) (hb : b < 2147483648) (h : xg_t2 (.if_icmp .ge off) (Int32.ofNat a) (Int32.ofNat b) = false) : a < b := Nat.lt_of_not_le fun e => of_decide_eq_false h ((n_le hb ha).mpr e)
theorem nt_gt {off : Int} {a b : Nat} (ha : a < 2147483648) (hb : b < 2147483648) (h : xg_t2 (.if_icmp .gt off) (Int32.ofNat a) (Int32.ofNat b) = true) : b < a := (n_lt hb ha).mp (of_decide_eq_true h)
theorem nf_gt {off : Int} {a b : Nat} (ha : a < 2147483648) (hb : b < 2147483648) (h : xg_t2 (.if_icmp .gt off) (Int32.ofNat a) (Int32.ofNat b) = false) : a ≤ b := Nat.le_of_not_lt fun e => of_decide_eq_false h ((n_lt hb ha).mpr e)
theorem nt_le {off : Int} {a b : Nat} (ha : a < 2147483648) (hb : b < 2147483648) (h : xg_t2 (.if_icmp .le off) (Int32.ofNat a) (Int32.ofNat b) = true) : a ≤ b := (n_le ha hb).mp (of_decide_eq_true h)
theorem nf_le {off : Int} {a b : Nat} (ha : a < 2147483648) (hb : b < 2147483648) (h : xg_t2 (.if_icmp .le off) (Int32.ofNat a) (Int32.ofNat b) = false) : b < a := Nat.lt_of_not_le fun e => of_decide_eq_false h ((n_le ha hb).mpr e)
theorem n_sm {k : Nat} (hk : k < 32) : ((Int32.ofNat k &&& 31).toBitVec.smod 32).toNat = k := by
  have h : ∀ q : Fin 32, ((Int32.ofNat q.val &&& 31).toBitVec.smod 32).toNat = q.val := by decide +kernel
  exact h ⟨k, hk⟩
theorem n_shr {v k : Nat} (hv : v < 2147483648) (hk : k < 32) : Int32.ofNat v >>> (Int32.ofNat k &&& 31) = Int32.ofNat (v / 2 ^ k) := by
  have hlt : v / 2 ^ k < 2147483648 := Nat.lt_of_le_of_lt (Nat.div_le_self _ _) hv
  apply Int32.toInt_inj.mp
  rw [n_int hlt]
  show (BitVec.sshiftRight' (Int32.ofNat v).toBitVec ((Int32.ofNat k &&& 31).toBitVec.smod 32)).toInt = _
  rw [BitVec.toInt_sshiftRight', n_sm hk]
  have h1 : (Int32.ofNat v).toBitVec.toInt = v := n_int hv
  rw [h1, Int.shiftRight_eq_div_pow]
  rfl
theorem n_and (a b : Nat) : Int32.ofNat a &&& Int32.ofNat b = Int32.ofNat (a &&& b) := by
  apply Int32.toBitVec_inj.mp
  show BitVec.ofNat 32 a &&& BitVec.ofNat 32 b = BitVec.ofNat 32 (a &&& b)
  exact BitVec.ofNat_and.symm
theorem n_or (a b : Nat) : Int32.ofNat a ||| Int32.ofNat b = Int32.ofNat (a ||| b) := by
  apply Int32.toBitVec_inj.mp
  show BitVec.ofNat 32 a ||| BitVec.ofNat 32 b = BitVec.ofNat 32 (a ||| b)
  exact BitVec.ofNat_or.symm
theorem xn_and {d i pc a b : Nat} {l : xi_L} {st : List Value} {w : xi_W} {c s : Nat} {r : xi_R} (hc : xt_cd i pc = some .iand) (h : xg d i (pc + 1) l (.int (Int32.ofNat (a &&& b)) :: st) w c s r) : xg d i pc l (.int (Int32.ofNat b) :: .int (Int32.ofNat a) :: st) w c s r :=
  xg_stp hc rfl rfl (by simp only [xi_stp, xi_b2, n_and]) h
theorem xn_or {d i pc a b : Nat} {l : xi_L} {st : List Value} {w : xi_W} {c s : Nat} {r : xi_R} (hc : xt_cd i pc = some .ior) (h : xg d i (pc + 1) l (.int (Int32.ofNat (a ||| b)) :: st) w c s r) : xg d i pc l (.int (Int32.ofNat b) :: .int (Int32.ofNat a) :: st) w c s r :=
  xg_stp hc rfl rfl (by simp only [xi_stp, xi_b2, n_or]) h
theorem xn_shr {d i pc a k : Nat} {l : xi_L} {st : List Value} {w : xi_W} {c s : Nat} {r : xi_R} (ha : a < 2147483648) (hk : k < 32) (hc : xt_cd i pc = some .ishr) (h : xg d i (pc + 1) l (.int (Int32.ofNat (a / 2 ^ k)) :: st) w c s r) : xg d i pc l (.int (Int32.ofNat k) :: .int (Int32.ofNat a) :: st) w c s r :=
  xg_stp hc rfl rfl (by simp only [xi_stp, xi_b2, n_shr ha hk]) h
theorem xg_retb {d i pc n : Nat} {l : xi_L} {w : xi_W} {c s : Nat} (hn : n < 2) (hc : xt_cd i pc = some .ireturn) (hr : xt_mr i = some .boolean) : xg d i pc l [.int (Int32.ofNat n)] w c s (some (.int (Int32.ofNat n)), w, c, s) := by
  match n, hn with
  | 0, _ => exact xg_ret hc (by simp only [xi_end, hr]; rfl)
  | 1, _ => exact xg_ret hc (by simp only [xi_end, hr]; rfl)
theorem nt1_eq {off : Int} {a : Nat} (ha : a < 4294967296) (h : xg_t1 (.ifCond .eq off) (Int32.ofNat a) = true) : a = 0 := (n_eq (b := 0) ha (by omega)).mp (of_decide_eq_true h)
theorem nf1_eq {off : Int} {a : Nat} (h : xg_t1 (.ifCond .eq off) (Int32.ofNat a) = false) : a ≠ 0 := fun e => of_decide_eq_false h (by rw [e]; rfl)
theorem nt1_ne {off : Int} {a : Nat} (h : xg_t1 (.ifCond .ne off) (Int32.ofNat a) = true) : a ≠ 0 := fun e => by
  have h2 : (!decide (Int32.ofNat a = 0)) = true := h
  rw [decide_eq_true (by rw [e]; rfl)] at h2
  cases h2
theorem nf1_ne {off : Int} {a : Nat} (ha : a < 4294967296) (h : xg_t1 (.ifCond .ne off) (Int32.ofNat a) = false) : a = 0 := by
  have h2 : (!decide (Int32.ofNat a = 0)) = false := h
  by_cases e : Int32.ofNat a = 0
  · exact (n_eq (b := 0) ha (by omega)).mp e
  · rw [decide_eq_false e] at h2; cases h2
theorem n_shl {v k : Nat} (hk : k < 32) : Int32.ofNat v <<< (Int32.ofNat k &&& 31) = Int32.ofNat (v * 2 ^ k) := by
  apply Int32.toBitVec_inj.mp
  show (Int32.ofNat v).toBitVec <<< ((Int32.ofNat k &&& 31).toBitVec.smod 32) = BitVec.ofNat 32 (v * 2 ^ k)
  rw [BitVec.shiftLeft_eq', n_sm hk]
  apply BitVec.eq_of_toNat_eq
  rw [BitVec.toNat_shiftLeft, Nat.shiftLeft_eq, BitVec.toNat_ofNat]
  show (BitVec.ofNat 32 v).toNat * 2 ^ k % 2 ^ 32 = _
  rw [BitVec.toNat_ofNat, Nat.mod_mul_mod]
theorem xn_shl {d i pc a k : Nat} {l : xi_L} {st : List Value} {w : xi_W} {c s : Nat} {r : xi_R} (hk : k < 32) (hc : xt_cd i pc = some .ishl) (h : xg d i (pc + 1) l (.int (Int32.ofNat (a * 2 ^ k)) :: st) w c s r) : xg d i pc l (.int (Int32.ofNat k) :: .int (Int32.ofNat a) :: st) w c s r :=
  xg_stp hc rfl rfl (by simp only [xi_stp, xi_b2, n_shl hk]) h
/-! whole numbers in longs -/
theorem nl_int {a : Nat} (ha : a < 9223372036854775808) : (Int64.ofNat a).toInt = a := Int64.toInt_ofNat_of_lt ha
theorem nl_add (a b : Nat) : Int64.ofNat a + Int64.ofNat b = Int64.ofNat (a + b) := (Int64.ofNat_add a b).symm
theorem nl_mul (a b : Nat) : Int64.ofNat a * Int64.ofNat b = Int64.ofNat (a * b) := (Int64.ofNat_mul a b).symm
theorem nl_sub {a b : Nat} (h : b ≤ a) : Int64.ofNat a - Int64.ofNat b = Int64.ofNat (a - b) := by
  have h1 : Int64.ofNat a = Int64.ofNat (a - b) + Int64.ofNat b := by rw [nl_add, Nat.sub_add_cancel h]
  rw [h1, Int64.add_sub_cancel]
theorem nl_eq {a b : Nat} (ha : a < 18446744073709551616) (hb : b < 18446744073709551616) : Int64.ofNat a = Int64.ofNat b ↔ a = b := by
  constructor
  · intro h
    have h2 : (BitVec.ofNat 64 a).toNat = (BitVec.ofNat 64 b).toNat := congrArg (fun x : Int64 => x.toBitVec.toNat) h
    rw [BitVec.toNat_ofNat, BitVec.toNat_ofNat] at h2
    omega
  · intro h; rw [h]
theorem nl_div {a b : Nat} (ha : a < 9223372036854775808) (hb : b < 9223372036854775808) (h0 : 0 < b) : Int64.ofNat a / Int64.ofNat b = Int64.ofNat (a / b) := by
  have hne : Int64.ofNat b ≠ -1 := by
    intro h
    have h2 := congrArg Int64.toInt h
    rw [nl_int hb] at h2
    have h3 : (-1 : Int64).toInt = -1 := rfl
    omega
  have hlt : a / b < 9223372036854775808 := Nat.lt_of_le_of_lt (Nat.div_le_self a b) ha
  apply Int64.toInt_inj.mp
  rw [Int64.toInt_div_of_ne_right _ _ hne, nl_int ha, nl_int hb, nl_int hlt]
  rfl
theorem nl_mod {a b : Nat} (ha : a < 9223372036854775808) (hb : b < 9223372036854775808) (h0 : 0 < b) : Int64.ofNat a - Int64.ofNat a / Int64.ofNat b * Int64.ofNat b = Int64.ofNat (a % b) := by
  rw [nl_div ha hb h0, nl_mul, nl_sub (Nat.div_mul_le_self a b)]
  congr 1
  have := Nat.div_add_mod a b
  have h2 : b * (a / b) = a / b * b := Nat.mul_comm _ _
  omega
theorem nl_ne0 {b : Nat} (hb : b < 9223372036854775808) (h0 : 0 < b) : decide (Int64.ofNat b = 0) = false :=
  decide_eq_false (fun h => by have h2 := (nl_eq (a := b) (b := 0) (by omega) (by omega)).mp h; omega)
theorem n_i2l {a : Nat} (ha : a < 2147483648) : (Int32.ofNat a).toInt64 = Int64.ofNat a := by
  apply Int64.toInt_inj.mp
  rw [Int32.toInt_toInt64, n_int ha, nl_int (by omega)]
theorem n_l2i (a : Nat) : (Int64.ofNat a).toInt32 = Int32.ofNat a := Int64.toInt32_ofNat'
theorem xn_i2l {d i pc a : Nat} {l : xi_L} {st : List Value} {w : xi_W} {c s : Nat} {r : xi_R} (ha : a < 2147483648) (hc : xt_cd i pc = some .i2l) (h : xg d i (pc + 1) l (.long (Int64.ofNat a) :: st) w c s r) : xg d i pc l (.int (Int32.ofNat a) :: st) w c s r :=
  xg_stp hc rfl rfl (by simp only [xi_stp, xi_u1, n_i2l ha]) h
theorem xn_l2i {d i pc a : Nat} {l : xi_L} {st : List Value} {w : xi_W} {c s : Nat} {r : xi_R} (hc : xt_cd i pc = some .l2i) (h : xg d i (pc + 1) l (.int (Int32.ofNat a) :: st) w c s r) : xg d i pc l (.long (Int64.ofNat a) :: st) w c s r :=
  xg_stp hc rfl rfl (by simp only [xi_stp, xi_u1l, n_l2i]) h
theorem xn_ladd {d i pc a b : Nat} {l : xi_L} {st : List Value} {w : xi_W} {c s : Nat} {r : xi_R} (hc : xt_cd i pc = some .ladd) (h : xg d i (pc + 1) l (.long (Int64.ofNat (a + b)) :: st) w c s r) : xg d i pc l (.long (Int64.ofNat b) :: .long (Int64.ofNat a) :: st) w c s r :=
  xg_stp hc rfl rfl (by simp only [xi_stp, xi_b2l, nl_add]) h
theorem xn_lmul {d i pc a b : Nat} {l : xi_L} {st : List Value} {w : xi_W} {c s : Nat} {r : xi_R} (hc : xt_cd i pc = some .lmul) (h : xg d i (pc + 1) l (.long (Int64.ofNat (a * b)) :: st) w c s r) : xg d i pc l (.long (Int64.ofNat b) :: .long (Int64.ofNat a) :: st) w c s r :=
  xg_stp hc rfl rfl (by simp only [xi_stp, xi_b2l, nl_mul]) h
theorem xn_lmod {d i pc a b : Nat} {l : xi_L} {st : List Value} {w : xi_W} {c s : Nat} {r : xi_R} (ha : a < 9223372036854775808) (hb : b < 9223372036854775808) (h0 : 0 < b) (hc : xt_cd i pc = some .lrem) (h : xg d i (pc + 1) l (.long (Int64.ofNat (a % b)) :: st) w c s r) : xg d i pc l (.long (Int64.ofNat b) :: .long (Int64.ofNat a) :: st) w c s r :=
  xg_stp hc rfl rfl (by simp only [xi_stp, nl_ne0 hb h0, cond_false, nl_mod ha hb h0]) h
theorem xg_ldn {d i pc : Nat} {k : Fin 4} {l : xi_L} {st : List Value} {w : xi_W} {c s : Nat} {r : xi_R} {x : Int32} (hl : xi_get l k.val = some (.int x)) (hc : xt_cd i pc = some (.iload_n k)) (h : xg d i (pc + 1) l (.int x :: st) w c s r) : xg d i pc l st w c s r :=
  xg_stp hc rfl rfl (by simp only [xi_stp, xi_ld, hl]; rfl) h
theorem xg_ldw {d i pc k : Nat} {l : xi_L} {st : List Value} {w : xi_W} {c s : Nat} {r : xi_R} {x : Int32} (hl : xi_get l k = some (.int x)) (hc : xt_cd i pc = some (.iload k)) (h : xg d i (pc + 2) l (.int x :: st) w c s r) : xg d i pc l st w c s r :=
  xg_stp hc rfl rfl (by simp only [xi_stp, xi_ld, hl]; rfl) h
theorem xg_lda {d i pc a : Nat} {k : Fin 4} {l : xi_L} {st : List Value} {w : xi_W} {c s : Nat} {r : xi_R} (hl : xi_get l k.val = some (.ref a)) (hc : xt_cd i pc = some (.aload_n k)) (h : xg d i (pc + 1) l (.ref a :: st) w c s r) : xg d i pc l st w c s r :=
  xg_stp hc rfl rfl (by simp only [xi_stp, xi_ld, hl]; rfl) h
theorem xn_ue (F : Nat → Nat) (k v : Nat) : xn_u F k v k = v := if_pos rfl
theorem xn_un (F : Nat → Nat) {k j : Nat} (v : Nat) (h : j ≠ k) : xn_u F k v j = F j := if_neg h
theorem nt1_le {off : Int} {a : Nat} (ha : a < 2147483648) (h : xg_t1 (.ifCond .le off) (Int32.ofNat a) = true) : a = 0 := by
  have h2 := (n_le (b := 0) ha (by omega)).mp (of_decide_eq_true h); omega
theorem nf1_le {off : Int} {a : Nat} (ha : a < 2147483648) (h : xg_t1 (.ifCond .le off) (Int32.ofNat a) = false) : 0 < a := by
  have h2 : ¬ a ≤ 0 := fun e => of_decide_eq_false h ((n_le (b := 0) ha (by omega)).mpr e); omega
