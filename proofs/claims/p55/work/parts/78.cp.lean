/-! the class: Worlds copied -/
theorem xr_putk {d i pc k a : Nat} {l : xi_L} {st : List Value} {w : xi_W} {c s : Nat} {r : xi_R → Prop} {q : Nat × Nat × Nat} {o : Nat × List Value} {v : Value} (hw : w[a]? = some (.inr o)) (hg : 17 ≤ a) (hc : xt_cd i pc = some (.putfield k)) (hq : xt_fdp (xt_mo i) k = some q) (hb : Nat.beq q.1 o.1 = true) (hy : xi_fit (xt_fy q.1 q.2.1) v = true) (hl : Nat.blt q.2.1 o.2.length = true) (hf : xt_ff q.1 q.2.1 = false) (h : ∀ w', w'[a]? = some (.inr (o.1, o.2.set q.2.1 v)) → fr (· = a) w w' → xr d i (pc + 3) l st w' c s r) : xr d i pc l (v :: .ref a :: st) w c s r :=
  xr_up (fun _ z => xg_putfield hw (Nat.ble_eq.mpr hg) hc hq hb hy hl hf z) (h _ (xi_setat hw) (fr.set rfl))
theorem xs_aln {d i pc a n : Nat} {G : Nat → Nat} {l : xi_L} {st : List Value} {w : xi_W} {c s : Nat} {r : xi_R → Prop} (hw : w[a]? = some (lw_a n G)) (hc : xt_cd i pc = some .arraylength) (h : xr d i (pc + 1) l (.int (Int32.ofNat n) :: st) w c s r) : xr d i pc l (.ref a :: st) w c s r :=
  xr_stp hc rfl rfl (by unfold lw_a at hw; simp only [xi_stp, hw]) h
/-- the first n out of one, the others out of the other one -/
def cpN (n : Nat) (G0 G1 : Nat → Nat) : Nat → Nat := fun j => if j < n then G0 j else G1 j
theorem cpy_N (n : Nat) {α : Type} (g0 g1 : Nat → α) : va_cpy g0 g1 0 0 n = fun j => if j < n then g0 j else g1 j := by
  funext j
  unfold va_cpy
  by_cases h : j < n
  · rw [if_pos h, if_pos (by omega)]
    exact congrArg g0 (by omega)
  · rw [if_neg h, if_neg (by omega)]
theorem xs_acI {d i pc a0 a n k x : Nat} {y : List Nat} {G0 G1 : Nat → Nat} {l : xi_L} {st : List Value} {w : xi_W} {c s : Nat} {r : xi_R → Prop} (hw0 : w[a0]? = some (lw_i n G0)) (hw1 : w[a]? = some (lw_i n G1)) (hg0 : 17 ≤ a0) (hg : 17 ≤ a) (hn : n < 2147483648) (hc : xt_cd i pc = some (.invokestatic k)) (hm : xt_mdp (xt_mo i) k = some (5, x, y)) (hr : Nat.ble (st.map fun v => v.category).sum 8 = true) (h : ∀ w', w'[a]? = some (lw_i n (cpN n G0 G1)) → fr (· = a) w w' → xr (d + 1) i (pc + 3) l st w' c s r) : xr (d + 1) i pc l (.int (Int32.ofNat n) :: .int (Int32.ofNat 0) :: .ref a :: .int (Int32.ofNat 0) :: .ref a0 :: st) w c s r := by
  refine xr_stp hc rfl (by simp only [xi_inv, hm]) ?_ (h (w.set a (lw_i n (cpN n G0 G1))) (xi_setat hw1) (fr.set rfl))
  have e3 : Nat.blt 0 (d + 1) = true := Nat.blt_eq.mpr (Nat.succ_pos d)
  have e4 : Nat.beq 5 11 = false ∧ Nat.beq 5 12 = false ∧ Nat.beq 5 6 = false ∧ Nat.beq 5 7 = false ∧ Nat.beq 5 8 = false ∧ Nat.beq 5 5 = true := ⟨rfl, rfl, rfl, rfl, rfl, rfl⟩
  have z0 : (Int32.ofNat 0).toNatClampNeg = 0 := rfl
  have zd : decide (Int32.ofNat 0 < 0) = false := by decide
  unfold lw_i at hw0 hw1
  simp only [xi_stp, hm, e4.1, e4.2.1, e4.2.2.1, e4.2.2.2.1, e4.2.2.2.2.1, e4.2.2.2.2.2, cond_false, cond_true, e3, hr, zd, n_not0 hn, Nat.ble_eq.mpr hg, Nat.ble_eq.mpr hg0, Bool.not_false, Bool.and_self, hw0, hw1, z0, n_nat hn, Nat.zero_add, Nat.ble_eq.mpr (Nat.le_refl n), cpy_N]
  have e : (fun j => if j < n then xn_f G0 j else xn_f G1 j) = xn_f (cpN n G0 G1) := by
    funext j
    unfold xn_f cpN
    by_cases z : j < n
    · rw [if_pos z, if_pos z]
    · rw [if_neg z, if_neg z]
  rw [e]
  rfl
theorem xs_acL {d i pc a0 a n k x : Nat} {y : List Nat} {G0 G1 : Nat → Nat} {l : xi_L} {st : List Value} {w : xi_W} {c s : Nat} {r : xi_R → Prop} (hw0 : w[a0]? = some (lw_a n G0)) (hw1 : w[a]? = some (lw_a n G1)) (hg0 : 17 ≤ a0) (hg : 17 ≤ a) (hn : n < 2147483648) (hc : xt_cd i pc = some (.invokestatic k)) (hm : xt_mdp (xt_mo i) k = some (5, x, y)) (hr : Nat.ble (st.map fun v => v.category).sum 8 = true) (h : ∀ w', w'[a]? = some (lw_a n (cpN n G0 G1)) → fr (· = a) w w' → xr (d + 1) i (pc + 3) l st w' c s r) : xr (d + 1) i pc l (.int (Int32.ofNat n) :: .int (Int32.ofNat 0) :: .ref a :: .int (Int32.ofNat 0) :: .ref a0 :: st) w c s r := by
  refine xr_stp hc rfl (by simp only [xi_inv, hm]) ?_ (h (w.set a (lw_a n (cpN n G0 G1))) (xi_setat hw1) (fr.set rfl))
  have e3 : Nat.blt 0 (d + 1) = true := Nat.blt_eq.mpr (Nat.succ_pos d)
  have e4 : Nat.beq 5 11 = false ∧ Nat.beq 5 12 = false ∧ Nat.beq 5 6 = false ∧ Nat.beq 5 7 = false ∧ Nat.beq 5 8 = false ∧ Nat.beq 5 5 = true := ⟨rfl, rfl, rfl, rfl, rfl, rfl⟩
  have z0 : (Int32.ofNat 0).toNatClampNeg = 0 := rfl
  have zd : decide (Int32.ofNat 0 < 0) = false := by decide
  unfold lw_a at hw0 hw1
  simp only [xi_stp, hm, e4.1, e4.2.1, e4.2.2.1, e4.2.2.2.1, e4.2.2.2.2.1, e4.2.2.2.2.2, cond_false, cond_true, e3, hr, zd, n_not0 hn, Nat.ble_eq.mpr hg, Nat.ble_eq.mpr hg0, Bool.not_false, Bool.and_self, hw0, hw1, z0, n_nat hn, Nat.zero_add, Nat.ble_eq.mpr (Nat.le_refl n), cpy_N]
  have e : (fun j => if j < n then Int64.ofNat (G0 j) else Int64.ofNat (G1 j)) = fun j => Int64.ofNat (cpN n G0 G1 j) := by
    funext j
    unfold cpN
    by_cases z : j < n
    · rw [if_pos z, if_pos z]
    · rw [if_neg z, if_neg z]
  rw [e]
  rfl
/-- the numbers that a World has -/
def inR (k : Nat) : Prop := (k % 16 < 2 ∧ k / 16 < 220) ∨ (k % 16 = 2 ∧ k / 16 < 256) ∨ (k % 16 = 3 ∧ k / 16 < 16) ∨ (k % 16 = 4 ∧ k / 16 < 4) ∨ (k % 16 = 5 ∧ k / 16 < 4) ∨ (k % 16 = 6 ∧ k / 16 < 120) ∨ (k % 16 = 7 ∧ k / 16 < 100) ∨ (k % 16 = 8 ∧ k / 16 < 6)
theorem RL.ag {lo N : Nat} {G F F' : Nat → Nat} (h : RL lo N G F) (e : ∀ k, inR k → F' k = F k) : RL lo N G F' := by
  unfold inR at e
  obtain ⟨⟨J, I, ⟨E1, E2⟩, S, C, D, Q, ⟨F1, F2⟩, B⟩, hw⟩ := h
  have m24 := J.m
  have m62 := J.e
  have b24 := B.1
  have eR : ∀ {X a k : Nat}, X < 52 → ro G F X a k → ro G F' X a k := fun {X a k} hX z => z.cg rfl (fun _ _ _ => rfl) (fun r hr => ⟨e _ (by omega), e _ (by omega)⟩)
  refine ⟨⟨J, I, ⟨fun i hi => ?_, fun u hu => by rw [e _ (by omega)]; exact E2 u hu⟩, fun s hs => eR (by omega) (S s hs), fun s hs => ?_, fun s n hs h1 h2 => eR (by omega) (D s n hs h1 h2), ?_, ⟨by rw [e _ (by omega)]; exact F1, fun i hi => ?_⟩, ⟨by rw [e _ (by omega)]; exact B.1, fun i k hi hk => ?_⟩⟩, hw⟩
  · have a := I.1 i hi
    have b := I.1.num hi
    rw [e _ (by omega)]; exact E1 i hi
  · rw [e _ (by omega), e _ (by omega)]
    exact ⟨(C s hs).1, (C s hs).2.1, fun q hq => by rw [e _ (by omega)]; exact (C s hs).2.2 q hq⟩
  · unfold RQ
    rw [e 40 (by omega), e 56 (by omega), e 72 (by omega), e 88 (by omega)]
    exact Q
  · obtain ⟨b1, b2, b3, b4, b5, b6⟩ := F2 i hi
    rw [e (16 * (i * 5) + 6) (by omega), e (16 * (i * 5 + 1) + 6) (by omega), e (16 * (i * 5 + 2) + 6) (by omega), e (16 * (i * 5 + 3) + 6) (by omega), e (16 * (i * 5 + 4) + 6) (by omega)]
    exact ⟨eR (by omega) b1, b2, b3, b4, b5, b6⟩
  · rw [e 24 (by omega)] at hi ⊢
    rw [e _ (by omega)]
    exact B.2 i k hi hk
theorem kw.mk {W : xi_W} {b : Nat} {F : Nat → Nat} (hb : wb b) (p0 : W[b]? = some (.inr (5, [.ref (b + 1), .ref (b + 5), .ref (b + 6), .ref (b + 7), .ref (b + 8), .ref (b + 9), .int (Int32.ofNat (F 8)), .int (Int32.ofNat (F 24)), .int (Int32.ofNat (F 40)), .int (Int32.ofNat (F 56)), .int (Int32.ofNat (F 72)), .int (Int32.ofNat (F 88))]))) (p1 : W[b + 1]? = some (.inr (0, [.ref (b + 2), .ref (b + 3), .ref (b + 4)]))) (p2 : W[b + 2]? = some (lw_a 220 (fun j => F (16 * j + 0)))) (p3 : W[b + 3]? = some (lw_a 220 (fun j => F (16 * j + 1)))) (p4 : W[b + 4]? = some (lw_i 256 (fun j => F (16 * j + 2)))) (p5 : W[b + 5]? = some (lw_i 16 (fun j => F (16 * j + 3)))) (p6 : W[b + 6]? = some (lw_i 4 (fun j => F (16 * j + 4)))) (p7 : W[b + 7]? = some (lw_i 4 (fun j => F (16 * j + 5)))) (p8 : W[b + 8]? = some (lw_i 120 (fun j => F (16 * j + 6)))) (p9 : W[b + 9]? = some (lw_i 100 (fun j => F (16 * j + 7)))) : kw W b F := by
  refine ⟨?_, p1⟩
  unfold cw_at
  apply List.ext_getElem?
  intro k
  unfold cn_w
  rw [List.getElem?_mapIdx]
  have key : ∀ i o, W[i]? = some o → cn_f (wI b) F i o = o → Option.map (cn_f (wI b) F i) W[i]? = W[i]? := fun i o h1 h2 => by
    rw [h1]
    exact congrArg some h2
  have w0 : wI b 0 = b := rfl
  have w3 : wI b 3 = b + 2 := by show b + 3 - 1 = b + 2; omega
  have w4 : wI b 4 = b + 3 := by show b + 4 - 1 = b + 3; omega
  have w5 : wI b 5 = b + 4 := by show b + 5 - 1 = b + 4; omega
  have w6 : wI b 6 = b + 5 := by show b + 6 - 1 = b + 5; omega
  have w7 : wI b 7 = b + 6 := by show b + 7 - 1 = b + 6; omega
  have w8 : wI b 8 = b + 7 := by show b + 8 - 1 = b + 7; omega
  have w9 : wI b 9 = b + 8 := by show b + 9 - 1 = b + 8; omega
  have w10 : wI b 10 = b + 9 := by show b + 10 - 1 = b + 9; omega
  have ne : ∀ i j, i < 11 → j < 11 → i ≠ 1 → i ≠ 2 → j ≠ 1 → j ≠ 2 → i ≠ j → ¬ wI b i = wI b j := fun i j h1 h2 h3 h4 h5 h6 h7 h8 => by
    unfold wI at h8
    rw [if_neg h4, if_neg h6] at h8
    split at h8 <;> split at h8 <;> omega
  by_cases h : cw_in (wI b) k
  · unfold cw_in at h
    rcases h with h | h | h | h | h | h | h | h | h
    · rw [h]
      refine key _ _ p0 ?_
      unfold cn_f
      rw [if_pos rfl]
      rfl
    · rw [h]
      refine key _ _ (by rw [w3]; exact p2) ?_
      unfold cn_f
      rw [if_neg (ne 3 0 (by omega) (by omega) (by omega) (by omega) (by omega) (by omega) (by omega)), if_pos rfl]
      rfl
    · rw [h]
      refine key _ _ (by rw [w4]; exact p3) ?_
      unfold cn_f
      rw [if_neg (ne 4 0 (by omega) (by omega) (by omega) (by omega) (by omega) (by omega) (by omega)), if_neg (ne 4 3 (by omega) (by omega) (by omega) (by omega) (by omega) (by omega) (by omega)), if_pos rfl]
      rfl
    · rw [h]
      refine key _ _ (by rw [w5]; exact p4) ?_
      unfold cn_f
      rw [if_neg (ne 5 0 (by omega) (by omega) (by omega) (by omega) (by omega) (by omega) (by omega)), if_neg (ne 5 3 (by omega) (by omega) (by omega) (by omega) (by omega) (by omega) (by omega)), if_neg (ne 5 4 (by omega) (by omega) (by omega) (by omega) (by omega) (by omega) (by omega)), if_pos rfl]
      rfl
    · rw [h]
      refine key _ _ (by rw [w6]; exact p5) ?_
      unfold cn_f
      rw [if_neg (ne 6 0 (by omega) (by omega) (by omega) (by omega) (by omega) (by omega) (by omega)), if_neg (ne 6 3 (by omega) (by omega) (by omega) (by omega) (by omega) (by omega) (by omega)), if_neg (ne 6 4 (by omega) (by omega) (by omega) (by omega) (by omega) (by omega) (by omega)), if_neg (ne 6 5 (by omega) (by omega) (by omega) (by omega) (by omega) (by omega) (by omega)), if_pos rfl]
      rfl
    · rw [h]
      refine key _ _ (by rw [w7]; exact p6) ?_
      unfold cn_f
      rw [if_neg (ne 7 0 (by omega) (by omega) (by omega) (by omega) (by omega) (by omega) (by omega)), if_neg (ne 7 3 (by omega) (by omega) (by omega) (by omega) (by omega) (by omega) (by omega)), if_neg (ne 7 4 (by omega) (by omega) (by omega) (by omega) (by omega) (by omega) (by omega)), if_neg (ne 7 5 (by omega) (by omega) (by omega) (by omega) (by omega) (by omega) (by omega)), if_neg (ne 7 6 (by omega) (by omega) (by omega) (by omega) (by omega) (by omega) (by omega)), if_pos rfl]
      rfl
    · rw [h]
      refine key _ _ (by rw [w8]; exact p7) ?_
      unfold cn_f
      rw [if_neg (ne 8 0 (by omega) (by omega) (by omega) (by omega) (by omega) (by omega) (by omega)), if_neg (ne 8 3 (by omega) (by omega) (by omega) (by omega) (by omega) (by omega) (by omega)), if_neg (ne 8 4 (by omega) (by omega) (by omega) (by omega) (by omega) (by omega) (by omega)), if_neg (ne 8 5 (by omega) (by omega) (by omega) (by omega) (by omega) (by omega) (by omega)), if_neg (ne 8 6 (by omega) (by omega) (by omega) (by omega) (by omega) (by omega) (by omega)), if_neg (ne 8 7 (by omega) (by omega) (by omega) (by omega) (by omega) (by omega) (by omega)), if_pos rfl]
      rfl
    · rw [h]
      refine key _ _ (by rw [w9]; exact p8) ?_
      unfold cn_f
      rw [if_neg (ne 9 0 (by omega) (by omega) (by omega) (by omega) (by omega) (by omega) (by omega)), if_neg (ne 9 3 (by omega) (by omega) (by omega) (by omega) (by omega) (by omega) (by omega)), if_neg (ne 9 4 (by omega) (by omega) (by omega) (by omega) (by omega) (by omega) (by omega)), if_neg (ne 9 5 (by omega) (by omega) (by omega) (by omega) (by omega) (by omega) (by omega)), if_neg (ne 9 6 (by omega) (by omega) (by omega) (by omega) (by omega) (by omega) (by omega)), if_neg (ne 9 7 (by omega) (by omega) (by omega) (by omega) (by omega) (by omega) (by omega)), if_neg (ne 9 8 (by omega) (by omega) (by omega) (by omega) (by omega) (by omega) (by omega)), if_pos rfl]
      rfl
    · rw [h]
      refine key _ _ (by rw [w10]; exact p9) ?_
      unfold cn_f
      rw [if_neg (ne 10 0 (by omega) (by omega) (by omega) (by omega) (by omega) (by omega) (by omega)), if_neg (ne 10 3 (by omega) (by omega) (by omega) (by omega) (by omega) (by omega) (by omega)), if_neg (ne 10 4 (by omega) (by omega) (by omega) (by omega) (by omega) (by omega) (by omega)), if_neg (ne 10 5 (by omega) (by omega) (by omega) (by omega) (by omega) (by omega) (by omega)), if_neg (ne 10 6 (by omega) (by omega) (by omega) (by omega) (by omega) (by omega) (by omega)), if_neg (ne 10 7 (by omega) (by omega) (by omega) (by omega) (by omega) (by omega) (by omega)), if_neg (ne 10 8 (by omega) (by omega) (by omega) (by omega) (by omega) (by omega) (by omega)), if_neg (ne 10 9 (by omega) (by omega) (by omega) (by omega) (by omega) (by omega) (by omega)), if_pos rfl]
      rfl
  · cases W[k]? with
    | none => rfl
    | some o => exact congrArg some (cw_fo F o h)
/-- the same as a test -/
def inB (k : Nat) : Bool := decide ((k % 16 < 2 ∧ k / 16 < 220) ∨ (k % 16 = 2 ∧ k / 16 < 256) ∨ (k % 16 = 3 ∧ k / 16 < 16) ∨ (k % 16 = 4 ∧ k / 16 < 4) ∨ (k % 16 = 5 ∧ k / 16 < 4) ∨ (k % 16 = 6 ∧ k / 16 < 120) ∨ (k % 16 = 7 ∧ k / 16 < 100) ∨ (k % 16 = 8 ∧ k / 16 < 6))
theorem inB_iff (k : Nat) : inB k = true ↔ inR k := decide_eq_true_iff
def cpF (F1 F2 : Nat → Nat) : Nat → Nat := fun k => if inB k = true then F2 k else F1 k
theorem cpF_in {F1 F2 : Nat → Nat} {k : Nat} (h : inR k) : cpF F1 F2 k = F2 k := if_pos ((inB_iff k).mpr h)
theorem cpN_if (n t : Nat) (F1 F2 : Nat → Nat) (h : ∀ j, inR (16 * j + t) ↔ j < n) : cpN n (fun j => F2 (16 * j + t)) (fun j => F1 (16 * j + t)) = fun j => cpF F1 F2 (16 * j + t) := by
  funext j
  unfold cpN cpF
  by_cases z : j < n
  · rw [if_pos z, if_pos ((inB_iff _).mpr ((h j).mpr z))]
  · rw [if_neg z, if_neg (fun y => z ((h j).mp ((inB_iff _).mp y)))]
def kin4 (b : Nat) : Nat → Prop := fun i => b + 2 ≤ i ∧ i ≤ b + 4
theorem n_copy (d c s b1 b2 : Nat) (W0 : xi_W) (F1 F2 : Nat → Nat) (hb1 : wb b1) (hb2 : wb b2) (hne : b1 + 10 ≤ b2 ∨ b2 + 10 ≤ b1) (p1 : W0[b1 + 1]? = some (.inr (0, [.ref (b1 + 2), .ref (b1 + 3), .ref (b1 + 4)]))) (s1 : W0[b2 + 1]? = some (.inr (0, [.ref (b2 + 2), .ref (b2 + 3), .ref (b2 + 4)]))) (p2 : W0[b1 + 2]? = some (lw_a 220 (fun j => F1 (16 * j + 0)))) (p3 : W0[b1 + 3]? = some (lw_a 220 (fun j => F1 (16 * j + 1)))) (p4 : W0[b1 + 4]? = some (lw_i 256 (fun j => F1 (16 * j + 2)))) (s2 : W0[b2 + 2]? = some (lw_a 220 (fun j => F2 (16 * j + 0)))) (s3 : W0[b2 + 3]? = some (lw_a 220 (fun j => F2 (16 * j + 1)))) (s4 : W0[b2 + 4]? = some (lw_i 256 (fun j => F2 (16 * j + 2)))) (r : xi_R → Prop) (K : ∀ W', fr (kin4 b1) W0 W' → W'[b1 + 2]? = some (lw_a 220 (cpN 220 (fun j => F2 (16 * j + 0)) (fun j => F1 (16 * j + 0)))) → W'[b1 + 3]? = some (lw_a 220 (cpN 220 (fun j => F2 (16 * j + 1)) (fun j => F1 (16 * j + 1)))) → W'[b1 + 4]? = some (lw_i 256 (cpN 256 (fun j => F2 (16 * j + 2)) (fun j => F1 (16 * j + 2)))) → r (none, W', c, s)) : xr (d + 1) 1 0 [(0, .ref (b1 + 1)), (1, .ref (b2 + 1))] [] W0 c s r := by
  obtain ⟨x1, x2, x3⟩ := hb1
  obtain ⟨y1, y2, y3⟩ := hb2
  have hF : fr (kin4 b1) W0 W0 := fr.rf
  refine xr_stp rfl rfl rfl rfl ?_
  refine xr_getfield s1 rfl rfl rfl rfl ?_
  refine xr_stp (st' := .int (Int32.ofNat 0) :: _) rfl rfl rfl rfl ?_
  refine xr_stp rfl rfl rfl rfl ?_
  refine xr_getfield p1 rfl rfl rfl rfl ?_
  refine xr_stp (st' := .int (Int32.ofNat 0) :: _) rfl rfl rfl rfl ?_
  refine xr_stp rfl rfl rfl rfl ?_
  refine xr_getfield p1 rfl rfl rfl rfl ?_
  refine xs_aln p2 rfl ?_
  refine xs_acL s2 p2 (by omega) (by omega) (by omega) rfl rfl rfl (fun W p2 hf1 => ?_)
  have p1 := hf1.at p1 (by omega)
  have p3 := hf1.at p3 (by omega)
  have p4 := hf1.at p4 (by omega)
  have s1 := hf1.at s1 (by omega)
  have s2 := hf1.at s2 (by omega)
  have s3 := hf1.at s3 (by omega)
  have s4 := hf1.at s4 (by omega)
  have hF := hF.tr2 hf1 (fun i (e : i = b1 + 2) => Or.inl (by unfold kin4; omega))
  refine xr_stp rfl rfl rfl rfl ?_
  refine xr_getfield s1 rfl rfl rfl rfl ?_
  refine xr_stp (st' := .int (Int32.ofNat 0) :: _) rfl rfl rfl rfl ?_
  refine xr_stp rfl rfl rfl rfl ?_
  refine xr_getfield p1 rfl rfl rfl rfl ?_
  refine xr_stp (st' := .int (Int32.ofNat 0) :: _) rfl rfl rfl rfl ?_
  refine xr_stp rfl rfl rfl rfl ?_
  refine xr_getfield p1 rfl rfl rfl rfl ?_
  refine xs_aln p3 rfl ?_
  refine xs_acL s3 p3 (by omega) (by omega) (by omega) rfl rfl rfl (fun W p3 hf1 => ?_)
  have p1 := hf1.at p1 (by omega)
  have p2 := hf1.at p2 (by omega)
  have p4 := hf1.at p4 (by omega)
  have s1 := hf1.at s1 (by omega)
  have s2 := hf1.at s2 (by omega)
  have s3 := hf1.at s3 (by omega)
  have s4 := hf1.at s4 (by omega)
  have hF := hF.tr2 hf1 (fun i (e : i = b1 + 3) => Or.inl (by unfold kin4; omega))
  refine xr_stp rfl rfl rfl rfl ?_
  refine xr_getfield s1 rfl rfl rfl rfl ?_
  refine xr_stp (st' := .int (Int32.ofNat 0) :: _) rfl rfl rfl rfl ?_
  refine xr_stp rfl rfl rfl rfl ?_
  refine xr_getfield p1 rfl rfl rfl rfl ?_
  refine xr_stp (st' := .int (Int32.ofNat 0) :: _) rfl rfl rfl rfl ?_
  refine xr_stp rfl rfl rfl rfl ?_
  refine xr_getfield p1 rfl rfl rfl rfl ?_
  refine xs_iln p4 rfl ?_
  refine xs_acI s4 p4 (by omega) (by omega) (by omega) rfl rfl rfl (fun W p4 hf1 => ?_)
  have p1 := hf1.at p1 (by omega)
  have p2 := hf1.at p2 (by omega)
  have p3 := hf1.at p3 (by omega)
  have s1 := hf1.at s1 (by omega)
  have s2 := hf1.at s2 (by omega)
  have s3 := hf1.at s3 (by omega)
  have s4 := hf1.at s4 (by omega)
  have hF := hF.tr2 hf1 (fun i (e : i = b1 + 4) => Or.inl (by unfold kin4; omega))
  exact xr_ret rfl rfl (K _ hF p2 p3 p4)
/-- 'copy' of a World -/
theorem kl_copy (d c s b1 b2 : Nat) (W0 : xi_W) (F1 F2 : Nat → Nat) (L : List Value) (hw1 : kw W0 b1 F1) (hw2 : kw W0 b2 F2) (hb1 : wb b1) (hb2 : wb b2) (hne : b1 + 10 ≤ b2 ∨ b2 + 10 ≤ b1) (hl : 687 ≤ W0.length) (hR : W0[355]? = some (.inr (2, L))) (r : xi_R → Prop) (K : ∀ W' F', kw W' b1 F' → fr (kin b1) W0 W' → (∀ k, inR k → F' k = F2 k) → r (none, W', c, s)) : xr (d + 2) 74 0 [(0, .ref b1), (1, .ref b2)] [] W0 c s r := by
  have hb0 := hb1
  have p0 := hw1.w hb1 hl hR
  have p1 := hw1.2
  have p2 := hw1.k hb1 hl hR
  have p3 := hw1.a hb1 hl hR
  have p4 := hw1.c hb1 hl hR
  have p5 := hw1.q hb1 hl hR
  have p6 := hw1.m hb1 hl hR
  have p7 := hw1.d hb1 hl hR
  have p8 := hw1.f hb1 hl hR
  have p9 := hw1.l hb1 hl hR
  have s0 := hw2.w hb2 hl hR
  have s1 := hw2.2
  have s2 := hw2.k hb2 hl hR
  have s3 := hw2.a hb2 hl hR
  have s4 := hw2.c hb2 hl hR
  have s5 := hw2.q hb2 hl hR
  have s6 := hw2.m hb2 hl hR
  have s7 := hw2.d hb2 hl hR
  have s8 := hw2.f hb2 hl hR
  have s9 := hw2.l hb2 hl hR
  refine xr_stp rfl rfl rfl rfl ?_
  refine xr_getfield p0 rfl rfl rfl rfl ?_
  refine xr_stp rfl rfl rfl rfl ?_
  refine xr_getfield s0 rfl rfl rfl rfl ?_
  refine xr_vcps p1 rfl rfl rfl rfl rfl rfl (fun r1 K2 => n_copy _ _ _ b1 b2 W0 F1 F2 hb1 hb2 hne p1 s1 p2 p3 p4 s2 s3 s4 r1 (fun W hf1 p2 p3 p4 => K2 _ _ _ _ ?_))
  obtain ⟨x1, x2, x3⟩ := hb1
  obtain ⟨y1, y2, y3⟩ := hb2
  have p0 := hf1.at p0 (by unfold kin4; omega)
  have p5 := hf1.at p5 (by unfold kin4; omega)
  have p6 := hf1.at p6 (by unfold kin4; omega)
  have p7 := hf1.at p7 (by unfold kin4; omega)
  have p8 := hf1.at p8 (by unfold kin4; omega)
  have p9 := hf1.at p9 (by unfold kin4; omega)
  have p1 := hf1.at p1 (by unfold kin4; omega)
  have s0 := hf1.at s0 (by unfold kin4; omega)
  have s1 := hf1.at s1 (by unfold kin4; omega)
  have s2 := hf1.at s2 (by unfold kin4; omega)
  have s3 := hf1.at s3 (by unfold kin4; omega)
  have s4 := hf1.at s4 (by unfold kin4; omega)
  have s5 := hf1.at s5 (by unfold kin4; omega)
  have s6 := hf1.at s6 (by unfold kin4; omega)
  have s7 := hf1.at s7 (by unfold kin4; omega)
  have s8 := hf1.at s8 (by unfold kin4; omega)
  have s9 := hf1.at s9 (by unfold kin4; omega)
  have hF : fr (kin b1) W0 W := hf1.weak (fun i _ z => by unfold kin4 at z; unfold kin; omega)
  refine xr_stp rfl rfl rfl rfl ?_
  refine xr_getfield s0 rfl rfl rfl rfl ?_
  refine xr_stp (st' := .int (Int32.ofNat 0) :: _) rfl rfl rfl rfl ?_
  refine xr_stp rfl rfl rfl rfl ?_
  refine xr_getfield p0 rfl rfl rfl rfl ?_
  refine xr_stp (st' := .int (Int32.ofNat 0) :: _) rfl rfl rfl rfl ?_
  refine xr_stp rfl rfl rfl rfl ?_
  refine xr_getfield p0 rfl rfl rfl rfl ?_
  refine xs_iln p5 rfl ?_
  refine xs_acI s5 p5 (by omega) (by omega) (by omega) rfl rfl rfl (fun W p5 hf1 => ?_)
  have p0 := hf1.at p0 (by omega)
  have p1 := hf1.at p1 (by omega)
  have p2 := hf1.at p2 (by omega)
  have p3 := hf1.at p3 (by omega)
  have p4 := hf1.at p4 (by omega)
  have p6 := hf1.at p6 (by omega)
  have p7 := hf1.at p7 (by omega)
  have p8 := hf1.at p8 (by omega)
  have p9 := hf1.at p9 (by omega)
  have s0 := hf1.at s0 (by omega)
  have s1 := hf1.at s1 (by omega)
  have s2 := hf1.at s2 (by omega)
  have s3 := hf1.at s3 (by omega)
  have s4 := hf1.at s4 (by omega)
  have s5 := hf1.at s5 (by omega)
  have s6 := hf1.at s6 (by omega)
  have s7 := hf1.at s7 (by omega)
  have s8 := hf1.at s8 (by omega)
  have s9 := hf1.at s9 (by omega)
  have hF := hF.tr2 hf1 (fun i (e : i = b1 + 5) => Or.inl (by unfold kin; omega))
  refine xr_stp rfl rfl rfl rfl ?_
  refine xr_getfield s0 rfl rfl rfl rfl ?_
  refine xr_stp (st' := .int (Int32.ofNat 0) :: _) rfl rfl rfl rfl ?_
  refine xr_stp rfl rfl rfl rfl ?_
  refine xr_getfield p0 rfl rfl rfl rfl ?_
  refine xr_stp (st' := .int (Int32.ofNat 0) :: _) rfl rfl rfl rfl ?_
  refine xr_stp rfl rfl rfl rfl ?_
  refine xr_getfield p0 rfl rfl rfl rfl ?_
  refine xs_iln p6 rfl ?_
  refine xs_acI s6 p6 (by omega) (by omega) (by omega) rfl rfl rfl (fun W p6 hf1 => ?_)
  have p0 := hf1.at p0 (by omega)
  have p1 := hf1.at p1 (by omega)
  have p2 := hf1.at p2 (by omega)
  have p3 := hf1.at p3 (by omega)
  have p4 := hf1.at p4 (by omega)
  have p5 := hf1.at p5 (by omega)
  have p7 := hf1.at p7 (by omega)
  have p8 := hf1.at p8 (by omega)
  have p9 := hf1.at p9 (by omega)
  have s0 := hf1.at s0 (by omega)
  have s1 := hf1.at s1 (by omega)
  have s2 := hf1.at s2 (by omega)
  have s3 := hf1.at s3 (by omega)
  have s4 := hf1.at s4 (by omega)
  have s5 := hf1.at s5 (by omega)
  have s6 := hf1.at s6 (by omega)
  have s7 := hf1.at s7 (by omega)
  have s8 := hf1.at s8 (by omega)
  have s9 := hf1.at s9 (by omega)
  have hF := hF.tr2 hf1 (fun i (e : i = b1 + 6) => Or.inl (by unfold kin; omega))
  refine xr_stp rfl rfl rfl rfl ?_
  refine xr_getfield s0 rfl rfl rfl rfl ?_
  refine xr_stp (st' := .int (Int32.ofNat 0) :: _) rfl rfl rfl rfl ?_
  refine xr_stp rfl rfl rfl rfl ?_
  refine xr_getfield p0 rfl rfl rfl rfl ?_
  refine xr_stp (st' := .int (Int32.ofNat 0) :: _) rfl rfl rfl rfl ?_
  refine xr_stp rfl rfl rfl rfl ?_
  refine xr_getfield p0 rfl rfl rfl rfl ?_
  refine xs_iln p7 rfl ?_
  refine xs_acI s7 p7 (by omega) (by omega) (by omega) rfl rfl rfl (fun W p7 hf1 => ?_)
  have p0 := hf1.at p0 (by omega)
  have p1 := hf1.at p1 (by omega)
  have p2 := hf1.at p2 (by omega)
  have p3 := hf1.at p3 (by omega)
  have p4 := hf1.at p4 (by omega)
  have p5 := hf1.at p5 (by omega)
  have p6 := hf1.at p6 (by omega)
  have p8 := hf1.at p8 (by omega)
  have p9 := hf1.at p9 (by omega)
  have s0 := hf1.at s0 (by omega)
  have s1 := hf1.at s1 (by omega)
  have s2 := hf1.at s2 (by omega)
  have s3 := hf1.at s3 (by omega)
  have s4 := hf1.at s4 (by omega)
  have s5 := hf1.at s5 (by omega)
  have s6 := hf1.at s6 (by omega)
  have s7 := hf1.at s7 (by omega)
  have s8 := hf1.at s8 (by omega)
  have s9 := hf1.at s9 (by omega)
  have hF := hF.tr2 hf1 (fun i (e : i = b1 + 7) => Or.inl (by unfold kin; omega))
  refine xr_stp rfl rfl rfl rfl ?_
  refine xr_getfield s0 rfl rfl rfl rfl ?_
  refine xr_stp (st' := .int (Int32.ofNat 0) :: _) rfl rfl rfl rfl ?_
  refine xr_stp rfl rfl rfl rfl ?_
  refine xr_getfield p0 rfl rfl rfl rfl ?_
  refine xr_stp (st' := .int (Int32.ofNat 0) :: _) rfl rfl rfl rfl ?_
  refine xr_stp rfl rfl rfl rfl ?_
  refine xr_getfield p0 rfl rfl rfl rfl ?_
  refine xs_iln p8 rfl ?_
  refine xs_acI s8 p8 (by omega) (by omega) (by omega) rfl rfl rfl (fun W p8 hf1 => ?_)
  have p0 := hf1.at p0 (by omega)
  have p1 := hf1.at p1 (by omega)
  have p2 := hf1.at p2 (by omega)
  have p3 := hf1.at p3 (by omega)
  have p4 := hf1.at p4 (by omega)
  have p5 := hf1.at p5 (by omega)
  have p6 := hf1.at p6 (by omega)
  have p7 := hf1.at p7 (by omega)
  have p9 := hf1.at p9 (by omega)
  have s0 := hf1.at s0 (by omega)
  have s1 := hf1.at s1 (by omega)
  have s2 := hf1.at s2 (by omega)
  have s3 := hf1.at s3 (by omega)
  have s4 := hf1.at s4 (by omega)
  have s5 := hf1.at s5 (by omega)
  have s6 := hf1.at s6 (by omega)
  have s7 := hf1.at s7 (by omega)
  have s8 := hf1.at s8 (by omega)
  have s9 := hf1.at s9 (by omega)
  have hF := hF.tr2 hf1 (fun i (e : i = b1 + 8) => Or.inl (by unfold kin; omega))
  refine xr_stp rfl rfl rfl rfl ?_
  refine xr_getfield s0 rfl rfl rfl rfl ?_
  refine xr_stp (st' := .int (Int32.ofNat 0) :: _) rfl rfl rfl rfl ?_
  refine xr_stp rfl rfl rfl rfl ?_
  refine xr_getfield p0 rfl rfl rfl rfl ?_
  refine xr_stp (st' := .int (Int32.ofNat 0) :: _) rfl rfl rfl rfl ?_
  refine xr_stp rfl rfl rfl rfl ?_
  refine xr_getfield p0 rfl rfl rfl rfl ?_
  refine xs_iln p9 rfl ?_
  refine xs_acI s9 p9 (by omega) (by omega) (by omega) rfl rfl rfl (fun W p9 hf1 => ?_)
  have p0 := hf1.at p0 (by omega)
  have p1 := hf1.at p1 (by omega)
  have p2 := hf1.at p2 (by omega)
  have p3 := hf1.at p3 (by omega)
  have p4 := hf1.at p4 (by omega)
  have p5 := hf1.at p5 (by omega)
  have p6 := hf1.at p6 (by omega)
  have p7 := hf1.at p7 (by omega)
  have p8 := hf1.at p8 (by omega)
  have s0 := hf1.at s0 (by omega)
  have s1 := hf1.at s1 (by omega)
  have s2 := hf1.at s2 (by omega)
  have s3 := hf1.at s3 (by omega)
  have s4 := hf1.at s4 (by omega)
  have s5 := hf1.at s5 (by omega)
  have s6 := hf1.at s6 (by omega)
  have s7 := hf1.at s7 (by omega)
  have s8 := hf1.at s8 (by omega)
  have s9 := hf1.at s9 (by omega)
  have hF := hF.tr2 hf1 (fun i (e : i = b1 + 9) => Or.inl (by unfold kin; omega))
  refine xr_stp rfl rfl rfl rfl ?_
  refine xr_stp rfl rfl rfl rfl ?_
  refine xr_getfield s0 rfl rfl rfl rfl ?_
  refine xr_putk p0 (by omega) rfl rfl rfl rfl rfl rfl (fun W p0 hf1 => ?_)
  have s0 := hf1.at s0 (by omega)
  have p1 := hf1.at p1 (by omega)
  have s1 := hf1.at s1 (by omega)
  have p2 := hf1.at p2 (by omega)
  have p3 := hf1.at p3 (by omega)
  have p4 := hf1.at p4 (by omega)
  have p5 := hf1.at p5 (by omega)
  have p6 := hf1.at p6 (by omega)
  have p7 := hf1.at p7 (by omega)
  have p8 := hf1.at p8 (by omega)
  have p9 := hf1.at p9 (by omega)
  have s2 := hf1.at s2 (by omega)
  have s3 := hf1.at s3 (by omega)
  have s4 := hf1.at s4 (by omega)
  have s5 := hf1.at s5 (by omega)
  have s6 := hf1.at s6 (by omega)
  have s7 := hf1.at s7 (by omega)
  have s8 := hf1.at s8 (by omega)
  have s9 := hf1.at s9 (by omega)
  have hF := hF.tr2 hf1 (fun i (e : i = b1) => Or.inl (by unfold kin; omega))
  refine xr_stp rfl rfl rfl rfl ?_
  refine xr_stp rfl rfl rfl rfl ?_
  refine xr_getfield s0 rfl rfl rfl rfl ?_
  refine xr_putk p0 (by omega) rfl rfl rfl rfl rfl rfl (fun W p0 hf1 => ?_)
  have s0 := hf1.at s0 (by omega)
  have p1 := hf1.at p1 (by omega)
  have s1 := hf1.at s1 (by omega)
  have p2 := hf1.at p2 (by omega)
  have p3 := hf1.at p3 (by omega)
  have p4 := hf1.at p4 (by omega)
  have p5 := hf1.at p5 (by omega)
  have p6 := hf1.at p6 (by omega)
  have p7 := hf1.at p7 (by omega)
  have p8 := hf1.at p8 (by omega)
  have p9 := hf1.at p9 (by omega)
  have s2 := hf1.at s2 (by omega)
  have s3 := hf1.at s3 (by omega)
  have s4 := hf1.at s4 (by omega)
  have s5 := hf1.at s5 (by omega)
  have s6 := hf1.at s6 (by omega)
  have s7 := hf1.at s7 (by omega)
  have s8 := hf1.at s8 (by omega)
  have s9 := hf1.at s9 (by omega)
  have hF := hF.tr2 hf1 (fun i (e : i = b1) => Or.inl (by unfold kin; omega))
  refine xr_stp rfl rfl rfl rfl ?_
  refine xr_stp rfl rfl rfl rfl ?_
  refine xr_getfield s0 rfl rfl rfl rfl ?_
  refine xr_putk p0 (by omega) rfl rfl rfl rfl rfl rfl (fun W p0 hf1 => ?_)
  have s0 := hf1.at s0 (by omega)
  have p1 := hf1.at p1 (by omega)
  have s1 := hf1.at s1 (by omega)
  have p2 := hf1.at p2 (by omega)
  have p3 := hf1.at p3 (by omega)
  have p4 := hf1.at p4 (by omega)
  have p5 := hf1.at p5 (by omega)
  have p6 := hf1.at p6 (by omega)
  have p7 := hf1.at p7 (by omega)
  have p8 := hf1.at p8 (by omega)
  have p9 := hf1.at p9 (by omega)
  have s2 := hf1.at s2 (by omega)
  have s3 := hf1.at s3 (by omega)
  have s4 := hf1.at s4 (by omega)
  have s5 := hf1.at s5 (by omega)
  have s6 := hf1.at s6 (by omega)
  have s7 := hf1.at s7 (by omega)
  have s8 := hf1.at s8 (by omega)
  have s9 := hf1.at s9 (by omega)
  have hF := hF.tr2 hf1 (fun i (e : i = b1) => Or.inl (by unfold kin; omega))
  refine xr_stp rfl rfl rfl rfl ?_
  refine xr_stp rfl rfl rfl rfl ?_
  refine xr_getfield s0 rfl rfl rfl rfl ?_
  refine xr_putk p0 (by omega) rfl rfl rfl rfl rfl rfl (fun W p0 hf1 => ?_)
  have s0 := hf1.at s0 (by omega)
  have p1 := hf1.at p1 (by omega)
  have s1 := hf1.at s1 (by omega)
  have p2 := hf1.at p2 (by omega)
  have p3 := hf1.at p3 (by omega)
  have p4 := hf1.at p4 (by omega)
  have p5 := hf1.at p5 (by omega)
  have p6 := hf1.at p6 (by omega)
  have p7 := hf1.at p7 (by omega)
  have p8 := hf1.at p8 (by omega)
  have p9 := hf1.at p9 (by omega)
  have s2 := hf1.at s2 (by omega)
  have s3 := hf1.at s3 (by omega)
  have s4 := hf1.at s4 (by omega)
  have s5 := hf1.at s5 (by omega)
  have s6 := hf1.at s6 (by omega)
  have s7 := hf1.at s7 (by omega)
  have s8 := hf1.at s8 (by omega)
  have s9 := hf1.at s9 (by omega)
  have hF := hF.tr2 hf1 (fun i (e : i = b1) => Or.inl (by unfold kin; omega))
  refine xr_stp rfl rfl rfl rfl ?_
  refine xr_stp rfl rfl rfl rfl ?_
  refine xr_getfield s0 rfl rfl rfl rfl ?_
  refine xr_putk p0 (by omega) rfl rfl rfl rfl rfl rfl (fun W p0 hf1 => ?_)
  have s0 := hf1.at s0 (by omega)
  have p1 := hf1.at p1 (by omega)
  have s1 := hf1.at s1 (by omega)
  have p2 := hf1.at p2 (by omega)
  have p3 := hf1.at p3 (by omega)
  have p4 := hf1.at p4 (by omega)
  have p5 := hf1.at p5 (by omega)
  have p6 := hf1.at p6 (by omega)
  have p7 := hf1.at p7 (by omega)
  have p8 := hf1.at p8 (by omega)
  have p9 := hf1.at p9 (by omega)
  have s2 := hf1.at s2 (by omega)
  have s3 := hf1.at s3 (by omega)
  have s4 := hf1.at s4 (by omega)
  have s5 := hf1.at s5 (by omega)
  have s6 := hf1.at s6 (by omega)
  have s7 := hf1.at s7 (by omega)
  have s8 := hf1.at s8 (by omega)
  have s9 := hf1.at s9 (by omega)
  have hF := hF.tr2 hf1 (fun i (e : i = b1) => Or.inl (by unfold kin; omega))
  refine xr_stp rfl rfl rfl rfl ?_
  refine xr_stp rfl rfl rfl rfl ?_
  refine xr_getfield s0 rfl rfl rfl rfl ?_
  refine xr_putk p0 (by omega) rfl rfl rfl rfl rfl rfl (fun W p0 hf1 => ?_)
  have s0 := hf1.at s0 (by omega)
  have p1 := hf1.at p1 (by omega)
  have s1 := hf1.at s1 (by omega)
  have p2 := hf1.at p2 (by omega)
  have p3 := hf1.at p3 (by omega)
  have p4 := hf1.at p4 (by omega)
  have p5 := hf1.at p5 (by omega)
  have p6 := hf1.at p6 (by omega)
  have p7 := hf1.at p7 (by omega)
  have p8 := hf1.at p8 (by omega)
  have p9 := hf1.at p9 (by omega)
  have s2 := hf1.at s2 (by omega)
  have s3 := hf1.at s3 (by omega)
  have s4 := hf1.at s4 (by omega)
  have s5 := hf1.at s5 (by omega)
  have s6 := hf1.at s6 (by omega)
  have s7 := hf1.at s7 (by omega)
  have s8 := hf1.at s8 (by omega)
  have s9 := hf1.at s9 (by omega)
  have hF := hF.tr2 hf1 (fun i (e : i = b1) => Or.inl (by unfold kin; omega))
  rw [cpN_if 220 0 F1 F2 (fun j => by unfold inR; omega)] at p2
  rw [cpN_if 220 1 F1 F2 (fun j => by unfold inR; omega)] at p3
  rw [cpN_if 256 2 F1 F2 (fun j => by unfold inR; omega)] at p4
  rw [cpN_if 16 3 F1 F2 (fun j => by unfold inR; omega)] at p5
  rw [cpN_if 4 4 F1 F2 (fun j => by unfold inR; omega)] at p6
  rw [cpN_if 4 5 F1 F2 (fun j => by unfold inR; omega)] at p7
  rw [cpN_if 120 6 F1 F2 (fun j => by unfold inR; omega)] at p8
  rw [cpN_if 100 7 F1 F2 (fun j => by unfold inR; omega)] at p9
  refine xr_ret rfl rfl (K W (cpF F1 F2) (kw.mk hb0 ?_ p1 p2 p3 p4 p5 p6 p7 p8 p9) hF (fun k hk => cpF_in hk))
  have f8 : cpF F1 F2 8 = F2 8 := cpF_in (by unfold inR; omega)
  have f24 : cpF F1 F2 24 = F2 24 := cpF_in (by unfold inR; omega)
  have f40 : cpF F1 F2 40 = F2 40 := cpF_in (by unfold inR; omega)
  have f56 : cpF F1 F2 56 = F2 56 := cpF_in (by unfold inR; omega)
  have f72 : cpF F1 F2 72 = F2 72 := cpF_in (by unfold inR; omega)
  have f88 : cpF F1 F2 88 = F2 88 := cpF_in (by unfold inR; omega)
  rw [f8, f24, f40, f56, f72, f88]
  exact p0
