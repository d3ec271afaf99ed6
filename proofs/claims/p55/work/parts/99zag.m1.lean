/-! the law itself: its rows, the end of a step -/
theorem xs_newa {d i pc n k : Nat} {q : Nat × Nat} {l : xi_L} {st : List Value} {w : xi_W} {c s : Nat} {r : xi_R → Prop} (hn : n ≤ 1000000) (hc : xt_cd i pc = some (.anewarray k)) (h0 : xt_ndp (xt_mo i) k = none) (hm : xt_adp (xt_mo i) k = some q) (hq : Nat.beq q.1 1 = true) (h : ∀ R w', R = w.length → w'[R]? = some (.inl (.array .long, n, .inr (.inr (fun _ => none)))) → fr (fun _ => False) w w' → w'.length = w.length + 1 → xr d i (pc + 3) l (.ref R :: st) w' (c + 1) (s + n) r) : xr d i pc l (.int (Int32.ofNat n) :: st) w c s r := by
  refine xr_stp (pc' := pc + 3) (l' := l) (st' := .ref w.length :: st) (w' := w ++ [.inl (.array .long, n, .inr (.inr (fun _ => none)))]) (c' := c + 1) (s' := s + n) hc rfl rfl ?_ (h w.length _ rfl (by simp) fr.push (by simp))
  have e2 : Nat.blt 1000000 n = false := by
    cases h9 : Nat.blt 1000000 n with
    | false => rfl
    | true => have z := Nat.blt_eq.mp h9; omega
  simp only [xi_stp, n_nat (show n < 2147483648 by omega), n_not0 (show n < 2147483648 by omega), e2, h0, hm, hq, Bool.or_self, cond_false, cond_true]
theorem xs_asl {d i pc a v n j n2 : Nat} {f : Nat → Option Nat} {G : Nat → Nat} {l : xi_L} {st : List Value} {w : xi_W} {c s : Nat} {r : xi_R → Prop} (hw : w[a]? = some (.inl (.array .long, n, .inr (.inr f)))) (hv : w[v]? = some (lw_a n2 G)) (hg : 17 ≤ a) (hg2 : 17 ≤ v) (hj : j < n) (hn : n < 2147483648) (hc : xt_cd i pc = some .aastore) (h : ∀ w', w'[a]? = some (.inl (.array .long, n, .inr (.inr (va_up f j (some v))))) → fr (· = a) w w' → xr d i (pc + 1) l st w' c s r) : xr d i pc l (.ref v :: .int (Int32.ofNat j) :: .ref a :: st) w c s r := by
  have hv2 : w[v]? = some (.inl (.long, n2, .inr (.inl (fun j => Int64.ofNat (G j))))) := hv
  refine xr_stp (pc' := pc + 1) (l' := l) (st' := st) (w' := w.set a (.inl (.array .long, n, .inr (.inr (va_up f j (some v)))))) (c' := c) (s' := s) hc rfl rfl ?_ (h _ (xi_setat hw) (fr.set rfl))
  simp only [xi_stp, hw, hv2, Nat.ble_eq.mpr hg, Nat.ble_eq.mpr hg2, n_ix hj hn, Bool.and_self, cond_true, n_nat (show j < 2147483648 by omega)]
theorem xs_ala {d i pc a n j : Nat} {f : Nat → Option Nat} {l : xi_L} {st : List Value} {w : xi_W} {c s : Nat} {r : xi_R → Prop} (hw : w[a]? = some (.inl (.array .long, n, .inr (.inr f)))) (hg : 17 ≤ a) (hj : j < n) (hn : n < 2147483648) (hc : xt_cd i pc = some .aaload) (h : xr d i (pc + 1) l (xi_rf (f j) :: st) w c s r) : xr d i pc l (.int (Int32.ofNat j) :: .ref a :: st) w c s r :=
  xr_stp hc rfl rfl (by
    have e : xi_isr (.array .long) = true := rfl
    simp only [xi_stp, hw, Nat.ble_eq.mpr hg, n_ix hj hn, e, n_nat (show j < 2147483648 by omega), Bool.and_self, cond_true]) h
/-- what is known of a row of the law at a step -/
def mG (k : Nat) (G : Nat → Nat) : Prop := ab G ∧ G 0 ≤ 9 * k ∧ G 4 ≤ 49
theorem mG.s {k : Nat} {G : Nat → Nat} (h : mG k G) : mG (k + 1) G := ⟨h.1, by have := h.2.1; omega, h.2.2⟩
/-- the rows behind it -/
def mw (Bw n lo : Nat) (AA : Nat → Nat → Nat) (k : Nat) (WS : Nat → Option Nat) (W : xi_W) : Prop := W[Bw]? = some (.inl (.array .long, 160, .inr (.inr WS))) ∧ ∀ i, lo ≤ i → i < n → ∃ R, WS i = some R ∧ 696 ≤ R ∧ R ≠ Bw ∧ W[R]? = some (lw_a 1804 (AA i)) ∧ mG k (AA i)
theorem mw.keep {P : Nat → Prop} {Bw n lo k : Nat} {AA : Nat → Nat → Nat} {WS : Nat → Option Nat} {W W' : xi_W} (h : mw Bw n lo AA k WS W) (gB : 696 ≤ Bw) (hf : fr P W W') (hp : ∀ i, 696 ≤ i → i < W.length → ¬ P i) : mw Bw n lo AA k WS W' := by
  refine ⟨hf.at h.1 (hp _ gB (List.getElem?_eq_some_iff.mp h.1).1), fun i h1 h2 => ?_⟩
  obtain ⟨R, e1, e2, e3, e4, e5⟩ := h.2 i h1 h2
  exact ⟨R, e1, e2, e3, hf.at e4 (hp _ e2 (List.getElem?_eq_some_iff.mp e4).1), e5⟩
theorem mw.s {Bw n lo k : Nat} {AA : Nat → Nat → Nat} {WS : Nat → Option Nat} {W : xi_W} (h : mw Bw n lo AA k WS W) : mw Bw n lo AA (k + 1) WS W := by
  refine ⟨h.1, fun i h1 h2 => ?_⟩
  obtain ⟨R, e1, e2, e3, e4, e5⟩ := h.2 i h1 h2
  exact ⟨R, e1, e2, e3, e4, e5.s⟩
/-- a row is kept -/
theorem mw.put {Bw n lo k A : Nat} {AA : Nat → Nat → Nat} {WS : Nat → Option Nat} {W W' : xi_W} {G : Nat → Nat} (h : mw Bw n lo AA k WS W) (hB : W'[Bw]? = some (.inl (.array .long, 160, .inr (.inr (va_up WS n (some A)))))) (hf : fr (· = Bw) W W') (gA : 696 ≤ A) (nA : A ≠ Bw) (hA : W[A]? = some (lw_a 1804 G)) (hG : mG k G) : mw Bw (n + 1) lo (uPd AA n G) k (va_up WS n (some A)) W' := by
  refine ⟨hB, fun i h1 h2 => ?_⟩
  unfold va_up uPd
  by_cases e : i = n
  · exact ⟨A, by rw [if_pos e], gA, nA, by rw [if_pos e]; exact hf.at hA nA, by rw [if_pos e]; exact hG⟩
  · obtain ⟨R, e1, e2, e3, e4, e5⟩ := h.2 i h1 (by omega)
    exact ⟨R, by rw [if_neg e]; exact e1, e2, e3, by rw [if_neg e]; exact hf.at e4 e3, by rw [if_neg e]; exact e5⟩
/-- a row is written where none is kept -/
theorem mw.top {Bw n lo k A : Nat} {AA : Nat → Nat → Nat} {WS : Nat → Option Nat} {W W' : xi_W} (h : mw Bw n lo AA k WS W) (hB : W'[Bw]? = some (.inl (.array .long, 160, .inr (.inr (va_up WS n (some A)))))) (hf : fr (· = Bw) W W') {lo' : Nat} (hlo : lo ≤ lo') : mw Bw n lo' AA k (va_up WS n (some A)) W' := by
  refine ⟨hB, fun i h1 h2 => ?_⟩
  obtain ⟨R, e1, e2, e3, e4, e5⟩ := h.2 i (by omega) h2
  exact ⟨R, by unfold va_up; rw [if_neg (by omega)]; exact e1, e2, e3, hf.at e4 e3, e5⟩
def mP (i : Nat) : Prop := pq i ∨ i = 697
theorem CY.keep {P : Nat → Prop} {nn : Nat} {f : Nat → Int32} {q dl tx sy T N n lo : Nat} {G : Nat → Nat} {AA : Nat → Nat → Nat} {W W' : xi_W} (h : CY nn f q dl tx sy T N n lo G AA W) (hf : fr P W W') (hp : ∀ i, i < 696 → P i → (360 ≤ i ∧ i < 687) ∨ i = 357) : CY nn f q dl tx sy T N n lo G AA W' := by
  obtain ⟨h1, h2, fi, h3⟩ := h
  exact ⟨h1, h2, fi, h3.keep hf hp⟩
theorem mTail (d c s : Nat) (nn q dl T N n lo A : Nat) (f : Nat → Int32) (G : Nat → Nat) (AA : Nat → Nat → Nat) (r : xi_R → Prop) (k : Nat) (WS : Nat → Option Nat) (hn : n < 160) (hlo : lo ≤ n) (hk : k < 44) (hN : N < 80000) (hnn : nn < 2147483648) (W0 : xi_W) (hS : W0[16]? = some (lw_s nn f)) (hY : CY nn f q dl 1 0 T N n (max lo (n - 30)) G AA W0) (hmw : mw 697 n lo AA (k + 1) WS W0) (hA : W0[A]? = some (lw_a 1804 G)) (gA : 696 ≤ A) (nA : A ≠ 697) (hG : mG (k + 1) G) (K : ∀ W' c' s', c' ≤ c + 34 → s' ≤ s + 2505 → CY nn f q dl 1 0 T N n (max lo (n - 30)) G AA W' → mw 697 n (max lo (n - 30)) AA (k + 1) (va_up WS n (some A)) W' → (va_up WS n (some A) n = none ∨ va_up WS n (some A) n = some A) → W'[A]? = some (lw_a 1804 G) → W'[16]? = some (lw_s nn f) → fr mP W0 W' → xr (d + 14) 199 132 [(0, .ref 16), (1, .ref 17), (2, .ref 687), (3, .int (Int32.ofNat q)), (4, .ref A), (5, .ref 697), (6, .int (Int32.ofNat n)), (7, .int (Int32.ofNat ((max lo (n - 30))))), (8, .int (Int32.ofNat ((k + 1))))] [] W' c' s' r) : xr (d + 14) 199 633 [(0, .ref 16), (1, .ref 17), (2, .ref 687), (3, .int (Int32.ofNat q)), (4, .ref A), (5, .ref 697), (6, .int (Int32.ofNat n)), (7, .int (Int32.ofNat lo)), (8, .int (Int32.ofNat k))] [] W0 c s r := by
  refine xr_stp rfl rfl rfl rfl ?_
  refine xr_stp rfl rfl rfl rfl ?_
  refine xr_stp (st' := .int (Int32.ofNat 30) :: _) rfl rfl rfl rfl ?_
  refine xs_smx (by omega) (by omega) (by omega) rfl rfl rfl rfl ?_
  refine xr_stp rfl rfl rfl rfl ?_
  refine xr_stp rfl rfl rfl rfl ?_
  refine xr_stp rfl rfl rfl rfl ?_
  refine xr_stp rfl rfl rfl rfl ?_
  refine xs_asl hmw.1 hA (by omega) (by omega) (by omega) (by omega) rfl (fun W1 hB1 hf1 => ?_)
  have hmw1 := hmw.top hB1 hf1 (Nat.le_max_left lo (n - 30))
  have hA1 := hf1.at hA nA
  have hS1 := hf1.at hS (by omega)
  have hY1 := hY.keep hf1 (fun i h1 z => by have z : i = 697 := z; omega)
  obtain ⟨y1, y2, fi, hc1⟩ := id hY1
  have hs1 : scn nn f q dl 1 0 T N fi (n - max lo (n - 30)) (n - max lo (n - 30)) G (fun k => AA (max lo (n - 30) + k)) A W1 := ⟨hc1, hA1, hS1, gA, hG.1, hN, hnn⟩
  obtain ⟨lf, lp, hO⟩ := hc1.o
  refine xr_stp rfl rfl rfl rfl ?_
  refine xr_stp rfl rfl rfl rfl ?_
  refine xr_stp rfl rfl rfl rfl ?_
  refine xr_stp rfl rfl rfl rfl ?_
  refine xr_cps rfl rfl rfl (fun r1 K2 => sa_same _ _ _ nn q dl 1 0 T N fi _ _ A f G _ r1 W1 hs1 (fun W2 c2 s2 kc2 ks2 hs2 hf2 => K2 _ _ _ _ ?_))
  clear hO
  obtain ⟨lf2, lp2, hO⟩ := hs2.1.o
  refine xr_j1 rfl rfl rfl rfl rfl (fun h660 => ?_) (fun h660 => ?_)
  · have z660 := nt1_eq (by omega) h660
    exact (by omega)
  · refine xr_stp rfl rfl rfl rfl ?_
    refine xr_stp (st' := .int (Int32.ofNat 2) :: _) rfl rfl rfl rfl ?_
    refine xr_vcps hO rfl rfl rfl rfl rfl rfl (fun r1 K2 => cq_abo2 _ _ _ nn q dl 1 0 T N fi _ _ f W2 G _ hs2.1 r1 (K2 _ _ _ _ ?_))
    refine xr_stp rfl rfl rfl rfl ?_
    refine xr_stp rfl rfl rfl rfl ?_
    refine xs_sub (by omega) rfl ?_
    refine xr_j2 rfl rfl rfl rfl rfl (fun h673 => ?_) (fun h673 => ?_)
    · refine xs_inc (e := 1) rfl rfl rfl rfl ?_
      refine xr_stp rfl rfl rfl rfl ?_
      refine xr_loc [(0, .ref 16), (1, .ref 17), (2, .ref 687), (3, .int (Int32.ofNat q)), (4, .ref A), (5, .ref 697), (6, .int (Int32.ofNat n)), (7, .int (Int32.ofNat ((max lo (n - 30))))), (8, .int (Int32.ofNat ((k + 1))))] ⟨rfl, rfl, rfl, rfl, rfl, rfl, rfl, rfl, rfl, trivial⟩ rfl ?_
      exact K W2 _ _ (by omega) (by omega) ⟨y1, y2, fi, hs2.1⟩ (hmw1.keep (by omega) hf2 (fun i h1 h2 z => by unfold pq at z; omega)) (Or.inr (by unfold va_up; rw [if_pos rfl])) hs2.2.1 hs2.2.2.1 ((hf1.weak (P2 := mP) (fun i _ z => Or.inr z)).tr (hf2.weak (P2 := mP) (fun i _ z => Or.inl z)))
    · have z673 := nf_eq h673
      exact (by omega)
