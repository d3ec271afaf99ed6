/-! what is known of methods of the class on fresh objects, with its ground -/
def sI (k : Nat) : Nat → Nat
  | 0 => k
  | 1 => k + 1
  | 2 => 338
  | 3 => k + 2
  | 4 => k + 3
  | 5 => k + 4
  | 6 => k + 5
  | 7 => k + 6
  | 8 => k + 7
  | 9 => k + 8
  | _ => k + 9
def ab_ints : List ab_V → Option (List Int32)
  | [] => some []
  | .inl (.int x) :: r => (match ab_ints r with | some s => some (x :: s) | none => none)
  | _ :: _ => none
theorem ab_intsw : ∀ {l : List ab_V} {L : List Value} {r : List Int32}, ab_ints l = some r → ag_s l L → L = r.map Value.int
  | [], L, r, h, hs => by
    have e : [] = r := Option.some.inj h
    subst e
    exact hs
  | a :: l, L, r, h, hs => by
    obtain ⟨v, R, h1, h2, h3⟩ := hs
    cases a with
    | inr p => cases h
    | inl a =>
      cases a <;> first | (cases h; done) | skip
      rename_i x
      unfold ab_ints at h
      split at h
      · rename_i s he
        have e : x :: s = r := Option.some.inj h
        subst e
        rw [h1, ab_intsw he h3, show v = .int x from h2]
        rfl
      · cases h
def cw_fl (k : Nat) : List Value := [.ref (k + 1), .ref (k + 5), .ref (k + 6), .ref (k + 7), .ref (k + 8), .ref (k + 9)]
def cw_sc (w : ab_W) (k : Nat) : Option (List Int32) := match ab_g w k with
  | some (.inr (c, fl)) => cond (Nat.beq c 5 && decide (fl.take 6 = (cw_fl k).map Sum.inl)) (ab_ints (fl.drop 6)) none
  | _ => none
def cw_z (w : ab_W) (k n : Nat) : Bool := match sm_arr w k n with
  | some [] => true
  | _ => false
def cw_L (w : ab_W) (k : Nat) : Bool := match ab_g w k with
  | some (.inl (.inr (.inl (n, dv, [])))) => Nat.beq n 220 && decide (dv = 0)
  | _ => false
def cw_N (w : ab_W) (k : Nat) : Bool := match ab_g w (k + 1) with
  | some (.inr (c, fl)) => Nat.beq c 0 && decide (fl = [.inl (.ref (k + 2)), .inl (.ref (k + 3)), .inl (.ref (k + 4))])
  | _ => false
def cw_R (w : ab_W) : Bool := match ab_g w 338 with
  | some (.inr (c, fl)) => Nat.beq c 2 && (decide (fl[2]? = some (.inl (.int (-1)))) && decide (fl[3]? = some (.inl (.int 2))))
  | _ => false
def cw (w : ab_W) (k : Nat) : Option (List Int32) := match cw_sc w k with
  | some r => cond (Nat.beq r.length 6 && ((Nat.beq k 6 || Nat.beq k 16) && (cw_N w k && (cw_R w && (cw_L w (k + 2) && (cw_L w (k + 3) && (cw_z w (k + 4) 256 && (cw_z w (k + 5) 16 && (cw_z w (k + 6) 4 && (cw_z w (k + 7) 4 && (cw_z w (k + 8) 120 && cw_z w (k + 9) 100))))))))))) (some r) none
  | none => none
def cw_F (r : List Int32) : Nat → Nat := fun q => if q % 16 = 8 then (match r[q / 16]? with | some x => sm_n x | none => 0) else 0
theorem cw_cz (r : List Int32) : cz (cw_F r) := ⟨fun j => if_neg (by omega), fun j => if_neg (by omega), fun j => if_neg (by omega)⟩
theorem cw_zw {w : ab_W} {W0 : xi_W} {k n : Nat} (hw : ag_w w W0) (h : cw_z w k n = true) : W0[k]? = some (.inl (.int, n, .inl (fun _ => 0))) := by
  unfold cw_z at h
  split at h
  · rename_i he
    obtain ⟨F, b1, b2, b3⟩ := sm_arrw hw he
    have e : xn_f F = fun _ => 0 := by
      funext j
      exact Value.int.inj (b3 j)
    rw [b1, e]
  · cases h
theorem cw_Lw {w : ab_W} {W0 : xi_W} {k : Nat} (hw : ag_w w W0) (h : cw_L w k = true) : W0[k]? = some (.inl (.long, 220, .inr (.inl (fun _ => 0)))) := by
  unfold cw_L at h
  split at h
  · rename_i n dv he
    rw [Bool.and_eq_true] at h
    have e1 := Nat.eq_of_beq_eq_true h.1
    have e2 := of_decide_eq_true h.2
    subst e1
    subst e2
    obtain ⟨o, g1, f, g2, g3⟩ := hw.2 k _ he
    have e : f = fun _ => 0 := by
      funext j
      exact g3 j
    rw [g1, g2, e]
  · cases h
theorem sI_inj {k : Nat} (hk : k = 6 ∨ k = 16) : ∀ i j, i < 11 → j < 11 → sI k i = sI k j → i = j := by
  have h6 : ∀ a b : Fin 11, sI 6 a.val = sI 6 b.val → a.val = b.val := by decide
  have h16 : ∀ a b : Fin 11, sI 16 a.val = sI 16 b.val → a.val = b.val := by decide
  intro i j hi hj e
  rcases hk with rfl | rfl
  · exact h6 ⟨i, hi⟩ ⟨j, hj⟩ e
  · exact h16 ⟨i, hi⟩ ⟨j, hj⟩ e
theorem cw_ok {w : ab_W} {W0 : xi_W} {k : Nat} {r : List Int32} (hw : ag_w w W0) (h : cw w k = some r) : ∃ R, cn_B W0 (sI k) R ∧ cn_w W0 (sI k) (cw_F r) = W0 ∧ (k = 6 ∨ k = 16) ∧ r.length = 6 ∧ W0[k]? = some (.inr (5, cw_fl k ++ r.map Value.int)) := by
  unfold cw at h
  split at h
  · rename_i r' hr
    obtain ⟨h1, h2⟩ := xi_cond h
    have e : r' = r := Option.some.inj h2
    subst e
    simp only [Bool.and_eq_true] at h1
    obtain ⟨hl, hk, hN, hR, hL2, hL3, z4, z5, z6, z7, z8, z9⟩ := h1
    have hl := Nat.eq_of_beq_eq_true hl
    have hk : k = 6 ∨ k = 16 := by
      rw [Bool.or_eq_true] at hk
      exact hk.imp Nat.eq_of_beq_eq_true Nat.eq_of_beq_eq_true
    have wk : W0[k]? = some (.inr (5, cw_fl k ++ r'.map Value.int)) := by
      unfold cw_sc at hr
      split at hr
      · rename_i c fl he
        obtain ⟨q1, q2⟩ := xi_cond hr
        rw [Bool.and_eq_true] at q1
        have e1 := Nat.eq_of_beq_eq_true q1.1
        have e2 := of_decide_eq_true q1.2
        subst e1
        obtain ⟨o, g1, FS, g2, g3⟩ := hw.2 k _ he
        rw [g1, g2]
        rw [← List.take_append_drop 6 fl, e2] at g3
        have split_s : ∀ (a b : List ab_V) (S : List Value), ag_s (a ++ b) S → ∃ A B, S = A ++ B ∧ ag_s a A ∧ ag_s b B := by
          intro a
          induction a with
          | nil => intro b S hS; exact ⟨[], S, rfl, rfl, hS⟩
          | cons x a ih =>
            intro b S hS
            obtain ⟨v, R, s1, s2, s3⟩ := hS
            obtain ⟨A, B, t1, t2, t3⟩ := ih b R s3
            exact ⟨v :: A, B, by rw [s1, t1]; rfl, ⟨v, A, rfl, s2, t2⟩, t3⟩
        obtain ⟨A, B, t1, t2, t3⟩ := split_s _ _ _ g3
        rw [t1, ag_sx _ A t2, ab_intsw q2 t3]
      · cases hr
    have wN : W0[k + 1]? = some (.inr (0, [.ref (k + 2), .ref (k + 3), .ref (k + 4)])) := by
      unfold cw_N at hN
      split at hN
      · rename_i c fl he
        rw [Bool.and_eq_true] at hN
        have e1 := Nat.eq_of_beq_eq_true hN.1
        have e2 := of_decide_eq_true hN.2
        subst e1
        subst e2
        obtain ⟨o, g1, FS, g2, g3⟩ := hw.2 _ _ he
        rw [g1, g2, ag_sx [.ref (k + 2), .ref (k + 3), .ref (k + 4)] FS g3]
      · cases hN
    obtain ⟨R, r1, r2, r3, r4⟩ : ∃ R : Nat × List Value, W0[338]? = some (.inr R) ∧ R.1 = 2 ∧ R.2[2]? = some (.int (Int32.ofNat 4294967295)) ∧ R.2[3]? = some (.int (Int32.ofNat 2)) := by
      unfold cw_R at hR
      split at hR
      · rename_i c fl he
        simp only [Bool.and_eq_true] at hR
        have e1 := Nat.eq_of_beq_eq_true hR.1
        have e2 := of_decide_eq_true hR.2.1
        have e3 := of_decide_eq_true hR.2.2
        subst e1
        obtain ⟨o, g1, FS, g2, g3⟩ := hw.2 _ _ he
        obtain ⟨v1, a1, a2⟩ := ag_sget g3 e2
        obtain ⟨v2, b1, b2⟩ := ag_sget g3 e3
        exact ⟨(2, FS), by rw [g1, g2], rfl, by rw [a1, show v1 = .int (-1) from a2]; rfl, by rw [b1, show v2 = .int 2 from b2]; rfl⟩
      · cases hR
    have w2 := cw_Lw hw hL2
    have w3 := cw_Lw hw hL3
    have w4 := cw_zw hw z4
    have w5 := cw_zw hw z5
    have w6 := cw_zw hw z6
    have w7 := cw_zw hw z7
    have w8 := cw_zw hw z8
    have w9 := cw_zw hw z9
    have hB : cn_B W0 (sI k) R := by
      refine ⟨sI_inj hk, fun i hi => ?_, wN, r1, r2, r3, r4⟩
      have h11 : i = 0 ∨ i = 1 ∨ i = 2 ∨ i = 3 ∨ i = 4 ∨ i = 5 ∨ i = 6 ∨ i = 7 ∨ i = 8 ∨ i = 9 ∨ i = 10 := by omega
      rcases h11 with rfl | rfl | rfl | rfl | rfl | rfl | rfl | rfl | rfl | rfl | rfl
      · exact sm_len wk
      · exact sm_len wN
      · exact sm_len r1
      · exact sm_len w2
      · exact sm_len w3
      · exact sm_len w4
      · exact sm_len w5
      · exact sm_len w6
      · exact sm_len w7
      · exact sm_len w8
      · exact sm_len w9
    refine ⟨R, hB, ?_, hk, hl, wk⟩
    have vL : ∀ t, t < 8 → cn_vL t (cw_F r') = fun _ => 0 := fun t ht => by
      funext j; unfold cn_vL cw_F; rw [if_neg (by omega)]; rfl
    have vI : ∀ t, t < 8 → cn_vI t (cw_F r') = fun _ => 0 := fun t ht => by
      funext j; unfold cn_vI cw_F; rw [if_neg (by omega)]; rfl
    have vW : cn_Wl (sI k) (cw_F r') = cw_fl k ++ r'.map Value.int := by
      match r', hl with
      | [x0, x1, x2, x3, x4, x5], _ =>
        unfold cn_Wl
        show [Value.ref (k + 1), Value.ref (k + 5), Value.ref (k + 6), Value.ref (k + 7), Value.ref (k + 8), Value.ref (k + 9), Value.int (Int32.ofNat (sm_n x0)), Value.int (Int32.ofNat (sm_n x1)), Value.int (Int32.ofNat (sm_n x2)), Value.int (Int32.ofNat (sm_n x3)), Value.int (Int32.ofNat (sm_n x4)), Value.int (Int32.ofNat (sm_n x5))] = _
        rw [sm_of, sm_of, sm_of, sm_of, sm_of, sm_of]
        rfl
    apply List.ext_getElem?
    intro i
    unfold cn_w
    rw [List.getElem?_mapIdx]
    have one : ∀ {j : Nat} {o : xi_O}, W0[j]? = some o → cn_f (sI k) (cw_F r') j o = o → (W0[j]?).map (cn_f (sI k) (cw_F r') j) = W0[j]? := fun h1 h2 => by
      rw [h1]
      show some _ = some _
      rw [h2]
    by_cases e0 : i = sI k 0
    · subst e0
      refine one wk ?_
      unfold cn_f
      rw [if_pos (show i = sI i 0 from rfl), vW]
    by_cases e3 : i = sI k 3
    · subst e3
      refine one w2 ?_
      unfold cn_f
      rw [if_neg e0, if_pos rfl, vL 0 (by omega)]
    by_cases e4 : i = sI k 4
    · subst e4
      refine one w3 ?_
      unfold cn_f
      rw [if_neg e0, if_neg e3, if_pos rfl, vL 1 (by omega)]
    by_cases e5 : i = sI k 5
    · subst e5
      refine one w4 ?_
      unfold cn_f
      rw [if_neg e0, if_neg e3, if_neg e4, if_pos rfl, vI 2 (by omega)]
    by_cases e6 : i = sI k 6
    · subst e6
      refine one w5 ?_
      unfold cn_f
      rw [if_neg e0, if_neg e3, if_neg e4, if_neg e5, if_pos rfl, vI 3 (by omega)]
    by_cases e7 : i = sI k 7
    · subst e7
      refine one w6 ?_
      unfold cn_f
      rw [if_neg e0, if_neg e3, if_neg e4, if_neg e5, if_neg e6, if_pos rfl, vI 4 (by omega)]
    by_cases e8 : i = sI k 8
    · subst e8
      refine one w7 ?_
      unfold cn_f
      rw [if_neg e0, if_neg e3, if_neg e4, if_neg e5, if_neg e6, if_neg e7, if_pos rfl, vI 5 (by omega)]
    by_cases e9 : i = sI k 9
    · subst e9
      refine one w8 ?_
      unfold cn_f
      rw [if_neg e0, if_neg e3, if_neg e4, if_neg e5, if_neg e6, if_neg e7, if_neg e8, if_pos rfl, vI 6 (by omega)]
    by_cases e10 : i = sI k 10
    · subst e10
      refine one w9 ?_
      unfold cn_f
      rw [if_neg e0, if_neg e3, if_neg e4, if_neg e5, if_neg e6, if_neg e7, if_neg e8, if_neg e9, if_pos rfl, vI 7 (by omega)]
    cases W0[i]? with
    | none => rfl
    | some o =>
      show some _ = some _
      unfold cn_f
      rw [if_neg e0, if_neg e3, if_neg e4, if_neg e5, if_neg e6, if_neg e7, if_neg e8, if_neg e9, if_neg e10]
  · cases h
