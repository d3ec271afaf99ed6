/-! the relation: the book, draws -/
theorem cn_wrF {F : Nat → Nat} (q a b : Nat) (h : F 24 ≤ 25) : cn_wr F q a b 24 = min (F 24 + 1) 25 ∧ (∀ i k, i < cn_wr F q a b 24 - 1 → k < 4 → cn_wr F q a b (16 * (i * 4 + k) + 7) = F (16 * ((i + (F 24 + 1 - cn_wr F q a b 24)) * 4 + k) + 7)) ∧ cn_wr F q a b (16 * ((cn_wr F q a b 24 - 1) * 4 + 0) + 7) = F 40 ∧ cn_wr F q a b (16 * ((cn_wr F q a b 24 - 1) * 4 + 1) + 7) = q ∧ cn_wr F q a b (16 * ((cn_wr F q a b 24 - 1) * 4 + 2) + 7) = a ∧ cn_wr F q a b (16 * ((cn_wr F q a b 24 - 1) * 4 + 3) + 7) = b := by
  have K : ∃ E : Nat → Nat, cn_wr F q a b = cn_w3 E q a b ∧ E 24 = min (F 24) 24 ∧ E 40 = F 40 ∧ (∀ i k, i < E 24 → k < 4 → E (16 * (i * 4 + k) + 7) = F (16 * ((i + (F 24 - E 24)) * 4 + k) + 7)) := by
    by_cases z : F 24 < 25
    · refine ⟨F, by unfold cn_wr; rw [if_pos z], by omega, rfl, fun i k h1 h2 => ?_⟩
      exact congrArg F (by omega)
    · refine ⟨cn_w1 F, by unfold cn_wr; rw [if_neg z], ?_, ?_, fun i k h1 h2 => ?_⟩
      · unfold cn_w1; rw [xn_ue]; omega
      · unfold cn_w1; rw [xn_un _ _ (by omega)]; unfold cn_cp; rw [if_neg (by omega)]
      · have e24 : cn_w1 F 24 = 24 := by unfold cn_w1; rw [xn_ue]
        rw [e24] at h1 ⊢
        unfold cn_w1
        rw [xn_un _ _ (by omega)]
        unfold cn_cp
        rw [if_pos (by omega)]
        exact congrArg F (by omega)
  obtain ⟨E, e1, e2, e3, e4⟩ := K
  rw [e1]
  have w2 : ∀ j, cn_w2 E q a b j = if j = 16 * (E 24 * 4 + 3) + 7 then b else if j = 16 * (E 24 * 4 + 2) + 7 then a else if j = 16 * (E 24 * 4 + 1) + 7 then q else if j = 16 * (E 24 * 4) + 7 then E 40 else E j := fun j => rfl
  have w3 : ∀ j, cn_w3 E q a b j = if j = 24 then E 24 + 1 else cn_w2 E q a b j := fun j => by
    unfold cn_w3 xn_u
    split
    · rw [w2, if_neg (by omega), if_neg (by omega), if_neg (by omega), if_neg (by omega)]
    · rfl
  have t : cn_w3 E q a b 24 = E 24 + 1 := by rw [w3, if_pos rfl]
  rw [t, Nat.add_sub_cancel]
  refine ⟨by omega, fun i k h1 h2 => ?_, ?_, ?_, ?_, ?_⟩
  · rw [w3, if_neg (by omega), w2, if_neg (by omega), if_neg (by omega), if_neg (by omega), if_neg (by omega), e4 i k h1 h2]
    exact congrArg F (by omega)
  · rw [w3, if_neg (by omega), w2, if_neg (by omega), if_neg (by omega), if_neg (by omega), if_pos (by omega), e3]
  · rw [w3, if_neg (by omega), w2, if_neg (by omega), if_neg (by omega), if_pos (by omega)]
  · rw [w3, if_neg (by omega), w2, if_neg (by omega), if_pos (by omega)]
  · rw [w3, if_neg (by omega), w2, if_pos (by omega)]
theorem RB.book {G F : Nat → Nat} (h : RB G F) (h3 : G 603 ≤ 300) (h40 : F 40 = G 0) (q a b : Nat) : RB (lw_ts G q a b) (cn_wr F q a b) := by
  obtain ⟨b1, b2⟩ := h
  obtain ⟨t1, t2, t3, t4, t5, t6⟩ := lw_tsF q a b h3
  obtain ⟨c1, c2, c3, c4, c5, c6⟩ := cn_wrF (F := F) q a b (by omega)
  have hz : bz G = 0 ∨ (bz G = 200 ∧ G 603 = 300) := by
    unfold bz
    by_cases z : G 603 = 300
    · rw [if_pos z]; exact Or.inr ⟨rfl, z⟩
    · rw [if_neg z]; exact Or.inl rfl
  refine ⟨by omega, fun i k h1 h2 => ?_⟩
  by_cases z : i < cn_wr F q a b 24 - 1
  · rw [c2 i k z h2, b2 _ k (by omega) h2, t2 _ k (by omega) h2]
    exact congrArg G (by omega)
  · obtain rfl : i = cn_wr F q a b 24 - 1 := by omega
    have e : lw_ts G q a b 603 - cn_wr F q a b 24 + (cn_wr F q a b 24 - 1) = G 603 - bz G := by omega
    rw [e]
    have : k = 0 ∨ k = 1 ∨ k = 2 ∨ k = 3 := by omega
    rcases this with rfl | rfl | rfl | rfl
    · rw [c3, t3, h40]
    · rw [c4, t4]
    · rw [c5, t5]
    · rw [c6, t6]
theorem lw_tsk5 {G : Nat → Nat} {q a b : Nat} (h : ∀ i, i < G 603 → G (604 + 4 * i + 1) < 5) (h3 : G 603 ≤ 300) (hq : q < 5) : ∀ i, i < lw_ts G q a b 603 → lw_ts G q a b (604 + 4 * i + 1) < 5 := fun i hi => by
  obtain ⟨t1, t2, t3, t4, t5, t6⟩ := lw_tsF q a b h3
  have hz : bz G = 0 ∨ (bz G = 200 ∧ G 603 = 300) := by
    unfold bz
    by_cases z : G 603 = 300
    · rw [if_pos z]; exact Or.inr ⟨rfl, z⟩
    · rw [if_neg z]; exact Or.inl rfl
  by_cases z : i < G 603 - bz G
  · rw [t2 i 1 z (by omega)]
    exact h _ (by omega)
  · obtain rfl : i = G 603 - bz G := by omega
    rw [t4]
    exact hq
theorem RK.book {E : (Nat → Nat → Nat) → Prop} {lo N : Nat} {G F : Nat → Nat} (h : RK E lo N G F) (q a b : Nat) (hq : q < 5) (ha : a < 1000) (hb : b < 1000) : RK E lo N (lw_ts G q a b) (cn_wr F q a b) := by
  have J := h.1
  have I := h.2.1
  have Q := h.2.2.2.2.2.2.1
  have B := h.2.2.2.2.2.2.2.2
  refine h.low (J.ts q a b (by omega) ha hb) (fun j h1 h2 => lw_tso G q a b h2) (by rw [lw_tso G q a b (by omega)]; exact Nat.le_refl _) (by rw [lw_tso G q a b (by omega)]; exact Nat.le_refl _) (lw_tsk5 I.2.2.2.2.2.1 J.k hq) (fun j h1 h2 _ _ _ _ => cn_wro F q a b h1 h2) ?_ (B.book J.k Q.1 q a b)
  unfold RQ
  rw [cn_wro F q a b (by omega) (by omega), cn_wro F q a b (by omega) (by omega), cn_wro F q a b (by omega) (by omega), cn_wro F q a b (by omega) (by omega), lw_tso G q a b (by omega), lw_tso G q a b (by omega), lw_tso G q a b (by omega), lw_tso G q a b (by omega)]
  exact Q
theorem RK.scal {E : (Nat → Nat → Nat) → Prop} {lo N N' : Nat} {G F : Nat → Nat} (h : RK E lo N G F) {k m v : Nat} (hk : k < 4) (hm : m = 40 + 16 * k) (hv : k = 0 ∨ k = 2 → G k ≤ v) (hJ : lw_J N' (xn_u G k v)) : RK E lo N' (xn_u G k v) (xn_u F m v) := by
  have I := h.2.1
  obtain ⟨Q1, Q2, Q3, Q4⟩ := h.2.2.2.2.2.2.1
  obtain ⟨B1, B2⟩ := h.2.2.2.2.2.2.2.2
  refine h.low hJ (fun j h1 h2 => xn_un _ _ (by omega)) ?_ ?_ (fun i hi => ?_) (fun j h1 h2 h3 h4 h5 h6 => xn_un _ _ (by omega)) ?_ ⟨?_, fun i x hi hx => ?_⟩
  · by_cases z : k = 0
    · subst z; rw [xn_ue]; exact hv (Or.inl rfl)
    · rw [xn_un _ _ (by omega)]; exact Nat.le_refl _
  · by_cases z : k = 2
    · subst z; rw [xn_ue]; exact hv (Or.inr rfl)
    · rw [xn_un _ _ (by omega)]; exact Nat.le_refl _
  · rw [xn_un _ _ (by omega)] at hi
    rw [xn_un _ _ (by omega)]
    exact I.2.2.2.2.2.1 i hi
  · have : k = 0 ∨ k = 1 ∨ k = 2 ∨ k = 3 := by omega
    unfold RQ
    rcases this with rfl | rfl | rfl | rfl
    · subst hm
      exact ⟨by rw [xn_ue, xn_ue], by rw [xn_un _ _ (by omega), xn_un _ _ (by omega)]; exact Q2, by rw [xn_un _ _ (by omega), xn_un _ _ (by omega)]; exact Q3, by rw [xn_un _ _ (by omega), xn_un _ _ (by omega)]; exact Q4⟩
    · subst hm
      exact ⟨by rw [xn_un _ _ (by omega), xn_un _ _ (by omega)]; exact Q1, by rw [xn_ue, xn_ue], by rw [xn_un _ _ (by omega), xn_un _ _ (by omega)]; exact Q3, by rw [xn_un _ _ (by omega), xn_un _ _ (by omega)]; exact Q4⟩
    · subst hm
      exact ⟨by rw [xn_un _ _ (by omega), xn_un _ _ (by omega)]; exact Q1, by rw [xn_un _ _ (by omega), xn_un _ _ (by omega)]; exact Q2, by rw [xn_ue, xn_ue], by rw [xn_un _ _ (by omega), xn_un _ _ (by omega)]; exact Q4⟩
    · subst hm
      exact ⟨by rw [xn_un _ _ (by omega), xn_un _ _ (by omega)]; exact Q1, by rw [xn_un _ _ (by omega), xn_un _ _ (by omega)]; exact Q2, by rw [xn_un _ _ (by omega), xn_un _ _ (by omega)]; exact Q3, by rw [xn_ue, xn_ue]⟩
  · rw [xn_un _ _ (by omega), xn_un _ _ (by omega)]; exact B1
  · rw [xn_un _ _ (by omega)] at hi
    rw [xn_un _ _ (by omega), xn_un _ _ (by omega), xn_un _ _ (by omega), xn_un _ _ (by omega)]
    exact B2 i x hi hx
theorem RK.lo {E : (Nat → Nat → Nat) → Prop} {lo lo' N : Nat} {G F : Nat → Nat} (h : RK E lo N G F) (hi : ∀ i, i < G 410 → lo' ≤ G (411 + 8 * i + 2)) : RK E lo' N G F := by
  obtain ⟨J, ⟨i1, i2, i3, i4, i5, i6, i7⟩, R⟩ := h
  exact ⟨J, ⟨i1, i2, i3, fun i h => ⟨(i4 i h).1, hi i h, (i4 i h).2.2.1, (i4 i h).2.2.2⟩, i5, i6, i7⟩, R⟩
theorem RK.mono {E : (Nat → Nat → Nat) → Prop} {lo N N' : Nat} {G F : Nat → Nat} (h : RK E lo N G F) (hn : N ≤ N') : RK E lo N' G F := ⟨h.1.mono hn, h.2⟩
theorem RL.mono {lo N N' : Nat} {G F : Nat → Nat} (h : RL lo N G F) (hn : N ≤ N') : RL lo N' G F := ⟨h.1.mono hn, h.2⟩
theorem ow.cg {G G' : Nat → Nat} (h : ow G) (J4 : G 4 ≤ 62) (e : ∀ j, 4 ≤ j → j < 330 → G' j = G j) (k : ∀ t, t < 4 → su (G (331 + 2 * t)) (G' (331 + 2 * t))) (he : en G (G 4)) : ow G' := fun i hi => by
  rw [e 4 (by omega) (by omega)] at hi
  rw [e (10 + 5 * i) (by omega) (by omega)]
  exact k _ (he i hi).1 i (h i hi)
