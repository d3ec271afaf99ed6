/-! the relation: a delta is taken -/
theorem RK.take {E E' : (Nat → Nat → Nat) → Prop} {lo N : Nat} {G F F' : Nat → Nat} (h : RK E lo N G F) (hN : N + 1 < 1000000) {t hh kn : Nat} (ht : t < 4) (hr : rp G hh kn) (hc : ∀ H, gh G H → E H → clo G (G 4) (G (331 + 2 * t) ||| kn)) (hE : ∀ H H', gh G H → E H → (∀ u n, u < 4 → n ≤ G (338 + u) → H' u n = H u n) → E' H') (f1 : ro G F' t (lw_j (G (330 + 2 * t)) (G (331 + 2 * t)) hh kn) (G (331 + 2 * t) ||| kn)) (f2 : ro G F' (4 + t * 6 + G (338 + t) % 6) hh kn) (f3 : F' (16 * t + 4) = G (338 + t) + 1) (f4 : F' (16 * t + 5) = max (G (342 + t)) (G (338 + t) + 1 - 6)) (f5 : ∀ j, j ≠ 16 * t + 4 → j ≠ 16 * t + 5 → (1 < j % 16 ∨ ((j / 16 < t * 4 ∨ t * 4 + 4 ≤ j / 16) ∧ (j / 16 < (4 + t * 6 + G (338 + t) % 6) * 4 ∨ (4 + t * 6 + G (338 + t) % 6) * 4 + 4 ≤ j / 16) ∧ j / 16 < 208)) → F' j = F j) : RK E' lo (N + 1) (lw_tk G t hh kn) F' := by
  obtain ⟨J, ⟨i1, i2, i3, i4, i5, i6, H, hG, hEH⟩, ⟨E1, E2⟩, S, C, D, Q, ⟨F1, F2⟩, B⟩ := h
  have hc := hc H hG hEH
  have q0 := hG
  obtain ⟨q1, q2, q3, q4, q5, q6, q7⟩ := hG
  have m62 := J.e
  have m24 := J.m
  have hct := J.c t ht
  have p62 : 2 ^ G 4 ≤ 4611686018427387904 := Nat.pow_le_pow_right (n := 2) (by omega) m62
  have hkn : kn < 4611686018427387904 := Nat.lt_of_lt_of_le hr.2 p62
  have hhh : hh < 4611686018427387904 := Nat.lt_of_lt_of_le (hr.1.lt hr.2) p62
  obtain ⟨a1, a2, a3, a4, a5, a6, a7, a8⟩ := lw_tkF hh kn ht hct.1 hct.2.1
  have J' := J.take t hh kn ht hhh hkn hN
  have m24' := J'.m
  generalize lw_tk G t hh kn = G' at a1 a2 a3 a4 a5 a6 a7 a8 J' ⊢
  have e4 : G' 4 = G 4 := a1 4 (by omega) (by omega) (by omega) (by omega) (by omega)
  have ee : ∀ j, 10 ≤ j → j < 10 + 5 * G 4 → G' j = G j := fun j h1 h2 => a1 j (by omega) (by omega) (by omega) (by omega) (by omega)
  have e410 : G' 410 = G 410 := a1 410 (by omega) (by omega) (by omega) (by omega) (by omega)
  have e603 : G' 603 = G 603 := a1 603 (by omega) (by omega) (by omega) (by omega) (by omega)
  have eh : ∀ j, 410 ≤ j → G' j = G j := fun j h1 => a1 j (by omega) (by omega) (by omega) (by omega) (by omega)
  have el : ∀ j, j < 330 → G' j = G j := fun j h1 => a1 j (by omega) (by omega) (by omega) (by omega) (by omega)
  have ea : ∀ u q, u < 4 → q < 4 → G' (346 + 4 * u + q) = G (346 + 4 * u + q) := fun u q hu hq => a1 _ (by omega) (by omega) (by omega) (by omega) (by omega)
  have ec : ∀ s, s < 4 → s ≠ t → G' (338 + s) = G (338 + s) ∧ G' (342 + s) = G (342 + s) ∧ G' (330 + 2 * s) = G (330 + 2 * s) ∧ G' (331 + 2 * s) = G (331 + 2 * s) := fun s hs hst => ⟨a1 _ (by omega) (by omega) (by omega) (by omega) (by omega), a1 _ (by omega) (by omega) (by omega) (by omega) (by omega), a1 _ (by omega) (by omega) (by omega) (by omega) (by omega), a1 _ (by omega) (by omega) (by omega) (by omega) (by omega)⟩
  have ed : ∀ s n p, s < 4 → s ≠ t → G (342 + s) < n → n ≤ G (338 + s) → p < 2 → dq G' s n p = dq G s n p := fun s n p hs hst h1 h2 hp => by
    have hcs := J.c s hs
    unfold dq
    rw [(ec s hs hst).2.1]
    exact a1 _ (by omega) (by omega) (by omega) (by omega) (by omega)
  have ks : ∀ s, s < 4 → su (G (331 + 2 * s)) (G' (331 + 2 * s)) := fun s hs => by
    by_cases z : s = t
    · subst z; rw [a2]; exact su.orl _ _
    · rw [(ec s hs z).2.2.2]; exact su.rf _
  have mk : ∀ s, s < 4 → G (338 + s) ≤ G' (338 + s) := fun s hs => by
    by_cases z : s = t
    · subst z; omega
    · rw [(ec s hs z).1]; exact Nat.le_refl _
  have eR : ∀ {X a k : Nat}, (X < t ∨ t < X) → X ≠ 4 + t * 6 + G (338 + t) % 6 → X < 52 → ro G F X a k → ro G' F' X a k := fun {X a k} h1 h2 h3 z => z.cg e4 ee (fun r hr => ⟨f5 _ (by omega) (by omega) (by omega), f5 _ (by omega) (by omega) (by omega)⟩)
  have eRG : ∀ {X a k : Nat}, ro G F' X a k → ro G' F' X a k := fun {X a k} z => z.cg e4 ee (fun r hr => ⟨rfl, rfl⟩)
  have fx : ∀ j, 1 < j % 16 → j % 16 ≠ 4 → j % 16 ≠ 5 → F' j = F j := fun j h1 h2 h3 => f5 j (by omega) (by omega) (Or.inl h1)
  refine ⟨J', ⟨by rw [e4]; exact i1.congr ee, fun s hs => ?_, fun s n hs h1 h2 => ?_, fun i hi => ?_, ?_, ?_, (fun u n => if u = t ∧ n = G (338 + t) + 1 then G (331 + 2 * t) ||| kn else H u n), ⟨?_, ?_, ?_, ?_, ?_, ?_, ?_⟩, hE H _ q0 hEH (fun u n hu hn => if_neg (fun z => by obtain ⟨rfl, z2⟩ := z; omega))⟩, ⟨fun i hi => ?_, fun u hu => ?_⟩, fun s hs => ?_, fun s hs => ?_, fun s n hs h1 h2 => ?_, ?_, ⟨?_, fun i hi => ?_⟩, ⟨?_, fun i k hi hk => ?_⟩⟩
  · by_cases z : s = t
    · subst z; rw [a2, a3]; exact ((i2 s hs).join hr).cg e4
    · rw [(ec s hs z).2.2.1, (ec s hs z).2.2.2]; exact (i2 s hs).cg e4
  · by_cases z : s = t
    · subst z
      by_cases z2 : n = G (338 + s) + 1
      · subst z2; rw [a7, a8]; exact hr.cg e4
      · rw [a6 n 0 (by omega) (by omega) (by omega), a6 n 1 (by omega) (by omega) (by omega)]
        exact (i3 s n hs (by omega) (by omega)).cg e4
    · have := ec s hs z
      rw [ed s n 0 hs z (by omega) (by omega) (by omega), ed s n 1 hs z (by omega) (by omega) (by omega)]
      exact (i3 s n hs (by omega) (by omega)).cg e4
  · rw [e410] at hi
    obtain ⟨b1, b2, b3, b4⟩ := i4 i hi
    rw [eh (411 + 8 * i + 6) (by omega), eh (411 + 8 * i + 7) (by omega), eh (411 + 8 * i + 2) (by omega), eh (411 + 8 * i + 3) (by omega), el 0 (by omega), el 5 (by omega), el 2 (by omega)]
    exact ⟨b1.cg e4, b2, b3, b4⟩
  · intro i j h1 h2
    rw [e410] at h2
    rw [eh _ (by omega), eh _ (by omega), eh _ (by omega), eh _ (by omega)]
    exact i5 i j h1 h2
  · intro i hi
    rw [e603] at hi
    rw [eh _ (by omega)]
    exact i6 i hi
  · intro u hu
    show (if u = t ∧ G' (338 + u) = G (338 + t) + 1 then _ else _) = _
    by_cases z : u = t
    · subst z; rw [if_pos ⟨rfl, a4⟩, a2]
    · rw [if_neg (fun y => z y.1), (ec u hu z).1, (ec u hu z).2.2.2]; exact q1 u hu
  · intro u n hu hn
    show su (if u = t ∧ n = G (338 + t) + 1 then _ else _) (if u = t ∧ n + 1 = G (338 + t) + 1 then _ else _)
    by_cases z : u = t
    · subst z
      rw [if_neg (fun y => by omega)]
      by_cases z2 : n = G (338 + u)
      · subst z2; rw [if_pos ⟨rfl, rfl⟩, q1 u hu]; exact su.orl _ _
      · rw [if_neg (fun y => by omega)]; exact q2 u n hu (by omega)
    · rw [if_neg (fun y => z y.1), if_neg (fun y => z y.1)]
      exact q2 u n hu (by rw [← (ec u hu z).1]; exact hn)
  · intro u n hu hn
    show clo G' (G' 4) (if u = t ∧ n = G (338 + t) + 1 then _ else _)
    by_cases z : u = t ∧ n = G (338 + t) + 1
    · rw [if_pos z]; exact hc.cg e4 ee
    · rw [if_neg z]
      have : n ≤ G (338 + u) := by
        by_cases z2 : u = t
        · subst z2; omega
        · rw [← (ec u hu z2).1]; exact hn
      exact (q3 u n hu this).cg e4 ee
  · intro u n hu h1 h2
    show (if u = t ∧ n = G (338 + t) + 1 then _ else _) = (if u = t ∧ n - 1 = G (338 + t) + 1 then _ else _) ||| _
    by_cases z : u = t
    · subst z
      rw [if_neg (show ¬ (u = u ∧ n - 1 = G (338 + u) + 1) from fun y => by omega)]
      by_cases z2 : n = G (338 + u) + 1
      · subst z2; rw [if_pos ⟨rfl, rfl⟩, a8, Nat.add_sub_cancel, q1 u hu]
      · rw [if_neg (fun y => z2 y.2), a6 n 1 (by omega) (by omega) (by omega)]
        exact q4 u n hu (by omega) (by omega)
    · have := ec u hu z
      rw [if_neg (fun y => z y.1), if_neg (fun y => z y.1), ed u n 1 hu z (by omega) (by omega) (by omega)]
      exact q4 u n hu (by omega) (by omega)
  · intro u s hu hs
    show su (if u = t ∧ G' (346 + 4 * u + s) = G (338 + t) + 1 then _ else _) _
    have hA := J.a u s hu hs
    rw [ea u s hu hs, if_neg (fun y => by obtain ⟨rfl, y2⟩ := y; omega)]
    exact (q5 u s hu hs).tr (ks s hs)
  · intro i hi h0
    rw [e410] at hi
    rw [eh _ (by omega)] at h0
    have hf := J.f i hi
    obtain ⟨g0, g1, g5, g4⟩ := hf
    rw [if_pos h0] at g4
    show su (G' (411 + 8 * i + 7)) (if G' (411 + 8 * i + 0) = t ∧ G' (411 + 8 * i + 4) = G (338 + t) + 1 then _ else _) ∧ su (if G' (411 + 8 * i + 0) = t ∧ G' (411 + 8 * i + 4) = G (338 + t) + 1 then _ else _) _
    rw [eh (411 + 8 * i + 0) (by omega), eh (411 + 8 * i + 4) (by omega), eh (411 + 8 * i + 7) (by omega), eh (411 + 8 * i + 1) (by omega), if_neg (fun y => by obtain ⟨y1, y2⟩ := y; rw [← y1] at y2; have g4' : G (411 + 8 * i + 4) ≤ G (338 + G (411 + 8 * i + 0)) := g4; omega)]
    obtain ⟨b1, b2⟩ := q6 i hi h0
    exact ⟨b1, b2.tr (su.or (su.orl _ _) ((ks _ g1).tr (su.orr _ _)))⟩
  · intro i hi h0
    rw [e410] at hi
    rw [eh _ (by omega)] at h0
    have hf := J.f i hi
    obtain ⟨g0, g1, g5, g4⟩ := hf
    rw [if_neg (by omega)] at g4
    show su (if G' (411 + 8 * i + 1) = t ∧ G' (411 + 8 * i + 4) = G (338 + t) + 1 then _ else _) _
    rw [eh (411 + 8 * i + 0) (by omega), eh (411 + 8 * i + 4) (by omega), eh (411 + 8 * i + 1) (by omega), if_neg (fun y => by obtain ⟨y1, y2⟩ := y; rw [← y1] at y2; omega)]
    exact (q7 i hi h0).tr (ks _ g0)
  · rw [e4] at hi
    rw [ee (10 + 5 * i) (by omega) (by omega), ee (11 + 5 * i) (by omega) (by omega), ee (12 + 5 * i) (by omega) (by omega), ee (13 + 5 * i) (by omega) (by omega), ee (14 + 5 * i) (by omega) (by omega), fx _ (by omega) (by omega) (by omega)]
    exact E1 i hi
  · rw [fx _ (by omega) (by omega) (by omega)]; exact E2 u hu
  · by_cases z : s = t
    · subst z; rw [a2, a3]; exact eRG f1
    · rw [(ec s hs z).2.2.1, (ec s hs z).2.2.2]
      exact eR (by omega) (by omega) (by omega) (S s hs)
  · refine ⟨?_, ?_, fun q hq => by rw [ea s q hs hq, fx _ (by omega) (by omega) (by omega)]; exact (C s hs).2.2 q hq⟩
    · by_cases z : s = t
      · subst z; rw [f3, a4]
      · rw [f5 _ (by omega) (by omega) (by omega), (ec s hs z).1]; exact (C s hs).1
    · by_cases z : s = t
      · subst z; rw [f4, a5]
      · rw [f5 _ (by omega) (by omega) (by omega), (ec s hs z).2.1]; exact (C s hs).2.1
  · by_cases z : s = t
    · subst z
      by_cases z2 : n = G (338 + s) + 1
      · subst z2; rw [a7, a8, Nat.add_sub_cancel]; exact eRG f2
      · rw [a6 n 0 (by omega) (by omega) (by omega), a6 n 1 (by omega) (by omega) (by omega)]
        exact eR (by omega) (by omega) (by omega) (D s n hs (by omega) (by omega))
    · have := ec s hs z
      rw [ed s n 0 hs z (by omega) (by omega) (by omega), ed s n 1 hs z (by omega) (by omega) (by omega)]
      exact eR (by omega) (by omega) (by omega) (D s n hs (by omega) (by omega))
  · unfold RQ
    rw [fx 40 (by omega) (by omega) (by omega), fx 56 (by omega) (by omega) (by omega), fx 72 (by omega) (by omega) (by omega), fx 88 (by omega) (by omega) (by omega), el 0 (by omega), el 1 (by omega), el 2 (by omega), el 3 (by omega)]
    exact Q
  · rw [e410, fx 8 (by omega) (by omega) (by omega)]; exact F1
  · rw [e410] at hi
    obtain ⟨b1, b2, b3, b4, b5, b6⟩ := F2 i hi
    rw [eh (411 + 8 * i + 6) (by omega), eh (411 + 8 * i + 7) (by omega), eh (411 + 8 * i + 0) (by omega), eh (411 + 8 * i + 1) (by omega), eh (411 + 8 * i + 2) (by omega), eh (411 + 8 * i + 5) (by omega), eh (411 + 8 * i + 4) (by omega), fx _ (by omega) (by omega) (by omega), fx _ (by omega) (by omega) (by omega), fx _ (by omega) (by omega) (by omega), fx _ (by omega) (by omega) (by omega), fx _ (by omega) (by omega) (by omega)]
    exact ⟨eR (by omega) (by omega) (by omega) b1, b2, b3, b4, b5, b6⟩
  · rw [e603, fx 24 (by omega) (by omega) (by omega)]; exact B.1
  · rw [fx 24 (by omega) (by omega) (by omega)] at hi ⊢
    rw [fx _ (by omega) (by omega) (by omega), e603, eh _ (by omega)]
    exact B.2 i k hi hk
