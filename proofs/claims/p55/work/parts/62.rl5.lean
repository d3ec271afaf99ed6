/-! the relation: the first message is taken out; an entry more -/
theorem RK.pop {E : (Nat → Nat → Nat) → Prop} {lo N : Nat} {G F F' : Nat → Nat} (h : RK E lo N G F) (h0 : 0 < G 410)
    (f8 : F' 8 = F 8 - 1) (fr_ : ∀ i s, i < F 8 - 1 → s < 4 → F' (16 * ((28 + i) * 4 + s) + 0) = F (16 * ((29 + i) * 4 + s) + 0) ∧ F' (16 * ((28 + i) * 4 + s) + 1) = F (16 * ((29 + i) * 4 + s) + 1)) (fd : ∀ j, j < 5 * (F 8 - 1) → F' (16 * j + 6) = F (16 * (j + 5) + 6)) (fo_ : ∀ j, j ≠ 8 → j % 16 ≠ 6 → (1 < j % 16 ∨ j / 16 < 112) → F' j = F j) : RK (fun H => E H ∧ (G (411 + 5) = 0 → su (G (411 + 7)) (H (G (411 + 0)) (G (411 + 4))) ∧ su (H (G (411 + 0)) (G (411 + 4))) (G (411 + 7) ||| G (331 + 2 * G (411 + 1)))) ∧ (G (411 + 5) = 1 → su (H (G (411 + 1)) (G (411 + 4))) (G (331 + 2 * G (411 + 0))))) lo N (lw_tn G 0) F' := by
  obtain ⟨J, ⟨i1, i2, i3, i4, i5, i6, H, hG, hEH⟩, ⟨E1, E2⟩, S, C, D, Q, ⟨F1, F2⟩, B⟩ := h
  have J' := J.tn 0 h0
  have p1 := lw_tn4 G 0
  have p2 : ∀ j, j ≠ 410 → lw_tn G 0 j = if 411 + 8 * 0 ≤ j ∧ j < 411 + 8 * 0 + (8 * G 410 - 8 - 8 * 0) then G (j + 8) else G j := fun j hj => lw_tnv G 0 hj
  obtain ⟨q1, q2, q3, q4, q5, q6, q7⟩ := hG
  have m62 := J.e
  have m24 := J.m
  generalize lw_tn G 0 = G' at p1 p2 J' ⊢
  have eo : ∀ j, j ≠ 410 → (j < 411 ∨ 411 + 8 * G 410 - 8 ≤ j) → G' j = G j := fun j z1 z2 => by rw [p2 j z1, if_neg (by omega)]
  have ef : ∀ i x, i < G 410 - 1 → x < 8 → G' (411 + 8 * i + x) = G (411 + 8 * (i + 1) + x) := fun i x hi hx => by rw [p2 _ (by omega), if_pos (by omega)]; exact congrArg G (by omega)
  have e4 : G' 4 = G 4 := eo 4 (by omega) (by omega)
  have ee : ∀ j, 10 ≤ j → j < 10 + 5 * G 4 → G' j = G j := fun j z1 z2 => eo j (by omega) (by omega)
  have el : ∀ j, j < 410 → G' j = G j := fun j z1 => eo j (by omega) (by omega)
  have eh : ∀ j, 603 ≤ j → G' j = G j := fun j z1 => eo j (by omega) (by omega)
  have ed : ∀ s n p, s < 4 → G (342 + s) < n → n ≤ G (338 + s) → p < 2 → dq G' s n p = dq G s n p := fun s n p hs z1 z2 hp => by
    have hcs := J.c s hs
    unfold dq
    rw [el (342 + s) (by omega)]
    exact el _ (by omega)
  have eR : ∀ {X a k : Nat}, X < 28 → ro G F X a k → ro G' F' X a k := fun {X a k} hX z => z.cg e4 ee (fun r hr => ⟨fo_ _ (by omega) (by omega) (by omega), fo_ _ (by omega) (by omega) (by omega)⟩)
  refine ⟨J', ⟨by rw [e4]; exact i1.congr ee, fun s hs => ?_, fun s n hs z1 z2 => ?_, fun i hi => ?_, ?_, ?_, H, ⟨?_, ?_, ?_, ?_, ?_, ?_, ?_⟩, hEH, q6 0 h0, q7 0 h0⟩, ⟨fun i hi => ?_, fun x hx => ?_⟩, fun s hs => ?_, fun s hs => ?_, fun s n hs z1 z2 => ?_, ?_, ⟨?_, fun i hi => ?_⟩, ⟨?_, fun i k hi hk => ?_⟩⟩
  · rw [el _ (by omega), el _ (by omega)]; exact (i2 s hs).cg e4
  · rw [el _ (by omega)] at z1 z2
    rw [ed s n 0 hs z1 z2 (by omega), ed s n 1 hs z1 z2 (by omega)]
    exact (i3 s n hs z1 z2).cg e4
  · rw [p1] at hi
    rw [el 0 (by omega), el 5 (by omega), el 2 (by omega)]
    obtain ⟨b1, b2, b3, b4⟩ := i4 (i + 1) (by omega)
    rw [ef i 6 hi (by omega), ef i 7 hi (by omega), ef i 2 hi (by omega), ef i 3 hi (by omega)]
    exact ⟨b1.cg e4, b2, b3, b4⟩
  · intro i j z1 z2
    rw [p1] at z2
    rw [ef i 2 (by omega) (by omega), ef i 3 (by omega) (by omega), ef j 2 z2 (by omega), ef j 3 z2 (by omega)]
    exact i5 (i + 1) (j + 1) (by omega) (by omega)
  · intro i hi
    rw [eh 603 (by omega)] at hi
    rw [eh _ (by omega)]
    exact i6 i hi
  · intro s hs; rw [el _ (by omega), el _ (by omega)]; exact q1 s hs
  · intro s n hs hn; rw [el _ (by omega)] at hn; exact q2 s n hs hn
  · intro s n hs hn; rw [el _ (by omega)] at hn; exact (q3 s n hs hn).cg e4 ee
  · intro s n hs z1 z2
    rw [el _ (by omega)] at z1 z2
    rw [ed s n 1 hs z1 z2 (by omega)]
    exact q4 s n hs z1 z2
  · intro s w hs hw
    rw [el _ (by omega), el _ (by omega)]; exact q5 s w hs hw
  · intro i z hz
    rw [p1] at z
    rw [ef i 5 z (by omega)] at hz
    have hf1 : G (411 + 8 * (i + 1) + 1) < 4 := (J.f (i + 1) (by omega)).2.1
    rw [ef i 0 z (by omega), ef i 4 z (by omega), ef i 7 z (by omega), ef i 1 z (by omega), el (331 + 2 * G (411 + 8 * (i + 1) + 1)) (by omega)]
    exact q6 (i + 1) (by omega) hz
  · intro i z hz
    rw [p1] at z
    rw [ef i 5 z (by omega)] at hz
    have hf1 : G (411 + 8 * (i + 1) + 0) < 4 := (J.f (i + 1) (by omega)).1
    rw [ef i 0 z (by omega), ef i 4 z (by omega), ef i 1 z (by omega), el (331 + 2 * G (411 + 8 * (i + 1) + 0)) (by omega)]
    exact q7 (i + 1) (by omega) hz
  · rw [e4] at hi
    rw [ee (10 + 5 * i) (by omega) (by omega), ee (11 + 5 * i) (by omega) (by omega), ee (12 + 5 * i) (by omega) (by omega), ee (13 + 5 * i) (by omega) (by omega), ee (14 + 5 * i) (by omega) (by omega), fo_ _ (by omega) (by omega) (by omega)]
    exact E1 i hi
  · rw [fo_ _ (by omega) (by omega) (by omega)]; exact E2 x hx
  · rw [el _ (by omega), el _ (by omega)]; exact eR (by omega) (S s hs)
  · rw [el (338 + s) (by omega), el (342 + s) (by omega), fo_ _ (by omega) (by omega) (by omega), fo_ _ (by omega) (by omega) (by omega)]
    exact ⟨(C s hs).1, (C s hs).2.1, fun q hq => by rw [el _ (by omega), fo_ _ (by omega) (by omega) (by omega)]; exact (C s hs).2.2 q hq⟩
  · rw [el _ (by omega)] at z1 z2
    rw [ed s n 0 hs z1 z2 (by omega), ed s n 1 hs z1 z2 (by omega)]
    exact eR (by omega) (D s n hs z1 z2)
  · unfold RQ
    rw [fo_ 40 (by omega) (by omega) (by omega), fo_ 56 (by omega) (by omega) (by omega), fo_ 72 (by omega) (by omega) (by omega), fo_ 88 (by omega) (by omega) (by omega), el 0 (by omega), el 1 (by omega), el 2 (by omega), el 3 (by omega)]
    exact Q
  · rw [p1, f8, F1]
  · rw [p1] at hi
    obtain ⟨b1, b2, b3, b4, b5, b6⟩ := F2 (i + 1) (by omega)
    rw [ef i 6 hi (by omega), ef i 7 hi (by omega), ef i 0 hi (by omega), ef i 1 hi (by omega), ef i 2 hi (by omega), ef i 5 hi (by omega), ef i 4 hi (by omega), fd (i * 5) (by omega), fd (i * 5 + 1) (by omega), fd (i * 5 + 2) (by omega), fd (i * 5 + 3) (by omega), fd (i * 5 + 4) (by omega)]
    refine ⟨b1.cg e4 ee (fun r hr => ?_), (congrArg F (by omega)).trans b2, (congrArg F (by omega)).trans b3, (congrArg F (by omega)).trans b4, (congrArg F (by omega)).trans b5, (congrArg F (by omega)).trans b6⟩
    rw [show 28 + (i + 1) = 29 + i by omega]
    exact fr_ i r (by omega) hr
  · rw [eh 603 (by omega), fo_ 24 (by omega) (by omega) (by omega)]; exact B.1
  · rw [fo_ 24 (by omega) (by omega) (by omega)] at hi ⊢
    rw [fo_ _ (by omega) (by omega) (by omega), eh 603 (by omega), eh _ (by omega)]
    exact B.2 i k hi hk
theorem lw_s3F {G : Nat → Nat} (t q f v : Nat) (h4 : G 4 ≤ 61) : lw_s3 G t q f v 4 = G 4 + 1 ∧ lw_s3 G t q f v (10 + 5 * G 4) = t ∧ lw_s3 G t q f v (11 + 5 * G 4) = lw_nx G t (G 4) 0 1 ∧ lw_s3 G t q f v (12 + 5 * G 4) = q ∧ lw_s3 G t q f v (13 + 5 * G 4) = f ∧ lw_s3 G t q f v (14 + 5 * G 4) = v ∧ ∀ j, j ≠ 4 → (j < 10 + 5 * G 4 ∨ 15 + 5 * G 4 ≤ j) → lw_s3 G t q f v j = G j := by
  have e : ∀ j, lw_s1 G t q f v j = if 10 + 5 * G 4 ≤ j ∧ j < 10 + 5 * G 4 + 5 then lw_ro t (lw_nx G t (G 4) 0 1) q f v (j - (10 + 5 * G 4)) else G j := fun j => by
    unfold lw_s1
    exact lw_rcv _ _ 5 0 G j
  have o : ∀ j, j ≠ 4 → lw_s3 G t q f v j = lw_s1 G t q f v j := fun j hj => xn_un _ _ hj
  refine ⟨?_, ?_, ?_, ?_, ?_, ?_, fun j h1 h2 => ?_⟩
  · unfold lw_s3; rw [xn_ue, e, if_neg (by omega)]
  · rw [o _ (by omega), e, if_pos (by omega), show 10 + 5 * G 4 - (10 + 5 * G 4) = 0 by omega]; rfl
  · rw [o _ (by omega), e, if_pos (by omega), show 11 + 5 * G 4 - (10 + 5 * G 4) = 1 by omega]; rfl
  · rw [o _ (by omega), e, if_pos (by omega), show 12 + 5 * G 4 - (10 + 5 * G 4) = 2 by omega]; rfl
  · rw [o _ (by omega), e, if_pos (by omega), show 13 + 5 * G 4 - (10 + 5 * G 4) = 3 by omega]; rfl
  · rw [o _ (by omega), e, if_pos (by omega), show 14 + 5 * G 4 - (10 + 5 * G 4) = 4 by omega]; rfl
  · rw [o _ h1, e, if_neg (by omega)]
theorem lw_nxow {G : Nat → Nat} (h : ow G) (t : Nat) : lw_nx G t (G 4) 0 1 = ce G t (G 4) + 1 := by
  have := lw_nx_ce G t (G 4) 0 1 (fun i h1 h2 h3 => by rw [← h3]; exact h i (by omega))
  rw [Nat.zero_add] at this
  have z : ce G t 0 = 0 := rfl
  omega
theorem RK.add {E : (Nat → Nat → Nat) → Prop} {lo N : Nat} {G F : Nat → Nat} (h : RK E lo N G F) (hw : ow G) {t q f v : Nat} (h4 : G 4 ≤ 61) (ht : t < 4) (hq : q < 4) (hf : f < 3) (hv : v < 100) : RK E lo N (lw_s3 G t q f v) (xn_u F (16 * (64 * t + (ce G t (G 4) + 1)) + 2) ((q * 3 + f) * 100 + v)) := by
  obtain ⟨J, ⟨i1, i2, i3, i4, i5, i6, H, hG, hEH⟩, ⟨E1, E2⟩, S, C, D, Q, ⟨F1, F2⟩, B⟩ := h
  have hmono := fun {u n n' : Nat} => hG.mono2 (u := u) (n := n) (n' := n')
  obtain ⟨q1, q2, q3, q4, q5, q6, q7⟩ := hG
  have m24 := J.m
  have hce := ce_le G t (G 4)
  have hn := lw_nxow hw t
  obtain ⟨s4, s0, s1, s2, s3, s5, so⟩ := lw_s3F (G := G) t q f v h4
  rw [hn] at s1
  have J' : lw_J N (lw_s3 G t q f v) := by
    have hnx := lw_nxle G t (G 4) 0 1
    have j1 : lw_J N (lw_s1 G t q f v) := lw_J.rc _ (lw_roe t _ q f v (by omega) (by omega) (by omega) (by omega) (by omega)) _ 5 0 G J (by omega) (by omega)
    have e4 : lw_s1 G t q f v 4 = G 4 := lw_s1o G t q f v J.e (by omega)
    exact j1.four _ (by omega)
  generalize lw_s3 G t q f v = G' at s4 s0 s1 s2 s3 s5 so J' ⊢
  have ee : ∀ j, 10 ≤ j → j < 10 + 5 * G 4 → G' j = G j := fun j z1 z2 => so j (by omega) (by omega)
  have el : ∀ j, j < 4 → G' j = G j := fun j z1 => so j (by omega) (by omega)
  have eh : ∀ j, 330 ≤ j → G' j = G j := fun j z1 => so j (by omega) (by omega)
  have e5 : G' 5 = G 5 := so 5 (by omega) (by omega)
  have fx : ∀ j, j % 16 ≠ 2 → xn_u F (16 * (64 * t + (ce G t (G 4) + 1)) + 2) ((q * 3 + f) * 100 + v) j = F j := fun j hj => xn_un _ _ (by omega)
  have ed : ∀ s n p, s < 4 → dq G' s n p = dq G s n p := fun s n p hs => by
    unfold dq
    rw [eh (342 + s) (by omega)]
    exact eh _ (by omega)
  have p2 : 2 ^ G 4 ≤ 2 ^ (G 4 + 1) := Nat.pow_le_pow_right (by omega) (by omega)
  have eP : ∀ {a k : Nat}, rp G a k → rp G' a k := fun {a k} z => ⟨z.1, by rw [s4]; exact Nat.lt_of_lt_of_le z.2 p2⟩
  have eR : ∀ {X a k : Nat}, rp G a k → ro G F X a k → ro G' (xn_u F (16 * (64 * t + (ce G t (G 4) + 1)) + 2) ((q * 3 + f) * 100 + v)) X a k := fun {X a k} z z2 r hr => by
    rw [fx _ (by omega), fx _ (by omega), s4, pr_top G' r k (G 4) (tb_ge z.2 (Nat.le_refl _)), pr_top G' r a (G 4) (tb_ge (z.1.lt z.2) (Nat.le_refl _)), pr_congr r k _ ee, pr_congr r a _ ee]
    exact z2 r hr
  have hclo : ∀ {x : Nat}, x < 2 ^ G 4 → clo G (G 4) x → clo G' (G' 4) x := fun {x} hx z i j a b c d => by
    rw [s4] at b
    by_cases y : j < G 4
    · rw [ee _ (by omega) (by omega), ee _ (by omega) (by omega)] at c
      exact z i j a y c d
    · rw [tb_ge hx (by omega)] at d
      exact absurd d (by decide)
  have hHb : ∀ u n, u < 4 → n ≤ G (338 + u) → H u n < 2 ^ G 4 := fun u n hu h1 => by
    have := hmono (u := u) (n := n) hu h1 (Nat.le_refl _)
    rw [q1 u hu] at this
    exact this.lt (i2 u hu).2
  refine ⟨J', ⟨fun i hi => ?_, fun s hs => ?_, fun s n hs z1 z2 => ?_, fun i hi => ?_, ?_, ?_, H, ⟨?_, ?_, ?_, ?_, ?_, ?_, ?_⟩, hEH⟩, ⟨fun i hi => ?_, fun x hx => ?_⟩, fun s hs => ?_, fun s hs => ?_, fun s n hs z1 z2 => ?_, ?_, ⟨?_, fun i hi => ?_⟩, ⟨?_, fun i k hi hk => ?_⟩⟩
  · rw [s4] at hi
    by_cases z : i < G 4
    · have := (i1.congr ee) i z
      exact this
    · obtain rfl : i = G 4 := by omega
      rw [s0, s1, s2, s3, s5, ce_congr t (G 4) ee]
      exact ⟨ht, rfl, hq, hf, hv⟩
  · rw [eh _ (by omega), eh _ (by omega)]; exact eP (i2 s hs)
  · rw [eh _ (by omega)] at z1 z2
    rw [ed s n 0 hs, ed s n 1 hs]
    exact eP (i3 s n hs z1 z2)
  · rw [eh 410 (by omega)] at hi
    rw [el 0 (by omega), e5, el 2 (by omega)]
    obtain ⟨b1, b2, b3, b4⟩ := i4 i hi
    rw [eh (411 + 8 * i + 6) (by omega), eh (411 + 8 * i + 7) (by omega), eh (411 + 8 * i + 2) (by omega), eh (411 + 8 * i + 3) (by omega)]
    exact ⟨eP b1, b2, b3, b4⟩
  · intro i j z1 z2
    rw [eh 410 (by omega)] at z2
    rw [eh _ (by omega), eh _ (by omega), eh _ (by omega), eh _ (by omega)]
    exact i5 i j z1 z2
  · intro i hi
    rw [eh 603 (by omega)] at hi
    rw [eh _ (by omega)]
    exact i6 i hi
  · intro s hs; rw [eh _ (by omega), eh _ (by omega)]; exact q1 s hs
  · intro s n hs hn; rw [eh _ (by omega)] at hn; exact q2 s n hs hn
  · intro s n hs hn; rw [eh _ (by omega)] at hn; exact hclo (hHb s n hs hn) (q3 s n hs hn)
  · intro s n hs z1 z2
    rw [eh _ (by omega)] at z1 z2
    rw [ed s n 1 hs]
    exact q4 s n hs z1 z2
  · intro s w hs hw
    rw [eh _ (by omega), eh _ (by omega)]; exact q5 s w hs hw
  · intro i hi hz
    rw [eh 410 (by omega)] at hi
    rw [eh (411 + 8 * i + 5) (by omega)] at hz
    rw [eh (411 + 8 * i + 0) (by omega), eh (411 + 8 * i + 4) (by omega), eh (411 + 8 * i + 7) (by omega), eh (411 + 8 * i + 1) (by omega), eh (331 + 2 * G (411 + 8 * i + 1)) (by omega)]
    exact q6 i hi hz
  · intro i hi hz
    rw [eh 410 (by omega)] at hi
    rw [eh (411 + 8 * i + 5) (by omega)] at hz
    rw [eh (411 + 8 * i + 0) (by omega), eh (411 + 8 * i + 4) (by omega), eh (411 + 8 * i + 1) (by omega), eh (331 + 2 * G (411 + 8 * i + 0)) (by omega)]
    exact q7 i hi hz
  · rw [s4] at hi
    by_cases z : i < G 4
    · rw [ee (10 + 5 * i) (by omega) (by omega), ee (11 + 5 * i) (by omega) (by omega), ee (12 + 5 * i) (by omega) (by omega), ee (13 + 5 * i) (by omega) (by omega), ee (14 + 5 * i) (by omega) (by omega)]
      have hi1 := i1 i z
      have hnu := i1.num z
      rw [xn_un _ _ (fun y => by
        have y1 : G (10 + 5 * i) = t := by omega
        have y2 : G (11 + 5 * i) = ce G t (G 4) + 1 := by omega
        have := ce_lt G t z y1
        rw [y1] at hi1
        omega)]
      exact E1 i z
    · obtain rfl : i = G 4 := by omega
      rw [s0, s1, s2, s3, s5, xn_ue]
  · by_cases z : 16 * x + 2 = 16 * (64 * t + (ce G t (G 4) + 1)) + 2
    · rw [z, xn_ue]; omega
    · rw [xn_un _ _ z]; exact E2 x hx
  · rw [eh _ (by omega), eh _ (by omega)]; exact eR (i2 s hs) (S s hs)
  · rw [eh (338 + s) (by omega), eh (342 + s) (by omega), fx _ (by omega), fx _ (by omega)]
    exact ⟨(C s hs).1, (C s hs).2.1, fun q hq => by rw [eh _ (by omega), fx _ (by omega)]; exact (C s hs).2.2 q hq⟩
  · rw [eh _ (by omega)] at z1 z2
    rw [ed s n 0 hs, ed s n 1 hs]
    exact eR (i3 s n hs z1 z2) (D s n hs z1 z2)
  · unfold RQ
    rw [fx 40 (by omega), fx 56 (by omega), fx 72 (by omega), fx 88 (by omega), el 0 (by omega), el 1 (by omega), el 2 (by omega), el 3 (by omega)]
    exact Q
  · rw [eh 410 (by omega), fx 8 (by omega)]; exact F1
  · rw [eh 410 (by omega)] at hi
    obtain ⟨b1, b2, b3, b4, b5, b6⟩ := F2 i hi
    rw [eh (411 + 8 * i + 6) (by omega), eh (411 + 8 * i + 7) (by omega), eh (411 + 8 * i + 0) (by omega), eh (411 + 8 * i + 1) (by omega), eh (411 + 8 * i + 2) (by omega), eh (411 + 8 * i + 5) (by omega), eh (411 + 8 * i + 4) (by omega), fx _ (by omega), fx _ (by omega), fx _ (by omega), fx _ (by omega), fx _ (by omega)]
    exact ⟨eR (i4 i hi).1 b1, b2, b3, b4, b5, b6⟩
  · rw [eh 603 (by omega), fx 24 (by omega)]; exact B.1
  · rw [fx 24 (by omega)] at hi ⊢
    rw [fx _ (by omega), eh 603 (by omega), eh _ (by omega)]
    exact B.2 i k hi hk
