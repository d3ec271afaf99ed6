/-! the relation: what is acked; messages go and come; an entry more -/
theorem lw_le_lm {G F : Nat → Nat} {t : Nat} (h : ∀ q, q < 4 → F (16 * (t * 4 + q) + 3) = G (346 + 4 * t + q)) : ∀ (m k x : Nat), k + m ≤ 4 → lw_le G t m k x = cn_lm F t m k x
  | 0, _, _, _ => rfl
  | m + 1, k, x, hk => by
    unfold lw_le cn_lm
    rw [h k (by omega)]
    exact lw_le_lm h m (k + 1) _ (by omega)
theorem RK.ack {E : (Nat → Nat → Nat) → Prop} {lo N : Nat} {G F : Nat → Nat} (h : RK E lo N G F) (hN : N < 1000000) {u t v : Nat} (hu : u < 4) (ht : t < 4) (hv : v ≤ G (338 + t)) (hE : ∀ H, gh G H → E H → su (H t v) (G (331 + 2 * u))) : RK E lo N (lw_a4 G u t v) (cn_ak F t u v) := by
  obtain ⟨J, ⟨i1, i2, i3, i4, i5, i6, H, hG, hEH⟩, ⟨E1, E2⟩, S, C, D, Q, ⟨F1, F2⟩, B⟩ := h
  have hE := hE H hG hEH
  obtain ⟨q1, q2, q3, q4, q5, q6, q7⟩ := hG
  have m62 := J.e
  have m24 := J.m
  have hct := J.c t ht
  have hCt := C t ht
  have hmx : max (G (346 + 4 * t + u)) v ≤ G (338 + t) := Nat.max_le.mpr ⟨J.a t u ht hu, hv⟩
  have J1 : lw_J N (lw_a3 G u t v) := J.ack t u _ ht hu hmx
  have A : ∀ j, j ≠ 346 + 4 * t + u → lw_a3 G u t v j = G j := fun j hj => xn_un _ _ hj
  have A1 : lw_a3 G u t v (346 + 4 * t + u) = max (G (346 + 4 * t + u)) v := xn_ue _ _ _
  have P : ∀ j, j ≠ 16 * (t * 4 + u) + 3 → cn_a1 F t u v j = F j := fun j hj => xn_un _ _ hj
  have P1 : cn_a1 F t u v (16 * (t * 4 + u) + 3) = max (F (16 * (t * 4 + u) + 3)) v := xn_ue _ _ _
  have hl : ∀ q, q < 4 → cn_a1 F t u v (16 * (t * 4 + q) + 3) = lw_a3 G u t v (346 + 4 * t + q) := fun q hq => by
    by_cases z : q = u
    · subst z; rw [P1, A1, hCt.2.2 q hq]
    · rw [P _ (by omega), A _ (by omega), hCt.2.2 q hq]
  have hle := lw_le_lm hl 4 0 (lw_a3 G u t v (338 + t)) (by omega)
  have b1 := A (338 + t) (by omega)
  have b2 := A (342 + t) (by omega)
  have hlm := cn_lmle (cn_a1 F t u v) t 4 0 (lw_a3 G u t v (338 + t))
  obtain ⟨a1, a2, a3⟩ := lw_dnF ht (lw_le (lw_a3 G u t v) t 4 0 (lw_a3 G u t v (338 + t))) _ (lw_a3 G u t v) (by omega) (by omega) (by omega) rfl
  have J' := lw_J.dn hN t ht (lw_le (lw_a3 G u t v) t 4 0 (lw_a3 G u t v (338 + t))) _ (lw_a3 G u t v) J1 (by omega) rfl
  have eC : cn_ak F t u v (16 * t + 5) = lw_a4 G u t v (342 + t) := by
    unfold cn_ak lw_a4
    rw [xn_ue, a2, P (16 * t + 5) (by omega), P (16 * t + 4) (by omega), hCt.1, hCt.2.1, hle, b1, b2]
  have fC : ∀ j, j ≠ 16 * (t * 4 + u) + 3 → j ≠ 16 * t + 5 → cn_ak F t u v j = F j := fun j h1 h2 => by
    unfold cn_ak
    rw [xn_un _ _ h2, P j h1]
  have fC3 : cn_ak F t u v (16 * (t * 4 + u) + 3) = max (F (16 * (t * 4 + u) + 3)) v := by
    unfold cn_ak
    rw [xn_un _ _ (by omega), P1]
  change lw_J N (lw_a4 G u t v) at J'
  change ∀ j, j ≠ 342 + t → (j < 362 + 12 * t ∨ 362 + 12 * t + 12 ≤ j) → lw_a4 G u t v j = lw_a3 G u t v j at a1
  change lw_a4 G u t v (342 + t) = _ at a2
  change ∀ n p, _ → _ → _ → dq (lw_a4 G u t v) t n p = _ at a3
  have a4 : ∀ n p, lw_a4 G u t v (342 + t) < n → n ≤ G (338 + t) → p < 2 → dq (lw_a4 G u t v) t n p = dq G t n p := fun n p h1 h2 h3 => by
    rw [a3 n p (by omega) (by omega) h3]
    unfold dq
    rw [b2, A _ (by omega)]
  generalize lw_a4 G u t v = G' at a1 a2 a4 J' eC ⊢
  generalize cn_ak F t u v = F' at eC fC fC3 ⊢
  have d2 : G (342 + t) ≤ G' (342 + t) := by omega
  have eo : ∀ j, j ≠ 346 + 4 * t + u → j ≠ 342 + t → (j < 362 + 12 * t ∨ 362 + 12 * t + 12 ≤ j) → G' j = G j := fun j h1 h2 h3 => (a1 j h2 h3).trans (A j h1)
  have eA : G' (346 + 4 * t + u) = max (G (346 + 4 * t + u)) v := (a1 _ (by omega) (by omega)).trans A1
  have e4 : G' 4 = G 4 := eo 4 (by omega) (by omega) (by omega)
  have ee : ∀ j, 10 ≤ j → j < 10 + 5 * G 4 → G' j = G j := fun j h1 h2 => eo j (by omega) (by omega) (by omega)
  have eh : ∀ j, 410 ≤ j → G' j = G j := fun j h1 => eo j (by omega) (by omega) (by omega)
  have el : ∀ j, j < 342 → G' j = G j := fun j h1 => eo j (by omega) (by omega) (by omega)
  have ec : ∀ s, s < 4 → s ≠ t → G' (342 + s) = G (342 + s) := fun s hs hst => eo _ (by omega) (by omega) (by omega)
  have e41 : G' 410 = G 410 := eh 410 (by omega)
  have e60 : G' 603 = G 603 := eh 603 (by omega)
  have ed : ∀ s n p, s < 4 → G' (342 + s) < n → n ≤ G (338 + s) → p < 2 → dq G' s n p = dq G s n p := fun s n p hs h1 h2 hp => by
    by_cases z : s = t
    · subst z; exact a4 n p h1 h2 hp
    · have hcs := J.c s hs
      have := ec s hs z
      unfold dq
      rw [this]
      exact eo _ (by omega) (by omega) (by omega)
  have dl : ∀ s, s < 4 → G (342 + s) ≤ G' (342 + s) := fun s hs => by
    by_cases z : s = t
    · subst z; exact d2
    · rw [ec s hs z]; exact Nat.le_refl _
  have eR : ∀ {X a k : Nat}, X < 55 → ro G F X a k → ro G' F' X a k := fun {X a k} hX z => z.cg e4 ee (fun r hr => ⟨fC _ (by omega) (by omega), fC _ (by omega) (by omega)⟩)
  refine ⟨J', ⟨by rw [e4]; exact i1.congr ee, fun s hs => ?_, fun s n hs h1 h2 => ?_, fun i hi => ?_, ?_, ?_, H, ⟨?_, ?_, ?_, ?_, ?_, ?_, ?_⟩, hEH⟩, ⟨fun i hi => ?_, fun x hx => ?_⟩, fun s hs => ?_, fun s hs => ?_, fun s n hs h1 h2 => ?_, ?_, ⟨?_, fun i hi => ?_⟩, ⟨?_, fun i k hi hk => ?_⟩⟩
  · rw [el _ (by omega), el _ (by omega)]; exact (i2 s hs).cg e4
  · rw [el _ (by omega)] at h2
    have := dl s hs
    rw [ed s n 0 hs h1 h2 (by omega), ed s n 1 hs h1 h2 (by omega)]
    exact (i3 s n hs (by omega) h2).cg e4
  · rw [e41] at hi
    obtain ⟨b1, b2, b3, b4⟩ := i4 i hi
    rw [eh (411 + 8 * i + 6) (by omega), eh (411 + 8 * i + 7) (by omega), eh (411 + 8 * i + 2) (by omega), eh (411 + 8 * i + 3) (by omega), el 0 (by omega), el 5 (by omega), el 2 (by omega)]
    exact ⟨b1.cg e4, b2, b3, b4⟩
  · intro i j h1 h2
    rw [e41] at h2
    rw [eh _ (by omega), eh _ (by omega), eh _ (by omega), eh _ (by omega)]
    exact i5 i j h1 h2
  · intro i hi
    rw [e60] at hi
    rw [eh _ (by omega)]
    exact i6 i hi
  · intro s hs; rw [el _ (by omega), el _ (by omega)]; exact q1 s hs
  · intro s n hs hn; rw [el _ (by omega)] at hn; exact q2 s n hs hn
  · intro s n hs hn; rw [el _ (by omega)] at hn; exact (q3 s n hs hn).cg e4 ee
  · intro s n hs h1 h2
    rw [el _ (by omega)] at h2
    have := dl s hs
    rw [ed s n 1 hs h1 h2 (by omega)]
    exact q4 s n hs (by omega) h2
  · intro s w hs hw
    rw [el (331 + 2 * w) (by omega)]
    by_cases z : s = t ∧ w = u
    · obtain ⟨rfl, rfl⟩ := z
      rw [eA]
      by_cases z2 : v ≤ G (346 + 4 * s + w)
      · rw [Nat.max_eq_left z2]; exact q5 s w hs hw
      · rw [Nat.max_eq_right (by omega)]; exact hE
    · rw [eo _ (by omega) (by omega) (by omega)]; exact q5 s w hs hw
  · intro i hi h0
    rw [e41] at hi
    rw [eh _ (by omega)] at h0
    have hf := J.f i hi
    have hf1 : G (411 + 8 * i + 1) < 4 := hf.2.1
    rw [eh (411 + 8 * i + 0) (by omega), eh (411 + 8 * i + 4) (by omega), eh (411 + 8 * i + 7) (by omega), eh (411 + 8 * i + 1) (by omega), el (331 + 2 * G (411 + 8 * i + 1)) (by omega)]
    exact q6 i hi h0
  · intro i hi h0
    rw [e41] at hi
    rw [eh _ (by omega)] at h0
    have hf := J.f i hi
    have hf1 : G (411 + 8 * i + 0) < 4 := hf.1
    rw [eh (411 + 8 * i + 0) (by omega), eh (411 + 8 * i + 4) (by omega), eh (411 + 8 * i + 1) (by omega), el (331 + 2 * G (411 + 8 * i + 0)) (by omega)]
    exact q7 i hi h0
  · rw [e4] at hi
    rw [ee (10 + 5 * i) (by omega) (by omega), ee (11 + 5 * i) (by omega) (by omega), ee (12 + 5 * i) (by omega) (by omega), ee (13 + 5 * i) (by omega) (by omega), ee (14 + 5 * i) (by omega) (by omega), fC _ (by omega) (by omega)]
    exact E1 i hi
  · rw [fC _ (by omega) (by omega)]; exact E2 x hx
  · rw [el _ (by omega), el _ (by omega)]; exact eR (by omega) (S s hs)
  · refine ⟨by rw [fC _ (by omega) (by omega), el _ (by omega)]; exact (C s hs).1, ?_, fun q hq => ?_⟩
    · by_cases z : s = t
      · subst z; exact eC
      · rw [fC _ (by omega) (by omega), ec s hs z]; exact (C s hs).2.1
    · by_cases z : s = t ∧ q = u
      · obtain ⟨rfl, rfl⟩ := z
        rw [fC3, eA, (C s hs).2.2 q hq]
      · rw [fC _ (by omega) (by omega), eo _ (by omega) (by omega) (by omega)]; exact (C s hs).2.2 q hq
  · rw [el _ (by omega)] at h2
    have := dl s hs
    rw [ed s n 0 hs h1 h2 (by omega), ed s n 1 hs h1 h2 (by omega)]
    exact eR (by omega) (D s n hs (by omega) h2)
  · unfold RQ
    rw [fC 40 (by omega) (by omega), fC 56 (by omega) (by omega), fC 72 (by omega) (by omega), fC 88 (by omega) (by omega), el 0 (by omega), el 1 (by omega), el 2 (by omega), el 3 (by omega)]
    exact Q
  · rw [e41, fC 8 (by omega) (by omega)]; exact F1
  · rw [e41] at hi
    obtain ⟨b1, b2, b3, b4, b5, b6⟩ := F2 i hi
    rw [eh (411 + 8 * i + 6) (by omega), eh (411 + 8 * i + 7) (by omega), eh (411 + 8 * i + 0) (by omega), eh (411 + 8 * i + 1) (by omega), eh (411 + 8 * i + 2) (by omega), eh (411 + 8 * i + 5) (by omega), eh (411 + 8 * i + 4) (by omega), fC _ (by omega) (by omega), fC _ (by omega) (by omega), fC _ (by omega) (by omega), fC _ (by omega) (by omega), fC _ (by omega) (by omega)]
    exact ⟨eR (by omega) b1, b2, b3, b4, b5, b6⟩
  · rw [e60, fC 24 (by omega) (by omega)]; exact B.1
  · rw [fC 24 (by omega) (by omega)] at hi ⊢
    rw [fC _ (by omega) (by omega), e60, eh _ (by omega)]
    exact B.2 i k hi hk
theorem RK.push {E : (Nat → Nat → Nat) → Prop} {lo N : Nat} {G F F' M : Nat → Nat} (h : RK E lo N G F) (J' : lw_J N (lw_pk2 G M)) (h4 : G 410 < 24) (hr : rp G (M 6) (M 7)) (hlo : lo ≤ G 0 + G 5) (h2 : M 2 = G 0 + G 5) (h3 : M 3 < G 2) (h3b : ∀ i, i < G 410 → G (411 + 8 * i + 3) < M 3) (hE0 : M 5 = 0 → ∀ H, gh G H → E H → su (M 7) (H (M 0) (M 4)) ∧ su (H (M 0) (M 4)) (M 7 ||| G (331 + 2 * M 1))) (hE1 : M 5 = 1 → ∀ H, gh G H → E H → su (H (M 1) (M 4)) (G (331 + 2 * M 0))) (hm : M 0 < 4 ∧ M 1 < 4)
    (f8 : F' 8 = F 8 + 1) (fr_ : ro G F' (28 + F 8) (M 6) (M 7)) (fx : F' (16 * (F 8 * 5) + 6) = M 0 ∧ F' (16 * (F 8 * 5 + 1) + 6) = M 1 ∧ F' (16 * (F 8 * 5 + 2) + 6) = M 2 ∧ F' (16 * (F 8 * 5 + 3) + 6) = M 5 ∧ F' (16 * (F 8 * 5 + 4) + 6) = M 4) (fo_ : ∀ j, j ≠ 8 → (j % 16 ≠ 6 ∨ j / 16 < 5 * F 8) → (1 < j % 16 ∨ j / 16 < (28 + F 8) * 4) → F' j = F j) : RK E lo N (lw_pk2 G M) F' := by
  obtain ⟨J, ⟨i1, i2, i3, i4, i5, i6, H, hG, hEH⟩, ⟨E1, E2⟩, S, C, D, Q, ⟨F1, F2⟩, B⟩ := h
  have hE0 := fun z => hE0 z H hG hEH
  have hE1 := fun z => hE1 z H hG hEH
  obtain ⟨q1, q2, q3, q4, q5, q6, q7⟩ := hG
  have m62 := J.e
  obtain ⟨p1, p2⟩ := lw_pk2v G M
  generalize lw_pk2 G M = G' at p1 p2 J' ⊢
  have eo : ∀ j, j ≠ 410 → (j < 411 + 8 * G 410 ∨ 411 + 8 * G 410 + 8 ≤ j) → G' j = G j := fun j z1 z2 => by rw [p2 j z1, if_neg (by omega)]
  have en_ : ∀ x, x < 8 → G' (411 + 8 * G 410 + x) = M x := fun x hx => by rw [p2 _ (by omega), if_pos (by omega)]; exact congrArg M (by omega)
  have e4 : G' 4 = G 4 := eo 4 (by omega) (by omega)
  have ee : ∀ j, 10 ≤ j → j < 10 + 5 * G 4 → G' j = G j := fun j z1 z2 => eo j (by omega) (by omega)
  have el : ∀ j, j < 410 → G' j = G j := fun j z1 => eo j (by omega) (by omega)
  have ef : ∀ i x, i < G 410 → x < 8 → G' (411 + 8 * i + x) = G (411 + 8 * i + x) := fun i x z1 z2 => eo _ (by omega) (by omega)
  have eh : ∀ j, 603 ≤ j → G' j = G j := fun j z1 => eo j (by omega) (by omega)
  have ed : ∀ s n p, s < 4 → G (342 + s) < n → n ≤ G (338 + s) → p < 2 → dq G' s n p = dq G s n p := fun s n p hs z1 z2 hp => by
    have hcs := J.c s hs
    unfold dq
    rw [el (342 + s) (by omega)]
    exact el _ (by omega)
  have eR : ∀ {X a k : Nat}, X < 28 + F 8 → ro G F X a k → ro G' F' X a k := fun {X a k} hX z => z.cg e4 ee (fun r hr => ⟨fo_ _ (by omega) (by omega) (by omega), fo_ _ (by omega) (by omega) (by omega)⟩)
  refine ⟨J', ⟨by rw [e4]; exact i1.congr ee, fun s hs => ?_, fun s n hs z1 z2 => ?_, fun i hi => ?_, ?_, ?_, H, ⟨?_, ?_, ?_, ?_, ?_, ?_, ?_⟩, hEH⟩, ⟨fun i hi => ?_, fun x hx => ?_⟩, fun s hs => ?_, fun s hs => ?_, fun s n hs z1 z2 => ?_, ?_, ⟨?_, fun i hi => ?_⟩, ⟨?_, fun i k hi hk => ?_⟩⟩
  · rw [el _ (by omega), el _ (by omega)]; exact (i2 s hs).cg e4
  · rw [el _ (by omega)] at z1 z2
    rw [ed s n 0 hs z1 z2 (by omega), ed s n 1 hs z1 z2 (by omega)]
    exact (i3 s n hs z1 z2).cg e4
  · rw [p1] at hi
    rw [el 0 (by omega), el 5 (by omega), el 2 (by omega)]
    by_cases z : i < G 410
    · obtain ⟨b1, b2, b3, b4⟩ := i4 i z
      rw [ef i 6 z (by omega), ef i 7 z (by omega), ef i 2 z (by omega), ef i 3 z (by omega)]
      exact ⟨b1.cg e4, b2, b3, b4⟩
    · obtain rfl : i = G 410 := by omega
      rw [en_ 6 (by omega), en_ 7 (by omega), en_ 2 (by omega), en_ 3 (by omega)]
      exact ⟨hr.cg e4, by omega, by omega, h3⟩
  · intro i j z1 z2
    rw [p1] at z2
    rw [ef i 2 (by omega) (by omega), ef i 3 (by omega) (by omega)]
    by_cases z : j < G 410
    · rw [ef j 2 z (by omega), ef j 3 z (by omega)]; exact i5 i j z1 z
    · obtain rfl : j = G 410 := by omega
      rw [en_ 2 (by omega), en_ 3 (by omega)]
      have := i4 i (by omega)
      exact ⟨by omega, h3b i (by omega)⟩
  · intro i hi
    rw [eh 603 (by omega)] at hi
    rw [eh _ (by omega)]
    exact i6 i hi
  · intro s hs; rw [el _ (by omega), el _ (by omega)]; exact q1 s hs
  · intro s n hs hn; rw [el _ (by omega)] at hn; exact q2 s n hs hn
  · intro s n hs hn; rw [el _ (by omega)] at hn; exact (q3 s n hs hn).cg e4 ee
  · intro s n hs z1 z2
    rw [el _ (by omega)] at z1 z2
    rw [ed s n 1 hs z1 z2 (by omega)]
    exact q4 s n hs z1 z2
  · intro s w hs hw
    rw [el _ (by omega), el _ (by omega)]; exact q5 s w hs hw
  · intro i hi h0
    rw [p1] at hi
    by_cases z : i < G 410
    · rw [ef i 5 z (by omega)] at h0
      have hf1 : G (411 + 8 * i + 1) < 4 := (J.f i z).2.1
      rw [ef i 0 z (by omega), ef i 4 z (by omega), ef i 7 z (by omega), ef i 1 z (by omega), el (331 + 2 * G (411 + 8 * i + 1)) (by omega)]
      exact q6 i z h0
    · obtain rfl : i = G 410 := by omega
      rw [en_ 5 (by omega)] at h0
      rw [en_ 0 (by omega), en_ 4 (by omega), en_ 7 (by omega), en_ 1 (by omega), el (331 + 2 * M 1) (by omega)]
      exact hE0 h0
  · intro i hi h0
    rw [p1] at hi
    by_cases z : i < G 410
    · rw [ef i 5 z (by omega)] at h0
      have hf1 : G (411 + 8 * i + 0) < 4 := (J.f i z).1
      rw [ef i 0 z (by omega), ef i 4 z (by omega), ef i 1 z (by omega), el (331 + 2 * G (411 + 8 * i + 0)) (by omega)]
      exact q7 i z h0
    · obtain rfl : i = G 410 := by omega
      rw [en_ 5 (by omega)] at h0
      rw [en_ 0 (by omega), en_ 4 (by omega), en_ 1 (by omega), el (331 + 2 * M 0) (by omega)]
      exact hE1 h0
  · rw [e4] at hi
    rw [ee (10 + 5 * i) (by omega) (by omega), ee (11 + 5 * i) (by omega) (by omega), ee (12 + 5 * i) (by omega) (by omega), ee (13 + 5 * i) (by omega) (by omega), ee (14 + 5 * i) (by omega) (by omega), fo_ _ (by omega) (by omega) (by omega)]
    exact E1 i hi
  · rw [fo_ _ (by omega) (by omega) (by omega)]; exact E2 x hx
  · rw [el _ (by omega), el _ (by omega)]; exact eR (by omega) (S s hs)
  · rw [el (338 + s) (by omega), el (342 + s) (by omega), fo_ _ (by omega) (by omega) (by omega), fo_ _ (by omega) (by omega) (by omega)]
    exact ⟨(C s hs).1, (C s hs).2.1, fun q hq => by rw [el _ (by omega), fo_ _ (by omega) (by omega) (by omega)]; exact (C s hs).2.2 q hq⟩
  · rw [el _ (by omega)] at z1 z2
    rw [ed s n 0 hs z1 z2 (by omega), ed s n 1 hs z1 z2 (by omega)]
    exact eR (by omega) (D s n hs z1 z2)
  · unfold RQ
    rw [fo_ 40 (by omega) (by omega) (by omega), fo_ 56 (by omega) (by omega) (by omega), fo_ 72 (by omega) (by omega) (by omega), fo_ 88 (by omega) (by omega) (by omega), el 0 (by omega), el 1 (by omega), el 2 (by omega), el 3 (by omega)]
    exact Q
  · rw [p1, f8, F1]
  · rw [p1] at hi
    by_cases z : i < G 410
    · obtain ⟨b1, b2, b3, b4, b5, b6⟩ := F2 i z
      rw [ef i 6 z (by omega), ef i 7 z (by omega), ef i 0 z (by omega), ef i 1 z (by omega), ef i 2 z (by omega), ef i 5 z (by omega), ef i 4 z (by omega), fo_ _ (by omega) (by omega) (by omega), fo_ _ (by omega) (by omega) (by omega), fo_ _ (by omega) (by omega) (by omega), fo_ _ (by omega) (by omega) (by omega), fo_ _ (by omega) (by omega) (by omega)]
      exact ⟨eR (by omega) b1, b2, b3, b4, b5, b6⟩
    · obtain rfl : i = G 410 := by omega
      rw [en_ 6 (by omega), en_ 7 (by omega), en_ 0 (by omega), en_ 1 (by omega), en_ 2 (by omega), en_ 5 (by omega), en_ 4 (by omega), ← F1]
      exact ⟨fr_.cg e4 ee (fun r hr => ⟨rfl, rfl⟩), fx⟩
  · rw [eh 603 (by omega), fo_ 24 (by omega) (by omega) (by omega)]; exact B.1
  · rw [fo_ 24 (by omega) (by omega) (by omega)] at hi ⊢
    rw [fo_ _ (by omega) (by omega) (by omega), eh 603 (by omega), eh _ (by omega)]
    exact B.2 i k hi hk
