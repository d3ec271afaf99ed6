/-! the relation of the law's numbers G and a World's numbers F -/
def su (a b : Nat) : Prop := ∀ i, a.testBit i = true → b.testBit i = true
def rp (G : Nat → Nat) (h k : Nat) : Prop := su h k ∧ k < 2 ^ G 4
def ro (G F : Nat → Nat) (X h k : Nat) : Prop := ∀ r, r < 4 → F (16 * (X * 4 + r) + 0) = pr G r (G 4) k ∧ F (16 * (X * 4 + r) + 1) = pr G r (G 4) h
/-- what a replica knew behind each of its deltas -/
def gh (G : Nat → Nat) (H : Nat → Nat → Nat) : Prop :=
  (∀ u, u < 4 → H u (G (338 + u)) = G (331 + 2 * u)) ∧
  (∀ u n, u < 4 → n < G (338 + u) → su (H u n) (H u (n + 1))) ∧
  (∀ u n, u < 4 → n ≤ G (338 + u) → clo G (G 4) (H u n)) ∧
  (∀ u n, u < 4 → G (342 + u) < n → n ≤ G (338 + u) → H u n = H u (n - 1) ||| dq G u n 1) ∧
  (∀ u t, u < 4 → t < 4 → su (H u (G (346 + 4 * u + t))) (G (331 + 2 * t))) ∧
  (∀ i, i < G 410 → G (411 + 8 * i + 5) = 0 → su (G (411 + 8 * i + 7)) (H (G (411 + 8 * i + 0)) (G (411 + 8 * i + 4))) ∧ su (H (G (411 + 8 * i + 0)) (G (411 + 8 * i + 4))) (G (411 + 8 * i + 7) ||| G (331 + 2 * G (411 + 8 * i + 1)))) ∧
  (∀ i, i < G 410 → G (411 + 8 * i + 5) = 1 → su (H (G (411 + 8 * i + 1)) (G (411 + 8 * i + 4))) (G (331 + 2 * G (411 + 8 * i + 0))))
/-- what holds of the law's numbers beside lw_J -/
def IV (E : (Nat → Nat → Nat) → Prop) (lo : Nat) (G : Nat → Nat) : Prop :=
  en G (G 4) ∧
  (∀ t, t < 4 → rp G (G (330 + 2 * t)) (G (331 + 2 * t))) ∧
  (∀ t n, t < 4 → G (342 + t) < n → n ≤ G (338 + t) → rp G (dq G t n 0) (dq G t n 1)) ∧
  (∀ i, i < G 410 → rp G (G (411 + 8 * i + 6)) (G (411 + 8 * i + 7)) ∧ lo ≤ G (411 + 8 * i + 2) ∧ G (411 + 8 * i + 2) ≤ G 0 + G 5 ∧ G (411 + 8 * i + 3) < G 2) ∧
  fo G ∧
  (∀ i, i < G 603 → G (604 + 4 * i + 1) < 5) ∧
  ∃ H, gh G H ∧ E H
def RE (G F : Nat → Nat) : Prop := (∀ i, i < G 4 → F (16 * (64 * G (10 + 5 * i) + G (11 + 5 * i)) + 2) = (G (12 + 5 * i) * 3 + G (13 + 5 * i)) * 100 + G (14 + 5 * i)) ∧ (∀ u, u < 256 → F (16 * u + 2) < 1200)
def RS (G F : Nat → Nat) : Prop := ∀ t, t < 4 → ro G F t (G (330 + 2 * t)) (G (331 + 2 * t))
def RC (G F : Nat → Nat) : Prop := ∀ t, t < 4 → F (16 * t + 4) = G (338 + t) ∧ F (16 * t + 5) = G (342 + t) ∧ ∀ q, q < 4 → F (16 * (t * 4 + q) + 3) = G (346 + 4 * t + q)
def RD (G F : Nat → Nat) : Prop := ∀ t n, t < 4 → G (342 + t) < n → n ≤ G (338 + t) → ro G F (4 + t * 6 + (n - 1) % 6) (dq G t n 0) (dq G t n 1)
def RQ (G F : Nat → Nat) : Prop := F 40 = G 0 ∧ F 56 = G 1 ∧ F 72 = G 2 ∧ F 88 = G 3
def RF (G F : Nat → Nat) : Prop := F 8 = G 410 ∧ ∀ i, i < G 410 → ro G F (28 + i) (G (411 + 8 * i + 6)) (G (411 + 8 * i + 7)) ∧ F (16 * (i * 5) + 6) = G (411 + 8 * i + 0) ∧ F (16 * (i * 5 + 1) + 6) = G (411 + 8 * i + 1) ∧ F (16 * (i * 5 + 2) + 6) = G (411 + 8 * i + 2) ∧ F (16 * (i * 5 + 3) + 6) = G (411 + 8 * i + 5) ∧ F (16 * (i * 5 + 4) + 6) = G (411 + 8 * i + 4)
def RB (G F : Nat → Nat) : Prop := F 24 = min (G 603) 25 ∧ ∀ i k, i < F 24 → k < 4 → F (16 * (i * 4 + k) + 7) = G (604 + 4 * (G 603 - F 24 + i) + k)
def RK (E : (Nat → Nat → Nat) → Prop) (lo N : Nat) (G F : Nat → Nat) : Prop := lw_J N G ∧ IV E lo G ∧ RE G F ∧ RS G F ∧ RC G F ∧ RD G F ∧ RQ G F ∧ RF G F ∧ RB G F
def ow (G : Nat → Nat) : Prop := ∀ i, i < G 4 → (G (331 + 2 * G (10 + 5 * i))).testBit i = true
def RL (lo N : Nat) (G F : Nat → Nat) : Prop := RK (fun _ => True) lo N G F ∧ ow G
theorem su.rf (a : Nat) : su a a := fun _ h => h
theorem su.tr {a b c : Nat} (h : su a b) (h2 : su b c) : su a c := fun i hi => h2 i (h i hi)
theorem su.orl (a b : Nat) : su a (a ||| b) := fun i h => by rw [Nat.testBit_or, h, Bool.true_or]
theorem su.orr (a b : Nat) : su b (a ||| b) := fun i h => by rw [Nat.testBit_or, h, Bool.or_true]
theorem su.or {a b c : Nat} (h : su a c) (h2 : su b c) : su (a ||| b) c := fun i hi => by
  rw [Nat.testBit_or, Bool.or_eq_true] at hi
  exact hi.elim (h i) (h2 i)
theorem su.lt {a b m : Nat} (h : su a b) (hb : b < 2 ^ m) : a < 2 ^ m := Nat.lt_pow_two_of_testBit a (fun i hi => by
  rw [Bool.eq_false_iff]
  intro z
  have z2 := h i z
  rw [tb_ge hb hi] at z2
  exact absurd z2 (by decide))
theorem su.eq {a b : Nat} (h : su a b) (h2 : su b a) : a = b := Nat.eq_of_testBit_eq (fun i => Bool.eq_iff_iff.mpr ⟨h i, h2 i⟩)
theorem su.or_eq {a b : Nat} (h : su b a) : a ||| b = a := su.eq (su.or (su.rf a) h) (su.orl a b)
theorem ro.cg {G G' F F' : Nat → Nat} {X X' h k : Nat} (H : ro G F X h k) (e4 : G' 4 = G 4) (e : ∀ j, 10 ≤ j → j < 10 + 5 * G 4 → G' j = G j) (eF : ∀ r, r < 4 → F' (16 * (X' * 4 + r) + 0) = F (16 * (X * 4 + r) + 0) ∧ F' (16 * (X' * 4 + r) + 1) = F (16 * (X * 4 + r) + 1)) : ro G' F' X' h k := fun r hr => by
  rw [e4, pr_congr r k _ e, pr_congr r h _ e, (eF r hr).1, (eF r hr).2]
  exact H r hr
theorem rp.cg {G G' : Nat → Nat} {h k : Nat} (H : rp G h k) (e4 : G' 4 = G 4) : rp G' h k := ⟨H.1, by rw [e4]; exact H.2⟩
theorem rp0 (G : Nat → Nat) : rp G 0 0 := ⟨su.rf 0, Nat.two_pow_pos _⟩
theorem clo.cg {G G' : Nat → Nat} {x : Nat} (h : clo G (G 4) x) (e4 : G' 4 = G 4) (e : ∀ j, 10 ≤ j → j < 10 + 5 * G 4 → G' j = G j) : clo G' (G' 4) x := fun i j h1 h2 h3 h4 => by
  rw [e4] at h2
  rw [e _ (by omega) (by omega), e _ (by omega) (by omega)] at h3
  exact h i j h1 h2 h3 h4
theorem clo.or {G : Nat → Nat} {m x y : Nat} (h : clo G m x) (h2 : clo G m y) : clo G m (x ||| y) := fun i j a b c d => by
  rw [Nat.testBit_or, Bool.or_eq_true] at d ⊢
  exact d.elim (fun z => Or.inl (h i j a b c z)) (fun z => Or.inr (h2 i j a b c z))
theorem rp.join {G : Nat → Nat} {a ka b kb : Nat} (h1 : rp G a ka) (h2 : rp G b kb) : rp G (lw_j a ka b kb) (ka ||| kb) := by
  refine ⟨fun i hi => ?_, Nat.or_lt_two_pow h1.2 h2.2⟩
  unfold lw_j at hi
  rw [Nat.testBit_or, Nat.testBit_or, Nat.testBit_and, Nat.testBit_and, Nat.testBit_and, Bool.or_eq_true, Bool.or_eq_true, Bool.and_eq_true, Bool.and_eq_true, Bool.and_eq_true] at hi
  rw [Nat.testBit_or, Bool.or_eq_true]
  rcases hi with (hi | hi) | hi
  · exact Or.inl (h1.1 i hi.1)
  · exact Or.inl (h1.1 i hi.1)
  · exact Or.inr (h2.1 i hi.1)
/-- a row joined with another one -/
theorem ro.merge {G F : Nat → Nat} {X Y a ka b kb : Nat} (he : en G (G 4)) (hm : G 4 ≤ 62) (hXY : X ≠ Y) (h1 : ro G F X a ka) (h2 : ro G F Y b kb) (r1 : su a ka) (r2 : su b kb) : ro G (cn_mg X Y 4 0 F) X (lw_j a ka b kb) (ka ||| kb) := fun r hr => by
  obtain ⟨g1, g2⟩ := cn_mgv X Y hXY 4 0 F r (by omega) (by omega) (by omega)
  rw [g1, g2]
  unfold cn_go
  rw [(h1 r hr).1, (h1 r hr).2, (h2 r hr).1, (h2 r hr).2, pr_or, pr_join he hm r r1 r2]
  exact ⟨rfl, rfl⟩
theorem ro.zero {G F : Nat → Nat} {X : Nat} (h : ∀ r, r < 4 → F (16 * (X * 4 + r) + 0) = 0 ∧ F (16 * (X * 4 + r) + 1) = 0) : ro G F X 0 0 := fun r hr => by
  rw [pr_zero]
  exact h r hr
/-- a row's likeness -/
theorem pr_inj {G : Nat → Nat} {x y : Nat} (he : en G (G 4)) (hx : x < 2 ^ G 4) (hy : y < 2 ^ G 4) (h : ∀ r, r < 4 → pr G r (G 4) x = pr G r (G 4) y) : x = y := by
  apply Nat.eq_of_testBit_eq
  intro i
  by_cases hi : i < G 4
  · have hn := he.num hi
    rcases pr_at he (G (10 + 5 * i)) (G (11 + 5 * i) - 1) with ⟨j, h1, h2, h3, h4⟩ | ⟨h4, _⟩
    · have : j = i := he.inj h1 hi h2 (by omega)
      subst this
      rw [← h4 x, ← h4 y, h _ (he j hi).1]
    · exact absurd (show G (11 + 5 * i) = G (11 + 5 * i) - 1 + 1 by omega) (h4 i hi rfl)
  · rw [tb_ge hx (by omega), tb_ge hy (by omega)]
theorem gh.mono {G : Nat → Nat} {H : Nat → Nat → Nat} (h : gh G H) {u : Nat} (hu : u < 4) (n : Nat) : ∀ k, n + k ≤ G (338 + u) → su (H u n) (H u (n + k))
  | 0, _ => su.rf _
  | k + 1, hk => su.tr (gh.mono h hu n k (by omega)) (h.2.1 u (n + k) hu (by omega))
theorem gh.mono2 {G : Nat → Nat} {H : Nat → Nat → Nat} (h : gh G H) {u n n' : Nat} (hu : u < 4) (h1 : n ≤ n') (h2 : n' ≤ G (338 + u)) : su (H u n) (H u n') := by
  have := h.mono hu n (n' - n) (by omega)
  rw [show n + (n' - n) = n' by omega] at this
  exact this
theorem dq_cg {G G' : Nat → Nat} {t n p : Nat} (h : ∀ j, 4 ≤ j → j < 603 → G' j = G j) (ht : t < 4) (h1 : n ≤ G (338 + t)) (h2 : G (338 + t) ≤ G (342 + t) + 6) (h3 : G (342 + t) < n) (hp : p < 2) : dq G' t n p = dq G t n p := by
  unfold dq
  rw [h (342 + t) (by omega) (by omega)]
  exact h _ (by omega) (by omega)
/-- clock, draws, counts and the book -/
theorem RK.low {E : (Nat → Nat → Nat) → Prop} {lo N N' : Nat} {G G' F F' : Nat → Nat} (h : RK E lo N G F) (hJ : lw_J N' G') (e : ∀ j, 4 ≤ j → j < 603 → G' j = G j) (g0 : G 0 ≤ G' 0) (g2 : G 2 ≤ G' 2) (gk : ∀ i, i < G' 603 → G' (604 + 4 * i + 1) < 5) (eF : ∀ j, j ≠ 24 → j % 16 ≠ 7 → j ≠ 40 → j ≠ 56 → j ≠ 72 → j ≠ 88 → F' j = F j) (hQ : RQ G' F') (hB : RB G' F') : RK E lo N' G' F' := by
  obtain ⟨J, ⟨i1, i2, i3, i4, i5, i6, H, ⟨q1, q2, q3, q4, q5, q6, q7⟩, hE⟩, ⟨E1, E2⟩, S, C, D, _, ⟨F1, F2⟩, _⟩ := h
  have e4 : G' 4 = G 4 := e 4 (by omega) (by omega)
  have e410 : G' 410 = G 410 := e 410 (by omega) (by omega)
  have m62 := J.e
  have m24 := J.m
  have ee : ∀ j, 10 ≤ j → j < 10 + 5 * G 4 → G' j = G j := fun j h1 h2 => e j (by omega) (by omega)
  have ef : ∀ i x, i < G 410 → x < 8 → G' (411 + 8 * i + x) = G (411 + 8 * i + x) := fun i x h1 h2 => e _ (by omega) (by omega)
  have ec : ∀ t, t < 4 → G' (338 + t) = G (338 + t) ∧ G' (342 + t) = G (342 + t) ∧ G' (330 + 2 * t) = G (330 + 2 * t) ∧ G' (331 + 2 * t) = G (331 + 2 * t) := fun t ht => ⟨e _ (by omega) (by omega), e _ (by omega) (by omega), e _ (by omega) (by omega), e _ (by omega) (by omega)⟩
  have eq : ∀ t n p, t < 4 → G (342 + t) < n → n ≤ G (338 + t) → p < 2 → dq G' t n p = dq G t n p := fun t n p ht h1 h2 hp => dq_cg e ht h2 (J.c t ht).2.1 h1 hp
  have eR : ∀ {X h k : Nat}, ro G F X h k → ro G' F' X h k := fun {X h k} z => z.cg e4 ee (fun r hr => ⟨eF _ (by omega) (by omega) (by omega) (by omega) (by omega) (by omega), eF _ (by omega) (by omega) (by omega) (by omega) (by omega) (by omega)⟩)
  refine ⟨hJ, ⟨by rw [e4]; exact i1.congr ee, fun t ht => ?_, fun t n ht h1 h2 => ?_, fun i hi => ?_, ?_, gk, H, ⟨?_, ?_, ?_, ?_, ?_, ?_, ?_⟩, hE⟩, ⟨fun i hi => ?_, fun u hu => ?_⟩, fun t ht => ?_, fun t ht => ?_, fun t n ht h1 h2 => ?_, hQ, ⟨?_, fun i hi => ?_⟩, hB⟩
  · rw [(ec t ht).2.2.1, (ec t ht).2.2.2]; exact (i2 t ht).cg e4
  · rw [(ec t ht).1] at h2
    rw [(ec t ht).2.1] at h1
    rw [eq t n 0 ht h1 h2 (by omega), eq t n 1 ht h1 h2 (by omega)]
    exact (i3 t n ht h1 h2).cg e4
  · rw [e410] at hi
    obtain ⟨a1, a2, a3, a4⟩ := i4 i hi
    rw [ef i 6 hi (by omega), ef i 7 hi (by omega), ef i 2 hi (by omega), ef i 3 hi (by omega), e 5 (by omega) (by omega)]
    exact ⟨a1.cg e4, a2, by omega, by omega⟩
  · intro i j h1 h2
    rw [e410] at h2
    rw [ef i 2 (by omega) (by omega), ef j 2 h2 (by omega), ef i 3 (by omega) (by omega), ef j 3 h2 (by omega)]
    exact i5 i j h1 h2
  · intro u hu; rw [(ec u hu).1, (ec u hu).2.2.2]; exact q1 u hu
  · intro u n hu hn; rw [(ec u hu).1] at hn; exact q2 u n hu hn
  · intro u n hu hn; rw [(ec u hu).1] at hn; exact (q3 u n hu hn).cg e4 ee
  · intro u n hu h1 h2
    rw [(ec u hu).1] at h2
    rw [(ec u hu).2.1] at h1
    rw [eq u n 1 hu h1 h2 (by omega)]
    exact q4 u n hu h1 h2
  · intro u t hu ht
    rw [e _ (by omega) (by omega), (ec t ht).2.2.2]; exact q5 u t hu ht
  · intro i hi h0
    rw [e410] at hi
    rw [ef i 5 hi (by omega)] at h0
    have hf := J.f i hi
    rw [ef i 7 hi (by omega), ef i 0 hi (by omega), ef i 4 hi (by omega), ef i 1 hi (by omega), (ec _ hf.2.1).2.2.2]
    exact q6 i hi h0
  · intro i hi h0
    rw [e410] at hi
    rw [ef i 5 hi (by omega)] at h0
    have hf := J.f i hi
    rw [ef i 0 hi (by omega), ef i 4 hi (by omega), ef i 1 hi (by omega), (ec (G (411 + 8 * i + 0)) hf.1).2.2.2]
    exact q7 i hi h0
  · rw [e4] at hi
    rw [ee _ (by omega) (by omega), ee _ (by omega) (by omega), ee _ (by omega) (by omega), ee _ (by omega) (by omega), ee _ (by omega) (by omega), eF _ (by omega) (by omega) (by omega) (by omega) (by omega) (by omega)]
    exact E1 i hi
  · rw [eF _ (by omega) (by omega) (by omega) (by omega) (by omega) (by omega)]; exact E2 u hu
  · rw [(ec t ht).2.2.1, (ec t ht).2.2.2]; exact eR (S t ht)
  · rw [(ec t ht).1, (ec t ht).2.1, eF _ (by omega) (by omega) (by omega) (by omega) (by omega) (by omega), eF _ (by omega) (by omega) (by omega) (by omega) (by omega) (by omega)]
    refine ⟨(C t ht).1, (C t ht).2.1, fun q hq => ?_⟩
    rw [e _ (by omega) (by omega), eF _ (by omega) (by omega) (by omega) (by omega) (by omega) (by omega)]
    exact (C t ht).2.2 q hq
  · rw [(ec t ht).1] at h2
    rw [(ec t ht).2.1] at h1
    rw [eq t n 0 ht h1 h2 (by omega), eq t n 1 ht h1 h2 (by omega)]
    exact eR (D t n ht h1 h2)
  · rw [e410, eF _ (by omega) (by omega) (by omega) (by omega) (by omega) (by omega)]; exact F1
  · rw [e410] at hi
    obtain ⟨a1, a2, a3, a4, a5, a6⟩ := F2 i hi
    rw [ef i 6 hi (by omega), ef i 7 hi (by omega), ef i 0 hi (by omega), ef i 1 hi (by omega), ef i 2 hi (by omega), ef i 5 hi (by omega), ef i 4 hi (by omega)]
    refine ⟨eR a1, ?_, ?_, ?_, ?_, ?_⟩
    · rw [eF _ (by omega) (by omega) (by omega) (by omega) (by omega) (by omega)]; exact a2
    · rw [eF _ (by omega) (by omega) (by omega) (by omega) (by omega) (by omega)]; exact a3
    · rw [eF _ (by omega) (by omega) (by omega) (by omega) (by omega) (by omega)]; exact a4
    · rw [eF _ (by omega) (by omega) (by omega) (by omega) (by omega) (by omega)]; exact a5
    · rw [eF _ (by omega) (by omega) (by omega) (by omega) (by omega) (by omega)]; exact a6
theorem RK.imp {E E' : (Nat → Nat → Nat) → Prop} {lo N : Nat} {G F : Nat → Nat} (h : RK E lo N G F) (k : ∀ H, gh G H → E H → E' H) : RK E' lo N G F := by
  obtain ⟨J, ⟨i1, i2, i3, i4, i5, i6, H, q, hE⟩, R⟩ := h
  exact ⟨J, ⟨i1, i2, i3, i4, i5, i6, H, q, k H q hE⟩, R⟩
