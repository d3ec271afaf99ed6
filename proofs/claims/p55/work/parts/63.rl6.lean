/-! the relation: SET, CLEARED, RESET -/
theorem ro.gather {G F : Nat → Nat} {x y h k q f : Nat} (he : en G (G 4)) (hm : G 4 ≤ 62) (hx : ro G F x h k) (hC : ∀ i, i < G 4 → F (16 * (64 * G (10 + 5 * i) + G (11 + 5 * i)) + 2) = (G (12 + 5 * i) * 3 + G (13 + 5 * i)) * 100 + G (14 + 5 * i)) (hq : q < 4) (hyx : y ≠ x) : ro G (cn_gat F y x q f) y 0 (lw_of G h q f (G 4) 0 0) := fun r hr => by
  refine ⟨?_, by rw [cn_gata F y x q f hr, pr_zero]⟩
  have hz := cn_wzv 4 (y * 4) F (y * 4 + r) (by omega) (by omega)
  apply Nat.eq_of_testBit_eq
  intro n
  have p2 := (cn_ga_spec y x q f 256 0 (cn_wz 4 (y * 4) F) rfl).2 r n hr
  rw [hz.1, Nat.zero_testBit] at p2
  rw [Bool.eq_iff_iff]
  refine Iff.trans p2 ?_
  have hhe : ∀ u, u < 256 → (cn_he (cn_wz 4 (y * 4) F) x u q f ≠ 0 ↔ rr_a F x u ∧ rr_m F u q f) := fun u hu => by
    rw [rr_he hq hu]
    unfold rr_a rr_m
    rw [cn_wzo _ _ _ _ (by omega), cn_wzo _ _ _ _ (by omega)]
  rw [pr_bit]
  constructor
  · rintro (z | ⟨u, u0, u1, u2, u3, u4⟩)
    · exact absurd z (by decide)
    · obtain ⟨⟨v1, v2⟩, v3, v4⟩ := (hhe u u1).mp u2
      rw [(hx (u / 64) (by omega)).2, pr_bit] at v2
      obtain ⟨i, w1, w2, w3, w4⟩ := v2
      have hn := he.num w1
      have ei := he i w1
      have eu : u = 64 * G (10 + 5 * i) + G (11 + 5 * i) := by omega
      rw [eu, hC i w1] at v3 v4
      refine ⟨i, w1, by omega, (lw_cx_tb G h q f i).mpr ⟨w1, w3, by omega, ?_⟩, by omega⟩
      rcases v4 with v4 | v4
      · exact Or.inl v4
      · exact Or.inr (by omega)
  · rintro ⟨i, w1, w2, w3, w4⟩
    obtain ⟨_, w5, w6, w7⟩ := (lw_cx_tb G h q f i).mp w3
    have hn := he.num w1
    have ei := he i w1
    refine Or.inr ⟨64 * G (10 + 5 * i) + G (11 + 5 * i), by omega, by omega, (hhe _ (by omega)).mpr ⟨⟨by omega, ?_⟩, ?_⟩, by omega, by omega⟩
    · rw [show (64 * G (10 + 5 * i) + G (11 + 5 * i)) / 64 = r by omega, show (64 * G (10 + 5 * i) + G (11 + 5 * i)) % 64 - 1 = n by omega, (hx r hr).2, pr_bit]
      exact ⟨i, w1, w2, w5, w4⟩
    · unfold rr_m
      rw [hC i w1]
      refine ⟨by omega, ?_⟩
      rcases w7 with w7 | w7
      · exact Or.inl w7
      · exact Or.inr (by omega)
theorem lw_of_lt (G : Nat → Nat) (b q f : Nat) : lw_of G b q f (G 4) 0 0 < 2 ^ G 4 := lw_ofo G b q f (G 4) (G 4) 0 0 (by omega) (Nat.two_pow_pos _)
theorem lw_of_su (G : Nat → Nat) (b q f : Nat) : su (lw_of G b q f (G 4) 0 0) b := fun i hi => ((lw_cx_tb G b q f i).mp hi).2.1
theorem lw_of_cg {G G' : Nat → Nat} {b q f m : Nat} (h : ∀ i, i < m → G' (12 + 5 * i) = G (12 + 5 * i) ∧ G' (13 + 5 * i) = G (13 + 5 * i)) : lw_of G' b q f m 0 0 = lw_of G b q f m 0 0 := by
  apply Nat.eq_of_testBit_eq
  intro i
  rw [Bool.eq_iff_iff, lw_of_tb, lw_of_tb]
  constructor
  · rintro (z | ⟨z1, z2, z3, z4, z5⟩)
    · exact Or.inl z
    · rw [(h i (by omega)).1] at z4
      rw [(h i (by omega)).2] at z5
      exact Or.inr ⟨z1, z2, z3, z4, z5⟩
  · rintro (z | ⟨z1, z2, z3, z4, z5⟩)
    · exact Or.inl z
    · rw [← (h i (by omega)).1] at z4
      rw [← (h i (by omega)).2] at z5
      exact Or.inr ⟨z1, z2, z3, z4, z5⟩
theorem pr_one (G : Nat → Nat) (r m : Nat) : pr G r (m + 1) (2 ^ m) = if G (10 + 5 * m) = r then 2 ^ (G (11 + 5 * m) - 1) else 0 := by
  have z : pr G r m (2 ^ m) = 0 := by
    apply Nat.eq_of_testBit_eq
    intro n
    rw [Nat.zero_testBit, Bool.eq_false_iff]
    intro hx
    obtain ⟨i, h1, h2, h3, h4⟩ := (pr_bit G r _ n m).mp hx
    rw [Nat.testBit_two_pow] at h3
    have := of_decide_eq_true h3
    omega
  show pr G r m (2 ^ m) ||| (if G (10 + 5 * m) = r ∧ (2 ^ m).testBit m = true then 2 ^ (G (11 + 5 * m) - 1) else 0) = _
  rw [z, Nat.zero_or]
  have t : (2 ^ m).testBit m = true := by rw [Nat.testBit_two_pow]; exact decide_eq_true rfl
  by_cases c : G (10 + 5 * m) = r
  · rw [if_pos ⟨c, t⟩, if_pos c]
  · rw [if_neg (fun y => c y.1), if_neg c]
theorem RL.iv {lo N : Nat} {G F : Nat → Nat} (h : RL lo N G F) : IV (fun _ => True) lo G := h.1.2.1
theorem RL.j {lo N : Nat} {G F : Nat → Nat} (h : RL lo N G F) : lw_J N G := h.1.1
theorem RL.e {lo N : Nat} {G F : Nat → Nat} (h : RL lo N G F) : en G (G 4) := h.1.2.1.1
theorem RL.kc {lo N : Nat} {G F : Nat → Nat} (h : RL lo N G F) {t : Nat} (ht : t < 4) : clo G (G 4) (G (331 + 2 * t)) := by
  obtain ⟨_, _, _, _, _, _, H, hG, _⟩ := h.iv
  rw [← hG.1 t ht]
  exact hG.2.2.1 t _ ht (Nat.le_refl _)
theorem RL.own {lo N : Nat} {G F : Nat → Nat} (h : RL lo N G F) {t : Nat} (ht : t < 4) : F (16 * (t * 4 + t) + 0) = 2 ^ (ce G t (G 4)) - 1 := by
  have S := h.1.2.2.2.1 t ht t ht
  rw [S.1, pr_clo t _ _ h.e (h.kc ht), ct_all G t _ _ (fun i hi hr => by rw [← hr]; exact h.2 i hi)]
theorem lw_tsow {G : Nat → Nat} (h : ow G) (J4 : G 4 ≤ 62) (he : en G (G 4)) (q a b : Nat) : ow (lw_ts G q a b) := h.cg J4 (fun j h1 h2 => lw_tso G q a b (by omega)) (fun t ht => by rw [lw_tso G q a b (by omega)]; exact su.rf _) he
/-- SET -/
theorem RL.set {lo N : Nat} {G F : Nat → Nat} (h : RL lo N G F) (hN : N + 1 < 1000000) {t q f v : Nat} (h4 : G 4 ≤ 61) (ht : t < 4) (hq : q < 4) (hf : f < 3) (hv : v < 100) : RL lo (N + 1) (lw_se G t q f v) (cn_pl F t q f v (ce G t (G 4))) := by
  have K := RK.add h.1 h.2 h4 ht hq hf hv
  have hS := h.1.2.2.2.1
  have hC := h.1.2.2.2.2.1 t ht
  have hE := h.1.2.2.1
  have he := h.e
  have hw := h.2
  have hcl := h.kc ht
  have hI2 := h.iv.2.1
  have m62 := h.j.e
  have hce := ce_le G t (G 4)
  have hn := lw_nxow hw t
  obtain ⟨s4, s0, s1, s2, s3, s5, so⟩ := lw_s3F (G := G) t q f v h4
  rw [hn] at s1
  have e1 : ∀ j, j < 10 + 5 * G 4 → lw_s1 G t q f v j = G j := fun j hj => lw_rco _ _ 5 0 G j (Or.inl (by omega))
  have e330 : lw_s1 G t q f v (330 + 2 * t) = G (330 + 2 * t) := lw_rco _ _ 5 0 G _ (Or.inr (by omega))
  have eS2 : lw_s2 G t q f v = lw_of G (G (330 + 2 * t)) q f (G 4) 0 0 ||| 2 ^ G 4 := by
    unfold lw_s2
    rw [e1 4 (by omega), e330, Nat.one_mul, lw_of_cg (G := G) (G' := lw_s1 G t q f v) (fun i hi => ⟨e1 _ (by omega), e1 _ (by omega)⟩)]
  have eS4 : lw_s4 G t q f v = lw_tk (lw_s3 G t q f v) t (2 ^ G 4) (lw_of G (G (330 + 2 * t)) q f (G 4) 0 0 ||| 2 ^ G 4) := by
    unfold lw_s4
    rw [eS2, Nat.one_mul]
  unfold lw_se
  rw [eS4]
  have ee : ∀ j, 10 ≤ j → j < 10 + 5 * G 4 → lw_s3 G t q f v j = G j := fun j z1 z2 => so j (by omega) (by omega)
  have eh : ∀ j, 330 ≤ j → lw_s3 G t q f v j = G j := fun j z1 => so j (by omega) (by omega)
  have he1 : en (lw_s3 G t q f v) (lw_s3 G t q f v 4) := K.2.1.1
  have hkb := (hI2 t ht)
  have oL := lw_of_lt G (G (330 + 2 * t)) q f
  have oS := lw_of_su G (G (330 + 2 * t)) q f
  generalize hO : lw_of G (G (330 + 2 * t)) q f (G 4) 0 0 = O at *
  have p2 : 2 ^ G 4 < 2 ^ (G 4 + 1) := by rw [Nat.pow_succ]; have := Nat.two_pow_pos (G 4); omega
  have hr : rp (lw_s3 G t q f v) (2 ^ G 4) (O ||| 2 ^ G 4) := ⟨su.orr _ _, by rw [s4]; exact Nat.or_lt_two_pow (Nat.lt_trans oL p2) p2⟩
  have hst : ∀ s, s < 4 → lw_s3 G t q f v (330 + 2 * s) = G (330 + 2 * s) ∧ lw_s3 G t q f v (331 + 2 * s) = G (331 + 2 * s) ∧ lw_s3 G t q f v (338 + s) = G (338 + s) ∧ lw_s3 G t q f v (342 + s) = G (342 + s) := fun s hs => ⟨eh _ (by omega), eh _ (by omega), eh _ (by omega), eh _ (by omega)⟩
  have t2 : (2 ^ G 4).testBit (G 4) = true := by rw [Nat.testBit_two_pow]; exact decide_eq_true rfl
  have hc1 : clo (lw_s3 G t q f v) (lw_s3 G t q f v 4) (lw_s3 G t q f v (331 + 2 * t) ||| (O ||| 2 ^ G 4)) := fun i j a b c d => by
    rw [s4] at b
    rw [(hst t ht).2.1] at d ⊢
    rw [Nat.testBit_or, Bool.or_eq_true]
    refine Or.inl ?_
    by_cases y : j < G 4
    · rw [ee _ (by omega) (by omega), ee _ (by omega) (by omega)] at c
      refine hcl i j a y c ?_
      rw [Nat.testBit_or, Nat.testBit_or, Bool.or_eq_true, Bool.or_eq_true, Nat.testBit_two_pow, decide_eq_true_iff] at d
      rcases d with d | d | d
      · exact d
      · exact hkb.1 j (oS j d)
      · omega
    · obtain rfl : j = G 4 := by omega
      rw [s0, ee _ (by omega) (by omega)] at c
      have := hw i a
      rw [c] at this
      exact this
  -- the class's rows
  have nr := cn_nrl F ht
  have nrv := cn_nrv F t
  rw [hC.1] at nrv
  have hE2 : ∀ i, i < G 4 → cn_nd F t (16 * (64 * G (10 + 5 * i) + G (11 + 5 * i)) + 2) = (G (12 + 5 * i) * 3 + G (13 + 5 * i)) * 100 + G (14 + 5 * i) := fun i hi => by
    rw [cn_ndo F t (by omega) (by omega)]; exact hE.1 i hi
  have rt : ro G (cn_nd F t) t (G (330 + 2 * t)) (G (331 + 2 * t)) := (hS t ht).cg rfl (fun _ _ _ => rfl) (fun r hr => ⟨cn_ndo F t (by omega) (by omega), cn_ndo F t (by omega) (by omega)⟩)
  have rg := ro.gather (y := cn_nr F t) (q := q) (f := f) he m62 rt hE2 hq (by omega)
  rw [hO] at rg
  have bo : ∀ j, (j ≠ 16 * (cn_nr F t * 4 + t) + 0 ∧ j ≠ 16 * (cn_nr F t * 4 + t) + 1 ∧ j ≠ 16 * (t * 64 + (ce G t (G 4) + 1)) + 2) → cn_pb F t q f v (ce G t (G 4)) j = cn_pg F t q f j := fun j hj => by
    unfold cn_pb cn_be cn_e2 cn_e1
    rw [xn_un _ _ hj.2.2, xn_un _ _ hj.2.1, xn_un _ _ hj.1]
  have po : ∀ j, (1 < j % 16 ∨ j / 16 < cn_nr F t * 4 ∨ cn_nr F t * 4 + 4 ≤ j / 16) → cn_pg F t q f j = cn_nd F t j := fun j hj => cn_gato _ _ _ _ _ hj
  have b0 : cn_pb F t q f v (ce G t (G 4)) (16 * (cn_nr F t * 4 + t) + 0) = cn_pg F t q f (16 * (cn_nr F t * 4 + t) + 0) ||| 1 * 2 ^ (ce G t (G 4) + 1 - 1) := by
    unfold cn_pb cn_be cn_e2
    rw [xn_un _ _ (by omega), xn_un _ _ (by omega)]
    unfold cn_e1
    rw [xn_ue]
  have b1 : cn_pb F t q f v (ce G t (G 4)) (16 * (cn_nr F t * 4 + t) + 1) = cn_pg F t q f (16 * (cn_nr F t * 4 + t) + 1) ||| 1 * 2 ^ (ce G t (G 4) + 1 - 1) := by
    unfold cn_pb cn_be cn_e2
    rw [xn_un _ _ (by omega), xn_ue]
    unfold cn_e1
    rw [xn_un _ _ (by omega)]
  have bc : cn_pb F t q f v (ce G t (G 4)) (16 * (t * 64 + (ce G t (G 4) + 1)) + 2) = (q * 3 + f) * 100 + v := by
    unfold cn_pb cn_be
    rw [xn_ue]
  have rt1 : ro (lw_s3 G t q f v) (cn_pb F t q f v (ce G t (G 4))) t (G (330 + 2 * t)) (G (331 + 2 * t)) := fun r hr => by
    rw [bo _ (by omega), bo _ (by omega), po _ (by omega), po _ (by omega), (rt r hr).1, (rt r hr).2, s4, pr_top _ r _ _ (tb_ge hkb.2 (Nat.le_refl _)), pr_top _ r _ _ (tb_ge (hkb.1.lt hkb.2) (Nat.le_refl _)), pr_congr r _ _ ee, pr_congr r _ _ ee]
    exact ⟨rfl, rfl⟩
  have hpO : ∀ r, pr (lw_s3 G t q f v) r (G 4 + 1) O = pr G r (G 4) O := fun r => by
    rw [pr_top _ r _ _ (tb_ge oL (Nat.le_refl _)), pr_congr r _ _ ee]
  have hp1 : ∀ r, pr (lw_s3 G t q f v) r (G 4 + 1) (2 ^ G 4) = if t = r then 2 ^ (ce G t (G 4)) else 0 := fun r => by
    rw [pr_one, s0, s1, Nat.add_sub_cancel]
  have rn1 : ro (lw_s3 G t q f v) (cn_pb F t q f v (ce G t (G 4))) (cn_nr F t) (2 ^ G 4) (O ||| 2 ^ G 4) := fun r hr => by
    have g1 : cn_pg F t q f (16 * (cn_nr F t * 4 + r) + 0) = pr G r (G 4) O := (rg r hr).1
    have g2 : cn_pg F t q f (16 * (cn_nr F t * 4 + r) + 1) = 0 := ((rg r hr).2).trans (pr_zero G r _)
    rw [s4, pr_or, hpO, hp1]
    by_cases z : t = r
    · subst z
      rw [b0, b1, g1, g2, if_pos rfl, Nat.one_mul, Nat.add_sub_cancel, Nat.zero_or]
      exact ⟨rfl, rfl⟩
    · rw [bo _ (by omega), bo _ (by omega), g1, g2, if_neg z, Nat.or_zero]
      exact ⟨rfl, rfl⟩
  have fm := ro.merge he1 (by omega) (show t ≠ cn_nr F t by omega) rt1 rn1 hkb.1 hr.1
  have mo : ∀ j, (1 < j % 16 ∨ j / 16 < t * 4 ∨ t * 4 + 4 ≤ j / 16) → cn_pm F t q f v (ce G t (G 4)) j = cn_pb F t q f v (ce G t (G 4)) j := fun j hj => cn_mgu t (cn_nr F t) 4 0 _ j (by omega)
  have K2 := RK.take (F' := cn_pm F t q f v (ce G t (G 4))) (E' := fun _ => True) K hN ht hr (fun _ _ _ => hc1) (fun _ _ _ _ _ => trivial) (by rw [(hst t ht).1, (hst t ht).2.1]; exact fm)
    (by
      rw [(hst t ht).2.2.1, ← nrv]
      exact rn1.cg rfl (fun _ _ _ => rfl) (fun r hr => ⟨mo _ (by omega), mo _ (by omega)⟩))
    (by rw [(hst t ht).2.2.1, mo _ (by omega), bo _ (by omega), po _ (by omega), cn_nd4, hC.1])
    (by rw [(hst t ht).2.2.1, (hst t ht).2.2.2, mo _ (by omega), bo _ (by omega), po _ (by omega), cn_nd5, hC.1, hC.2.1])
    (fun j z1 z2 z3 => by
      rw [(hst t ht).2.2.1, ← nrv] at z3
      rw [mo _ (by omega)]
      by_cases y : j = 16 * (t * 64 + (ce G t (G 4) + 1)) + 2
      · rw [y, bc, show 16 * (64 * t + (ce G t (G 4) + 1)) + 2 = 16 * (t * 64 + (ce G t (G 4) + 1)) + 2 by omega, xn_ue]
      · rw [bo _ (by omega), po _ (by omega), cn_ndo F t z1 z2, xn_un _ _ (by omega)])
  have hct := h.j.c t ht
  obtain ⟨a1, a2, _⟩ := lw_tkF (G := lw_s3 G t q f v) (t := t) (2 ^ G 4) (O ||| 2 ^ G 4) ht (by rw [(hst t ht).2.2.1, (hst t ht).2.2.2]; omega) (by rw [(hst t ht).2.2.1, (hst t ht).2.2.2]; omega)
  rw [(hst t ht).2.1] at a2
  have ow2 : ow (lw_tk (lw_s3 G t q f v) t (2 ^ G 4) (O ||| 2 ^ G 4)) := fun i hi => by
    rw [a1 4 (by omega) (by omega) (by omega) (by omega) (by omega), s4] at hi
    rw [a1 (10 + 5 * i) (by omega) (by omega) (by omega) (by omega) (by omega)]
    by_cases y : i < G 4
    · rw [ee _ (by omega) (by omega)]
      have hi4 := (he i y).1
      by_cases z : G (10 + 5 * i) = t
      · rw [z, a2, Nat.testBit_or]
        have := hw i y
        rw [z] at this
        rw [this, Bool.true_or]
      · rw [a1 (331 + 2 * G (10 + 5 * i)) (by omega) (by omega) (by omega) (by omega) (by omega), (hst _ hi4).2.1]
        exact hw i y
    · obtain rfl : i = G 4 := by omega
      rw [s0, a2, Nat.testBit_or, Nat.testBit_or, t2, Bool.or_true, Bool.or_true]
  have J2 := K2.1
  exact ⟨K2.book 0 t q (by omega) (by omega) (by omega), lw_tsow ow2 J2.e K2.2.1.1 0 t q⟩
