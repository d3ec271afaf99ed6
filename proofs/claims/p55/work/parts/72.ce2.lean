/-! the class: what comes, in the relation -/
theorem and_not0 {a b : Nat} (ha : a < 18446744073709551616) : a &&& (b ^^^ 18446744073709551615) = 0 ↔ su a b := by
  constructor
  · intro h i hi
    have hl : i < 64 := by
      rcases Nat.lt_or_ge i 64 with z | z
      · exact z
      · rw [tb_ge (n := 64) ha z] at hi; exact absurd hi (by decide)
    have t : (a &&& (b ^^^ 18446744073709551615)).testBit i = false := by rw [h, Nat.zero_testBit]
    rw [Nat.testBit_and, Nat.testBit_xor, tb_m64 hl, hi, Bool.true_and] at t
    cases z : b.testBit i
    · rw [z] at t; exact absurd t (by decide)
    · rfl
  · intro h
    apply Nat.eq_of_testBit_eq
    intro i
    rw [Nat.zero_testBit, Nat.testBit_and, Nat.testBit_xor]
    cases z : a.testBit i
    · rfl
    · have hl : i < 64 := by
        rcases Nat.lt_or_ge i 64 with y | y
        · exact y
        · rw [tb_ge (n := 64) ha y] at z; exact absurd z (by decide)
      rw [h i z, tb_m64 hl]
      rfl
theorem su.of_or {a b : Nat} (h : b ||| a = b) : su a b := fun i hi => by
  rw [← h, Nat.testBit_or, hi, Bool.or_true]
def eP (G : Nat → Nat) (H : Nat → Nat → Nat) : Prop := (fun _ : Nat → Nat → Nat => True) H ∧ (G (411 + 5) = 0 → su (G (411 + 7)) (H (G (411 + 0)) (G (411 + 4))) ∧ su (H (G (411 + 0)) (G (411 + 4))) (G (411 + 7) ||| G (331 + 2 * G (411 + 1)))) ∧ (G (411 + 5) = 1 → su (H (G (411 + 1)) (G (411 + 4))) (G (331 + 2 * G (411 + 0))))
theorem lw_m2o (G : Nat → Nat) {j : Nat} (hj : j < 410) : lw_m2 G 0 j = G j := by
  unfold lw_m2
  rw [lw_tso _ _ _ _ (by omega), lw_tnv G 0 (by omega), if_neg (by omega)]
theorem ce_pop {lo N : Nat} {G F : Nat → Nat} (h : RL lo N G F) (h0 : 0 < G 410) : RK (eP G) lo N (lw_m2 G 0) (cn_h5 F) ∧ ro (lw_m2 G 0) (cn_h5 F) 53 (G (411 + 6)) (G (411 + 7)) ∧ rp (lw_m2 G 0) (G (411 + 6)) (G (411 + 7)) := by
  obtain ⟨F1, F2⟩ := h.1.2.2.2.2.2.2.2.1
  obtain ⟨b1, b2, b3, b4, b5, b6⟩ := F2 0 h0
  have I4 := (h.iv.2.2.2.1 0 h0).1
  have m24 := h.j.m
  obtain ⟨c1, c2, c3, c4, c5⟩ := cn_h4v F (by omega)
  have P := RK.pop h.1 h0 (F' := cn_h4 F) c1 c3 c2 c5
  have hf := h.j.f 0 h0
  have e0 : F (16 * 0 + 6) = lw_tm G 0 0 := by rw [lw_tmv G 0 (by omega)]; exact b2
  have e1 : F (16 * 1 + 6) = lw_tm G 0 1 := by rw [lw_tmv G 0 (by omega)]; exact b3
  have l0 : lw_tm G 0 0 < 4 := by rw [lw_tmv G 0 (by omega)]; exact hf.1
  have l1 : lw_tm G 0 1 < 4 := by rw [lw_tmv G 0 (by omega)]; exact hf.2.1
  have P2 := P.book 4 (lw_tm G 0 1) (lw_tm G 0 0) (by omega) (by omega) (by omega)
  refine ⟨?_, ?_, I4.cg (lw_m2o G (by omega))⟩
  · unfold cn_h5 lw_m2
    rw [e0, e1]
    exact P2
  · refine b1.cg (lw_m2o G (by omega)) (fun j z1 z2 => lw_m2o G (by have := h.j.e; omega)) (fun r hr => ?_)
    unfold cn_h5
    rw [cn_wro _ _ _ _ (by omega) (by omega), cn_wro _ _ _ _ (by omega) (by omega)]
    exact c4 r hr
theorem ce_abs {E : (Nat → Nat → Nat) → Prop} {lo N t u up hh kn : Nat} {G F : Nat → Nat} (h : RK E lo N G F) (hN : N + 1 < 1000000) (ht : t < 4) (hu : u < 4) (hup : up ≤ G (338 + u)) (hx : ro G F 53 hh kn) (hp : rp G hh kn) (hE : ∀ H, gh G H → E H → su kn (H u up) ∧ su (H u up) (kn ||| G (331 + 2 * t))) : RK (fun H => su (H u up) (lw_b3 G t hh kn (331 + 2 * t))) lo (N + 1) (lw_b3 G t hh kn) (cn_ab F t) ∧ cn_lo (cn_b5 F t) 54 ∧ cn_lo (cn_b5 F t) t := by
  have he := h.2.1.1
  have m62 := h.1.e
  have S := h.2.2.2.1 t ht
  have C := h.2.2.2.2.1 t ht
  have hs := h.2.1.2.1 t ht
  have hct := h.1.c t ht
  have mv : ∀ s, s < 4 → cn_mv F t 54 1 (16 * (54 * 4 + s) + 0) = F (16 * (t * 4 + s) + 0) ∧ cn_mv F t 54 1 (16 * (54 * 4 + s) + 1) = F (16 * (t * 4 + s) + 1) := fun s hs => by
    have := cn_mvg F t 54 1 54 s (by omega) (by omega) hs
    rw [Nat.sub_self, Nat.add_zero] at this
    exact this
  have mo : ∀ j, (1 < j % 16 ∨ j / 16 < 216 ∨ 220 ≤ j / 16) → cn_mv F t 54 1 j = F j := fun j hj => cn_mvn _ _ _ _ (by omega)
  have r54 : ro G (cn_mv F t 54 1) 54 (G (330 + 2 * t)) (G (331 + 2 * t)) := S.cg rfl (fun _ _ _ => rfl) (fun s hs => mv s hs)
  have r53 : ro G (cn_mv F t 54 1) 53 hh kn := hx.cg rfl (fun _ _ _ => rfl) (fun s hs => ⟨mo _ (by omega), mo _ (by omega)⟩)
  have fm : ro G (cn_b5 F t) 54 (lw_j (G (330 + 2 * t)) (G (331 + 2 * t)) hh kn) (G (331 + 2 * t) ||| kn) := ro.merge he m62 (by omega) r54 r53 hs.1 hp.1
  have b5o : ∀ j, (1 < j % 16 ∨ j / 16 < 216 ∨ 220 ≤ j / 16) → cn_b5 F t j = F j := fun j hj => by
    unfold cn_b5
    rw [cn_mgu 54 53 4 0 _ j (by omega)]
    exact mo j hj
  have st : ro G (cn_b5 F t) t (G (330 + 2 * t)) (G (331 + 2 * t)) := S.cg rfl (fun _ _ _ => rfl) (fun s hs => ⟨b5o _ (by omega), b5o _ (by omega)⟩)
  have loo : ∀ {X a k : Nat}, ro G (cn_b5 F t) X a k → cn_lo (cn_b5 F t) X := fun {X a k} z s hs => by
    rw [(z s hs).1, (z s hs).2]
    have q1 := pr_lt62 he m62 s a
    have q2 := pr_lt62 he m62 s k
    omega
  refine ⟨?_, loo fm, loo st⟩
  have hJ := hs.join hp
  have knb : kn < 18446744073709551616 := Nat.lt_of_lt_of_le hp.2 (Nat.le_trans (Nat.pow_le_pow_right (n := 2) (by omega) m62) (by decide))
  have lk : cn_lk (cn_b5 F t) 54 t 4 0 = 1 ↔ lw_j (G (330 + 2 * t)) (G (331 + 2 * t)) hh kn = G (330 + 2 * t) ∧ G (331 + 2 * t) ||| kn = G (331 + 2 * t) := by
    rw [cn_lk_iff]
    constructor
    · intro z
      refine ⟨pr_inj he (hJ.1.lt hJ.2) (hs.1.lt hs.2) (fun r hr => ?_), pr_inj he hJ.2 hs.2 (fun r hr => ?_)⟩
      · have := (z r (by omega) (by omega)).2
        rw [(fm r hr).2, (st r hr).2] at this
        exact this
      · have := (z r (by omega) (by omega)).1
        rw [(fm r hr).1, (st r hr).1] at this
        exact this
    · rintro ⟨z1, z2⟩ r _ hr
      rw [(fm r (by omega)).1, (fm r (by omega)).2, (st r (by omega)).1, (st r (by omega)).2, z1, z2]
      exact ⟨rfl, rfl⟩
  have lk1 := cn_lk1 (cn_b5 F t) 54 t 4 0
  have cd : (lw_j (G (330 + 2 * t)) (G (331 + 2 * t)) hh kn ≠ G (330 + 2 * t) ∨ kn &&& (G (331 + 2 * t) ^^^ 18446744073709551615) ≠ 0) ↔ ¬ cn_lk (cn_b5 F t) 54 t 4 0 = 1 := by
    rw [lk]
    have a0 := and_not0 (b := G (331 + 2 * t)) knb
    constructor
    · rintro (z | z) ⟨y1, y2⟩
      · exact z y1
      · exact z (a0.mpr (su.of_or y2))
    · intro z
      by_cases y : lw_j (G (330 + 2 * t)) (G (331 + 2 * t)) hh kn = G (330 + 2 * t)
      · refine Or.inr (fun y2 => z ⟨y, su.or_eq (a0.mp y2)⟩)
      · exact Or.inl y
  unfold cn_ab
  by_cases z : cn_lk (cn_b5 F t) 54 t 4 0 = 0
  · rw [if_pos z]
    have e : lw_b3 G t hh kn = lw_tk G t hh kn := lw_b3t (cd.mpr (by omega))
    rw [e]
    obtain ⟨a1, a2, _⟩ := lw_tkF (G := G) (t := t) hh kn ht hct.1 hct.2.1
    rw [a2]
    have b6v : ∀ s, s < 4 → cn_b6 F t (16 * (t * 4 + s) + 0) = cn_b5 F t (16 * (54 * 4 + s) + 0) ∧ cn_b6 F t (16 * (t * 4 + s) + 1) = cn_b5 F t (16 * (54 * 4 + s) + 1) := fun s hs => by
      have := cn_mvg (cn_b5 F t) 54 t 1 t s (by omega) (by omega) hs
      rw [Nat.sub_self, Nat.add_zero] at this
      exact this
    have b6o : ∀ j, (1 < j % 16 ∨ j / 16 < t * 4 ∨ t * 4 + 4 ≤ j / 16) → cn_b6 F t j = cn_b5 F t j := fun j hj => cn_mvn _ _ _ _ (by omega)
    have nr := cn_nrl (cn_b6 F t) ht
    have nrv := cn_nrv (cn_b6 F t) t
    rw [b6o _ (by omega), b5o _ (by omega), C.1] at nrv
    have mvn : ∀ s, s < 4 → cn_mv (cn_nd (cn_b6 F t) t) 53 (cn_nr (cn_b6 F t) t) 1 (16 * (cn_nr (cn_b6 F t) t * 4 + s) + 0) = cn_nd (cn_b6 F t) t (16 * (53 * 4 + s) + 0) ∧ cn_mv (cn_nd (cn_b6 F t) t) 53 (cn_nr (cn_b6 F t) t) 1 (16 * (cn_nr (cn_b6 F t) t * 4 + s) + 1) = cn_nd (cn_b6 F t) t (16 * (53 * 4 + s) + 1) := fun s hs => by
      have := cn_mvg (cn_nd (cn_b6 F t) t) 53 (cn_nr (cn_b6 F t) t) 1 (cn_nr (cn_b6 F t) t) s (by omega) (by omega) hs
      rw [Nat.sub_self, Nat.add_zero] at this
      exact this
    have mvo : ∀ j, (1 < j % 16 ∨ j / 16 < cn_nr (cn_b6 F t) t * 4 ∨ cn_nr (cn_b6 F t) t * 4 + 4 ≤ j / 16) → cn_mv (cn_nd (cn_b6 F t) t) 53 (cn_nr (cn_b6 F t) t) 1 j = cn_nd (cn_b6 F t) t j := fun j hj => cn_mvn _ _ _ _ (by omega)
    have tk2 : ro G (cn_mv (cn_nd (cn_b6 F t) t) 53 (cn_nr (cn_b6 F t) t) 1) (4 + t * 6 + G (338 + t) % 6) hh kn := by
      rw [← nrv]
      refine r53.cg rfl (fun _ _ _ => rfl) (fun s hs => ?_)
      rw [(mvn s hs).1, (mvn s hs).2, cn_ndo _ _ (by omega) (by omega), cn_ndo _ _ (by omega) (by omega), b6o _ (by omega), b6o _ (by omega), b5o _ (by omega), b5o _ (by omega), mo _ (by omega), mo _ (by omega)]
      exact ⟨rfl, rfl⟩
    refine RK.take h hN ht hp (fun H hG hEH => ?_) (fun H H' hG hEH hH => ?_) (fm.cg rfl (fun _ _ _ => rfl) (fun s hs => ?_)) tk2 ?_ ?_ (fun j z1 z2 z3 => ?_)
    · obtain ⟨g1, g2⟩ := hE H hG hEH
      have e2 : G (331 + 2 * t) ||| kn = G (331 + 2 * t) ||| H u up := su.eq (su.or (su.orl _ _) (g1.tr (su.orr _ _))) (su.or (su.orl _ _) (g2.tr (su.or (su.orr _ _) (su.orl _ _))))
      rw [e2]
      refine clo.or ?_ (hG.2.2.1 u up hu hup)
      rw [← hG.1 t ht]
      exact hG.2.2.1 t _ ht (Nat.le_refl _)
    · rw [hH u up hu hup]
      exact (hE H hG hEH).2.tr (su.or (su.orr _ _) (su.orl _ _))
    · rw [mvo _ (by omega), mvo _ (by omega), cn_ndo _ _ (by omega) (by omega), cn_ndo _ _ (by omega) (by omega)]
      exact b6v s hs
    · rw [mvo _ (by omega), cn_nd4, b6o _ (by omega), b5o _ (by omega), C.1]
    · rw [mvo _ (by omega), cn_nd5, b6o _ (by omega), b5o _ (by omega), b6o _ (by omega), b5o _ (by omega), C.1, C.2.1]
    · rw [← nrv] at z3
      rw [mvo _ (by omega), cn_ndo _ _ z1 z2, b6o _ (by omega), b5o _ (by omega)]
  · rw [if_neg z]
    have y := lk.mp (by omega)
    have e : lw_b3 G t hh kn = G := by
      refine lw_b3f y.1 ?_
      exact (and_not0 knb).mpr (su.of_or y.2)
    rw [e]
    refine ((h.scr (fun j hj => b5o j (by omega))).mono (by omega)).imp (fun H hG hEH => ?_)
    obtain ⟨g1, g2⟩ := hE H hG hEH
    exact g2.tr (su.or (su.of_or y.2) (su.rf _))
theorem lw_b3ow {G : Nat → Nat} (hw : ow G) (he : en G (G 4)) (J4 : G 4 ≤ 62) {t : Nat} (hh kn : Nat) (ht : t < 4) (hc : G (342 + t) ≤ G (338 + t) ∧ G (338 + t) ≤ G (342 + t) + 6) : ow (lw_b3 G t hh kn) ∧ ∀ u, u < 4 → G (338 + u) ≤ lw_b3 G t hh kn (338 + u) := by
  obtain ⟨a1, a2, a3, a4, _⟩ := lw_tkF (G := G) (t := t) hh kn ht hc.1 hc.2
  unfold lw_b3
  split
  · refine ⟨hw.cg J4 (fun j h1 h2 => a1 j (by omega) (by omega) (by omega) (by omega) (by omega)) (fun s hs => ?_) he, fun u hu => ?_⟩
    · by_cases z : s = t
      · subst z; rw [a2]; exact su.orl _ _
      · rw [a1 _ (by omega) (by omega) (by omega) (by omega) (by omega)]; exact su.rf _
    · by_cases z : u = t
      · subst z; omega
      · rw [a1 _ (by omega) (by omega) (by omega) (by omega) (by omega)]; exact Nat.le_refl _
  · exact ⟨hw, fun _ _ => Nat.le_refl _⟩
theorem lw_a4ow {N : Nat} {G : Nat → Nat} (J : lw_J N G) (hN : N < 1000000) (hw : ow G) (he : en G (G 4)) {u t v : Nat} (hu : u < 4) (ht : t < 4) (hv : v ≤ G (338 + t)) : ow (lw_a4 G u t v) := by
  have hct := J.c t ht
  have A : ∀ j, j ≠ 346 + 4 * t + u → lw_a3 G u t v j = G j := fun j hj => xn_un _ _ hj
  have b1 := A (338 + t) (by omega)
  have b2 := A (342 + t) (by omega)
  have hle := lw_lele (lw_a3 G u t v) t 4 0 (lw_a3 G u t v (338 + t))
  obtain ⟨a1, a2, a3⟩ := lw_dnF ht (lw_le (lw_a3 G u t v) t 4 0 (lw_a3 G u t v (338 + t))) _ (lw_a3 G u t v) (by omega) (by omega) (by omega) rfl
  refine hw.cg J.e (fun j h1 h2 => ?_) (fun s hs => ?_) he
  · exact (a1 j (by omega) (by omega)).trans (A j (by omega))
  · have : lw_a4 G u t v (331 + 2 * s) = G (331 + 2 * s) := (a1 _ (by omega) (by omega)).trans (A _ (by omega))
    rw [this]; exact su.rf _
/-- 'come' -/
theorem kl_come (d c s b lo N nn q dl tx sy T : Nat) (f : Nat → Int32) (W0 : xi_W) (F G : Nat → Nat) (hw : kw W0 b F) (hb : wb b) (hrl : rl_ok nn f q dl tx sy T W0) (h : RL lo N G F) (hdl : dl = G 5) (hN : N + 2 < 1000000) (hlo : lo ≤ G 0 + G 5) (hq : q < 2) (h0 : 0 < G 410) (r : xi_R → Prop) (K : ∀ W' F', kw W' b F' → rus W' → fr (kr b) W0 W' → RL lo (N + 2) (lw_mk nn f q G 0) F' → r (none, W', c, s)) : xr (d + 5) 91 0 [(0, .ref b), (1, .ref 355)] [] W0 c s r := by
  have hl := hrl.1
  have hR := hrl.2.2.2.2.2.2
  have kk := hb.k
  obtain ⟨F1, F2⟩ := h.1.2.2.2.2.2.2.2.1
  obtain ⟨_, b2, b3, b4, b5, b6⟩ := F2 0 h0
  have m24 := h.j.m
  have f24 := h.1.2.2.2.2.2.2.2.2.1
  have e0 : F (16 * 0 + 6) = G (411 + 0) := b2
  have e1 : F (16 * 1 + 6) = G (411 + 1) := b3
  have e3 : F (16 * 3 + 6) = G (411 + 5) := b5
  have e4 : F (16 * 4 + 6) = G (411 + 4) := b6
  have t0 : lw_tm G 0 0 = G (411 + 0) := lw_tmv G 0 (by omega)
  have t1 : lw_tm G 0 1 = G (411 + 1) := lw_tmv G 0 (by omega)
  have t4 : lw_tm G 0 4 = G (411 + 4) := lw_tmv G 0 (by omega)
  have t5 : lw_tm G 0 5 = G (411 + 5) := lw_tmv G 0 (by omega)
  have t6 : lw_tm G 0 6 = G (411 + 6) := lw_tmv G 0 (by omega)
  have t7 : lw_tm G 0 7 = G (411 + 7) := lw_tmv G 0 (by omega)
  obtain ⟨g0, g1, g5, g4⟩ := h.j.f 0 h0
  have g0 : G (411 + 0) < 4 := g0
  have g1 : G (411 + 1) < 4 := g1
  have g5 : G (411 + 5) < 2 := g5
  have g4 : G (411 + 4) ≤ G (338 + (if G (411 + 5) = 0 then G (411 + 0) else G (411 + 1))) := g4
  obtain ⟨P1, P2, P3⟩ := ce_pop h h0
  have mo : ∀ j, j < 410 → lw_m2 G 0 j = G j := fun j hj => lw_m2o G hj
  have owm : ow (lw_m2 G 0) := h.2.cg h.j.e (fun j z1 z2 => mo j (by omega)) (fun s hs => by rw [mo _ (by omega)]; exact su.rf _) h.e
  have J1 := P1.1
  refine xr_kwp hw (fun Q2 z => ce_1 (hw.B hb hl hR) (d + 1) c s F (by omega) (by omega) (by omega) Q2 z) (fun W1 hw1 hf1 => ?_)
  have hs1 := hrl.2.2.2.2.2.1.keep hf1 kk.1 kk.2.1
  have hrl1 := hrl.keep hf1 kk.2.2.2 hs1
  have hF1 := krK hf1
  have hl := hrl1.1
  have hR := hrl1.2.2.2.2.2.2
  clear hw
  have hw := hw1
  rw [e0, e1, e3, e4]
  unfold lw_mk at K
  rw [t0, t1, t4, t5, t6, t7] at K
  have hcm := J1.c (G (411 + 1)) g1
  refine xr_stp rfl rfl rfl rfl ?_
  refine xr_stp (st' := .int (Int32.ofNat 1) :: _) rfl rfl rfl rfl ?_
  refine xr_j2 rfl rfl rfl rfl rfl (fun h95 => ?_) (fun h95 => ?_)
  · have e95 := nt_ne h95
    rw [if_neg e95] at K
    have z0 : G (411 + 5) = 0 := by omega
    rw [if_pos z0] at g4
    refine xr_stp rfl rfl rfl rfl ?_
    refine xr_stp rfl rfl rfl rfl ?_
    obtain ⟨A1, A2, A3⟩ := ce_abs P1 (by omega) g1 g0 (u := G (411 + 0)) (up := G (411 + 4)) (by rw [mo _ (by omega)]; exact g4) P2 P3 (fun H hG hE => by rw [mo _ (by omega)]; exact hE.2.1 z0)
    obtain ⟨o1, o2⟩ := lw_b3ow owm P1.2.1.1 J1.e (G (411 + 6)) (G (411 + 7)) g1 ⟨hcm.1, hcm.2.1⟩
    have C5 := P1.2.2.2.2.1 _ g1
    refine xr_vcps (hw.w hb hl hR) rfl rfl rfl rfl rfl rfl (fun r1 K2 => xr_kw hw (cn_absorb (hw.B hb hl hR) (d + 1) (cn_h5 F) _ _ (G (411 + 1)) g1 A2 A3 (by omega) (by omega)) (fun W2 hw2 hf2 => K2 _ _ _ _ ?_))
    have hs2 := hs1.keep hf2 kk.1 kk.2.1
    have hrl2 := hrl1.keep hf2 kk.2.2.2 hs2
    have hF2 := krT hF1 hf2
    have hl := hrl2.1
    have hR := hrl2.2.2.2.2.2.2
    clear hw
    have hw := hw2
    refine xr_stp rfl rfl rfl rfl ?_
    refine xr_getfield (hw.w hb hl hR) rfl rfl rfl rfl ?_
    refine xr_stp (st' := .int (Int32.ofNat 52) :: _) rfl rfl rfl rfl ?_
    refine xr_vcps hw.2 rfl rfl rfl rfl rfl rfl (fun r1 K2 => xr_kw hw (cn_wipe (hw.B hb hl hR) _ (cn_ab (cn_h5 F) (G (411 + 1))) _ _ 52 (by omega)) (fun W3 hw3 hf3 => K2 _ _ _ _ ?_))
    have hs3 := hs2.keep hf3 kk.1 kk.2.1
    have hrl3 := hrl2.keep hf3 kk.2.2.2 hs3
    have hF3 := krT hF2 hf3
    have hl := hrl3.1
    have hR := hrl3.2.2.2.2.2.2
    clear hw
    have hw := hw3
    have A4 := A1.scr (F' := cn_wz 4 (52 * 4) (cn_ab (cn_h5 F) (G (411 + 1)))) (fun j hj => cn_wzo 4 (52 * 4) _ j (by omega))
    have w0 : ro (lw_b3 (lw_m2 G 0) (G (411 + 1)) (G (411 + 6)) (G (411 + 7))) (cn_wz 4 (52 * 4) (cn_ab (cn_h5 F) (G (411 + 1)))) 52 0 0 := ro.zero (fun s hs => cn_wzv 4 (52 * 4) _ (52 * 4 + s) (by omega) (by omega))
    have sm := lw_sm.b3 J1 (G (411 + 1)) (G (411 + 6)) (G (411 + 7)) g1
    have sm0 := sm 0 (by omega)
    have sm5 := sm 5 (by omega)
    rw [mo 0 (by omega)] at sm0
    rw [mo 5 (by omega)] at sm5
    refine xr_stp rfl rfl rfl rfl ?_
    refine xr_stp rfl rfl rfl rfl ?_
    refine xr_stp rfl rfl rfl rfl ?_
    refine xr_stp rfl rfl rfl rfl ?_
    refine xr_stp (st' := .int (Int32.ofNat 1) :: _) rfl rfl rfl rfl ?_
    refine xr_stp rfl rfl rfl rfl ?_
    refine xr_vcps (hw.w hb hl hR) rfl rfl rfl rfl rfl rfl (fun r1 K2 => kl_post d _ _ b lo (N + 1) (G (411 + 1)) (G (411 + 0)) 1 (G (411 + 4)) 0 0 nn q dl tx sy T f W3 _ _ _ hw hb hrl3 A4 (by rw [sm5]; exact hdl) (by omega) (by rw [sm0, sm5]; exact hlo) w0 (rp0 _) hq g1 g0 (by omega) (by rw [if_neg (by omega)]; exact Nat.le_trans g4 (by have := o2 _ g0; rw [mo _ (by omega)] at this; exact this)) (fun z => absurd z (by omega)) (fun _ H hG hE => hE) r1 (fun W4 F4 hw4 hs4 hf4 hK4 => K2 _ _ _ _ ?_))
    exact xr_ret rfl rfl (K W4 F4 hw4 hs4 (hF3.tr hf4) (RL.of hK4 (lw_poow o1 A4.2.1.1 A4.1.e)))
  · have e95 := nf_ne (by omega) (by omega) h95
    rw [if_pos e95] at K
    rw [if_neg (by omega)] at g4
    refine xr_stp rfl rfl rfl rfl ?_
    refine xr_stp rfl rfl rfl rfl ?_
    refine xr_stp rfl rfl rfl rfl ?_
    refine xr_stp rfl rfl rfl rfl ?_
    have P4 := P1.ack (by omega) (u := G (411 + 0)) (t := G (411 + 1)) (v := G (411 + 4)) g0 g1 (by rw [mo _ (by omega)]; exact g4) (fun H hG hE => by rw [mo _ (by omega)]; exact hE.2.2 e95)
    have C5 := P1.2.2.2.2.1
    refine xr_vcps (hw.w hb hl hR) rfl rfl rfl rfl rfl rfl (fun r1 K2 => xr_kw hw (cn_acknowledge (hw.B hb hl hR) (d + 3) (cn_h5 F) _ _ (G (411 + 1)) (G (411 + 0)) (G (411 + 4)) g1 g0 (by have := h.j.c _ g1; omega) (by have := (C5 _ g1).1; omega) (by have := (C5 _ g1).2.1; omega) (fun k hk => by have := (C5 _ g1).2.2 k hk; have := J1.a _ k g1 hk; omega)) (fun W2 hw2 hf2 => K2 _ _ _ _ ?_))
    exact xr_ret rfl rfl (K W2 _ hw2 (hs1.keep hf2 kk.1 kk.2.1) (krT hF1 hf2) ((RL.of P4 (lw_a4ow J1 (by omega) owm P1.2.1.1 g0 g1 (by rw [mo _ (by omega)]; exact g4))).mono (by omega)))
