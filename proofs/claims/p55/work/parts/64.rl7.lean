/-! the relation: CLEARED, RESET; what is sent -/
theorem RK.scr {E : (Nat → Nat → Nat) → Prop} {lo N : Nat} {G F F' : Nat → Nat} (h : RK E lo N G F) (e : ∀ j, (1 < j % 16 ∨ j / 16 < 208) → F' j = F j) : RK E lo N G F' := by
  obtain ⟨J, I, ⟨E1, E2⟩, S, C, D, Q, ⟨F1, F2⟩, B⟩ := h
  have m24 := J.m
  have eR : ∀ {X a k : Nat}, X < 52 → ro G F X a k → ro G F' X a k := fun {X a k} hX z => z.cg rfl (fun _ _ _ => rfl) (fun r hr => ⟨e _ (by omega), e _ (by omega)⟩)
  refine ⟨J, I, ⟨fun i hi => by rw [e _ (by omega)]; exact E1 i hi, fun u hu => by rw [e _ (by omega)]; exact E2 u hu⟩, fun s hs => eR (by omega) (S s hs), fun s hs => ?_, fun s n hs h1 h2 => eR (by omega) (D s n hs h1 h2), ?_, ⟨by rw [e _ (by omega)]; exact F1, fun i hi => ?_⟩, ⟨by rw [e _ (by omega)]; exact B.1, fun i k hi hk => ?_⟩⟩
  · rw [e _ (by omega), e _ (by omega)]
    exact ⟨(C s hs).1, (C s hs).2.1, fun q hq => by rw [e _ (by omega)]; exact (C s hs).2.2 q hq⟩
  · unfold RQ
    rw [e 40 (by omega), e 56 (by omega), e 72 (by omega), e 88 (by omega)]
    exact Q
  · obtain ⟨b1, b2, b3, b4, b5, b6⟩ := F2 i hi
    rw [e (16 * (i * 5) + 6) (by omega), e (16 * (i * 5 + 1) + 6) (by omega), e (16 * (i * 5 + 2) + 6) (by omega), e (16 * (i * 5 + 3) + 6) (by omega), e (16 * (i * 5 + 4) + 6) (by omega)]
    exact ⟨eR (by omega) b1, b2, b3, b4, b5, b6⟩
  · rw [e 24 (by omega)] at hi ⊢
    rw [e _ (by omega)]
    exact B.2 i k hi hk
theorem RL.scr {lo N : Nat} {G F F' : Nat → Nat} (h : RL lo N G F) (e : ∀ j, (1 < j % 16 ∨ j / 16 < 208) → F' j = F j) : RL lo N G F' := ⟨h.1.scr e, h.2⟩
def cn_rw (F : Nat → Nat) (t q f : Nat) : Nat → Nat := cn_wr (cn_mg t (cn_nr F t) 4 0 (cn_pg F t q f)) (if f = 4294967295 then 2 else 1) t q
theorem RL.clear {lo N : Nat} {G F : Nat → Nat} (h : RL lo N G F) (hN : N + 1 < 1000000) {t q : Nat} (f : Nat) (ht : t < 4) (hq : q < 4) : RL lo (N + 1) (lw_cl G t q f) (cn_rw F t q f) := by
  have hS := h.1.2.2.2.1
  have hC := h.1.2.2.2.2.1 t ht
  have hE := h.1.2.2.1
  have he := h.e
  have hw := h.2
  have hcl := h.kc ht
  have hkb := h.iv.2.1 t ht
  have m62 := h.j.e
  have oL := lw_of_lt G (G (330 + 2 * t)) q f
  have oS := lw_of_su G (G (330 + 2 * t)) q f
  have eX : lw_cx G t q f = lw_of G (G (330 + 2 * t)) q f (G 4) 0 0 := rfl
  unfold lw_cl cn_rw
  rw [eX]
  have nr := cn_nrl F ht
  have nrv := cn_nrv F t
  rw [hC.1] at nrv
  have hE2 : ∀ i, i < G 4 → cn_nd F t (16 * (64 * G (10 + 5 * i) + G (11 + 5 * i)) + 2) = (G (12 + 5 * i) * 3 + G (13 + 5 * i)) * 100 + G (14 + 5 * i) := fun i hi => by
    rw [cn_ndo F t (by omega) (by omega)]; exact hE.1 i hi
  have rt : ro G (cn_nd F t) t (G (330 + 2 * t)) (G (331 + 2 * t)) := (hS t ht).cg rfl (fun _ _ _ => rfl) (fun r hr => ⟨cn_ndo F t (by omega) (by omega), cn_ndo F t (by omega) (by omega)⟩)
  have rg : ro G (cn_pg F t q f) (cn_nr F t) 0 (lw_of G (G (330 + 2 * t)) q f (G 4) 0 0) := ro.gather (y := cn_nr F t) (q := q) (f := f) he m62 rt hE2 hq (by omega)
  generalize lw_of G (G (330 + 2 * t)) q f (G 4) 0 0 = O at *
  have hr : rp G 0 O := ⟨fun i hi => by rw [Nat.zero_testBit] at hi; exact absurd hi (by decide), oL⟩
  have po : ∀ j, (1 < j % 16 ∨ j / 16 < cn_nr F t * 4 ∨ cn_nr F t * 4 + 4 ≤ j / 16) → cn_pg F t q f j = cn_nd F t j := fun j hj => cn_gato _ _ _ _ _ hj
  have rt1 : ro G (cn_pg F t q f) t (G (330 + 2 * t)) (G (331 + 2 * t)) := rt.cg rfl (fun _ _ _ => rfl) (fun r hr => ⟨po _ (by omega), po _ (by omega)⟩)
  have fm := ro.merge he m62 (show t ≠ cn_nr F t by omega) rt1 rg hkb.1 hr.1
  have mo : ∀ j, (1 < j % 16 ∨ j / 16 < t * 4 ∨ t * 4 + 4 ≤ j / 16) → cn_mg t (cn_nr F t) 4 0 (cn_pg F t q f) j = cn_pg F t q f j := fun j hj => cn_mgu t (cn_nr F t) 4 0 _ j (by omega)
  have ko : su O (G (331 + 2 * t)) := oS.tr hkb.1
  have K2 := RK.take (F' := cn_mg t (cn_nr F t) 4 0 (cn_pg F t q f)) (E' := fun _ => True) h.1 hN ht hr (fun _ _ _ => by rw [su.or_eq ko]; exact hcl) (fun _ _ _ _ _ => trivial) fm
    (by
      rw [← nrv]
      exact rg.cg rfl (fun _ _ _ => rfl) (fun r hr => ⟨mo _ (by omega), mo _ (by omega)⟩))
    (by rw [mo _ (by omega), po _ (by omega), cn_nd4, hC.1])
    (by rw [mo _ (by omega), po _ (by omega), cn_nd5, hC.1, hC.2.1])
    (fun j z1 z2 z3 => by
      rw [← nrv] at z3
      rw [mo _ (by omega), po _ (by omega), cn_ndo F t z1 z2])
  have hct := h.j.c t ht
  obtain ⟨a1, a2, _⟩ := lw_tkF (G := G) (t := t) 0 O ht hct.1 hct.2.1
  have ow2 : ow (lw_tk G t 0 O) := hw.cg m62 (fun j h1 h2 => a1 j (by omega) (by omega) (by omega) (by omega) (by omega)) (fun s hs => by
    by_cases z : s = t
    · subst z; rw [a2]; exact su.orl _ _
    · rw [a1 _ (by omega) (by omega) (by omega) (by omega) (by omega)]; exact su.rf _) he
  have hk : (if f = 4294967295 then 2 else 1) < 5 := by split <;> omega
  have J2 := K2.1
  exact ⟨K2.book _ t q hk (by omega) (by omega), lw_tsow ow2 J2.e K2.2.1.1 _ t q⟩
theorem cn_clF {G F : Nat → Nat} {r : Nat} (he : en G (G 4)) (hm : G 4 ≤ 62) (hr4 : r < 4) (hD : ∀ n, G (342 + r) < n → n ≤ G (338 + r) → ro G F (4 + r * 6 + (n - 1) % 6) (dq G r n 0) (dq G r n 1)) (hP : ∀ n, G (342 + r) < n → n ≤ G (338 + r) → rp G (dq G r n 0) (dq G r n 1)) (H : Nat → Nat → Nat) (hG : gh G H) (a : Nat) (ha : a ≤ G (338 + r)) : ∀ (m k : Nat) (X M : Nat → Nat), k + m = G (338 + r) → G (342 + r) ≤ k → a ≤ k → (∀ j, (1 < j % 16 ∨ j / 16 < 208) → X j = F j) → ro G X 52 (M 0) (M 1) → rp G (M 0) (M 1) → su (M 1) (H r k) → su (H r k) (M 1 ||| H r a) →
    (∀ j, (1 < j % 16 ∨ j / 16 < 208) → cn_cl r m (k + 1) X j = F j) ∧ ro G (cn_cl r m (k + 1) X) 52 (lw_gl G r m k M 0) (lw_gl G r m k M 1) ∧ rp G (lw_gl G r m k M 0) (lw_gl G r m k M 1) ∧ su (lw_gl G r m k M 1) (H r (G (338 + r))) ∧ su (H r (G (338 + r))) (lw_gl G r m k M 1 ||| H r a)
  | 0, k, X, M, hk, h1, h2, h3, h4, h5, h6, h7 => by
    obtain rfl : k = G (338 + r) := by omega
    exact ⟨h3, h4, h5, h6, h7⟩
  | m + 1, k, X, M, hk, h1, h2, h3, h4, h5, h6, h7 => by
    unfold cn_cl lw_gl
    have hq := hG.2.2.2.1 r (k + 1) hr4 (by omega) (by omega)
    rw [Nat.add_sub_cancel] at hq
    have eD := hD (k + 1) (by omega) (by omega)
    have eP := hP (k + 1) (by omega) (by omega)
    rw [Nat.add_sub_cancel] at eD ⊢
    have eX : ro G X (4 + r * 6 + k % 6) (dq G r (k + 1) 0) (dq G r (k + 1) 1) := eD.cg rfl (fun _ _ _ => rfl) (fun s hs => ⟨h3 _ (by omega), h3 _ (by omega)⟩)
    have fm := ro.merge he hm (show 52 ≠ 4 + r * 6 + k % 6 by omega) h4 eX h5.1 eP.1
    have d0 : G (362 + 12 * r + 2 * (k - G (342 + r))) = dq G r (k + 1) 0 := by unfold dq; rw [Nat.add_sub_cancel, Nat.add_zero]
    have d1 : G (362 + 12 * r + 2 * (k - G (342 + r)) + 1) = dq G r (k + 1) 1 := by unfold dq; rw [Nat.add_sub_cancel]
    have g0 : lw_g2 G r k M 0 = lw_j (M 0) (M 1) (dq G r (k + 1) 0) (dq G r (k + 1) 1) := by
      unfold lw_g2
      rw [xn_un _ _ (by omega)]
      unfold lw_g1
      rw [xn_ue, d0, d1]
    have g1 : lw_g2 G r k M 1 = M 1 ||| dq G r (k + 1) 1 := by
      unfold lw_g2
      rw [xn_ue]
      unfold lw_g1
      rw [xn_un _ _ (by omega), d1]
    refine cn_clF he hm hr4 hD hP H hG a ha m (k + 1) _ _ (by omega) (by omega) (by omega) (fun j hj => ?_) ?_ ?_ ?_ ?_
    · rw [cn_mgu 52 _ 4 0 X j (by omega)]; exact h3 j hj
    · rw [g0, g1]; exact fm
    · rw [g0, g1]; exact h5.join eP
    · rw [g1, hq]; exact su.or (h6.tr (su.orl _ _)) (su.orr _ _)
    · rw [g1, hq]
      refine su.or (h7.tr ?_) ?_
      · exact su.or ((su.orl _ _).tr (su.orl _ _)) (su.orr _ _)
      · exact (su.orr _ _).tr (su.orl _ _)
/-- what would be sent -/
theorem RL.compose {lo N : Nat} {G F : Nat → Nat} (h : RL lo N G F) {r q : Nat} (hr : r < 4) (hq : q < 4) : RL lo N G (cn_co F r q) ∧ ro G (cn_co F r q) 52 (lw_gr G (fun _ => 0) r q 0) (lw_gr G (fun _ => 0) r q 1) ∧ rp G (lw_gr G (fun _ => 0) r q 0) (lw_gr G (fun _ => 0) r q 1) ∧ (∀ H, gh G H → su (lw_gr G (fun _ => 0) r q 1) (H r (G (338 + r))) ∧ su (H r (G (338 + r))) (lw_gr G (fun _ => 0) r q 1 ||| G (331 + 2 * q))) := by
  have hS := h.1.2.2.2.1 r hr
  have hC := h.1.2.2.2.2.1 r hr
  have hD := h.1.2.2.2.2.2.1
  have hct := h.j.c r hr
  have hA := h.j.a r q hr hq
  unfold cn_co lw_gr
  rw [hC.2.2 q hq, hC.2.1]
  by_cases z : G (346 + 4 * r + q) < G (342 + r)
  · rw [if_pos z, if_pos z]
    have mv : ∀ s, s < 4 → cn_mv F r 52 1 (16 * (52 * 4 + s) + 0) = F (16 * (r * 4 + s) + 0) ∧ cn_mv F r 52 1 (16 * (52 * 4 + s) + 1) = F (16 * (r * 4 + s) + 1) := fun s hs => by
      have := cn_mvg F r 52 1 52 s (by omega) (by omega) hs
      rw [Nat.sub_self, Nat.add_zero] at this
      exact this
    refine ⟨h.scr (fun j hj => cn_mvn _ _ _ _ (by omega)), hS.cg rfl (fun _ _ _ => rfl) (fun s hs => mv s hs), h.iv.2.1 r hr, fun H hG => ?_⟩
    show su (G (331 + 2 * r)) _ ∧ su _ (G (331 + 2 * r) ||| _)
    rw [hG.1 r hr]
    exact ⟨su.rf _, su.orl _ _⟩
  · rw [if_neg z, if_neg z]
    have w : ∀ j, (1 < j % 16 ∨ j / 16 < 208) → cn_wp F j = F j := fun j hj => cn_wzo 4 (52 * 4) F j (by omega)
    have e1 : cn_fr (cn_wp F) r q = G (346 + 4 * r + q) := by
      unfold cn_fr
      rw [w _ (by omega), w _ (by omega), hC.2.2 q hq, hC.1]
      omega
    rw [e1, w _ (by omega), hC.1]
    have w0 : ro G (cn_wp F) 52 0 0 := ro.zero (fun s hs => cn_wzv 4 (52 * 4) F (52 * 4 + s) (by omega) (by omega))
    have M0 : ∀ H, gh G H → _ := fun H hG => cn_clF (F := F) h.e h.j.e hr (fun n h1 h2 => hD r n hr h1 h2) (fun n h1 h2 => h.iv.2.2.1 r n hr h1 h2) H hG (G (346 + 4 * r + q)) hA (G (338 + r) - G (346 + 4 * r + q)) (G (346 + 4 * r + q)) (cn_wp F) (xn_u (xn_u (xn_u (xn_u (fun _ => 0) 0 (G (330 + 2 * r))) 1 (G (331 + 2 * r))) 0 0) 1 0) (by omega) (by omega) (Nat.le_refl _) w w0 (rp0 G) (fun i hi => by
      have hi2 : (0 : Nat).testBit i = true := hi
      rw [Nat.zero_testBit] at hi2; exact absurd hi2 (by decide)) (su.orr _ _)
    obtain ⟨_, _, _, _, _, _, H, hG, _⟩ := h.iv
    obtain ⟨c1, c2, c3, _⟩ := M0 H hG
    refine ⟨h.scr c1, c2, c3, fun H hG => ?_⟩
    obtain ⟨_, _, _, c4, c5⟩ := M0 H hG
    exact ⟨c4, c5.tr (su.or (su.orl _ _) ((hG.2.2.2.2.1 r q hr hq).tr (su.orr _ _)))⟩
