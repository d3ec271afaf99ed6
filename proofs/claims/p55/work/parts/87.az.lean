/-! what answers carry -/
def az (G : Nat → Nat) : Prop := ∀ i, i < G 410 → G (411 + 8 * i + 5) = 1 → G (411 + 8 * i + 6) = 0 ∧ G (411 + 8 * i + 7) = 0
theorem az.eq {G G' : Nat → Nat} (h : az G) (hm : G 410 ≤ 24) (e : ∀ j, 410 ≤ j → j < 603 → G' j = G j) : az G' := fun i hi h5 => by
  rw [e 410 (by omega) (by omega)] at hi
  rw [e _ (by omega) (by omega)] at h5 ⊢
  rw [e _ (by omega) (by omega)]
  exact h i hi h5
theorem az.sm {G G' : Nat → Nat} (h : az G) (hm : G 410 ≤ 24) (e : lw_sm G G') : az G' := h.eq hm (fun j h1 h2 => e j (by omega))
theorem az.po {N : Nat} {G : Nat → Nat} (h : az G) (J : lw_J N G) (nn : Nat) (f : Nat → Int32) (q u t up a hh kn : Nat) (ha : a ≠ 0 → hh = 0 ∧ kn = 0) : az (lw_po nn f G q u t up a hh kn) := by
  have hm := J.m
  have e410 : lw_v2 G 410 = G 410 := lw_v2o G (by omega) (by omega)
  unfold lw_po
  split
  · unfold lw_px
    exact h.eq hm (fun j h1 h2 => by rw [lw_tso _ _ _ _ (by omega), xn_un _ _ (by omega), lw_v2o G (by omega) (by omega)])
  · rename_i hno
    have hno2 : lw_v2 G 410 ≠ 24 := fun q => hno (Or.inr q)
    generalize hR : lw_r8 u t (lw_v2 G 0 + lw_v2 G 5) (G 2) up (if a = 0 then 0 else 1) hh kn = R
    have r5 : R 5 = if a = 0 then 0 else 1 := by rw [← hR]; rfl
    have r6 : R 6 = hh := by rw [← hR]; rfl
    have r7 : R 7 = kn := by rw [← hR]; rfl
    obtain ⟨p0, p1⟩ := lw_pk2v (lw_v2 G) R
    intro i hi h5
    rw [p0, e410] at hi
    rw [p1 _ (by omega), e410] at h5 ⊢
    rw [p1 _ (by omega), e410]
    by_cases z : i = G 410
    · subst z
      rw [if_pos (by omega), show 411 + 8 * G 410 + 5 - (411 + 8 * G 410) = 5 by omega] at h5
      rw [if_pos (by omega), if_pos (by omega), show 411 + 8 * G 410 + 6 - (411 + 8 * G 410) = 6 by omega, show 411 + 8 * G 410 + 7 - (411 + 8 * G 410) = 7 by omega, r6, r7]
      have a0 : a ≠ 0 := fun e => by
        rw [r5, if_pos e] at h5
        exact absurd h5 (by omega)
      exact ha a0
    · rw [if_neg (by omega), lw_v2o G (by omega) (by omega)] at h5
      rw [if_neg (by omega), if_neg (by omega), lw_v2o G (by omega) (by omega), lw_v2o G (by omega) (by omega)]
      exact h i (by omega) h5
theorem az.tn {G : Nat → Nat} (h : az G) (i : Nat) (hi : i < G 410) : az (lw_tn G i) := by
  intro j hj h5
  rw [lw_tn4] at hj
  rw [lw_tnv _ _ (by omega)] at h5 ⊢
  rw [lw_tnv _ _ (by omega)]
  by_cases z : i ≤ j
  · rw [if_pos (by omega)] at h5 ⊢
    rw [if_pos (by omega)]
    have := h (j + 1) (by omega) (by rw [show 411 + 8 * (j + 1) + 5 = 411 + 8 * j + 5 + 8 by omega]; exact h5)
    rw [show 411 + 8 * j + 6 + 8 = 411 + 8 * (j + 1) + 6 by omega, show 411 + 8 * j + 7 + 8 = 411 + 8 * (j + 1) + 7 by omega]
    exact this
  · rw [if_neg (by omega)] at h5 ⊢
    rw [if_neg (by omega)]
    exact h j (by omega) h5
theorem az.mk {N : Nat} {G : Nat → Nat} (h : az G) (hJ : lw_J N G) (hN : N + 2 < 1000000) (nn : Nat) (f : Nat → Int32) (q i : Nat) (hi : i < G 410) : az (lw_mk nn f q G i) := by
  have hJ1 := hJ.tn i hi
  have f0 := hJ.f i hi
  have t0 : lw_tm G i 0 = G (411 + 8 * i) := lw_tmv G i (by omega)
  have t1 := lw_tmv G i (x := 1) (by omega)
  have t4 := lw_tmv G i (x := 4) (by omega)
  have t5 := lw_tmv G i (x := 5) (by omega)
  have t6 := lw_tmv G i (x := 6) (by omega)
  have t7 := lw_tmv G i (x := 7) (by omega)
  unfold lw_fm at f0
  rw [← t0, ← t1, ← t4, ← t5] at f0
  obtain ⟨f1, f2, f3, f4⟩ := f0
  have b6 : lw_tm G i 6 < 4611686018427387904 := by rw [t6]; exact hJ.b _
  have b7 : lw_tm G i 7 < 4611686018427387904 := by rw [t7]; exact hJ.b _
  have hJ2 : lw_J N (lw_m2 G i) := hJ1.ts 4 _ _ (by omega) (by omega) (by omega)
  have z2 : az (lw_m2 G i) := (h.tn i hi).sm hJ1.m (lw_sm.ts _ _ _ _)
  have o2 : ∀ j, j < 410 → lw_m2 G i j = G j := fun j hj => by
    unfold lw_m2
    rw [lw_tso _ _ _ _ (by omega), lw_tnv _ _ (by omega), if_neg (by omega)]
  by_cases e : lw_tm G i 5 = 1
  · rw [lw_mky e]
    have hJ3 : lw_J N (lw_a3 (lw_m2 G i) (lw_tm G i 0) (lw_tm G i 1) (lw_tm G i 4)) := hJ2.ack _ _ _ f2 f1 (by
      rw [e, if_neg (by omega)] at f4
      have := hJ2.a (lw_tm G i 1) (lw_tm G i 0) f2 f1
      rw [o2 (338 + lw_tm G i 1) (by omega)] at *
      omega)
    have s3 : lw_sm (lw_m2 G i) (lw_a3 (lw_m2 G i) (lw_tm G i 0) (lw_tm G i 1) (lw_tm G i 4)) := fun j hj => xn_un _ _ (by omega)
    exact z2.sm hJ2.m (s3.tr (lw_sm.dn (by omega) _ f2 (lw_le (lw_a3 (lw_m2 G i) (lw_tm G i 0) (lw_tm G i 1) (lw_tm G i 4)) (lw_tm G i 1) 4 0 (lw_a3 (lw_m2 G i) (lw_tm G i 0) (lw_tm G i 1) (lw_tm G i 4) (338 + lw_tm G i 1))) _ _ hJ3 (lw_lele _ _ _ _ _) rfl))
  · rw [lw_mkn e]
    exact (z2.sm hJ2.m (lw_sm.b3 hJ2 (lw_tm G i 1) (lw_tm G i 6) (lw_tm G i 7) f2)).po (lw_b3J hJ2 _ _ _ f2 b6 b7 (by omega)) nn f q _ _ _ 1 0 0 (fun _ => ⟨rfl, rfl⟩)
theorem az.ms (nn : Nat) (f : Nat → Int32) (q : Nat) : ∀ (m N : Nat) (G : Nat → Nat), az G → lw_J N G → N + 2 * m + 2 < 1000000 → az (lw_ms nn f q m G)
  | 0, _, _, h, _, _ => h
  | m + 1, N, G, h, hJ, hN => by
    by_cases z : lw_du G
    · have hi := (lw_ftl G).resolve_right z.1
      rw [(lw_ms1 z).1]
      exact az.ms nn f q m (N + 2) _ (h.mk hJ (by omega) nn f q _ hi) (hJ.mk nn f q (lw_ft G) hi (by omega)) (by omega)
    · rw [(lw_ms0 z).1]
      exact h
theorem az.y1 {N : Nat} {G : Nat → Nat} (h : az G) (hJ : lw_J N G) (nn : Nat) (f : Nat → Int32) (q u t : Nat) : az (lw_y1 nn f q G u t) := by
  unfold lw_y1
  split
  · exact h.po hJ nn f q u t _ 0 _ _ (fun e => absurd rfl e)
  · exact h
theorem az.yi (nn : Nat) (f : Nat → Int32) (q u : Nat) (hu : u < 4) : ∀ (m t N : Nat) (G : Nat → Nat), t + m = 4 → az G → lw_J N G → N + m < 1000000 → az (lw_yi nn f q u m t G)
  | 0, _, _, _, _, h, _, _ => h
  | m + 1, t, N, G, ht, h, hJ, hN => az.yi nn f q u hu m (t + 1) (N + 1) _ (by omega) (h.y1 hJ nn f q u t) (hJ.y1 nn f q u t hu (by omega) (by omega)) (by omega)
theorem az.yo (nn : Nat) (f : Nat → Int32) (q : Nat) : ∀ (m u N : Nat) (G : Nat → Nat), u + m = 4 → az G → lw_J N G → N + 4 * m < 1000000 → az (lw_yo nn f q m u G)
  | 0, _, _, _, _, h, _, _ => h
  | m + 1, u, N, G, hu, h, hJ, hN => az.yo nn f q m (u + 1) (N + 4) _ (by omega) (az.yi nn f q u (by omega) 4 0 N _ rfl h hJ (by omega)) (lw_J.yi nn f q u (by omega) 4 0 N _ rfl hJ (by omega)) (by omega)
theorem az.ti {N : Nat} {G : Nat → Nat} (h : az G) (hJ : lw_J N G) (nn : Nat) (f : Nat → Int32) (q : Nat) (hN : N + 80 < 1000000) : az (lw_ti nn f q 24 G) := by
  unfold lw_ti
  have h0 : az (lw_t0 G) := h.eq hJ.m (fun j h1 h2 => xn_un _ _ (by omega))
  have J0 := hJ.t0 (by omega)
  exact az.yo nn f q 4 0 _ _ rfl (az.ms nn f q 24 _ _ h0 J0 (by omega)) (lw_J.ms nn f q 24 _ _ J0 (by omega)) (by omega)
theorem az.se {N : Nat} {G : Nat → Nat} (h : az G) (J : lw_J N G) {t : Nat} (q f v : Nat) (ht : t < 4) (h4 : G 4 ≤ 61) : az (lw_se G t q f v) := by
  have hc := J.c t ht
  obtain ⟨s4, s0, s1, s2, s3, s5, so⟩ := lw_s3F (G := G) t q f v h4
  refine h.eq J.m (fun j h1 h2 => ?_)
  unfold lw_se lw_s4
  rw [lw_tso _ _ _ _ (by omega), lw_tko _ t _ _ ht (by omega) (by rw [so _ (by omega) (by omega), so _ (by omega) (by omega)]; exact hc.2.1) (by rw [so _ (by omega) (by omega), so _ (by omega) (by omega)]; exact hc.1), so _ (by omega) (by omega)]
theorem az.cl {N : Nat} {G : Nat → Nat} (h : az G) (J : lw_J N G) {t : Nat} (q f : Nat) (ht : t < 4) : az (lw_cl G t q f) := by
  have hc := J.c t ht
  refine h.eq J.m (fun j h1 h2 => ?_)
  unfold lw_cl
  rw [lw_tso _ _ _ _ (by omega), lw_tko _ t _ _ ht (by omega) hc.2.1 hc.1]
theorem az.sn {N : Nat} {G : Nat → Nat} (h : az G) (J : lw_J N G) (nn : Nat) (f : Nat → Int32) (q u t : Nat) : az (lw_sn nn f G q u t) := h.po J nn f q u t _ 0 _ _ (fun e => absurd rfl e)
theorem az.ev {N : Nat} {G : Nat → Nat} (h : az G) (J : lw_J N G) (nn : Nat) (f : Nat → Int32) (q : Nat) (h4 : G 4 ≤ 61) (hN : N + 80 < 1000000) : az (lw_ev nn f q G) := by
  have J1 := J.dr (by omega)
  have h1 : az (lw_dr G) := h.eq J.m (fun j h1 h2 => xn_un _ _ (by omega))
  unfold lw_ev
  split
  · exact h1.se J1 _ _ _ (by omega) (by rw [lw_dr4]; exact h4)
  · split
    · unfold lw_clr
      split
      · exact h1
      · exact h1.cl J1 _ _ (by omega)
    · split
      · unfold lw_snd
        split
        · exact h1
        · exact h1.sn J1 nn f q _ _
      · exact h1.ti J1 nn f q hN
theorem az.yr (nn : Nat) (f : Nat → Int32) (q : Nat) : ∀ (m N : Nat) (G : Nat → Nat), az G → lw_J N G → G 4 + m ≤ 62 → N + 65 * m + 80 < 1000000 → az (lw_yr nn f q m G)
  | 0, _, _, h, _, _, _ => h
  | m + 1, N, G, h, J, h4, hN => by
    have e := J.ev nn f q (by omega) (by omega)
    exact az.yr nn f q m (N + 65) _ (h.ev J nn f q (by omega) (by omega)) e.1 (by omega) (by omega)
theorem az.tk (nn : Nat) (f : Nat → Int32) (q : Nat) : ∀ (m N : Nat) (G : Nat → Nat), az G → lw_J N G → N + 65 * m + 80 < 1000000 → az (tk_ nn f q m G)
  | 0, _, _, h, _, _ => h
  | m + 1, N, G, h, J, hN => az.tk nn f q m (N + 65) _ (h.ti J nn f q (by omega)) ((J.ti nn f q 24 (by omega)).mono (by omega)) (by omega)
theorem RL.xs {lo N : Nat} {G F : Nat → Nat} (h : RL lo N G F) {t : Nat} (ht : t < 4) : rx G F t (G (330 + 2 * t)) (G (331 + 2 * t)) := ⟨h.e, h.j.e, h.1.2.2.1, by omega, h.1.2.2.2.1 t ht, h.iv.2.1 t ht⟩
theorem RL.xd {lo N : Nat} {G F : Nat → Nat} (h : RL lo N G F) {t n : Nat} (ht : t < 4) (h1 : G (342 + t) < n) (h2 : n ≤ G (338 + t)) : rx G F (4 + t * 6 + (n - 1) % 6) (dq G t n 0) (dq G t n 1) := ⟨h.e, h.j.e, h.1.2.2.1, by omega, h.1.2.2.2.2.2.1 t n ht h1 h2, h.iv.2.2.1 t n ht h1 h2⟩
theorem RL.xf {lo N : Nat} {G F : Nat → Nat} (h : RL lo N G F) {i : Nat} (hi : i < G 410) : rx G F (28 + i) (G (411 + 8 * i + 6)) (G (411 + 8 * i + 7)) := ⟨h.e, h.j.e, h.1.2.2.1, by have := h.j.m; omega, (h.1.2.2.2.2.2.2.2.1.2 i hi).1, (h.iv.2.2.2.1 i hi).1⟩
