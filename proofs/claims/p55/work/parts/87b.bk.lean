/-! the book's numbers are small -/
def bk (G : Nat → Nat) : Prop := (∀ i k, i < G 603 → k < 4 → G (604 + 4 * i + k) < 1000000) ∧ ∀ i, i < G 603 → G (604 + 4 * i + 1) < 5
theorem bk.eq {G G' : Nat → Nat} (h : bk G) (e : ∀ j, 603 ≤ j → G' j = G j) : bk G' := ⟨fun i k hi hk => by
  rw [e 603 (by omega)] at hi
  rw [e _ (by omega)]
  exact h.1 i k hi hk, fun i hi => by
  rw [e 603 (by omega)] at hi
  rw [e _ (by omega)]
  exact h.2 i hi⟩
theorem bk.ts {G : Nat → Nat} (h : bk G) (h3 : G 603 ≤ 300) (h0 : G 0 < 1000000) (q a b : Nat) (hq : q < 5) (ha : a < 1000000) (hb : b < 1000000) : bk (lw_ts G q a b) := by
  obtain ⟨t1, t2, t3, t4, t5, t6⟩ := lw_tsF q a b h3
  have hz : bz G = 0 ∨ (bz G = 200 ∧ G 603 = 300) := by
    unfold bz
    by_cases z : G 603 = 300
    · rw [if_pos z]; exact Or.inr ⟨rfl, z⟩
    · rw [if_neg z]; exact Or.inl rfl
  refine ⟨?_, fun i hi => ?_⟩
  rotate_left
  · rw [t1] at hi
    by_cases z : i < G 603 - bz G
    · rw [t2 i 1 z (by omega)]
      exact h.2 _ (by omega)
    · obtain rfl : i = G 603 - bz G := by omega
      rw [t4]; exact hq
  intro i k hi hk
  rw [t1] at hi
  by_cases z : i < G 603 - bz G
  · rw [t2 i k z hk]
    exact h.1 _ k (by omega) hk
  · obtain rfl : i = G 603 - bz G := by omega
    have : k = 0 ∨ k = 1 ∨ k = 2 ∨ k = 3 := by omega
    rcases this with rfl | rfl | rfl | rfl
    · rw [t3]; exact h0
    · rw [t4]; omega
    · rw [t5]; exact ha
    · rw [t6]; exact hb
theorem bk.tk {G : Nat → Nat} (h : bk G) (t hh n : Nat) (ht : t < 4) (hc : G (342 + t) ≤ G (338 + t) ∧ G (338 + t) ≤ G (342 + t) + 6) : bk (lw_tk G t hh n) := h.eq (fun j hj => lw_tko G t hh n ht (by omega) hc.2 hc.1)
theorem bk.po {N : Nat} {G : Nat → Nat} (h : bk G) (J : lw_J N G) (hN : N < 1000000) (nn : Nat) (f : Nat → Int32) (q u t up a hh kn : Nat) (hu : u < 4) (ht : t < 4) : bk (lw_po nn f G q u t up a hh kn) := by
  have hm := J.m
  have e410 : lw_v2 G 410 = G 410 := lw_v2o G (by omega) (by omega)
  have v : bk (lw_v2 G) := h.eq (fun j hj => lw_v2o G (by omega) (by omega))
  have n0 := J.n0
  unfold lw_po
  split
  · unfold lw_px
    have v3 : bk (xn_u (lw_v2 G) 3 (lw_v2 G 3 + 1)) := v.eq (fun j hj => xn_un _ _ (by omega))
    exact v3.ts (by rw [xn_un _ _ (by omega), lw_v2o G (by omega) (by omega)]; exact J.k) (by rw [xn_un _ _ (by omega), lw_v2o G (by omega) (by omega)]; omega) 3 t u (by omega) (by omega) (by omega)
  · obtain ⟨p0, p1⟩ := lw_pk2v (lw_v2 G) (lw_r8 u t (lw_v2 G 0 + lw_v2 G 5) (G 2) up (if a = 0 then 0 else 1) hh kn)
    exact v.eq (fun j hj => by
      rename_i hno
      have hno2 : lw_v2 G 410 ≠ 24 := fun q => hno (Or.inr q)
      rw [p1 _ (by omega), e410, if_neg (by omega)])
theorem bk.tn {G : Nat → Nat} (h : bk G) (hm : G 410 ≤ 24) (i : Nat) : bk (lw_tn G i) := h.eq (fun j hj => by rw [lw_tnv _ _ (by omega), if_neg (by omega)])
theorem bk.mk {N : Nat} {G : Nat → Nat} (h : bk G) (hJ : lw_J N G) (hN : N + 2 < 1000000) (nn : Nat) (f : Nat → Int32) (q i : Nat) (hi : i < G 410) : bk (lw_mk nn f q G i) := by
  have hJ1 := hJ.tn i hi
  have f0 := hJ.f i hi
  have t0 : lw_tm G i 0 = G (411 + 8 * i) := lw_tmv G i (by omega)
  have t1 := lw_tmv G i (x := 1) (by omega)
  have t4 := lw_tmv G i (x := 4) (by omega)
  have t5 := lw_tmv G i (x := 5) (by omega)
  have t6 := lw_tmv G i (x := 6) (by omega)
  have t7 := lw_tmv G i (x := 7) (by omega)
  unfold lw_fm at f0
  rw [← t0, ← t1, ← t4, ← t5] at f0
  obtain ⟨f1, f2, f3, f4⟩ := f0
  have b6 : lw_tm G i 6 < 4611686018427387904 := by rw [t6]; exact hJ.b _
  have b7 : lw_tm G i 7 < 4611686018427387904 := by rw [t7]; exact hJ.b _
  have hJ2 : lw_J N (lw_m2 G i) := hJ1.ts 4 _ _ (by omega) (by omega) (by omega)
  have n0 := hJ1.n0
  have z2 : bk (lw_m2 G i) := (h.tn hJ.m i).ts hJ1.k (by omega) 4 _ _ (by omega) (by omega) (by omega)
  have o2 : ∀ j, j < 410 → lw_m2 G i j = G j := fun j hj => by
    unfold lw_m2
    rw [lw_tso _ _ _ _ (by omega), lw_tnv _ _ (by omega), if_neg (by omega)]
  by_cases e : lw_tm G i 5 = 1
  · rw [lw_mky e]
    have hJ3 : lw_J N (lw_a3 (lw_m2 G i) (lw_tm G i 0) (lw_tm G i 1) (lw_tm G i 4)) := hJ2.ack _ _ _ f2 f1 (by
      rw [e, if_neg (by omega)] at f4
      have := hJ2.a (lw_tm G i 1) (lw_tm G i 0) f2 f1
      rw [o2 (338 + lw_tm G i 1) (by omega)] at *
      omega)
    have z3 : bk (lw_a3 (lw_m2 G i) (lw_tm G i 0) (lw_tm G i 1) (lw_tm G i 4)) := z2.eq (fun j hj => xn_un _ _ (by omega))
    have c3 := hJ3.c _ f2
    have d := lw_dnF f2 (lw_le (lw_a3 (lw_m2 G i) (lw_tm G i 0) (lw_tm G i 1) (lw_tm G i 4)) (lw_tm G i 1) 4 0 (lw_a3 (lw_m2 G i) (lw_tm G i 0) (lw_tm G i 1) (lw_tm G i 4) (338 + lw_tm G i 1))) _ (lw_a3 (lw_m2 G i) (lw_tm G i 0) (lw_tm G i 1) (lw_tm G i 4)) c3.1 c3.2.1 (lw_lele _ _ _ _ _) rfl
    exact z3.eq (fun j hj => d.1 j (by omega) (by omega))
  · rw [lw_mkn e]
    have z3 : bk (lw_b3 (lw_m2 G i) (lw_tm G i 1) (lw_tm G i 6) (lw_tm G i 7)) := by
      unfold lw_b3
      split
      · exact z2.tk _ _ _ f2 ⟨(hJ2.c _ f2).1, (hJ2.c _ f2).2.1⟩
      · exact z2
    exact z3.po (lw_b3J hJ2 _ _ _ f2 b6 b7 (by omega)) (by omega) nn f q _ _ _ 1 0 0 f2 f1
theorem bk.ms (nn : Nat) (f : Nat → Int32) (q : Nat) : ∀ (m N : Nat) (G : Nat → Nat), bk G → lw_J N G → N + 2 * m + 2 < 1000000 → bk (lw_ms nn f q m G)
  | 0, _, _, h, _, _ => h
  | m + 1, N, G, h, hJ, hN => by
    by_cases z : lw_du G
    · have hi := (lw_ftl G).resolve_right z.1
      rw [(lw_ms1 z).1]
      exact bk.ms nn f q m (N + 2) _ (h.mk hJ (by omega) nn f q _ hi) (hJ.mk nn f q (lw_ft G) hi (by omega)) (by omega)
    · rw [(lw_ms0 z).1]
      exact h
theorem bk.y1 {N : Nat} {G : Nat → Nat} (h : bk G) (hJ : lw_J N G) (hN : N < 1000000) (nn : Nat) (f : Nat → Int32) (q u t : Nat) (hu : u < 4) (ht : t < 4) : bk (lw_y1 nn f q G u t) := by
  unfold lw_y1
  split
  · exact h.po hJ hN nn f q u t _ 0 _ _ hu ht
  · exact h
theorem bk.yi (nn : Nat) (f : Nat → Int32) (q u : Nat) (hu : u < 4) : ∀ (m t N : Nat) (G : Nat → Nat), t + m = 4 → bk G → lw_J N G → N + m < 1000000 → bk (lw_yi nn f q u m t G)
  | 0, _, _, _, _, h, _, _ => h
  | m + 1, t, N, G, ht, h, hJ, hN => bk.yi nn f q u hu m (t + 1) (N + 1) _ (by omega) (h.y1 hJ (by omega) nn f q u t hu (by omega)) (hJ.y1 nn f q u t hu (by omega) (by omega)) (by omega)
theorem bk.yo (nn : Nat) (f : Nat → Int32) (q : Nat) : ∀ (m u N : Nat) (G : Nat → Nat), u + m = 4 → bk G → lw_J N G → N + 4 * m < 1000000 → bk (lw_yo nn f q m u G)
  | 0, _, _, _, _, h, _, _ => h
  | m + 1, u, N, G, hu, h, hJ, hN => bk.yo nn f q m (u + 1) (N + 4) _ (by omega) (bk.yi nn f q u (by omega) 4 0 N _ rfl h hJ (by omega)) (lw_J.yi nn f q u (by omega) 4 0 N _ rfl hJ (by omega)) (by omega)
/-- both -/
def ab (G : Nat → Nat) : Prop := az G ∧ bk G
theorem ab.ti {N : Nat} {G : Nat → Nat} (h : ab G) (hJ : lw_J N G) (nn : Nat) (f : Nat → Int32) (q : Nat) (hN : N + 80 < 1000000) : ab (lw_ti nn f q 24 G) := by
  refine ⟨h.1.ti hJ nn f q hN, ?_⟩
  unfold lw_ti
  have h0 : bk (lw_t0 G) := h.2.eq (fun j h1 => xn_un _ _ (by omega))
  have J0 := hJ.t0 (by omega)
  exact bk.yo nn f q 4 0 _ _ rfl (bk.ms nn f q 24 _ _ h0 J0 (by omega)) (lw_J.ms nn f q 24 _ _ J0 (by omega)) (by omega)
theorem ab.se {N : Nat} {G : Nat → Nat} (h : ab G) (J : lw_J N G) (hN : N < 1000000) {t q : Nat} (f v : Nat) (ht : t < 4) (hq : q < 4) (h4 : G 4 ≤ 61) : ab (lw_se G t q f v) := by
  refine ⟨h.1.se J q f v ht h4, ?_⟩
  have hc := J.c t ht
  have n0 := J.n0
  obtain ⟨s4, s0, s1, s2, s3, s5, so⟩ := lw_s3F (G := G) t q f v h4
  have h3 : bk (lw_s3 G t q f v) := h.2.eq (fun j h1 => so j (by omega) (by omega))
  have hc3 : lw_s3 G t q f v (342 + t) ≤ lw_s3 G t q f v (338 + t) ∧ lw_s3 G t q f v (338 + t) ≤ lw_s3 G t q f v (342 + t) + 6 := by
    rw [so _ (by omega) (by omega), so _ (by omega) (by omega)]
    exact ⟨hc.1, hc.2.1⟩
  unfold lw_se lw_s4
  refine (h3.tk t _ _ ht hc3).ts ?_ ?_ 0 t q (by omega) (by omega) (by omega)
  · rw [lw_tko _ t _ _ ht (by omega) hc3.2 hc3.1, so _ (by omega) (by omega)]; exact J.k
  · rw [lw_tko _ t _ _ ht (by omega) hc3.2 hc3.1, so _ (by omega) (by omega)]; omega
theorem ab.cl {N : Nat} {G : Nat → Nat} (h : ab G) (J : lw_J N G) (hN : N < 1000000) {t q : Nat} (f : Nat) (ht : t < 4) (hq : q < 4) : ab (lw_cl G t q f) := by
  refine ⟨h.1.cl J q f ht, ?_⟩
  have hc := J.c t ht
  have n0 := J.n0
  unfold lw_cl
  refine (h.2.tk t _ _ ht ⟨hc.1, hc.2.1⟩).ts ?_ ?_ _ t q (by split <;> omega) (by omega) (by omega)
  · rw [lw_tko _ t _ _ ht (by omega) hc.2.1 hc.1]; exact J.k
  · rw [lw_tko _ t _ _ ht (by omega) hc.2.1 hc.1]; omega
theorem ab.sn {N : Nat} {G : Nat → Nat} (h : ab G) (J : lw_J N G) (hN : N < 1000000) (nn : Nat) (f : Nat → Int32) (q u t : Nat) (hu : u < 4) (ht : t < 4) : ab (lw_sn nn f G q u t) := ⟨h.1.sn J nn f q u t, h.2.po J hN nn f q u t _ 0 _ _ hu ht⟩
theorem ab.lo {G G' : Nat → Nat} (h : ab G) (hm : G 410 ≤ 24) (e : ∀ j, 410 ≤ j → G' j = G j) : ab G' := ⟨h.1.eq hm (fun j h1 _ => e j h1), h.2.eq (fun j h1 => e j (by omega))⟩
theorem ab.ev {N : Nat} {G : Nat → Nat} (h : ab G) (J : lw_J N G) (nn : Nat) (f : Nat → Int32) (q : Nat) (h4 : G 4 ≤ 61) (hN : N + 80 < 1000000) : ab (lw_ev nn f q G) := by
  have J1 := J.dr (by omega)
  have h1 : ab (lw_dr G) := h.lo J.m (fun j h1 => xn_un _ _ (by omega))
  unfold lw_ev
  split
  · exact h1.se J1 (by omega) _ _ (by omega) (by omega) (by rw [lw_dr4]; exact h4)
  · split
    · unfold lw_clr
      split
      · exact h1
      · exact h1.cl J1 (by omega) _ (by omega) (by omega)
    · split
      · unfold lw_snd
        split
        · exact h1
        · exact h1.sn J1 (by omega) nn f q _ _ (by omega) (by omega)
      · exact h1.ti J1 nn f q hN
theorem ab.yr (nn : Nat) (f : Nat → Int32) (q : Nat) : ∀ (m N : Nat) (G : Nat → Nat), ab G → lw_J N G → G 4 + m ≤ 62 → N + 65 * m + 80 < 1000000 → ab (lw_yr nn f q m G)
  | 0, _, _, h, _, _, _ => h
  | m + 1, N, G, h, J, h4, hN => by
    have e := J.ev nn f q (by omega) (by omega)
    exact ab.yr nn f q m (N + 65) _ (h.ev J nn f q (by omega) (by omega)) e.1 (by omega) (by omega)
theorem ab.tk (nn : Nat) (f : Nat → Int32) (q : Nat) : ∀ (m N : Nat) (G : Nat → Nat), ab G → lw_J N G → N + 65 * m + 80 < 1000000 → ab (tk_ nn f q m G)
  | 0, _, _, h, _, _ => h
  | m + 1, N, G, h, J, hN => ab.tk nn f q m (N + 65) _ (h.ti J nn f q (by omega)) ((J.ti nn f q 24 (by omega)).mono (by omega)) (by omega)
