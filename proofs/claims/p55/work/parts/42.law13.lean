/-! the law: a tick ends -/
def lw_nd (G : Nat → Nat) (w : Nat) : Nat → Nat → Nat
  | 0, _ => 0
  | m + 1, i => (if G (411 + 8 * i + 2) = w then 1 else 0) + lw_nd G w m (i + 1)
theorem lw_nds {G G' : Nat → Nat} {w k : Nat} : ∀ (m i : Nat), (∀ j, i ≤ j → j < i + m → G' (411 + 8 * j + 2) = G (411 + 8 * (j + k) + 2)) → lw_nd G' w m i = lw_nd G w m (i + k)
  | 0, _, _ => rfl
  | m + 1, i, h => by
    have e := lw_nds (w := w) m (i + 1) (fun j h1 h2 => h j (by omega) (by omega))
    unfold lw_nd
    rw [e, h i (by omega) (by omega), show i + 1 + k = i + k + 1 by omega]
theorem lw_nd2 (G : Nat → Nat) (w m i : Nat) : lw_nd G w (m + 1) i = (if G (411 + 8 * i + 2) = w then 1 else 0) + lw_nd G w m (i + 1) := rfl
theorem lw_nda (G : Nat → Nat) (w : Nat) : ∀ (a b i : Nat), lw_nd G w (a + b) i = lw_nd G w a i + lw_nd G w b (i + a)
  | 0, b, i => by
    rw [Nat.zero_add]
    show _ = 0 + lw_nd G w b (i + 0)
    rw [Nat.zero_add, Nat.add_zero]
  | a + 1, b, i => by
    have e := lw_nda G w a b (i + 1)
    rw [show a + 1 + b = (a + b) + 1 by omega, lw_nd2 G w (a + b) i, lw_nd2 G w a i, e, show i + 1 + a = i + (a + 1) by omega]
    omega
theorem lw_ndl (G : Nat → Nat) (w : Nat) : ∀ (m i : Nat), lw_nd G w m i ≤ m
  | 0, _ => Nat.le_refl _
  | m + 1, i => by
    have := lw_ndl G w m (i + 1)
    unfold lw_nd
    split <;> omega
theorem lw_nd1 (G : Nat → Nat) (w i : Nat) : lw_nd G w 1 i = if G (411 + 8 * i + 2) = w then 1 else 0 := rfl
theorem lw_ndtn {G : Nat → Nat} {w p : Nat} (hp : p < G 410) (hm : G 410 ≤ 24) : lw_nd (lw_tn G p) w (G 410 - 1) 0 + (if G (411 + 8 * p + 2) = w then 1 else 0) = lw_nd G w (G 410) 0 := by
  have e1 := lw_nda (lw_tn G p) w p (G 410 - 1 - p) 0
  rw [show p + (G 410 - 1 - p) = G 410 - 1 by omega, Nat.zero_add] at e1
  have e2 := lw_nda G w p (1 + (G 410 - 1 - p)) 0
  rw [show p + (1 + (G 410 - 1 - p)) = G 410 by omega, Nat.zero_add, lw_nda G w 1 (G 410 - 1 - p) p, lw_nd1] at e2
  have e3 : lw_nd (lw_tn G p) w p 0 = lw_nd G w p 0 := lw_nds (k := 0) p 0 (fun j h1 h2 => by rw [lw_tnv _ _ (by omega), if_neg (by omega)]; rfl)
  have e4 : lw_nd (lw_tn G p) w (G 410 - 1 - p) p = lw_nd G w (G 410 - 1 - p) (p + 1) := lw_nds (k := 1) _ p (fun j h1 h2 => by
    rw [lw_tnv _ _ (by omega), if_pos (by omega)]
    congr 1)
  rw [e1, e2, e3, e4]
  omega
/-- what the time and the messages are is the same -/
def lw_sm (G G' : Nat → Nat) : Prop := ∀ j, (j = 0 ∨ j = 4 ∨ j = 5 ∨ (410 ≤ j ∧ j < 603)) → G' j = G j
theorem lw_sm.rf {G : Nat → Nat} : lw_sm G G := fun _ _ => rfl
theorem lw_sm.tr {G G' G'' : Nat → Nat} (h : lw_sm G G') (h2 : lw_sm G' G'') : lw_sm G G'' := fun j hj => (h2 j hj).trans (h j hj)
theorem lw_sm.nd {G G' : Nat → Nat} (h : lw_sm G G') (hm : G 410 ≤ 24) (w : Nat) : lw_nd G' w (G' 410) 0 = lw_nd G w (G 410) 0 := by
  rw [h 410 (by omega)]
  exact lw_nds (k := 0) _ 0 (fun j h1 h2 => by rw [h _ (by omega)]; rfl)
theorem lw_sm.ts (G : Nat → Nat) (q a b : Nat) : lw_sm G (lw_ts G q a b) := fun j hj => lw_tso G q a b (by omega)
theorem lw_sm.tk (G : Nat → Nat) (t h n : Nat) (ht : t < 4) (hc : G (342 + t) ≤ G (338 + t) ∧ G (338 + t) ≤ G (342 + t) + 6) : lw_sm G (lw_tk G t h n) := fun j hj => lw_tko G t h n ht (by omega) hc.2 hc.1
theorem lw_sm.dn {N : Nat} (hN : N < 1000000) (t : Nat) (ht : t < 4) (l : Nat) : ∀ (m : Nat) (G : Nat → Nat), lw_J N G → l ≤ G (338 + t) → m = l - G (342 + t) → lw_sm G (lw_dn t m G)
  | 0, _, _, _, _ => lw_sm.rf
  | m + 1, G, h, hl, hm => by
    have h1 : lw_sm G (lw_dp G t) := fun j hj => lw_dpo G t ht (by omega) (h.c t ht).2.1
    exact h1.tr (lw_sm.dn hN t ht l m _ (h.drop t ht (by omega) hN) (by rw [lw_dp8]; exact hl) (by rw [lw_dp2]; omega))
theorem lw_sm.b3 {N : Nat} {G : Nat → Nat} (h : lw_J N G) (t hh kn : Nat) (ht : t < 4) : lw_sm G (lw_b3 G t hh kn) := by
  unfold lw_b3
  split
  · exact lw_sm.tk G t hh kn ht ⟨(h.c t ht).1, (h.c t ht).2.1⟩
  · exact lw_sm.rf
theorem lw_pond {N : Nat} {G : Nat → Nat} (h : lw_J N G) (nn : Nat) (f : Nat → Int32) (q u t up a hh kn : Nat) : lw_nd (lw_po nn f G q u t up a hh kn) (G 0) (lw_po nn f G q u t up a hh kn 410) 0 = lw_nd G (G 0) (G 410) 0 := by
  have hm := h.m
  have h5 := h.d0
  have e410 : lw_v2 G 410 = G 410 := lw_v2o G (by omega) (by omega)
  unfold lw_po
  split
  · unfold lw_px
    rw [lw_tso _ _ _ _ (by omega), xn_un _ _ (by omega), e410]
    exact lw_nds (k := 0) _ 0 (fun j h1 h2 => by rw [lw_tso _ _ _ _ (by omega), xn_un _ _ (by omega), lw_v2o G (by omega) (by omega)]; rfl)
  · rename_i hno
    have hno2 : lw_v2 G 410 ≠ 24 := fun q => hno (Or.inr q)
    generalize hF : lw_r8 u t (lw_v2 G 0 + lw_v2 G 5) (G 2) up (if a = 0 then 0 else 1) hh kn = F
    have hF2 : F 2 = G 0 + G 5 := by
      rw [← hF]
      show lw_v2 G 0 + lw_v2 G 5 = _
      rw [lw_v2o G (by omega) (by omega), lw_v2o G (by omega) (by omega)]
    have v : ∀ j, lw_pk1 (lw_v2 G) F j = if 411 + 8 * lw_v2 G 410 + 0 ≤ j ∧ j < 411 + 8 * lw_v2 G 410 + 0 + 8 then F (j - (411 + 8 * lw_v2 G 410)) else lw_v2 G j := fun j => lw_rcv F _ 8 0 (lw_v2 G) j
    rw [e410] at v
    have e0 : lw_pk2 (lw_v2 G) F 410 = G 410 + 1 := by
      unfold lw_pk2
      rw [xn_ue, v, if_neg (by omega), e410]
    rw [e0, lw_nda _ _ (G 410) 1 0, lw_nd1, Nat.zero_add]
    have e1 : lw_pk2 (lw_v2 G) F (411 + 8 * G 410 + 2) = G 0 + G 5 := by
      unfold lw_pk2
      rw [xn_un _ _ (by omega), v, if_pos (by omega), show 411 + 8 * G 410 + 2 - (411 + 8 * G 410) = 2 by omega, hF2]
    rw [e1, if_neg (by omega), Nat.add_zero]
    exact lw_nds (k := 0) _ 0 (fun j h1 h2 => by
      unfold lw_pk2
      rw [xn_un _ _ (by omega), v, if_neg (by omega), lw_v2o G (by omega) (by omega)]; rfl)
/-- a message less that comes now -/
theorem lw_mknd {N : Nat} {G : Nat → Nat} (hJ : lw_J N G) (hN : N + 2 < 1000000) (nn : Nat) (f : Nat → Int32) (q : Nat) (z : lw_du G) : lw_nd (lw_mk nn f q G (lw_ft G)) (G 0) (lw_mk nn f q G (lw_ft G) 410) 0 + 1 = lw_nd G (G 0) (G 410) 0 ∧ lw_mk nn f q G (lw_ft G) 0 = G 0 ∧ lw_mk nn f q G (lw_ft G) 4 = G 4 := by
  have hi : lw_ft G < G 410 := (lw_ftl G).resolve_right z.1
  have z2 := z.2
  generalize lw_ft G = i at hi z2
  have hJ1 := hJ.tn i hi
  have f0 := hJ.f i hi
  have t0 : lw_tm G i 0 = G (411 + 8 * i) := lw_tmv G i (by omega)
  have t1 := lw_tmv G i (x := 1) (by omega)
  have t4 := lw_tmv G i (x := 4) (by omega)
  have t5 := lw_tmv G i (x := 5) (by omega)
  have t6 := lw_tmv G i (x := 6) (by omega)
  have t7 := lw_tmv G i (x := 7) (by omega)
  unfold lw_fm at f0
  rw [← t0, ← t1, ← t4, ← t5] at f0
  obtain ⟨f1, f2, f3, f4⟩ := f0
  have b6 : lw_tm G i 6 < 4611686018427387904 := by rw [t6]; exact hJ.b _
  have b7 : lw_tm G i 7 < 4611686018427387904 := by rw [t7]; exact hJ.b _
  have hJ2 : lw_J N (lw_m2 G i) := hJ1.ts 4 _ _ (by omega) (by omega) (by omega)
  have hm := hJ.m
  have o2 : ∀ j, j < 410 → lw_m2 G i j = G j := fun j hj => by
    unfold lw_m2
    rw [lw_tso _ _ _ _ (by omega), lw_tnv _ _ (by omega), if_neg (by omega)]
  have hJ3 : lw_tm G i 5 = 1 → lw_J N (lw_a3 (lw_m2 G i) (lw_tm G i 0) (lw_tm G i 1) (lw_tm G i 4)) := fun e => hJ2.ack _ _ _ f2 f1 (by
    rw [e, if_neg (by omega)] at f4
    have := hJ2.a (lw_tm G i 1) (lw_tm G i 0) f2 f1
    rw [o2 (338 + lw_tm G i 1) (by omega)] at *
    omega)
  have hJ4 : lw_tm G i 5 = 1 → lw_J N (lw_a4 (lw_m2 G i) (lw_tm G i 0) (lw_tm G i 1) (lw_tm G i 4)) := fun e => lw_J.dn (by omega) _ f2 (lw_le (lw_a3 (lw_m2 G i) (lw_tm G i 0) (lw_tm G i 1) (lw_tm G i 4)) (lw_tm G i 1) 4 0 (lw_a3 (lw_m2 G i) (lw_tm G i 0) (lw_tm G i 1) (lw_tm G i 4) (338 + lw_tm G i 1))) _ _ (hJ3 e) (lw_lele _ _ _ _ _) rfl
  have hJ5 : lw_J (N + 1) (lw_b3 (lw_m2 G i) (lw_tm G i 1) (lw_tm G i 6) (lw_tm G i 7)) := lw_b3J hJ2 _ _ _ f2 b6 b7 (by omega)
  have c5 : lw_tm G i 5 ≠ 1 → lw_tm G i 4 ≤ lw_b3 (lw_m2 G i) (lw_tm G i 1) (lw_tm G i 6) (lw_tm G i 7) (338 + lw_tm G i 0) := fun e => by
    rw [if_pos (by omega)] at f4
    have hc := hJ2.c _ f2
    have := lw_b3c (lw_tm G i 1) (lw_tm G i 6) (lw_tm G i 7) f2 ⟨hc.1, hc.2.1⟩ (lw_tm G i 0) f1
    rw [o2 _ (by omega)] at this
    omega
  have n1 := lw_ndtn (w := G 0) hi hm
  rw [if_pos z2] at n1
  have s2 : lw_sm (lw_tn G i) (lw_m2 G i) := lw_sm.ts _ _ _ _
  have n2 := s2.nd hJ1.m (G 0)
  rw [lw_tn4] at n2
  have q0 : lw_m2 G i 0 = G 0 := o2 0 (by omega)
  have q4 : lw_m2 G i 4 = G 4 := o2 4 (by omega)
  by_cases e : lw_tm G i 5 = 1
  · rw [lw_mky e]
    have s3 : lw_sm (lw_m2 G i) (lw_a3 (lw_m2 G i) (lw_tm G i 0) (lw_tm G i 1) (lw_tm G i 4)) := fun j hj => xn_un _ _ (by omega)
    have s4 : lw_sm (lw_m2 G i) (lw_a4 (lw_m2 G i) (lw_tm G i 0) (lw_tm G i 1) (lw_tm G i 4)) := s3.tr (lw_sm.dn (by omega) _ f2 (lw_le (lw_a3 (lw_m2 G i) (lw_tm G i 0) (lw_tm G i 1) (lw_tm G i 4)) (lw_tm G i 1) 4 0 (lw_a3 (lw_m2 G i) (lw_tm G i 0) (lw_tm G i 1) (lw_tm G i 4) (338 + lw_tm G i 1))) _ _ (hJ3 e) (lw_lele _ _ _ _ _) rfl)
    rw [s4.nd hJ2.m, n2, s4 0 (by omega), s4 4 (by omega)]
    exact ⟨n1, q0, q4⟩
  · rw [lw_mkn e]
    have s3 := lw_sm.b3 hJ2 (lw_tm G i 1) (lw_tm G i 6) (lw_tm G i 7) f2
    have p0 : lw_b3 (lw_m2 G i) (lw_tm G i 1) (lw_tm G i 6) (lw_tm G i 7) 0 = G 0 := (s3 0 (by omega)).trans q0
    have p4 : lw_b3 (lw_m2 G i) (lw_tm G i 1) (lw_tm G i 6) (lw_tm G i 7) 4 = G 4 := (s3 4 (by omega)).trans q4
    have n3 := lw_pond hJ5 nn f q (lw_tm G i 1) (lw_tm G i 0) (lw_tm G i 4) 1 0 0
    rw [p0] at n3
    rw [n3, s3.nd hJ2.m, n2, lw_poo nn f _ _ _ _ _ _ _ _ (by omega) (by omega) (by omega) (by omega), lw_poo nn f _ _ _ _ _ _ _ _ (by omega) (by omega) (by omega) (by omega), p0, p4]
    exact ⟨n1, rfl, rfl⟩
theorem lw_mee (nn : Nat) (f : Nat → Int32) (q : Nat) : ∀ (m N : Nat) (G : Nat → Nat), lw_J N G → N + 2 * m + 2 < 1000000 → lw_nd G (G 0) (G 410) 0 ≤ m → lw_me nn f q m G
  | 0, N, G, h, hN, hm => fun z => by
    have := (lw_mknd h (by omega) nn f q z).1
    omega
  | m + 1, N, G, h, hN, hm => fun z => by
    obtain ⟨z1, z2, -⟩ := lw_mknd h (by omega) nn f q z
    refine lw_mee nn f q m (N + 2) _ (h.mk nn f q _ ((lw_ftl G).resolve_right z.1) (by omega)) (by omega) ?_
    rw [z2]
    omega
theorem lw_ms4 (nn : Nat) (f : Nat → Int32) (q : Nat) : ∀ (m N : Nat) (G : Nat → Nat), lw_J N G → N + 2 * m + 2 < 1000000 → lw_ms nn f q m G 4 = G 4
  | 0, _, _, _, _ => rfl
  | m + 1, N, G, h, hN => by
    by_cases z : lw_du G
    · rw [(lw_ms1 z).1, lw_ms4 nn f q m (N + 2) _ (h.mk nn f q (lw_ft G) ((lw_ftl G).resolve_right z.1) (by omega)) (by omega), (lw_mknd h (by omega) nn f q z).2.2]
    · rw [(lw_ms0 z).1]
theorem lw_y14 (nn : Nat) (f : Nat → Int32) (q : Nat) (G : Nat → Nat) (u t : Nat) : lw_y1 nn f q G u t 4 = G 4 := by
  unfold lw_y1
  split
  · exact lw_poo nn f G _ _ _ _ _ _ _ (by omega) (by omega) (by omega) (by omega)
  · rfl
theorem lw_yi4 (nn : Nat) (f : Nat → Int32) (q u : Nat) : ∀ (m t : Nat) (G : Nat → Nat), lw_yi nn f q u m t G 4 = G 4
  | 0, _, _ => rfl
  | m + 1, t, G => (lw_yi4 nn f q u m (t + 1) _).trans (lw_y14 nn f q G u t)
theorem lw_yo4 (nn : Nat) (f : Nat → Int32) (q : Nat) : ∀ (m u : Nat) (G : Nat → Nat), lw_yo nn f q m u G 4 = G 4
  | 0, _, _ => rfl
  | m + 1, u, G => (lw_yo4 nn f q m (u + 1) _).trans (lw_yi4 nn f q u 4 0 G)
theorem lw_ti4 {N : Nat} {G : Nat → Nat} (h : lw_J N G) (nn : Nat) (f : Nat → Int32) (q m : Nat) (hN : N + 2 * m + 17 < 1000000) : lw_ti nn f q m G 4 = G 4 := by
  unfold lw_ti
  rw [lw_yo4, lw_ms4 nn f q m (N + 1) _ (h.t0 (by omega)) (by omega)]
  exact xn_un _ _ (by omega)
/-- 24 rounds are enough -/
theorem lw_me24 {N : Nat} {G : Nat → Nat} (h : lw_J N G) (nn : Nat) (f : Nat → Int32) (q : Nat) (hN : N + 60 < 1000000) : lw_me nn f q 24 (lw_t0 G) := by
  have h1 := h.t0 (by omega)
  exact lw_mee nn f q 24 (N + 1) _ h1 (by omega) (Nat.le_trans (lw_ndl _ _ _ _) h1.m)
