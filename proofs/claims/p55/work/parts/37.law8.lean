/-! the law's methods keep what always holds -/
theorem xn_id (G : Nat → Nat) (k : Nat) : xn_u G k (G k) = G := by
  funext j
  unfold xn_u
  split
  · rename_i e; rw [e]
  · rfl
theorem xn_id2 (G : Nat → Nat) {k1 k2 : Nat} (a : Nat) (h : k2 ≠ k1) : xn_u (xn_u G k1 a) k2 (G k2) = xn_u G k1 a := by
  have e := xn_id (xn_u G k1 a) k2
  rw [xn_un _ _ h] at e
  exact e
theorem lw_J.drop {N : Nat} {G : Nat → Nat} (h : lw_J N G) (t : Nat) (ht : t < 4) (hlt : G (342 + t) < G (338 + t)) (hN : N < 1000000) : lw_J N (lw_dp G t) := by
  have hc := h.c t ht
  have o : ∀ j, j < 362 + 12 * t ∨ 362 + 12 * t + 10 ≤ j → lw_d1 G t j = G j := fun j hj => lw_dco _ _ _ _ _ (by omega)
  have h1 : lw_J N (lw_d1 G t) := h.row (fun j hj => o j (by omega)) (lw_dcb _ _ _ h.b)
  have h2 := h1.cnt t (lw_d1 G t (338 + t)) (lw_d1 G t (342 + t) + 1) ht (Nat.le_refl _) (Nat.le_refl _) (by rw [o _ (by omega), o _ (by omega)]; omega) (by rw [o _ (by omega), o _ (by omega)]; omega) (by rw [o _ (by omega)]; omega) hN
  rw [xn_id] at h2
  exact h2
theorem lw_J.take {N : Nat} {G : Nat → Nat} (h : lw_J N G) (t hh n : Nat) (ht : t < 4) (h1 : hh < 4611686018427387904) (h2 : n < 4611686018427387904) (hN : N + 1 < 1000000) : lw_J (N + 1) (lw_tk G t hh n) := by
  have hc := h.c t ht
  have hK : lw_J N (lw_k0 G t) ∧ lw_k0 G t (338 + t) ≤ lw_k0 G t (342 + t) + 5 := by
    unfold lw_k0
    split
    · refine ⟨h.drop t ht (by omega) (by omega), ?_⟩
      rw [lw_dp2, lw_dp8]; omega
    · exact ⟨h, by omega⟩
  obtain ⟨hK, h5⟩ := hK
  unfold lw_tk
  generalize lw_k0 G t = K at hK h5
  have hc2 := hK.c t ht
  have e1 : lw_J N (lw_k1 K t hh n) := (hK.up _ _ h1 (by omega)).up _ _ h2 (by omega)
  have o1 : ∀ j, j < 362 → lw_k1 K t hh n j = K j := fun j hj => by
    unfold lw_k1
    rw [xn_un _ _ (by omega), xn_un _ _ (by omega)]
  have e2 : lw_J (N + 1) (lw_k2 K t hh n) := by
    have q := e1.cnt (N' := N + 1) t (lw_k1 K t hh n (338 + t) + 1) (lw_k1 K t hh n (342 + t)) ht (by omega) (by omega) (by rw [o1 _ (by omega), o1 _ (by omega)]; omega) (by rw [o1 _ (by omega), o1 _ (by omega)]; omega) (by rw [o1 _ (by omega)]; omega) hN
    rw [xn_id2 _ _ (by omega)] at q
    exact q
  exact (e2.up _ _ (Nat.or_lt_two_pow (n := 62) (e2.b _) h2) (by omega)).up _ _ (lw_j63 (n := 62) (e2.b _) h1) (by omega)
theorem lw_J.low {N N' : Nat} {G : Nat → Nat} (h : lw_J N G) (k v : Nat) (hk : k < 4) (h1 : k = 1 → v < 31139) (h2 : k ≠ 1 → v ≤ N') (hn : N ≤ N') (hN : N' < 1000000) : lw_J N' (xn_u G k v) := by
  have o : ∀ j, j ≠ k → xn_u G k v j = G j := fun j hj => xn_un _ _ hj
  have hm := h.m
  have g := fun j => xn_u G k v j
  have hlow : ∀ j, j < 4 → j ≠ 1 → G j ≤ N → xn_u G k v j ≤ N' := fun j _ hj1 hj2 => by
    unfold xn_u
    split
    · exact h2 (by omega)
    · omega
  unfold lw_J
  refine ⟨lw_ub h.b (by by_cases e : k = 1; have := h1 e; omega; have := h2 e; omega), ?_, by rw [o _ (by omega)]; exact h.e, by rw [o _ (by omega)]; exact h.d0, by rw [o _ (by omega)]; exact h.d1, hlow 0 (by omega) (by omega) h.n0, hlow 2 (by omega) (by omega) h.n2, hlow 3 (by omega) (by omega) h.n3, by rw [o _ (by omega)]; exact h.m, by rw [o _ (by omega)]; exact h.k, fun t ht => by rw [o _ (by omega), o _ (by omega)]; have := h.c t ht; omega, fun u t hu ht => by rw [o _ (by omega), o _ (by omega)]; exact h.a u t hu ht, fun i hi => ?_⟩
  · unfold xn_u
    split
    · exact h1 (by omega)
    · exact h.x
  · rw [o _ (by omega)] at hi
    exact (h.f i hi).of (fun x hx => o _ (by omega)) (fun t ht => by rw [o _ (by omega)]; exact Nat.le_refl _)
theorem lw_J.msg {N : Nat} {G : Nat → Nat} (h : lw_J N G) (F : Nat → Nat) (hm : G 410 < 24) (hb : ∀ j, F j < 4611686018427387904) (h0 : F 0 < 4) (h1 : F 1 < 4) (h5 : F 5 < 2) (h4 : F 4 ≤ G (338 + (if F 5 = 0 then F 0 else F 1))) : lw_J N (lw_pk2 G F) := by
  have v : ∀ j, lw_pk1 G F j = if 411 + 8 * G 410 + 0 ≤ j ∧ j < 411 + 8 * G 410 + 0 + 8 then F (j - (411 + 8 * G 410)) else G j := fun j => lw_rcv F _ 8 0 G j
  have o : ∀ j, j ≠ 410 → (j < 411 + 8 * G 410 ∨ 411 + 8 * G 410 + 8 ≤ j) → lw_pk2 G F j = G j := fun j h1 h2 => by
    unfold lw_pk2
    rw [xn_un _ _ h1, v, if_neg (by omega)]
  have w : ∀ x, x < 8 → lw_pk2 G F (411 + 8 * G 410 + x) = F x := fun x hx => by
    unfold lw_pk2
    rw [xn_un _ _ (by omega), v, if_pos (by omega)]
    congr 1
    omega
  have e0 : lw_pk2 G F 410 = G 410 + 1 := by
    unfold lw_pk2
    rw [xn_ue, v, if_neg (by omega)]
  have b1 : ∀ j, lw_pk1 G F j < 4611686018427387904 := fun j => by
    rw [v]
    split
    · exact hb _
    · exact h.b _
  have hq : ∀ t, t < 4 → lw_pk2 G F (338 + t) = G (338 + t) := fun t ht => o _ (by omega) (by omega)
  unfold lw_J
  refine ⟨lw_ub b1 (by rw [v, if_neg (by omega)]; omega), by rw [o _ (by omega) (by omega)]; exact h.x, by rw [o _ (by omega) (by omega)]; exact h.e, by rw [o _ (by omega) (by omega)]; exact h.d0, by rw [o _ (by omega) (by omega)]; exact h.d1, by rw [o _ (by omega) (by omega)]; exact h.n0, by rw [o _ (by omega) (by omega)]; exact h.n2, by rw [o _ (by omega) (by omega)]; exact h.n3, by rw [e0]; omega, by rw [o _ (by omega) (by omega)]; exact h.k, fun t ht => by rw [o _ (by omega) (by omega), o _ (by omega) (by omega)]; exact h.c t ht, fun u t hu ht => by rw [o _ (by omega) (by omega), o _ (by omega) (by omega)]; exact h.a u t hu ht, fun i hi => ?_⟩
  rw [e0] at hi
  by_cases e : i = G 410
  · subst e
    have w0 : lw_pk2 G F (411 + 8 * G 410) = F 0 := w 0 (by omega)
    unfold lw_fm
    rw [w0, w 1 (by omega), w 4 (by omega), w 5 (by omega)]
    refine ⟨h0, h1, h5, ?_⟩
    rw [hq _ (by split <;> assumption)]
    exact h4
  · exact (h.f i (by omega)).of (fun x hx => o _ (by omega) (by omega)) (fun t ht => by rw [hq t ht]; exact Nat.le_refl _)
theorem lw_J.v2 {N : Nat} {G : Nat → Nat} (h : lw_J N G) (hN : N + 1 < 1000000) : lw_J (N + 1) (lw_v2 G) := by
  have := h.n2
  have h1 : lw_J (N + 1) (lw_v1 G) := h.low 2 _ (by omega) (fun e => by omega) (fun _ => by omega) (by omega) hN
  exact h1.low 1 _ (by omega) (fun _ => Nat.mod_lt _ (by omega)) (fun e => absurd rfl e) (Nat.le_refl _) hN
theorem lw_r8b {u t w num up b h kn B : Nat} (h0 : 0 < B) (hu : u < B) (ht : t < B) (hw : w < B) (hn : num < B) (hp : up < B) (hb : b < B) (hh : h < B) (hk : kn < B) : ∀ j, lw_r8 u t w num up b h kn j < B :=
  lw_ub (lw_ub (lw_ub (lw_ub (lw_ub (lw_ub (lw_ub (lw_ub (fun _ => h0) hu) ht) hw) hn) hp) hb) hh) hk
theorem lw_r8v (u t w num up b h kn : Nat) : lw_r8 u t w num up b h kn 0 = u ∧ lw_r8 u t w num up b h kn 1 = t ∧ lw_r8 u t w num up b h kn 4 = up ∧ lw_r8 u t w num up b h kn 5 = b := ⟨rfl, rfl, rfl, rfl⟩
theorem lw_J.po {N : Nat} {G : Nat → Nat} (h : lw_J N G) (n : Nat) (f : Nat → Int32) (q u t up a hh kn : Nat) (hu : u < 4) (ht : t < 4) (ha : a < 2) (hup : up ≤ G (338 + (if a = 0 then u else t))) (h1 : hh < 4611686018427387904) (h2 : kn < 4611686018427387904) (hN : N + 1 < 1000000) : lw_J (N + 1) (lw_po n f G q u t up a hh kn) := by
  have hv := h.v2 hN
  have hn2 := h.n2
  have hv0 := hv.n0
  have hv5 := hv.d1
  have hv3 := hv.n3
  have hn3 := h.n3
  have hm := hv.m
  have e3 : lw_v2 G 3 = G 3 := lw_v2o G (by omega) (by omega)
  have hc : ∀ t, t < 4 → lw_v2 G (338 + t) = G (338 + t) := fun t ht => lw_v2o G (by omega) (by omega)
  have hup2 : up ≤ N := Nat.le_trans hup ((h.c _ (by split <;> assumption)).2.2)
  unfold lw_po
  split
  · exact (hv.low 3 _ (by omega) (fun e => by omega) (fun _ => by omega) (Nat.le_refl _) hN).ts 3 t u (by omega) (by omega) (by omega)
  · rename_i hno
    have hno2 : lw_v2 G 410 ≠ 24 := fun q => hno (Or.inr q)
    refine hv.msg _ (by omega) (lw_r8b (by omega) (by omega) (by omega) (by omega) (by omega) (by omega) (by split <;> omega) h1 h2) hu ht ?_ ?_
    · show (if a = 0 then 0 else 1) < 2
      split <;> omega
    · obtain ⟨r0, r1, r4, r5⟩ := lw_r8v u t (lw_v2 G 0 + lw_v2 G 5) (G 2) up (if a = 0 then 0 else 1) hh kn
      rw [r4, r5, r0, r1]
      by_cases e : a = 0
      · rw [if_pos e] at hup
        rw [if_pos (by rw [if_pos e]), hc u hu]
        exact hup
      · rw [if_neg e] at hup
        rw [if_neg (by rw [if_neg e]; omega), hc t ht]
        exact hup
theorem lw_glb {B : Nat} (n0 : Nat) (hB : B = 2 ^ n0) (G : Nat → Nat) (hG : ∀ j, G j < B) (f : Nat) : ∀ (m k : Nat) (F : Nat → Nat), (∀ j, F j < B) → ∀ j, lw_gl G f m k F j < B
  | 0, _, _, h => h
  | m + 1, k, F, h => by
    subst hB
    unfold lw_gl
    have e0 : ∀ j, lw_g1 G f k F j < 2 ^ n0 := lw_ub h (lw_j63 (h 0) (hG _))
    exact lw_glb n0 rfl G hG f m (k + 1) _ (lw_ub e0 (Nat.or_lt_two_pow (e0 1) (hG _)))
theorem lw_grb3 (G : Nat → Nat) (hG : ∀ j, G j < 4611686018427387904) (f t j : Nat) : lw_gr G (fun _ => 0) f t j < 4611686018427387904 := by
  unfold lw_gr
  have z : ∀ j : Nat, (fun _ : Nat => 0) j < 4611686018427387904 := fun _ => by show (0 : Nat) < 4611686018427387904; omega
  split
  · exact lw_ub (lw_ub z (hG _)) (hG _) j
  · exact lw_glb 62 (by decide) G hG f _ _ _ (lw_ub (lw_ub (lw_ub (lw_ub z (hG _)) (hG _)) (by omega)) (by omega)) j
theorem lw_J.sn {N : Nat} {G : Nat → Nat} (h : lw_J N G) (n : Nat) (f : Nat → Int32) (q u t : Nat) (hu : u < 4) (ht : t < 4) (hN : N + 1 < 1000000) : lw_J (N + 1) (lw_sn n f G q u t) :=
  h.po n f q u t _ 0 _ _ hu ht (by omega) (by rw [if_pos rfl]; exact Nat.le_refl _) (lw_grb3 G h.b u t 0) (lw_grb3 G h.b u t 1) hN
theorem lw_rdv (Fs : Nat → Nat) : ∀ (m k : Nat) (F : Nat → Nat) (j : Nat), lw_rd Fs m k F j = if k ≤ j ∧ j < k + m then Fs j else F j
  | 0, k, F, j => by rw [if_neg (by omega)]; rfl
  | m + 1, k, F, j => by
    unfold lw_rd
    rw [lw_rdv Fs m (k + 1)]
    by_cases h : j = k
    · subst h
      rw [if_neg (by omega), if_pos (by omega), xn_ue]
    · by_cases h2 : k ≤ j ∧ j < k + (m + 1)
      · rw [if_pos (by omega), if_pos h2]
      · rw [if_neg (by omega), if_neg h2, xn_un _ _ h]
theorem lw_tmv (G : Nat → Nat) (i : Nat) {x : Nat} (hx : x < 8) : lw_tm G i x = G (411 + 8 * i + x) := by
  unfold lw_tm
  rw [lw_rdv, if_pos (by omega)]
theorem lw_tnv (G : Nat → Nat) (i : Nat) {j : Nat} (hj : j ≠ 410) : lw_tn G i j = if 411 + 8 * i ≤ j ∧ j < 411 + 8 * i + (8 * G 410 - 8 - 8 * i) then G (j + 8) else G j := by
  unfold lw_tn lw_tn1
  rw [xn_un _ _ hj, lw_sfv]
theorem lw_tn4 (G : Nat → Nat) (i : Nat) : lw_tn G i 410 = G 410 - 1 := by
  unfold lw_tn lw_tn1
  rw [xn_ue, lw_sfo _ _ _ _ (by omega)]
theorem lw_J.tn {N : Nat} {G : Nat → Nat} (h : lw_J N G) (i : Nat) (hi : i < G 410) : lw_J N (lw_tn G i) := by
  have hm := h.m
  have o : ∀ j, j < 410 ∨ 603 ≤ j → lw_tn G i j = G j := fun j hj => by
    rw [lw_tnv _ _ (by omega), if_neg (by omega)]
  have e4 := lw_tn4 G i
  unfold lw_J
  refine ⟨fun j => ?_, by rw [o _ (by omega)]; exact h.x, by rw [o _ (by omega)]; exact h.e, by rw [o _ (by omega)]; exact h.d0, by rw [o _ (by omega)]; exact h.d1, by rw [o _ (by omega)]; exact h.n0, by rw [o _ (by omega)]; exact h.n2, by rw [o _ (by omega)]; exact h.n3, by rw [e4]; omega, by rw [o _ (by omega)]; exact h.k, fun t ht => by rw [o _ (by omega), o _ (by omega)]; exact h.c t ht, fun u t hu ht => by rw [o _ (by omega), o _ (by omega)]; exact h.a u t hu ht, fun j hj => ?_⟩
  · by_cases e : j = 410
    · rw [e, e4]; omega
    · rw [lw_tnv _ _ e]
      split
      · exact h.b _
      · exact h.b _
  · rw [e4] at hj
    by_cases e : j < i
    · exact (h.f j (by omega)).of (fun x hx => by rw [lw_tnv _ _ (by omega), if_neg (by omega)]) (fun t ht => by rw [o _ (by omega)]; exact Nat.le_refl _)
    · exact (h.f (j + 1) (by omega)).of (fun x hx => by rw [lw_tnv _ _ (by omega), if_pos (by omega)]; congr 1; omega) (fun t ht => by rw [o _ (by omega)]; exact Nat.le_refl _)
theorem lw_J.ack {N : Nat} {G : Nat → Nat} (h : lw_J N G) (u t v : Nat) (hu : u < 4) (ht : t < 4) (hv : v ≤ G (338 + u)) : lw_J N (xn_u G (346 + 4 * u + t) v) := by
  have o : ∀ j, j < 346 ∨ 361 < j → xn_u G (346 + 4 * u + t) v j = G j := fun j hj => xn_un _ _ (by omega)
  have hm := h.m
  have hb := h.b (338 + u)
  unfold lw_J
  refine ⟨lw_ub h.b (by omega), by rw [o _ (by omega)]; exact h.x, by rw [o _ (by omega)]; exact h.e, by rw [o _ (by omega)]; exact h.d0, by rw [o _ (by omega)]; exact h.d1, by rw [o _ (by omega)]; exact h.n0, by rw [o _ (by omega)]; exact h.n2, by rw [o _ (by omega)]; exact h.n3, by rw [o _ (by omega)]; exact h.m, by rw [o _ (by omega)]; exact h.k, fun t ht => by rw [o _ (by omega), o _ (by omega)]; exact h.c t ht, fun u1 t1 hu1 ht1 => ?_, fun i hi => ?_⟩
  · rw [o (338 + u1) (by omega)]
    by_cases e : 346 + 4 * u1 + t1 = 346 + 4 * u + t
    · have : u1 = u := by omega
      rw [e, xn_ue, this]
      exact hv
    · rw [xn_un _ _ e]
      exact h.a u1 t1 hu1 ht1
  · rw [o _ (by omega)] at hi
    exact (h.f i hi).of (fun x hx => o _ (by omega)) (fun t ht => by rw [o _ (by omega)]; exact Nat.le_refl _)
