/-! the law: a tick -/
/-- what all others have of a replica -/
def lw_le (G : Nat → Nat) (t : Nat) : Nat → Nat → Nat → Nat
  | 0, _, x => x
  | m + 1, k, x => lw_le G t m (k + 1) (if k = t then x else min x (G (346 + 4 * t + k)))
theorem lw_lele (G : Nat → Nat) (t : Nat) : ∀ (m k x : Nat), lw_le G t m k x ≤ x
  | 0, _, _ => Nat.le_refl _
  | m + 1, k, x => by
    unfold lw_le
    refine Nat.le_trans (lw_lele G t m (k + 1) _) ?_
    split <;> omega
theorem lw_leL (d c s A : Nat) (W0 : xi_W) (G : Nat → Nat) (hw : W0[A]? = some (lw_a 1804 G)) (hg : 17 ≤ A) (hG : ∀ j, G j < 9223372036854775808) (S q at_ n t u i R : Nat) (ht : t < 4) (r : xi_R → Prop) : ∀ (m k x : Nat), k + m = 4 → x < 9223372036854775808 → xr (d + 1) 197 168 [(11, .int (Int32.ofNat 4)), (9, .long (Int64.ofNat ((lw_le G t m k x)))), (8, .int (Int32.ofNat at_)), (3, .int (Int32.ofNat n)), (7, .int (Int32.ofNat t)), (6, .int (Int32.ofNat u)), (5, .ref R), (4, .int (Int32.ofNat i)), (0, .ref S), (1, .int (Int32.ofNat q)), (2, .ref A)] [] W0 c s r → xr (d + 1) 197 124 [(11, .int (Int32.ofNat k)), (9, .long (Int64.ofNat x)), (8, .int (Int32.ofNat at_)), (3, .int (Int32.ofNat n)), (7, .int (Int32.ofNat t)), (6, .int (Int32.ofNat u)), (5, .ref R), (4, .int (Int32.ofNat i)), (0, .ref S), (1, .int (Int32.ofNat q)), (2, .ref A)] [] W0 c s r
  | 0, k, x, hm, hx, K => by
    obtain rfl : k = 4 := by omega
    refine xr_stp rfl rfl rfl rfl ?_
    refine xr_stp (st' := .int (Int32.ofNat 4) :: _) rfl rfl rfl rfl ?_
    refine xr_j2 rfl rfl rfl rfl rfl (fun h127 => ?_) (fun h127 => ?_)
    · exact K
    · exact absurd (nf_ge (by omega) (by omega) h127) (by omega)
  | m + 1, k, x, hm, hx, K => by
    have hGk := hG (346 + 4 * t + k)
    unfold lw_le at K
    refine xr_stp rfl rfl rfl rfl ?_
    refine xr_stp (st' := .int (Int32.ofNat 4) :: _) rfl rfl rfl rfl ?_
    refine xr_j2 rfl rfl rfl rfl rfl (fun h127 => ?_) (fun h127 => ?_)
    · exact absurd (nt_ge (by omega) (by omega) h127) (by omega)
    · refine xr_stp rfl rfl rfl rfl ?_
      refine xr_stp rfl rfl rfl rfl ?_
      refine xr_j2 rfl rfl rfl rfl rfl (fun h134 => ?_) (fun h134 => ?_)
      · have e134 := nt_ne h134
        rw [if_neg e134] at K
        refine xr_stp rfl rfl rfl rfl ?_
        refine xr_stp rfl rfl rfl rfl ?_
        refine xr_stp (st' := .int (Int32.ofNat 346) :: _) rfl rfl rfl rfl ?_
        refine xr_stp (st' := .int (Int32.ofNat 4) :: _) rfl rfl rfl rfl ?_
        refine xr_stp rfl rfl rfl rfl ?_
        refine xs_mul rfl ?_
        refine xs_add rfl ?_
        refine xr_stp rfl rfl rfl rfl ?_
        refine xs_add rfl ?_
        refine xs_ald hw hg (by omega) (by omega) rfl ?_
        refine xs_lmin (by omega) (by omega) rfl rfl rfl ?_
        refine xr_stp rfl rfl rfl rfl ?_
        refine xs_inc (e := 1) rfl rfl rfl rfl ?_
        refine xr_stp rfl rfl rfl rfl ?_
        exact lw_leL d c s A W0 G hw hg hG S q at_ n t u i R ht r m (k + 1) _ (by omega) (by omega) K
      · have e134 := nf_ne (by omega) (by omega) h134
        rw [if_pos e134] at K
        refine xr_stp rfl rfl rfl rfl ?_
        refine xr_stp rfl rfl rfl rfl ?_
        refine xr_stp rfl rfl rfl rfl ?_
        refine xs_inc (e := 1) rfl rfl rfl rfl ?_
        refine xr_stp rfl rfl rfl rfl ?_
        exact lw_leL d c s A W0 G hw hg hG S q at_ n t u i R ht r m (k + 1) _ (by omega) (by omega) K
/-- deltas that all have go -/
def lw_dn (t : Nat) : Nat → (Nat → Nat) → (Nat → Nat)
  | 0, G => G
  | m + 1, G => lw_dn t m (lw_dp G t)
theorem lw_dnL (d c s A N : Nat) (hN : N < 1000000) (hg : 17 ≤ A) (S q at_ n t u i R : Nat) (ht : t < 4) (l : Nat) (r : xi_R → Prop) : ∀ (m : Nat) (G : Nat → Nat) (W0 : xi_W), lw_J N G → l ≤ G (338 + t) → m = l - G (342 + t) → W0[A]? = some (lw_a 1804 G) → (∀ W', W'[A]? = some (lw_a 1804 (lw_dn t m G)) → fr (· = A) W0 W' → xr (d + 1) 197 191 [(11, .int (Int32.ofNat 4)), (9, .long (Int64.ofNat l)), (8, .int (Int32.ofNat at_)), (3, .int (Int32.ofNat n)), (7, .int (Int32.ofNat t)), (6, .int (Int32.ofNat u)), (5, .ref R), (4, .int (Int32.ofNat i)), (0, .ref S), (1, .int (Int32.ofNat q)), (2, .ref A)] [] W' c s r) → xr (d + 1) 197 168 [(11, .int (Int32.ofNat 4)), (9, .long (Int64.ofNat l)), (8, .int (Int32.ofNat at_)), (3, .int (Int32.ofNat n)), (7, .int (Int32.ofNat t)), (6, .int (Int32.ofNat u)), (5, .ref R), (4, .int (Int32.ofNat i)), (0, .ref S), (1, .int (Int32.ofNat q)), (2, .ref A)] [] W0 c s r
  | 0, G, W0, hJ, hl, hm, hw, K => by
    have hG := hJ.b63
    have hl2 := hG (338 + t)
    refine xr_stp rfl rfl rfl rfl ?_
    refine xr_stp (st' := .int (Int32.ofNat 342) :: _) rfl rfl rfl rfl ?_
    refine xr_stp rfl rfl rfl rfl ?_
    refine xs_add rfl ?_
    refine xs_ald hw hg (by omega) (by omega) rfl ?_
    refine xr_stp rfl rfl rfl rfl ?_
    refine xs_lc (by exact hG _) (by omega) rfl ?_
    refine xr_j1 rfl rfl rfl rfl rfl (fun h179 => ?_) (fun h179 => ?_)
    · exact K _ hw fr.rf
    · exact absurd (lf_ge h179) (by omega)
  | m + 1, G, W0, hJ, hl, hm, hw, K => by
    have hF : fr (· = A) W0 W0 := fr.rf
    have hG := hJ.b63
    have hl2 := hG (338 + t)
    have hc := hJ.c t ht
    refine xr_stp rfl rfl rfl rfl ?_
    refine xr_stp (st' := .int (Int32.ofNat 342) :: _) rfl rfl rfl rfl ?_
    refine xr_stp rfl rfl rfl rfl ?_
    refine xs_add rfl ?_
    refine xs_ald hw hg (by omega) (by omega) rfl ?_
    refine xr_stp rfl rfl rfl rfl ?_
    refine xs_lc (by exact hG _) (by omega) rfl ?_
    refine xr_j1 rfl rfl rfl rfl rfl (fun h179 => ?_) (fun h179 => ?_)
    · exact absurd (lt_ge h179) (by omega)
    · refine xr_stp rfl rfl rfl rfl ?_
      refine xr_stp rfl rfl rfl rfl ?_
      refine xr_cps rfl rfl rfl (fun r1 K2 => lw_drops _ _ _ A W0 G hw hg t ht (by omega) (by omega) (by omega) r1 (fun W hw hf1 => K2 _ _ _ _ ?_))
      have hF := hF.tr hf1
      refine xr_stp rfl rfl rfl rfl ?_
      exact lw_dnL d _ _ A N hN hg S q at_ n t u i R ht l r m (lw_dp G t) _ (hJ.drop t ht (by omega) hN) (by rw [lw_dp8]; exact hl) (by rw [lw_dp2]; omega) hw (fun W2 h1 h2 => K W2 h1 (hF.tr h2))
theorem lw_J.dn {N : Nat} (hN : N < 1000000) (t : Nat) (ht : t < 4) (l : Nat) : ∀ (m : Nat) (G : Nat → Nat), lw_J N G → l ≤ G (338 + t) → m = l - G (342 + t) → lw_J N (lw_dn t m G)
  | 0, _, h, _, _ => h
  | m + 1, G, h, hl, hm => lw_J.dn hN t ht l m _ (h.drop t ht (by omega) hN) (by rw [lw_dp8]; exact hl) (by rw [lw_dp2]; omega)
def lw_tL (S q A n i : Nat) (L : xi_L) : Prop := L = [(4, .int (Int32.ofNat i)), (3, .int (Int32.ofNat n)), (0, .ref S), (1, .int (Int32.ofNat q)), (2, .ref A)] ∨ (∃ e a b v, L = [(4, .int (Int32.ofNat i)), (8, .long e), (3, .int (Int32.ofNat n)), (7, .int a), (6, .int b), (5, v), (0, .ref S), (1, .int (Int32.ofNat q)), (2, .ref A)]) ∨ (∃ e a b v g, L = [(4, .int (Int32.ofNat i)), (8, .long e), (3, .int (Int32.ofNat n)), (7, .int a), (6, .int b), (5, v), (11, .int g), (0, .ref S), (1, .int (Int32.ofNat q)), (2, .ref A)]) ∨ (∃ g e h a b v, L = [(4, .int (Int32.ofNat i)), (11, .int g), (9, .long e), (8, .int h), (3, .int (Int32.ofNat n)), (7, .int a), (6, .int b), (5, v), (0, .ref S), (1, .int (Int32.ofNat q)), (2, .ref A)])
def lw_a3 (G : Nat → Nat) (u t v : Nat) : Nat → Nat := xn_u G (346 + 4 * t + u) (max (G (346 + 4 * t + u)) v)
/-- an answer comes -/
def lw_a4 (G : Nat → Nat) (u t v : Nat) : Nat → Nat := lw_dn t (lw_le (lw_a3 G u t v) t 4 0 (lw_a3 G u t v (338 + t)) - lw_a3 G u t v (342 + t)) (lw_a3 G u t v)
def lw_b3 (G : Nat → Nat) (t h kn : Nat) : Nat → Nat := if lw_j (G (330 + 2 * t)) (G (331 + 2 * t)) h kn ≠ G (330 + 2 * t) ∨ kn &&& (G (331 + 2 * t) ^^^ 18446744073709551615) ≠ 0 then lw_tk G t h kn else G
def lw_m2 (G : Nat → Nat) (i : Nat) : Nat → Nat := lw_ts (lw_tn G i) 4 (lw_tm G i 1) (lw_tm G i 0)
/-- a message comes -/
def lw_mk (nn : Nat) (f : Nat → Int32) (q : Nat) (G : Nat → Nat) (i : Nat) : Nat → Nat := if lw_tm G i 5 = 1 then lw_a4 (lw_m2 G i) (lw_tm G i 0) (lw_tm G i 1) (lw_tm G i 4) else lw_po nn f (lw_b3 (lw_m2 G i) (lw_tm G i 1) (lw_tm G i 6) (lw_tm G i 7)) q (lw_tm G i 1) (lw_tm G i 0) (lw_tm G i 4) 1 0 0
theorem lw_mg3 (d c s A S nn : Nat) (W0 : xi_W) (G : Nat → Nat) (f : Nat → Int32) (hw : W0[A]? = some (lw_a 1804 G)) (hg : 17 ≤ A) (hs : W0[S]? = some (lw_s nn f)) (hn : nn < 2147483648) (hSA : S ≠ A) (R N : Nat) (M : Nat → Nat) (hr : W0[R]? = some (lw_a 8 M)) (gR : 17 ≤ R) (nRA : R ≠ A) (hJ : lw_J N G) (hN : N + 1 < 1000000) (q u t n i : Nat) (hq : q < 2) (hu : u < 4) (ht : t < 4) (hup : M 4 ≤ G (338 + u)) (e : Int64) (L : xi_L) (hL : L = [(8, .long e), (3, .int (Int32.ofNat n)), (7, .int (Int32.ofNat t)), (6, .int (Int32.ofNat u)), (5, .ref R), (4, .int (Int32.ofNat i)), (0, .ref S), (1, .int (Int32.ofNat q)), (2, .ref A)] ∨ ∃ g, L = [(8, .long e), (3, .int (Int32.ofNat n)), (7, .int (Int32.ofNat t)), (6, .int (Int32.ofNat u)), (5, .ref R), (4, .int (Int32.ofNat i)), (11, .int g), (0, .ref S), (1, .int (Int32.ofNat q)), (2, .ref A)]) (r : xi_R → Prop) (K : ∀ L' W' c' s', c' ≤ c + 1 → s' ≤ s + 8 → lw_tL S q A n (lw_fi (lw_po nn f G q t u (M 4) 1 0 0) (lw_po nn f G q t u (M 4) 1 0 0 410) 0 4294967295) L' → W'[A]? = some (lw_a 1804 (lw_po nn f G q t u (M 4) 1 0 0)) → fr (· = A) W0 W' → xr (d + 4) 197 15 L' [] W' c' s' r) : xr (d + 4) 197 286 L [] W0 c s r := by
  have hx := hJ.x
  have hJ9 : lw_J (N + 1) (lw_po nn f G q t u (M 4) 1 0 0) := hJ.po nn f q t u (M 4) 1 0 0 ht hu (by omega) (by rw [if_neg (by omega)]; exact hup) (by omega) (by omega) hN
  have hF : fr (· = A) W0 W0 := fr.rf
  rcases hL with rfl | ⟨g, rfl⟩
  all_goals
    refine xr_stp rfl rfl rfl rfl ?_
    refine xr_stp rfl rfl rfl rfl ?_
    refine xr_stp rfl rfl rfl rfl ?_
    refine xr_stp rfl rfl rfl rfl ?_
    refine xr_stp rfl rfl rfl rfl ?_
    refine xr_stp rfl rfl rfl rfl ?_
    refine xr_stp (st' := .int (Int32.ofNat 4) :: _) rfl rfl rfl rfl ?_
    refine xs_ald hr gR (by omega) (by omega) rfl ?_
    refine xr_stp (st' := .int (Int32.ofNat 1) :: _) rfl rfl rfl rfl ?_
    refine xr_stp (st' := .long (Int64.ofNat 0) :: _) rfl rfl rfl rfl ?_
    refine xr_stp (st' := .long (Int64.ofNat 0) :: _) rfl rfl rfl rfl ?_
    refine xr_cps rfl rfl rfl (fun r1 K2 => lw_posts _ _ _ A S nn W0 G f hw hg hs hn hSA hJ.b63 q t u (M 4) 1 0 0 hq ht hu (by omega) (by omega) (by omega) hJ.m hJ.k r1 (fun W c2 s2 q1 q2 hw hf1 => K2 _ _ _ _ ?_))
    have hF := hF.tr hf1
    refine xr_stp rfl rfl rfl rfl ?_
    refine xr_cps rfl rfl rfl (fun r1 K2 => lw_first _ _ _ A W _ hw hg hJ9.b63 hJ9.m r1 (K2 _ _ _ _ ?_))
    refine xr_stp rfl rfl rfl rfl ?_
    refine xr_stp rfl rfl rfl rfl ?_
    exact K _ _ _ _ (by omega) (by omega) (by first | exact Or.inr (Or.inl ⟨_, _, _, _, rfl⟩) | exact Or.inr (Or.inr (Or.inl ⟨_, _, _, _, _, rfl⟩))) hw hF
theorem lw_b3J {N : Nat} {G : Nat → Nat} (h : lw_J N G) (t hh kn : Nat) (ht : t < 4) (h1 : hh < 4611686018427387904) (h2 : kn < 4611686018427387904) (hN : N + 1 < 1000000) : lw_J (N + 1) (lw_b3 G t hh kn) := by
  unfold lw_b3
  split
  · exact h.take t hh kn ht h1 h2 hN
  · exact h.mono (by omega)
theorem lw_tkc {G : Nat → Nat} (t hh kn : Nat) (ht : t < 4) (hc : G (342 + t) ≤ G (338 + t) ∧ G (338 + t) ≤ G (342 + t) + 6) (u : Nat) (hu : u < 4) : G (338 + u) ≤ lw_tk G t hh kn (338 + u) := by
  have hk : G (338 + u) ≤ lw_k0 G t (338 + u) ∧ lw_k0 G t (338 + t) ≤ lw_k0 G t (342 + t) + 5 := by
    unfold lw_k0
    split
    · refine ⟨?_, by rw [lw_dp2, lw_dp8]; omega⟩
      unfold lw_dp
      rw [xn_un _ _ (by omega), lw_d1o _ _ (by omega)]
      exact Nat.le_refl _
    · exact ⟨Nat.le_refl _, by omega⟩
  obtain ⟨h1, h5⟩ := hk
  have o1 : lw_k1 (lw_k0 G t) t hh kn (338 + u) = lw_k0 G t (338 + u) := by
    unfold lw_k1
    rw [xn_un _ _ (by omega), xn_un _ _ (by omega)]
  have o2 : lw_k0 G t (338 + u) ≤ lw_k2 (lw_k0 G t) t hh kn (338 + u) := by
    unfold lw_k2
    by_cases e : u = t
    · subst e
      rw [xn_ue, o1]
      omega
    · rw [xn_un _ _ (by omega), o1]
      exact Nat.le_refl _
  unfold lw_tk lw_k3
  rw [xn_un _ _ (by omega), xn_un _ _ (by omega)]
  omega
theorem lw_b3c {G : Nat → Nat} (t hh kn : Nat) (ht : t < 4) (hc : G (342 + t) ≤ G (338 + t) ∧ G (338 + t) ≤ G (342 + t) + 6) (u : Nat) (hu : u < 4) : G (338 + u) ≤ lw_b3 G t hh kn (338 + u) := by
  unfold lw_b3
  split
  · exact lw_tkc t hh kn ht hc u hu
  · exact Nat.le_refl _
theorem lw_J.mk {N : Nat} {G : Nat → Nat} (hJ : lw_J N G) (nn : Nat) (f : Nat → Int32) (q i : Nat) (hi : i < G 410) (hN : N + 2 < 1000000) : lw_J (N + 2) (lw_mk nn f q G i) := by
  have hJ1 := hJ.tn i hi
  have f0 := hJ.f i hi
  have t0 : lw_tm G i 0 = G (411 + 8 * i) := lw_tmv G i (by omega)
  have t1 := lw_tmv G i (x := 1) (by omega)
  have t4 := lw_tmv G i (x := 4) (by omega)
  have t5 := lw_tmv G i (x := 5) (by omega)
  have t6 := lw_tmv G i (x := 6) (by omega)
  have t7 := lw_tmv G i (x := 7) (by omega)
  unfold lw_fm at f0
  rw [← t0, ← t1, ← t4, ← t5] at f0
  obtain ⟨f1, f2, f3, f4⟩ := f0
  have b6 : lw_tm G i 6 < 4611686018427387904 := by rw [t6]; exact hJ.b _
  have b7 : lw_tm G i 7 < 4611686018427387904 := by rw [t7]; exact hJ.b _
  have hJ2 : lw_J N (lw_m2 G i) := hJ1.ts 4 _ _ (by omega) (by omega) (by omega)
  have hm := hJ.m
  have o2 : ∀ j, j < 410 → lw_m2 G i j = G j := fun j hj => by
    unfold lw_m2
    rw [lw_tso _ _ _ _ (by omega), lw_tnv _ _ (by omega), if_neg (by omega)]
  have hJ3 : lw_tm G i 5 = 1 → lw_J N (lw_a3 (lw_m2 G i) (lw_tm G i 0) (lw_tm G i 1) (lw_tm G i 4)) := fun e => hJ2.ack _ _ _ f2 f1 (by
    rw [e, if_neg (by omega)] at f4
    have := hJ2.a (lw_tm G i 1) (lw_tm G i 0) f2 f1
    rw [o2 (338 + lw_tm G i 1) (by omega)] at *
    omega)
  have hJ4 : lw_tm G i 5 = 1 → lw_J N (lw_a4 (lw_m2 G i) (lw_tm G i 0) (lw_tm G i 1) (lw_tm G i 4)) := fun e => lw_J.dn (by omega) _ f2 (lw_le (lw_a3 (lw_m2 G i) (lw_tm G i 0) (lw_tm G i 1) (lw_tm G i 4)) (lw_tm G i 1) 4 0 (lw_a3 (lw_m2 G i) (lw_tm G i 0) (lw_tm G i 1) (lw_tm G i 4) (338 + lw_tm G i 1))) _ _ (hJ3 e) (lw_lele _ _ _ _ _) rfl
  have hJ5 : lw_J (N + 1) (lw_b3 (lw_m2 G i) (lw_tm G i 1) (lw_tm G i 6) (lw_tm G i 7)) := lw_b3J hJ2 _ _ _ f2 b6 b7 (by omega)
  have c5 : lw_tm G i 5 ≠ 1 → lw_tm G i 4 ≤ lw_b3 (lw_m2 G i) (lw_tm G i 1) (lw_tm G i 6) (lw_tm G i 7) (338 + lw_tm G i 0) := fun e => by
    rw [if_pos (by omega)] at f4
    have hc := hJ2.c _ f2
    have := lw_b3c (lw_tm G i 1) (lw_tm G i 6) (lw_tm G i 7) f2 ⟨hc.1, hc.2.1⟩ (lw_tm G i 0) f1
    rw [o2 _ (by omega)] at this
    omega
  unfold lw_mk
  split
  · rename_i e
    exact (hJ4 e).mono (by omega)
  · rename_i e
    exact hJ5.po nn f q _ _ _ 1 0 0 f2 f1 (by omega) (by rw [if_neg (by omega)]; exact c5 e) (by omega) (by omega) (by omega)
