/-! the law: all messages of a tick -/
theorem lw_fil (G : Nat → Nat) : ∀ (m i b : Nat), (b < i ∨ b = 4294967295) → lw_fi G m i b < i + m ∨ lw_fi G m i b = 4294967295
  | 0, _, _, h => h
  | m + 1, i, b, h => by
    unfold lw_fi
    have := lw_fil G m (i + 1) (if b = 4294967295 ∨ G (411 + 8 * i + 2) < G (411 + 8 * b + 2) ∨ (G (411 + 8 * i + 2) = G (411 + 8 * b + 2) ∧ G (411 + 8 * i + 3) < G (411 + 8 * b + 3)) then i else b) (by split <;> omega)
    omega
def lw_ft (G : Nat → Nat) : Nat := lw_fi G (G 410) 0 4294967295
theorem lw_ftl (G : Nat → Nat) : lw_ft G < G 410 ∨ lw_ft G = 4294967295 := by
  have := lw_fil G (G 410) 0 4294967295 (Or.inr rfl)
  unfold lw_ft
  omega
/-- a message comes now -/
def lw_du (G : Nat → Nat) : Prop := lw_ft G ≠ 4294967295 ∧ G (411 + 8 * lw_ft G + 2) = G 0
def lw_ms (nn : Nat) (f : Nat → Int32) (q : Nat) : Nat → (Nat → Nat) → (Nat → Nat)
  | 0, G => G
  | m + 1, G => if lw_ft G ≠ 4294967295 ∧ G (411 + 8 * lw_ft G + 2) = G 0 then lw_ms nn f q m (lw_mk nn f q G (lw_ft G)) else G
def lw_mc (nn : Nat) (f : Nat → Int32) (q : Nat) : Nat → (Nat → Nat) → Nat
  | 0, _ => 0
  | m + 1, G => if lw_ft G ≠ 4294967295 ∧ G (411 + 8 * lw_ft G + 2) = G 0 then lw_mc nn f q m (lw_mk nn f q G (lw_ft G)) + 1 else 0
def lw_me (nn : Nat) (f : Nat → Int32) (q : Nat) : Nat → (Nat → Nat) → Prop
  | 0, G => ¬ lw_du G
  | m + 1, G => lw_du G → lw_me nn f q m (lw_mk nn f q G (lw_ft G))
theorem lw_ms0 {nn : Nat} {f : Nat → Int32} {q m : Nat} {G : Nat → Nat} (h : ¬ lw_du G) : lw_ms nn f q m G = G ∧ lw_mc nn f q m G = 0 := by
  cases m with
  | zero => exact ⟨rfl, rfl⟩
  | succ m => exact ⟨if_neg h, if_neg h⟩
theorem lw_ms1 {nn : Nat} {f : Nat → Int32} {q m : Nat} {G : Nat → Nat} (h : lw_du G) : lw_ms nn f q (m + 1) G = lw_ms nn f q m (lw_mk nn f q G (lw_ft G)) ∧ lw_mc nn f q (m + 1) G = lw_mc nn f q m (lw_mk nn f q G (lw_ft G)) + 1 := ⟨if_pos h, if_pos h⟩
theorem lw_mlE (d c s A S n N q : Nat) (W0 : xi_W) (G : Nat → Nat) (hw : W0[A]? = some (lw_a 1804 G)) (hg : 17 ≤ A) (hJ : lw_J N G) (L : xi_L) (hL : lw_tL S q A n (lw_ft G) L) (r : xi_R → Prop) (K1 : ¬ lw_du G → xr d 197 312 L [] W0 c s r) (K2 : lw_du G → xr d 197 40 L [] W0 c s r) : xr d 197 15 L [] W0 c s r := by
  have hl := lw_ftl G
  have hm := hJ.m
  have hb := hJ.b63
  have h00 := hb 0
  unfold lw_du at K1 K2
  rcases hL with rfl | ⟨_, _, _, _, rfl⟩ | ⟨_, _, _, _, _, rfl⟩ | ⟨_, _, _, _, _, _, rfl⟩
  all_goals
    refine xr_stp rfl rfl rfl rfl ?_
    refine xr_j1 rfl rfl rfl rfl rfl (fun h17 => ?_) (fun h17 => ?_)
    · have e17 := hl.resolve_left (fun z => n_lt0 h17 (by omega))
      exact K1 (fun z => z.1 e17)
    · have e17 : lw_ft G < G 410 := hl.resolve_right (fun z => by rw [z] at h17; exact absurd h17 (by decide +kernel))
      refine xr_stp rfl rfl rfl rfl ?_
      refine xr_stp (st' := .int (Int32.ofNat 411) :: _) rfl rfl rfl rfl ?_
      refine xr_stp (st' := .int (Int32.ofNat 8) :: _) rfl rfl rfl rfl ?_
      refine xr_stp rfl rfl rfl rfl ?_
      refine xs_mul rfl ?_
      refine xs_add rfl ?_
      refine xr_stp (st' := .int (Int32.ofNat 2) :: _) rfl rfl rfl rfl ?_
      refine xs_add rfl ?_
      refine xs_ald hw hg (by omega) (by omega) rfl ?_
      refine xr_stp rfl rfl rfl rfl ?_
      refine xr_stp (st' := .int (Int32.ofNat 0) :: _) rfl rfl rfl rfl ?_
      refine xs_ald hw hg (by omega) (by omega) rfl ?_
      refine xs_lc (by exact hb _) (by exact hb _) rfl ?_
      refine xr_j1 rfl rfl rfl rfl rfl (fun h37 => ?_) (fun h37 => ?_)
      · exact K1 (fun z => lt_ne h37 z.2)
      · exact K2 ⟨by omega, lf_ne h37⟩
theorem lw_mlL (d A S nn : Nat) (f : Nat → Int32) (hg : 17 ≤ A) (hn : nn < 2147483648) (hSA : S ≠ A) (q : Nat) (hq : q < 2) (r : xi_R → Prop) : ∀ (m n N c s : Nat) (G : Nat → Nat) (W0 : xi_W) (L : xi_L), lw_J N G → N + 2 * m < 1000000 → lw_me nn f q m G → lw_tL S q A n (lw_ft G) L → W0[A]? = some (lw_a 1804 G) → W0[S]? = some (lw_s nn f) → (∀ L' i' W' c' s', c' ≤ c + 2 * m → s' ≤ s + 16 * m → lw_tL S q A (n + lw_mc nn f q m G) i' L' → W'[A]? = some (lw_a 1804 (lw_ms nn f q m G)) → fr (· = A) W0 W' → xr (d + 4) 197 312 L' [] W' c' s' r) → xr (d + 4) 197 15 L [] W0 c s r
  | 0, n, N, c, s, G, W0, L, hJ, hN, he, hL, hw, hs, K => lw_mlE _ c s A S n N q W0 G hw hg hJ L hL r (fun _ => K L _ W0 c s (by omega) (by omega) hL hw fr.rf) (fun z => absurd z he)
  | m + 1, n, N, c, s, G, W0, L, hJ, hN, he, hL, hw, hs, K => by
    refine lw_mlE _ c s A S n N q W0 G hw hg hJ L hL r (fun z => ?_) (fun z => ?_)
    · obtain ⟨z1, z2⟩ := lw_ms0 (nn := nn) (f := f) (q := q) (m := m + 1) z
      rw [z1, z2] at K
      exact K L _ W0 c s (by omega) (by omega) hL hw fr.rf
    · obtain ⟨z1, z2⟩ := lw_ms1 (nn := nn) (f := f) (q := q) (m := m) z
      rw [z1, z2] at K
      have hi : lw_ft G < G 410 := (lw_ftl G).resolve_right z.1
      refine lw_msg d c s A S nn W0 G f hw hg hs hn hSA N hJ (by omega) q n (lw_ft G) hq hi L hL r (fun L2 W2 c2 s2 x1 x2 x3 x4 x5 => ?_)
      exact lw_mlL d A S nn f hg hn hSA q hq r m (n + 1) (N + 2) c2 s2 (lw_mk nn f q G (lw_ft G)) W2 L2 (hJ.mk nn f q _ hi (by omega)) (by omega) (he z) x3 x4 (x5.at hs hSA) (fun L3 i3 W3 c3 s3 y1 y2 y3 y4 y5 => K L3 i3 W3 c3 s3 (by omega) (by omega) (by rw [show n + (lw_mc nn f q m (lw_mk nn f q G (lw_ft G)) + 1) = n + 1 + lw_mc nn f q m (lw_mk nn f q G (lw_ft G)) by omega]; exact y3) y4 (x5.tr y5))
def lw_tX (S q A n : Nat) (X : xi_L) : Prop := (∃ i, X = [(4, .int i), (3, .int (Int32.ofNat n)), (0, .ref S), (1, .int (Int32.ofNat q)), (2, .ref A)]) ∨ (∃ i e a, X = [(4, .int i), (8, .long e), (3, .int (Int32.ofNat n)), (7, .int a), (0, .ref S), (1, .int (Int32.ofNat q)), (2, .ref A)]) ∨ (∃ i e a g, X = [(4, .int i), (8, .long e), (3, .int (Int32.ofNat n)), (7, .int a), (11, .int g), (0, .ref S), (1, .int (Int32.ofNat q)), (2, .ref A)]) ∨ (∃ i g e h a, X = [(4, .int i), (11, .int g), (9, .long e), (8, .int h), (3, .int (Int32.ofNat n)), (7, .int a), (0, .ref S), (1, .int (Int32.ofNat q)), (2, .ref A)])
theorem n_ge0f {off : Int} {a : Nat} (ha : a < 2147483648) (h : xg_t1 (.ifCond .ge off) (Int32.ofNat a) = false) : False := by
  have h2 : ¬ 0 ≤ Int32.ofNat a := of_decide_eq_false h
  exact h2 ((n_le (a := 0) (b := a) (by omega) ha).mpr (by omega))
def lw_y1 (nn : Nat) (f : Nat → Int32) (q : Nat) (G : Nat → Nat) (u t : Nat) : Nat → Nat := if u ≠ t ∧ lw_be G u t ≠ 0 ∧ lw_sp nn f G q u t (lw_be G u t) ≠ 0 then lw_sn nn f G q u t else G
def lw_yi (nn : Nat) (f : Nat → Int32) (q u : Nat) : Nat → Nat → (Nat → Nat) → (Nat → Nat)
  | 0, _, G => G
  | m + 1, t, G => lw_yi nn f q u m (t + 1) (lw_y1 nn f q G u t)
def lw_yo (nn : Nat) (f : Nat → Int32) (q : Nat) : Nat → Nat → (Nat → Nat) → (Nat → Nat)
  | 0, _, G => G
  | m + 1, u, G => lw_yo nn f q m (u + 1) (lw_yi nn f q u 4 0 G)
theorem lw_J.y1 {N : Nat} {G : Nat → Nat} (h : lw_J N G) (nn : Nat) (f : Nat → Int32) (q u t : Nat) (hu : u < 4) (ht : t < 4) (hN : N + 1 < 1000000) : lw_J (N + 1) (lw_y1 nn f q G u t) := by
  unfold lw_y1
  split
  · exact h.sn nn f q u t hu ht hN
  · exact h.mono (by omega)
theorem lw_J.yi (nn : Nat) (f : Nat → Int32) (q u : Nat) (hu : u < 4) : ∀ (m t N : Nat) (G : Nat → Nat), t + m = 4 → lw_J N G → N + m < 1000000 → lw_J (N + m) (lw_yi nn f q u m t G)
  | 0, _, _, _, _, h, _ => h
  | m + 1, t, N, G, ht, h, hN => by
    have := lw_J.yi nn f q u hu m (t + 1) (N + 1) _ (by omega) (h.y1 nn f q u t hu (by omega) (by omega)) (by omega)
    rw [show N + 1 + m = N + (m + 1) by omega] at this
    exact this
theorem lw_J.yo (nn : Nat) (f : Nat → Int32) (q : Nat) : ∀ (m u N : Nat) (G : Nat → Nat), u + m = 4 → lw_J N G → N + 4 * m < 1000000 → lw_J (N + 4 * m) (lw_yo nn f q m u G)
  | 0, _, _, _, _, h, _ => h
  | m + 1, u, N, G, hu, h, hN => by
    have := lw_J.yo nn f q m (u + 1) (N + 4) _ (by omega) (lw_J.yi nn f q u (by omega) 4 0 N G rfl h (by omega)) (by omega)
    rw [show N + 4 + 4 * m = N + 4 * (m + 1) by omega] at this
    exact this
theorem lw_sple (n : Nat) (f : Nat → Int32) (G : Nat → Nat) (q t u b : Nat) : lw_sp n f G q t u b ≤ 1 := by
  unfold lw_sp
  split
  · omega
  · split <;> omega
theorem lw_be9 {N : Nat} {G : Nat → Nat} (h : lw_J N G) (u t : Nat) (hu : u < 4) : lw_be G u t ≤ N := by
  have := (h.c u hu).2.2
  unfold lw_be
  omega
theorem lw_inL (d A S nn : Nat) (f : Nat → Int32) (hg : 17 ≤ A) (hn : nn < 2147483648) (hSA : S ≠ A) (q : Nat) (hq : q < 2) (r : xi_R → Prop) (n : Nat) (X : xi_L) (hX : lw_tX S q A n X) (u : Nat) (hu : u < 4) : ∀ (m t N c s : Nat) (G : Nat → Nat) (W0 : xi_W), t + m = 4 → lw_J N G → N + m < 1000000 → W0[A]? = some (lw_a 1804 G) → W0[S]? = some (lw_s nn f) → (∀ W' c' s', c' ≤ c + 2 * m → s' ≤ s + 10 * m → W'[A]? = some (lw_a 1804 (lw_yi nn f q u m t G)) → fr (· = A) W0 W' → xr (d + 5) 197 390 ((6, .int (Int32.ofNat 4)) :: (5, .int (Int32.ofNat u)) :: X) [] W' c' s' r) → xr (d + 5) 197 324 ((6, .int (Int32.ofNat t)) :: (5, .int (Int32.ofNat u)) :: X) [] W0 c s r
  | 0, t, N, c, s, G, W0, hm, hJ, hN, hw, hs, K => by
    obtain rfl : t = 4 := by omega
    rcases hX with ⟨_, rfl⟩ | ⟨_, _, _, rfl⟩ | ⟨_, _, _, _, rfl⟩ | ⟨_, _, _, _, _, rfl⟩
    all_goals
      refine xr_stp rfl rfl rfl rfl ?_
      refine xr_stp (st' := .int (Int32.ofNat 4) :: _) rfl rfl rfl rfl ?_
      refine xr_j2 rfl rfl rfl rfl rfl (fun h327 => ?_) (fun h327 => ?_)
      · exact K _ _ _ (by omega) (by omega) hw fr.rf
      · exact absurd (nf_ge (by omega) (by omega) h327) (by omega)
  | m + 1, t, N, c, s, G, W0, hm, hJ, hN, hw, hs, K => by
    have hbe := lw_be9 hJ u t hu
    have hsp := lw_sple nn f G q u t (lw_be G u t)
    have hb := hJ.b63
    have hx := hJ.x
    have hcu := hJ.c u hu
    unfold lw_yi at K
    have hX2 := hX
    rcases hX2 with ⟨_, rfl⟩ | ⟨_, _, _, rfl⟩ | ⟨_, _, _, _, rfl⟩ | ⟨_, _, _, _, _, rfl⟩
    all_goals
      refine xr_stp rfl rfl rfl rfl ?_
      refine xr_stp (st' := .int (Int32.ofNat 4) :: _) rfl rfl rfl rfl ?_
      refine xr_j2 rfl rfl rfl rfl rfl (fun h327 => ?_) (fun h327 => ?_)
      · exact absurd (nt_ge (by omega) (by omega) h327) (by omega)
      · refine xr_stp rfl rfl rfl rfl ?_
        refine xr_stp rfl rfl rfl rfl ?_
        refine xr_j2 rfl rfl rfl rfl rfl (fun h334 => ?_) (fun h334 => ?_)
        · have e334 := nt_eq (by omega) (by omega) h334
          refine xs_inc (e := 1) rfl rfl rfl rfl ?_
          refine xr_stp rfl rfl rfl rfl ?_
          first
            | (refine lw_inL d A S nn f hg hn hSA q hq r n _ hX u hu m (t + 1) (N + 1) _ _ (lw_sn nn f G q u t) W (by omega) (hJ.sn nn f q u t hu (by omega) (by omega)) (by omega) hw hs (fun W3 c3 s3 y1 y2 y3 y4 => K W3 c3 s3 (by omega) (by omega) ?_ (hf1.tr y4))
               rw [show lw_y1 nn f q G u t = lw_sn nn f G q u t from if_pos ⟨e334, by omega, e366⟩]
               exact y3)
            | (refine lw_inL d A S nn f hg hn hSA q hq r n _ hX u hu m (t + 1) N _ _ G W0 (by omega) hJ (by omega) hw hs (fun W3 c3 s3 y1 y2 y3 y4 => K W3 c3 s3 (by omega) (by omega) ?_ y4)
               rw [show lw_y1 nn f q G u t = G from if_neg (fun z => by first | exact z.1 e334 | exact z.2.1 e345 | exact z.2.2 e366)]
               exact y3)
        · have e334 := nf_eq h334
          refine xr_stp rfl rfl rfl rfl ?_
          refine xr_stp rfl rfl rfl rfl ?_
          refine xr_stp rfl rfl rfl rfl ?_
          refine xr_cps rfl rfl rfl (fun r1 K2 => lw_behind _ _ _ A W0 G hw hg u t hu (by omega) (hJ.a u t hu (by omega)) r1 (K2 _ _ _ _ ?_))
          refine xr_j1 rfl rfl rfl rfl rfl (fun h345 => ?_) (fun h345 => ?_)
          · have e345 := nt1_le (by omega) h345
            refine xs_inc (e := 1) rfl rfl rfl rfl ?_
            refine xr_stp rfl rfl rfl rfl ?_
            first
              | (refine lw_inL d A S nn f hg hn hSA q hq r n _ hX u hu m (t + 1) (N + 1) _ _ (lw_sn nn f G q u t) W (by omega) (hJ.sn nn f q u t hu (by omega) (by omega)) (by omega) hw hs (fun W3 c3 s3 y1 y2 y3 y4 => K W3 c3 s3 (by omega) (by omega) ?_ (hf1.tr y4))
                 rw [show lw_y1 nn f q G u t = lw_sn nn f G q u t from if_pos ⟨e334, by omega, e366⟩]
                 exact y3)
              | (refine lw_inL d A S nn f hg hn hSA q hq r n _ hX u hu m (t + 1) N _ _ G W0 (by omega) hJ (by omega) hw hs (fun W3 c3 s3 y1 y2 y3 y4 => K W3 c3 s3 (by omega) (by omega) ?_ y4)
                 rw [show lw_y1 nn f q G u t = G from if_neg (fun z => by first | exact z.1 e334 | exact z.2.1 e345 | exact z.2.2 e366)]
                 exact y3)
          · have e345 := nf1_le (by omega) h345
            refine xr_stp rfl rfl rfl rfl ?_
            refine xr_stp rfl rfl rfl rfl ?_
            refine xr_stp rfl rfl rfl rfl ?_
            refine xr_stp rfl rfl rfl rfl ?_
            refine xr_stp rfl rfl rfl rfl ?_
            refine xr_stp rfl rfl rfl rfl ?_
            refine xr_stp rfl rfl rfl rfl ?_
            refine xr_stp rfl rfl rfl rfl ?_
            refine xr_cps rfl rfl rfl (fun r1 K2 => lw_behind _ _ _ A W0 G hw hg u t hu (by omega) (hJ.a u t hu (by omega)) r1 (K2 _ _ _ _ ?_))
            refine xr_cps rfl rfl rfl (fun r1 K2 => lw_speaks _ _ _ S nn A W0 f hs hn G hw hg (hb _) q u t (lw_be G u t) hq hu (by omega) (by omega) r1 (K2 _ _ _ _ ?_))
            refine xr_j1 rfl rfl rfl rfl rfl (fun h366 => ?_) (fun h366 => ?_)
            · have e366 := nt1_eq (by omega) h366
              refine xs_inc (e := 1) rfl rfl rfl rfl ?_
              refine xr_stp rfl rfl rfl rfl ?_
              first
                | (refine lw_inL d A S nn f hg hn hSA q hq r n _ hX u hu m (t + 1) (N + 1) _ _ (lw_sn nn f G q u t) W (by omega) (hJ.sn nn f q u t hu (by omega) (by omega)) (by omega) hw hs (fun W3 c3 s3 y1 y2 y3 y4 => K W3 c3 s3 (by omega) (by omega) ?_ (hf1.tr y4))
                   rw [show lw_y1 nn f q G u t = lw_sn nn f G q u t from if_pos ⟨e334, by omega, e366⟩]
                   exact y3)
                | (refine lw_inL d A S nn f hg hn hSA q hq r n _ hX u hu m (t + 1) N _ _ G W0 (by omega) hJ (by omega) hw hs (fun W3 c3 s3 y1 y2 y3 y4 => K W3 c3 s3 (by omega) (by omega) ?_ y4)
                   rw [show lw_y1 nn f q G u t = G from if_neg (fun z => by first | exact z.1 e334 | exact z.2.1 e345 | exact z.2.2 e366)]
                   exact y3)
            · have e366 := nf1_eq h366
              refine xr_stp rfl rfl rfl rfl ?_
              refine xr_stp rfl rfl rfl rfl ?_
              refine xr_stp rfl rfl rfl rfl ?_
              refine xr_stp rfl rfl rfl rfl ?_
              refine xr_stp rfl rfl rfl rfl ?_
              refine xr_cps rfl rfl rfl (fun r1 K2 => lw_sends _ _ _ A S nn W0 G f hw hg hs hn hSA hb q u t hq hu (by omega) (hJ.a u t hu (by omega)) hcu.2.1 (by omega) (by omega) (by omega) hJ.m hJ.k r1 (fun W c2 s2 q1 q2 hw hf1 => K2 _ _ _ _ ?_))
              have hs := hf1.at hs hSA
              refine xr_j1 rfl rfl rfl rfl rfl (fun h379 => ?_) (fun h379 => ?_)
              · refine xs_inc (e := 1) rfl rfl rfl rfl ?_
                refine xr_stp rfl rfl rfl rfl ?_
                first
                  | (refine lw_inL d A S nn f hg hn hSA q hq r n _ hX u hu m (t + 1) (N + 1) _ _ (lw_sn nn f G q u t) W (by omega) (hJ.sn nn f q u t hu (by omega) (by omega)) (by omega) hw hs (fun W3 c3 s3 y1 y2 y3 y4 => K W3 c3 s3 (by omega) (by omega) ?_ (hf1.tr y4))
                     rw [show lw_y1 nn f q G u t = lw_sn nn f G q u t from if_pos ⟨e334, by omega, e366⟩]
                     exact y3)
                  | (refine lw_inL d A S nn f hg hn hSA q hq r n _ hX u hu m (t + 1) N _ _ G W0 (by omega) hJ (by omega) hw hs (fun W3 c3 s3 y1 y2 y3 y4 => K W3 c3 s3 (by omega) (by omega) ?_ y4)
                     rw [show lw_y1 nn f q G u t = G from if_neg (fun z => by first | exact z.1 e334 | exact z.2.1 e345 | exact z.2.2 e366)]
                     exact y3)
              · exact (n_ge0f (by omega) h379).elim
