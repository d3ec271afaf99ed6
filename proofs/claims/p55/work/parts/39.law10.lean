/-! the law: a message comes -/
theorem lw_mg2 (d c s A S : Nat) (W0 : xi_W) (G : Nat → Nat) (hw : W0[A]? = some (lw_a 1804 G)) (hg : 17 ≤ A) (R N : Nat) (hJ : lw_J N G) (hN : N < 1000000) (at_ q u t n i : Nat) (ht : t < 4) (r : xi_R → Prop) (K : ∀ L' W', lw_tL S q A n (lw_fi (lw_dn t (lw_le G t 4 0 (G (338 + t)) - G (342 + t)) G) (lw_dn t (lw_le G t 4 0 (G (338 + t)) - G (342 + t)) G 410) 0 4294967295) L' → W'[A]? = some (lw_a 1804 (lw_dn t (lw_le G t 4 0 (G (338 + t)) - G (342 + t)) G)) → fr (· = A) W0 W' → xr (d + 4) 197 15 L' [] W' c s r) : xr (d + 4) 197 124 [(11, .int (Int32.ofNat 0)), (9, .long (Int64.ofNat (G (338 + t)))), (8, .int (Int32.ofNat at_)), (3, .int (Int32.ofNat n)), (7, .int (Int32.ofNat t)), (6, .int (Int32.ofNat u)), (5, .ref R), (4, .int (Int32.ofNat i)), (0, .ref S), (1, .int (Int32.ofNat q)), (2, .ref A)] [] W0 c s r := by
  have hJ9 : lw_J N (lw_dn t (lw_le G t 4 0 (G (338 + t)) - G (342 + t)) G) := lw_J.dn hN t ht (lw_le G t 4 0 (G (338 + t))) _ G hJ (lw_lele _ _ _ _ _) rfl
  refine lw_leL _ _ _ A W0 G hw hg hJ.b63 S q at_ n t u i R ht r 4 0 _ (by omega) (hJ.b63 _) ?_
  refine lw_dnL _ _ _ A N hN hg S q at_ n t u i R ht _ r _ G W0 hJ (lw_lele _ _ _ _ _) rfl hw (fun W hw hF => ?_)
  refine xr_stp rfl rfl rfl rfl ?_
  refine xr_stp rfl rfl rfl rfl ?_
  refine xr_cps rfl rfl rfl (fun r1 K2 => lw_first _ _ _ A W _ hw hg hJ9.b63 hJ9.m r1 (K2 _ _ _ _ ?_))
  refine xr_stp rfl rfl rfl rfl ?_
  refine xr_stp rfl rfl rfl rfl ?_
  exact K _ _ (Or.inr (Or.inr (Or.inr ⟨_, _, _, _, _, _, rfl⟩))) hw hF
theorem lw_mkn {nn : Nat} {f : Nat → Int32} {q : Nat} {G : Nat → Nat} {i : Nat} (e : lw_tm G i 5 ≠ 1) : lw_mk nn f q G i = lw_po nn f (lw_b3 (lw_m2 G i) (lw_tm G i 1) (lw_tm G i 6) (lw_tm G i 7)) q (lw_tm G i 1) (lw_tm G i 0) (lw_tm G i 4) 1 0 0 := if_neg e
theorem lw_mky {nn : Nat} {f : Nat → Int32} {q : Nat} {G : Nat → Nat} {i : Nat} (e : lw_tm G i 5 = 1) : lw_mk nn f q G i = lw_a4 (lw_m2 G i) (lw_tm G i 0) (lw_tm G i 1) (lw_tm G i 4) := if_pos e
theorem lw_b3t {G : Nat → Nat} {t h kn : Nat} (e : lw_j (G (330 + 2 * t)) (G (331 + 2 * t)) h kn ≠ G (330 + 2 * t) ∨ kn &&& (G (331 + 2 * t) ^^^ 18446744073709551615) ≠ 0) : lw_b3 G t h kn = lw_tk G t h kn := if_pos e
theorem lw_b3f {G : Nat → Nat} {t h kn : Nat} (e1 : lw_j (G (330 + 2 * t)) (G (331 + 2 * t)) h kn = G (330 + 2 * t)) (e2 : kn &&& (G (331 + 2 * t) ^^^ 18446744073709551615) = 0) : lw_b3 G t h kn = G := if_neg (fun z => z.elim (fun z => z e1) (fun z => z e2))
theorem lw_msg (d c s A S nn : Nat) (W0 : xi_W) (G : Nat → Nat) (f : Nat → Int32) (hw : W0[A]? = some (lw_a 1804 G)) (hg : 17 ≤ A) (hs : W0[S]? = some (lw_s nn f)) (hn : nn < 2147483648) (hSA : S ≠ A) (N : Nat) (hJ : lw_J N G) (hN : N + 2 < 1000000) (q n i : Nat) (hq : q < 2) (hi : i < G 410) (L : xi_L) (hL : lw_tL S q A n i L) (r : xi_R → Prop) (K : ∀ L' W' c' s', c' ≤ c + 2 → s' ≤ s + 16 → lw_tL S q A (n + 1) (lw_fi (lw_mk nn f q G i) (lw_mk nn f q G i 410) 0 4294967295) L' → W'[A]? = some (lw_a 1804 (lw_mk nn f q G i)) → fr (· = A) W0 W' → xr (d + 4) 197 15 L' [] W' c' s' r) : xr (d + 4) 197 40 L [] W0 c s r := by
  have hF : fr (· = A) W0 W0 := fr.rf
  have hJ1 := hJ.tn i hi
  have f0 := hJ.f i hi
  have t0 : lw_tm G i 0 = G (411 + 8 * i) := lw_tmv G i (by omega)
  have t1 := lw_tmv G i (x := 1) (by omega)
  have t4 := lw_tmv G i (x := 4) (by omega)
  have t5 := lw_tmv G i (x := 5) (by omega)
  have t6 := lw_tmv G i (x := 6) (by omega)
  have t7 := lw_tmv G i (x := 7) (by omega)
  unfold lw_fm at f0
  rw [← t0, ← t1, ← t4, ← t5] at f0
  obtain ⟨f1, f2, f3, f4⟩ := f0
  have b6 : lw_tm G i 6 < 4611686018427387904 := by rw [t6]; exact hJ.b _
  have b7 : lw_tm G i 7 < 4611686018427387904 := by rw [t7]; exact hJ.b _
  have hJ2 : lw_J N (lw_m2 G i) := hJ1.ts 4 _ _ (by omega) (by omega) (by omega)
  have hm := hJ.m
  have o2 : ∀ j, j < 410 → lw_m2 G i j = G j := fun j hj => by
    unfold lw_m2
    rw [lw_tso _ _ _ _ (by omega), lw_tnv _ _ (by omega), if_neg (by omega)]
  have hJ3 : lw_tm G i 5 = 1 → lw_J N (lw_a3 (lw_m2 G i) (lw_tm G i 0) (lw_tm G i 1) (lw_tm G i 4)) := fun e => hJ2.ack _ _ _ f2 f1 (by
    rw [e, if_neg (by omega)] at f4
    have := hJ2.a (lw_tm G i 1) (lw_tm G i 0) f2 f1
    rw [o2 (338 + lw_tm G i 1) (by omega)] at *
    omega)
  have hJ4 : lw_tm G i 5 = 1 → lw_J N (lw_a4 (lw_m2 G i) (lw_tm G i 0) (lw_tm G i 1) (lw_tm G i 4)) := fun e => lw_J.dn (by omega) _ f2 (lw_le (lw_a3 (lw_m2 G i) (lw_tm G i 0) (lw_tm G i 1) (lw_tm G i 4)) (lw_tm G i 1) 4 0 (lw_a3 (lw_m2 G i) (lw_tm G i 0) (lw_tm G i 1) (lw_tm G i 4) (338 + lw_tm G i 1))) _ _ (hJ3 e) (lw_lele _ _ _ _ _) rfl
  have hJ5 : lw_J (N + 1) (lw_b3 (lw_m2 G i) (lw_tm G i 1) (lw_tm G i 6) (lw_tm G i 7)) := lw_b3J hJ2 _ _ _ f2 b6 b7 (by omega)
  have c5 : lw_tm G i 5 ≠ 1 → lw_tm G i 4 ≤ lw_b3 (lw_m2 G i) (lw_tm G i 1) (lw_tm G i 6) (lw_tm G i 7) (338 + lw_tm G i 0) := fun e => by
    rw [if_pos (by omega)] at f4
    have hc := hJ2.c _ f2
    have := lw_b3c (lw_tm G i 1) (lw_tm G i 6) (lw_tm G i 7) f2 ⟨hc.1, hc.2.1⟩ (lw_tm G i 0) f1
    rw [o2 _ (by omega)] at this
    omega
  have hb63 := hJ.b63
  have hb2 := hJ2.b63
  have e4 : lw_tm G i 4 < 9223372036854775808 := by rw [t4]; exact hb63 _
  rcases hL with rfl | ⟨_, _, _, _, rfl⟩ | ⟨_, _, _, _, _, rfl⟩ | ⟨_, _, _, _, _, _, rfl⟩
  all_goals
    refine xr_stp rfl rfl rfl rfl ?_
    refine xr_stp rfl rfl rfl rfl ?_
    refine xr_cps rfl rfl rfl (fun r1 K2 => lw_taken _ _ _ A W0 G hw hg i hi hJ.m r1 (fun R W zR hr hw hf1 => K2 _ _ _ _ ?_))
    have hltA := (List.getElem?_eq_some_iff.mp ‹W0[A]? = _›).1
    have nRA : R ≠ A := by omega
    have gR : 17 ≤ R := by omega
    have hs := hf1.at hs hSA
    have hF := hF.tr hf1
    refine xr_stp rfl rfl rfl rfl ?_
    refine xr_stp rfl rfl rfl rfl ?_
    refine xr_stp (st' := .int (Int32.ofNat 0) :: _) rfl rfl rfl rfl ?_
    refine xs_ald hr gR (by omega) (by omega) rfl ?_
    refine xs_l2i rfl ?_
    refine xr_stp rfl rfl rfl rfl ?_
    refine xr_stp rfl rfl rfl rfl ?_
    refine xr_stp (st' := .int (Int32.ofNat 1) :: _) rfl rfl rfl rfl ?_
    refine xs_ald hr gR (by omega) (by omega) rfl ?_
    refine xs_l2i rfl ?_
    refine xr_stp rfl rfl rfl rfl ?_
    refine xs_inc (e := 1) rfl rfl rfl rfl ?_
    refine xr_stp rfl rfl rfl rfl ?_
    refine xr_stp (st' := .int (Int32.ofNat 4) :: _) rfl rfl rfl rfl ?_
    refine xr_stp rfl rfl rfl rfl ?_
    refine xr_stp rfl rfl rfl rfl ?_
    refine xr_cps rfl rfl rfl (fun r1 K2 => lw_tells _ _ _ A W (lw_tn G i) hw hg 4 (lw_tm G i 1) (lw_tm G i 0) (by omega) (by omega) (by omega) hJ1.k r1 (fun W hw hf1 => K2 _ _ _ _ ?_))
    have hr := hf1.at hr nRA
    have hs := hf1.at hs hSA
    have hF := hF.tr hf1
    change W[A]? = some (lw_a 1804 (lw_m2 G i)) at hw
    refine xr_stp rfl rfl rfl rfl ?_
    refine xr_stp (st' := .int (Int32.ofNat 5) :: _) rfl rfl rfl rfl ?_
    refine xs_ald hr gR (by omega) (by omega) rfl ?_
    refine xr_stp (st' := .long (Int64.ofNat 1) :: _) rfl rfl rfl rfl ?_
    refine xs_lc (by omega) (by omega) rfl ?_
    refine xr_j1 rfl rfl rfl rfl rfl (fun h80 => ?_) (fun h80 => ?_)
    · have e80 := lt_ne h80
      rw [lw_mkn e80] at K
      refine xr_stp rfl rfl rfl rfl ?_
      refine xr_stp (st' := .int (Int32.ofNat 330) :: _) rfl rfl rfl rfl ?_
      refine xr_stp (st' := .int (Int32.ofNat 2) :: _) rfl rfl rfl rfl ?_
      refine xr_stp rfl rfl rfl rfl ?_
      refine xs_mul rfl ?_
      refine xs_add rfl ?_
      refine xs_ald hw hg (by omega) (by omega) rfl ?_
      refine xr_stp rfl rfl rfl rfl ?_
      refine xr_stp (st' := .int (Int32.ofNat 331) :: _) rfl rfl rfl rfl ?_
      refine xr_stp (st' := .int (Int32.ofNat 2) :: _) rfl rfl rfl rfl ?_
      refine xr_stp rfl rfl rfl rfl ?_
      refine xs_mul rfl ?_
      refine xs_add rfl ?_
      refine xs_ald hw hg (by omega) (by omega) rfl ?_
      refine xr_stp rfl rfl rfl rfl ?_
      refine xr_stp (st' := .int (Int32.ofNat 6) :: _) rfl rfl rfl rfl ?_
      refine xs_ald hr gR (by omega) (by omega) rfl ?_
      refine xr_stp rfl rfl rfl rfl ?_
      refine xr_stp (st' := .int (Int32.ofNat 7) :: _) rfl rfl rfl rfl ?_
      refine xs_ald hr gR (by omega) (by omega) rfl ?_
      refine xr_cps rfl rfl rfl (fun r1 K2 => lw_joins _ _ _ _ _ _ _ _ r1 (K2 _ _ _ _ ?_))
      refine xr_stp rfl rfl rfl rfl ?_
      refine xr_stp rfl rfl rfl rfl ?_
      refine xr_stp rfl rfl rfl rfl ?_
      refine xr_stp (st' := .int (Int32.ofNat 330) :: _) rfl rfl rfl rfl ?_
      refine xr_stp (st' := .int (Int32.ofNat 2) :: _) rfl rfl rfl rfl ?_
      refine xr_stp rfl rfl rfl rfl ?_
      refine xs_mul rfl ?_
      refine xs_add rfl ?_
      refine xs_ald hw hg (by omega) (by omega) rfl ?_
      refine xs_lc (by exact lw_j63 (n := 63) (hb2 _) (Nat.lt_trans b6 (by omega))) (by exact hb2 _) rfl ?_
      refine xr_j1 rfl rfl rfl rfl rfl (fun h242 => ?_) (fun h242 => ?_)
      · have e242 := lt_ne h242
        refine xr_stp rfl rfl rfl rfl ?_
        refine xr_stp rfl rfl rfl rfl ?_
        refine xr_stp rfl rfl rfl rfl ?_
        refine xr_stp (st' := .int (Int32.ofNat 6) :: _) rfl rfl rfl rfl ?_
        refine xs_ald hr gR (by omega) (by omega) rfl ?_
        refine xr_stp rfl rfl rfl rfl ?_
        refine xr_stp (st' := .int (Int32.ofNat 7) :: _) rfl rfl rfl rfl ?_
        refine xs_ald hr gR (by omega) (by omega) rfl ?_
        refine xr_cps rfl rfl rfl (fun r1 K2 => lw_takes _ _ _ A W _ hw hg (lw_tm G i 1) (lw_tm G i 6) (lw_tm G i 7) f2 (hJ2.c _ f2).1 (hJ2.c _ f2).2.1 (by have := (hJ2.c _ f2).2.2; omega) r1 (fun W hw hf1 => K2 _ _ _ _ ?_))
        have hr := hf1.at hr nRA
        have hs := hf1.at hs hSA
        have hF := hF.tr hf1
        first | rw [lw_b3t (Or.inl e242)] at K hJ5 c5 | rw [lw_b3t (Or.inr e267)] at K hJ5 c5 | rw [lw_b3f e242 e267] at K hJ5 c5
        refine lw_mg3 _ _ _ A S nn W _ f hw hg hs hn hSA R (N + 1) (lw_tm G i) hr gR nRA hJ5 (by omega) q (lw_tm G i 0) (lw_tm G i 1) (n + 1) i hq f1 f2 (c5 e80) _ _ (by first | exact Or.inl rfl | exact Or.inr ⟨_, rfl⟩) r (fun L2 W2 c2 s2 z4 z5 z1 z2 z3 => K L2 W2 _ _ (by omega) (by omega) z1 z2 (hF.tr z3))
      · have e242 := lf_ne h242
        refine xr_stp rfl rfl rfl rfl ?_
        refine xr_stp (st' := .int (Int32.ofNat 7) :: _) rfl rfl rfl rfl ?_
        refine xs_ald hr gR (by omega) (by omega) rfl ?_
        refine xr_stp rfl rfl rfl rfl ?_
        refine xr_stp (st' := .int (Int32.ofNat 331) :: _) rfl rfl rfl rfl ?_
        refine xr_stp (st' := .int (Int32.ofNat 2) :: _) rfl rfl rfl rfl ?_
        refine xr_stp rfl rfl rfl rfl ?_
        refine xs_mul rfl ?_
        refine xs_add rfl ?_
        refine xs_ald hw hg (by omega) (by omega) rfl ?_
        refine xr_stp (st' := .long (Int64.ofNat 18446744073709551615) :: _) rfl rfl rfl rfl ?_
        refine xs_lxor rfl ?_
        refine xs_land rfl ?_
        refine xr_stp (st' := .long (Int64.ofNat 0) :: _) rfl rfl rfl rfl ?_
        refine xs_lc (by exact Nat.lt_of_le_of_lt Nat.and_le_left (Nat.lt_trans b7 (by omega))) (by omega) rfl ?_
        refine xr_j1 rfl rfl rfl rfl rfl (fun h267 => ?_) (fun h267 => ?_)
        · have e267 := lt_eq h267
          first | rw [lw_b3t (Or.inl e242)] at K hJ5 c5 | rw [lw_b3t (Or.inr e267)] at K hJ5 c5 | rw [lw_b3f e242 e267] at K hJ5 c5
          refine lw_mg3 _ _ _ A S nn W _ f hw hg hs hn hSA R (N + 1) (lw_tm G i) hr gR nRA hJ5 (by omega) q (lw_tm G i 0) (lw_tm G i 1) (n + 1) i hq f1 f2 (c5 e80) _ _ (by first | exact Or.inl rfl | exact Or.inr ⟨_, rfl⟩) r (fun L2 W2 c2 s2 z4 z5 z1 z2 z3 => K L2 W2 _ _ (by omega) (by omega) z1 z2 (hF.tr z3))
        · have e267 := lf_eq h267
          refine xr_stp rfl rfl rfl rfl ?_
          refine xr_stp rfl rfl rfl rfl ?_
          refine xr_stp rfl rfl rfl rfl ?_
          refine xr_stp (st' := .int (Int32.ofNat 6) :: _) rfl rfl rfl rfl ?_
          refine xs_ald hr gR (by omega) (by omega) rfl ?_
          refine xr_stp rfl rfl rfl rfl ?_
          refine xr_stp (st' := .int (Int32.ofNat 7) :: _) rfl rfl rfl rfl ?_
          refine xs_ald hr gR (by omega) (by omega) rfl ?_
          refine xr_cps rfl rfl rfl (fun r1 K2 => lw_takes _ _ _ A W _ hw hg (lw_tm G i 1) (lw_tm G i 6) (lw_tm G i 7) f2 (hJ2.c _ f2).1 (hJ2.c _ f2).2.1 (by have := (hJ2.c _ f2).2.2; omega) r1 (fun W hw hf1 => K2 _ _ _ _ ?_))
          have hr := hf1.at hr nRA
          have hs := hf1.at hs hSA
          have hF := hF.tr hf1
          first | rw [lw_b3t (Or.inl e242)] at K hJ5 c5 | rw [lw_b3t (Or.inr e267)] at K hJ5 c5 | rw [lw_b3f e242 e267] at K hJ5 c5
          refine lw_mg3 _ _ _ A S nn W _ f hw hg hs hn hSA R (N + 1) (lw_tm G i) hr gR nRA hJ5 (by omega) q (lw_tm G i 0) (lw_tm G i 1) (n + 1) i hq f1 f2 (c5 e80) _ _ (by first | exact Or.inl rfl | exact Or.inr ⟨_, rfl⟩) r (fun L2 W2 c2 s2 z4 z5 z1 z2 z3 => K L2 W2 _ _ (by omega) (by omega) z1 z2 (hF.tr z3))
    · have e80 := lf_ne h80
      rw [lw_mky e80] at K
      refine xr_stp (st' := .int (Int32.ofNat 346) :: _) rfl rfl rfl rfl ?_
      refine xr_stp (st' := .int (Int32.ofNat 4) :: _) rfl rfl rfl rfl ?_
      refine xr_stp rfl rfl rfl rfl ?_
      refine xs_mul rfl ?_
      refine xs_add rfl ?_
      refine xr_stp rfl rfl rfl rfl ?_
      refine xs_add rfl ?_
      refine xr_stp rfl rfl rfl rfl ?_
      refine xr_stp rfl rfl rfl rfl ?_
      refine xr_stp rfl rfl rfl rfl ?_
      refine xr_stp rfl rfl rfl rfl ?_
      refine xr_stp rfl rfl rfl rfl ?_
      refine xs_ald hw hg (by omega) (by omega) rfl ?_
      refine xr_stp rfl rfl rfl rfl ?_
      refine xr_stp (st' := .int (Int32.ofNat 4) :: _) rfl rfl rfl rfl ?_
      refine xs_ald hr gR (by omega) (by omega) rfl ?_
      refine xs_lmax (hb2 _) e4 rfl rfl rfl ?_
      refine xs_astk hw hg (by omega) (by omega) rfl (fun W hw hf1 => ?_)
      have hs := hf1.at hs hSA
      have hr := hf1.at hr nRA
      have hF := hF.tr2 hf1 (fun _ e => Or.inl e)
      refine xr_stp rfl rfl rfl rfl ?_
      refine xr_stp (st' := .int (Int32.ofNat 338) :: _) rfl rfl rfl rfl ?_
      refine xr_stp rfl rfl rfl rfl ?_
      refine xs_add rfl ?_
      refine xs_ald hw hg (by omega) (by omega) rfl ?_
      refine xr_stp rfl rfl rfl rfl ?_
      refine xr_stp (st' := .int (Int32.ofNat 0) :: _) rfl rfl rfl rfl ?_
      refine xr_stp rfl rfl rfl rfl ?_
      refine lw_mg2 _ _ _ A S W (lw_a3 (lw_m2 G i) (lw_tm G i 0) (lw_tm G i 1) (lw_tm G i 4)) hw hg R N (hJ3 e80) (by omega) _ q (lw_tm G i 0) (lw_tm G i 1) (n + 1) i f2 r (fun L2 W2 z1 z2 z3 => K L2 W2 _ _ (by omega) (by omega) z1 z2 (hF.tr z3))
