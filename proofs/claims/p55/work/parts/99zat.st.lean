/-! the law itself: all of it -/
theorem rex.k3 {T : Nat} {P : Nat → Prop} {W W' : xi_W} (h : rex T W) (hf : fr P W W') (h6 : ¬ P 356) (h7 : ¬ P 357) (hp : ∀ i, 687 ≤ i → (∃ L4, W[i]? = some (.inr (4, L4))) → ¬ P i) : rex T W' := by
  obtain ⟨⟨RD, r1, r2, r3⟩, ⟨TD, r4⟩⟩ := h
  refine ⟨⟨RD, hf.at r1 h6, r2, fun i hi => ?_⟩, ⟨TD, hf.at r4 h7⟩⟩
  rcases r3 i hi with e | ⟨u, L4, e1, e2, e3⟩
  · exact Or.inl e
  · exact Or.inr ⟨u, L4, e1, e2, hf.at e3 (hp u e2 ⟨L4, e3⟩)⟩
theorem fsh.td {W : xi_W} (h : fsh W) : W[357]? = some (lw_i 32 (fun _ => 0)) := h.2.2.2.2.2.2.2.2.2.2.2.2.2.1
def wP (i : Nat) : Prop := (17 ≤ i ∧ i ≤ 22) ∨ i = 355 ∨ i = 356 ∨ 687 ≤ i
def t00 (nn : Nat) (f : Nat → Int32) : Nat → Nat := adt nn f 7 0 (fun _ => 0) 77
theorem t00_at (nn : Nat) (f : Nat → Int32) {j : Nat} (h : j < 77) : t00 nn f j = ach nn f 7 j := if_pos ⟨by omega, by omega⟩
theorem t00_k (nn : Nat) (f : Nat → Int32) {j : Nat} (h : j < 77) (hm : tmk j = false) : t00 nn f j = kb 7 j := by
  rw [t00_at nn f h]
  refine if_neg (fun z => ?_)
  unfold tmk at hm
  rw [Bool.and_eq_false_iff] at hm
  rcases hm with e | e
  · rw [Nat.ble_eq.mpr z.1] at e; cases e
  · rw [Nat.ble_eq.mpr z.2] at e; cases e
theorem t00_d (nn : Nat) (f : Nat → Int32) {j : Nat} (h : j < 77) (hm : tmk j = true) : t00 nn f j = 48 + lw_dg nn f (kb 7 j - 65) := by
  rw [t00_at nn f h]
  unfold tmk at hm
  rw [Bool.and_eq_true] at hm
  exact if_pos ⟨Nat.ble_eq.mp hm.1, Nat.ble_eq.mp hm.2⟩
theorem t00_lt (nn : Nat) (f : Nat → Int32) {j : Nat} (h : j < 77) : t00 nn f j < 128 := by
  cases hm : tmk j with
  | true => rw [t00_d nn f h hm]; have := lw_dgb nn f (kb 7 j - 65); omega
  | false => rw [t00_k nn f h hm]; exact (kbE 7 (by omega) j h).2
theorem mAll (d c s nn : Nat) (f : Nat → Int32) (W0 : xi_W) (hnn : nn < 2147483648) (hk : kc W0) (hS : W0[16]? = some (lw_s nn f)) (hl0 : W0.length = 17) (r : xi_R → Prop) (K : ∀ W' c' s', c' ≤ c + 50000 → s' ≤ s + 900000 → r (some (.int (Int32.ofNat 1)), W', c', s')) : xr (d + 14) 199 0 [(0, .ref 16)] [] W0 c s r := by
  obtain ⟨dl, edl⟩ : ∃ dl, dl = 1 + lw_pk nn f 10 % 4 := ⟨_, rfl⟩
  have hd1 : 1 ≤ dl := by omega
  have hd4 : dl ≤ 4 := by omega
  have hp9 := lw_pkb nn f 9
  have hp10 := lw_pkb nn f 10
  refine xs_new rfl rfl (fun R W1 eR h17 hf1 hl1 => ?_)
  obtain rfl : R = 17 := by omega
  refine xr_stp rfl rfl rfl rfl ?_
  refine xr_cps rfl rfl rfl (fun r1 K2 => dnC _ _ _ W1 (by omega) h17 r1 (fun W2 c2_ s2_ hl2 hfs hf2 kc2 ks2 => K2 _ _ _ _ ?_))
  obtain ⟨c2, ec2⟩ : ∃ c2, c2 = c + 1 + c2_ := ⟨_, rfl⟩
  obtain ⟨s2, es2⟩ : ∃ s2, s2 = s + xt_nf 6 + s2_ := ⟨_, rfl⟩
  have es3 : s2 ≤ s + 10 + 65000 := by rw [es2]; simp only [show xt_nf 6 = 10 from rfl]; omega
  have hfs1 := hfs.1
  have hk2 := (hk.keep hf1 (fun i hi z => z)).keep hf2 (fun i hi z => by have z : i = 17 := z; omega)
  have hS2 := hf2.at (hf1.at hS (fun z => z)) (by omega)
  refine xr_stp rfl rfl rfl rfl ?_
  refine xr_stp (st' := .int (Int32.ofNat 300) :: _) rfl rfl rfl rfl ?_
  refine xs_newj (by omega) rfl (fun R W3 eR hX hf3 hl3 => ?_)
  obtain rfl : R = 687 := by omega
  have hk3 := hk2.keep hf3 (fun i hi z => z)
  have hS3 := hf3.at hS2 (fun z => z)
  have hO3 := hf3.at hfs1 (fun z => z)
  refine xr_stp rfl rfl rfl rfl ?_
  have key : ∀ q, q < 2 → xr (d + 14) 199 30 [(0, .ref 16), (1, .ref 17), (2, .ref 687)] [.int (Int32.ofNat q)] W3 (c2 + 1) (s2 + 300) r := fun q hq => by
    refine xr_stp rfl rfl rfl rfl ?_
    refine xr_stp rfl rfl rfl rfl ?_
    refine xr_stp rfl rfl rfl rfl ?_
    refine xr_stp rfl rfl rfl rfl ?_
    refine xr_stp rfl rfl rfl rfl ?_
    refine xr_stp (st' := .int (Int32.ofNat 0) :: _) rfl rfl rfl rfl ?_
    refine xr_stp rfl rfl rfl rfl ?_
    refine xr_cps rfl rfl rfl (fun r1 K2 => xr_cnt (lw_adds _ _ _ nn f hnn 7 0 687 (fun _ => 0) (by omega) (by omega) (show 0 + 77 ≤ 300 by omega) W3 hk3 hS3 hX _ (fun W4 hX4 hf4 e4 => K2 _ _ _ _ ?_)))
    dsimp only at e4
    have hX4 : W4[687]? = some (lw_i 300 (t00 nn f)) := hX4
    have hO4 := hf4.at hO3 (by omega)
    have hrd4 : RDW 0 (fun _ => 0) W4 := ⟨hk3.keep hf4 (fun i hi => by omega), ⟨_, _, _, _, _, _, _, _, _, _, hf4.at (hf3.at hfs.2.1 (fun z => z)) (by omega)⟩, hf4.at (hf3.at hfs.2.2.1 (fun z => z)) (by omega), ⟨_, hf4.at (hf3.at hfs.2.2.2.1 (fun z => z)) (by omega)⟩, ⟨_, hf4.at (hf3.at hfs.2.2.2.2.1 (fun z => z)) (by omega)⟩, ⟨_, hf4.at (hf3.at hfs.2.2.2.2.2.1 (fun z => z)) (by omega)⟩⟩
    refine xr_cps rfl rfl rfl (fun r1 K2 => xr_cnt (lw_feeds _ _ _ 77 687 (t00 nn f) _ _ (by omega) (fun j hj => t00_lt nn f hj) (by omega) W4 hO4 0 (fun _ => 0) (by omega) hrd4 hX4 _ (fun W5 tp c5 s5 ec5 es5 hrd5 htp5 hf5 e5 => K2 _ _ _ _ ?_)))
    dsimp only at e5
    have hl5 : W5.length = 692 := by omega
    have n5 : ∀ i, i < 18 ∨ 22 < i → ¬ rdp i := fun i h z => by unfold rdp at z; omega
    have hO5 := hf5.at hO4 (n5 _ (by omega))
    have hR5 : ruo W5 0 4294967295 2 0 := hf5.at (hf4.at (hf3.at hfs.2.2.2.2.2.2.2.2.2.2.2.1 (fun z => z)) (by omega)) (n5 _ (by omega))
    have hq5 : rud W5 (fun _ => none) := hf5.at (hf4.at (hf3.at hfs.2.2.2.2.2.2.2.2.2.2.2.2.1 (fun z => z)) (by omega)) (n5 _ (by omega))
    obtain ⟨-, ⟨st5, nx5, tk5, nu5, fa5, pl5, mn5, pa5, cd5, lw5, hrr⟩, -⟩ := id hrd5
    have hE : tkE tp 0 7 77 tmk := fun j hj hm => by rw [Nat.zero_add, htp5 j hj]; exact t00_k nn f hj hm
    have hd : ∀ e, e < 77 → tmk e = true → tp (0 + e) = 48 + lw_dg nn f (kb 7 e - 65) := fun e he hm => by rw [Nat.zero_add, htp5 e he]; exact t00_d nn f he hm
    have hb : ∀ j, j < 77 → tp j < 128 := fun j hj => by rw [htp5 j hj]; exact t00_lt nn f hj
    refine xr_j1 rfl rfl rfl rfl rfl (fun h44 => ?_) (fun h44 => ?_)
    · have z44 := nt1_eq (by omega) h44
      exact (by omega)
    · refine xr_stp rfl rfl rfl rfl ?_
      refine xr_vcps hO5 rfl rfl rfl rfl rfl rfl (fun r1 K2 => xr_cnt (cl_text _ _ _ W5.length 0 4294967295 2 0 4 82 W5 (fun _ => none) _ _ hO5 hR5 hq5 (by omega) (by omega) (by omega) _ st5 nx5 tk5 nu5 fa5 pl5 mn5 pa5 cd5 lw5 hrr (fun W => txt nn f W W5.length ∧ TX0 W W5.length ∧ RDW 77 tp W) (fun r2 H => rd_TEXT _ _ _ W5 tp nn f hrd5 hE hb hd (by omega) (by omega) r2 H) _ (fun W6 W7 hP hf6 hf7 h17 h18 hR7 hrd7 e7 => K2 _ _ _ _ ?_)))
      dsimp only at e7
      refine xr_j1 rfl rfl rfl rfl rfl (fun h51 => ?_) (fun h51 => ?_)
      · have z51 := nt1_ne h51
        exact (by omega)
      · have n7 : ∀ i, i ≠ 17 → i ≠ 18 → i ≠ 355 → i ≠ 356 → ¬ (i = 17 ∨ i = 18 ∨ i = 355 ∨ i = 356) := fun i a b c d z => by omega
        have nr : ∀ i, i < 18 ∨ 22 < i → ¬ rdp i := fun i h z => by unfold rdp at z; omega
        obtain ⟨j1, j2, j3, j4, j5, j6, j7, j8, j9, j10, h18⟩ := h18
        obtain ⟨k1, -, k3, ⟨C4, k4⟩, ⟨P5, k5⟩, ⟨B6, k6⟩⟩ := id hP.2.2
        have hRD7 : RDW 0 tp W7 := ⟨k1.keep hf7 (fun i hi => n7 i (by omega) (by omega) (by omega) (by omega)), ⟨_, _, _, _, _, _, _, _, _, _, h18⟩, hf7.at k3 (n7 _ (by omega) (by omega) (by omega) (by omega)), ⟨C4, hf7.at k4 (n7 _ (by omega) (by omega) (by omega) (by omega))⟩, ⟨P5, hf7.at k5 (n7 _ (by omega) (by omega) (by omega) (by omega))⟩, ⟨B6, hf7.at k6 (n7 _ (by omega) (by omega) (by omega) (by omega))⟩⟩
        have ht7 := hP.1.keep hf7 (fun i hi => n7 i (by omega) (by omega) (by omega) (by omega))
        have hT7 := hP.2.1.keep hf7 (fun i hi => n7 i (by omega) (by omega) (by omega) (by omega))
        have hX7 := hf7.at (hf6.at (hf5.at hX4 (nr _ (by omega))) (nr _ (by omega))) (n7 _ (by omega) (by omega) (by omega) (by omega))
        have hS7 := hf7.at (hf6.at (hf5.at (hf4.at hS3 (by omega)) (nr _ (by omega))) (nr _ (by omega))) (n7 _ (by omega) (by omega) (by omega) (by omega))
        have f27 : fr wP W2 W7 := (hf3.weak (P2 := wP) (fun i _ z => z.elim)).tr ((hf4.weak (P2 := wP) (fun i _ z => by have z : i = 687 := z; unfold wP; omega)).tr ((hf5.weak (P2 := wP) (fun i _ z => by unfold rdp at z; unfold wP; omega)).tr ((hf6.weak (P2 := wP) (fun i _ z => by unfold rdp at z; unfold wP; omega)).tr (hf7.weak (P2 := wP) (fun i _ z => by have z : i = 17 ∨ i = 18 ∨ i = 355 ∨ i = 356 := z; unfold wP; omega)))))
        have key2 : ∀ c7 s7, c7 ≤ c2 + 20 → s7 ≤ s2 + 600 → ∀ W8, ruo W8 1 (if q = 0 then 4294967295 else 0) 2 0 → fr (fun i => i = 355) W7 W8 → W8.length = W7.length → xr (d + 14) 199 67 [(0, .ref 16), (1, .ref 17), (2, .ref 687), (3, .int (Int32.ofNat q))] [.int (Int32.ofNat 1)] W8 c7 s7 r := by
          intro c7 s7 hc7 hs7 W8 hR8 hf8 hl8
          have f28 : fr wP W2 W8 := f27.tr (hf8.weak (P2 := wP) (fun i _ z => by have z : i = 355 := z; unfold wP; omega))
          have hO8 := hf8.at h17 (by omega)
          have hrd8 : rud W8 (va_up (fun _ => none) 0 (some W5.length)) := hf8.at hrd7 (by omega)
          have hP8 : txt nn f W8 W5.length ∧ TX0 W8 W5.length ∧ RDW 0 tp W8 := ⟨ht7.keep hf8 (fun i hi => by omega), hT7.keep hf8 (fun i hi => by omega), hRD7.keep hf8 (fun i h1 h2 => by omega) (Or.inr trivial)⟩
          have hX8 := hf8.at hX7 (by omega)
          have hS8 := hf8.at hS7 (by omega)
          refine xr_j1 rfl rfl rfl rfl rfl (fun h67 => ?_) (fun h67 => ?_)
          · refine xr_stp (st' := .int (Int32.ofNat 1804) :: _) rfl rfl rfl rfl ?_
            refine xs_newq (by omega) rfl (fun R W9 eR hA hf9 hl9 => ?_)
            obtain rfl : R = 696 := by omega
            refine xr_stp rfl rfl rfl rfl ?_
            refine xr_stp rfl rfl rfl rfl ?_
            refine xr_stp (st' := .int (Int32.ofNat 1) :: _) rfl rfl rfl rfl ?_
            refine xr_stp (st' := .long (Int64.ofNat 509) :: _) rfl rfl rfl rfl ?_
            refine xs_lsl hA (by omega) (by omega) (by omega) rfl (fun W10 hA hf10 hl10 => ?_)
            refine xr_stp rfl rfl rfl rfl ?_
            refine xr_stp (st' := .int (Int32.ofNat 5) :: _) rfl rfl rfl rfl ?_
            refine xr_stp (st' := .int (Int32.ofNat 1) :: _) rfl rfl rfl rfl ?_
            refine xr_stp rfl rfl rfl rfl ?_
            refine xr_stp (st' := .int (Int32.ofNat 10) :: _) rfl rfl rfl rfl ?_
            refine xr_cps rfl rfl rfl (fun r1 K2 => lw_pick _ _ _ 16 nn W10 f (hf10.at (hf9.at hS8 (fun z => z)) (by omega)) hnn 10 (by omega) r1 (K2 _ _ _ _ ?_))
            refine xr_stp (st' := .int (Int32.ofNat 4) :: _) rfl rfl rfl rfl ?_
            refine xs_mod (by omega) (by omega) (by omega) rfl ?_
            refine xs_add rfl ?_
            refine xs_i2l (by omega) rfl ?_
            rw [← edl]
            refine xs_lsl hA (by omega) (by omega) (by omega) rfl (fun W11 hA hf11 hl11 => ?_)
            have hA : W11[696]? = some (lw_a 1804 (G00 dl)) := hA
            have f811 : fr (fun i => i = 696) W8 W11 := (hf9.weak (P2 := fun i => i = 696) (fun i _ z => z.elim)).tr (hf10.tr hf11)
            have hO11 := f811.at hO8 (by omega)
            have hR11 := f811.at hR8 (by omega)
            refine xr_stp rfl rfl rfl rfl ?_
            refine xr_stp rfl rfl rfl rfl ?_
            refine xr_stp (st' := .int (Int32.ofNat 5) :: _) rfl rfl rfl rfl ?_
            refine xs_ald hA (by omega) (by omega) (by omega) rfl ?_
            rw [G00_5]
            refine xs_l2i rfl ?_
            refine xr_vcps hO11 rfl rfl rfl rfl rfl rfl (fun r1 K2 => xr_cnt (cq_dly _ _ _ 1 _ 2 0 W11 _ _ hO11 hR11 dl hd1 (by omega) _ (fun W12 hR12 hf12 e12 => K2 _ _ _ _ ?_)))
            dsimp only at e12
            refine xr_j1 rfl rfl rfl rfl rfl (fun h110 => ?_) (fun h110 => ?_)
            · refine xr_stp (st' := .int (Int32.ofNat 160) :: _) rfl rfl rfl rfl ?_
              refine xs_newa (by omega) rfl rfl rfl rfl (fun R W13 eR hB hf13 hl13 => ?_)
              obtain rfl : R = 697 := by omega
              refine xr_stp rfl rfl rfl rfl ?_
              refine xr_stp (st' := .int (Int32.ofNat 0) :: _) rfl rfl rfl rfl ?_
              refine xr_stp rfl rfl rfl rfl ?_
              refine xr_stp (st' := .int (Int32.ofNat 0) :: _) rfl rfl rfl rfl ?_
              refine xr_stp rfl rfl rfl rfl ?_
              refine xr_stp (st' := .int (Int32.ofNat 0) :: _) rfl rfl rfl rfl ?_
              refine xr_stp rfl rfl rfl rfl ?_
              refine xr_loc [(0, .ref 16), (1, .ref 17), (2, .ref 687), (3, .int (Int32.ofNat q)), (4, .ref 696), (5, .ref 697), (6, .int (Int32.ofNat 0)), (7, .int (Int32.ofNat 0)), (8, .int (Int32.ofNat 0))] ⟨rfl, rfl, rfl, rfl, rfl, rfl, rfl, rfl, rfl, trivial⟩ rfl ?_
              have f813 : fr wP W8 W13 := (f811.weak (P2 := wP) (fun i _ z => by have z : i = 696 := z; unfold wP; omega)).tr ((hf12.weak (P2 := wP) (fun i _ z => by have z : i = 355 := z; unfold wP; omega)).tr (hf13.weak (P2 := wP) (fun i _ z => z.elim)))
              have f213 : fr wP W2 W13 := f28.tr f813
              have hx : ∀ i, i ≠ 355 → i < 696 → ¬ (i = 696 ∨ i = 355) := fun i a b z => by omega
              have g813 : fr (fun i => i = 696 ∨ i = 355) W8 W13 := (f811.weak (P2 := fun i => i = 696 ∨ i = 355) (fun i _ z => Or.inl z)).tr ((hf12.weak (P2 := fun i => i = 696 ∨ i = 355) (fun i _ z => Or.inr z)).tr (hf13.weak (P2 := fun i => i = 696 ∨ i = 355) (fun i _ z => z.elim)))
              have hR13 : ruo W13 1 (if q = 0 then 4294967295 else 0) dl 0 := hf13.at hR12 (fun z => z)
              have hO13 := g813.at hO8 (hx _ (by omega) (by omega))
              have hrd13 : rud W13 (va_up (fun _ => none) 0 (some W5.length)) := g813.at hrd8 (hx _ (by omega) (by omega))
              have ht13 : txt nn f W13 W5.length := hP8.1.keep g813 (fun i hi => hx i (by omega) (by omega))
              have hc13 := hfs.cmx (q := q) (dl := dl) f213 (by omega) hq hd1 (by omega) hO13 hR13 hrd13 (if_pos rfl) ht13 (fun k => (fun _ _ => 0 : Nat → Nat → Nat) (0 + k))
              have hib13 := hfs.imb f213
              obtain ⟨CL8, CO8, BO8, C8, hT4, -⟩ := id hP8.2.1
              have hx13 : rex W5.length W13 := ⟨⟨_, hrd13, if_pos rfl, fun i hi => ?_⟩, ⟨_, f213.at hfs.td (by unfold wP; omega)⟩⟩
              have hT13 := hP8.2.1.keep g813 (fun i hi => hx i (by omega) (by omega))
              have hRD13 := hP8.2.2.keep g813 (fun i h1 h2 => hx i (by omega) (by omega)) (Or.inr trivial)
              have hX13 := g813.at hX8 (hx _ (by omega) (by omega))
              have hA13 := hf13.at (hf12.at hA (by omega)) (fun z => z)
              have hS13 := g813.at hS8 (hx _ (by omega) (by omega))
              have hY13 : CY nn f q dl 1 0 W5.length 0 0 0 (G00 dl) (fun _ _ => 0) W13 := ⟨by omega, by omega, 0, hc13⟩
              · refine mL d nn q dl W5.length f r hq hnn 44 0 0 0 696 0 (G00 dl) (fun _ _ => 0) _ W13 _ _ rfl (by omega) (by omega) hY13 ⟨hB, fun i h1 h2 => absurd h2 (Nat.not_lt_zero _)⟩ (Or.inl rfl) hA13 (by omega) (by omega) (G00_m dl) hS13 (fun n2 A2 G2 AA2 WS2 N2 W14 c14 s14 lo2 o1 o2 o3 o4 hY14 hmw14 hA14 gA2 nA2 hG14 hS14 hf14 => ?_)
                have m1 : ∀ i, i < 23 ∨ 360 ≤ i ∧ i ≠ 697 ∨ (355 ≤ i ∧ i ≤ 357) → ¬ mP i := fun i h z => by unfold mP pq at z; omega
                have hl13 := hc13.l
                exact mEnd d _ _ nn q dl W5.length N2 n2 lo2 A2 f G2 AA2 r WS2 W14 o2 hnn o1 hY14 hmw14 hA14 gA2 hG14 hS14 (hib13.keep hl13 hf14 (fun i h1 h2 => m1 i (by omega))) (hx13.k3 hf14 (m1 _ (by omega)) (m1 _ (by omega)) (fun i h1 ⟨L4, e⟩ => m1 i (by have : i ≠ 697 := fun z => by { rw [z, hB] at e; cases e }; omega))) (hT13.keep hf14 (fun i hi => m1 i (by omega))) 0 tp (by omega) (hRD13.keep hf14 (fun i h1 h2 => m1 i (by omega)) (Or.inr trivial)) _ (hf14.at hX13 (m1 _ (by omega))) (fun W9 c9 s9 p1_ p2_ => K W9 c9 s9 (by omega) (by omega))
              · by_cases e : i = 0
                · subst e; exact Or.inr ⟨W5.length, _, if_pos rfl, by omega, g813.at hT4 (hx _ (by omega) (by omega))⟩
                · exact Or.inl (if_neg e)
            · have z110 := nf1_ne (by omega) h110
              exact (by omega)
          · have z67 := nf1_ne (by omega) h67
            exact (by omega)
        by_cases hq0 : q = 0
        · refine xr_stp rfl rfl rfl rfl ?_
          refine xr_stp rfl rfl rfl rfl ?_
          refine xr_j1 rfl rfl rfl rfl rfl (fun h56 => ?_) (fun h56 => ?_)
          · refine xr_stp (st' := .int (Int32.ofNat 4294967295) :: _) rfl rfl rfl rfl ?_
            refine xr_vcps h17 rfl rfl rfl rfl rfl rfl (fun r1 K2 => xr_cnt (cq_byN _ _ _ 1 _ 2 0 W7 _ _ h17 hR7 _ (fun W8 hR8 hf8 e8 => K2 _ _ _ _ ?_)))
            dsimp only at e8
            refine xr_loc [(0, .ref 16), (1, .ref 17), (2, .ref 687), (3, .int (Int32.ofNat q))] ⟨rfl, rfl, rfl, rfl, trivial⟩ rfl ?_
            refine key2 _ _ ?_ ?_ W8 ?_ hf8 (by omega)
            · omega
            · omega
            · rw [if_pos hq0]
              exact hR8
          · have z56 := nf1_eq h56
            exact (by omega)
        · refine xr_stp rfl rfl rfl rfl ?_
          refine xr_stp rfl rfl rfl rfl ?_
          refine xr_j1 rfl rfl rfl rfl rfl (fun h56 => ?_) (fun h56 => ?_)
          · have z56 := nt1_eq (by omega) h56
            exact (by omega)
          · refine xr_stp (st' := .int (Int32.ofNat 0) :: _) rfl rfl rfl rfl ?_
            refine xr_stp rfl rfl rfl rfl ?_
            refine xr_vcps h17 rfl rfl rfl rfl rfl rfl (fun r1 K2 => xr_cnt (cq_by0 _ _ _ 1 _ 2 0 W7 _ _ h17 hR7 _ W5.length hrd7 (if_pos rfl) (by omega) (by omega) _ (fun W8 hR8 hf8 e8 => K2 _ _ _ _ ?_)))
            dsimp only at e8
            refine xr_loc [(0, .ref 16), (1, .ref 17), (2, .ref 687), (3, .int (Int32.ofNat q))] ⟨rfl, rfl, rfl, rfl, trivial⟩ rfl ?_
            refine key2 _ _ ?_ ?_ W8 ?_ hf8 (by omega)
            · omega
            · omega
            · rw [if_neg hq0]
              exact hR8
  rw [← ec2, ← es2]
  refine xr_stp rfl rfl rfl rfl ?_
  refine xr_stp (st' := .int (Int32.ofNat 9) :: _) rfl rfl rfl rfl ?_
  refine xr_cps rfl rfl rfl (fun r1 K2 => lw_pick _ _ _ 16 nn W3 f hS3 hnn 9 (by omega) r1 (K2 _ _ _ _ ?_))
  refine xr_stp (st' := .int (Int32.ofNat 3) :: _) rfl rfl rfl rfl ?_
  refine xs_mod (by omega) (by omega) (by omega) rfl ?_
  refine xr_j1 rfl rfl rfl rfl rfl (fun h22 => ?_) (fun h22 => ?_)
  · have z22 := nt1_le (by omega) h22
    refine xr_stp (st' := .int (Int32.ofNat 0) :: _) rfl rfl rfl rfl ?_
    refine xr_loc [(0, .ref 16), (1, .ref 17), (2, .ref 687)] ⟨rfl, rfl, rfl, trivial⟩ rfl ?_
    first | exact key 0 (by omega) | exact key 1 (by omega)
  · have z22 := nf1_le (by omega) h22
    refine xr_stp (st' := .int (Int32.ofNat 1) :: _) rfl rfl rfl rfl ?_
    refine xr_stp rfl rfl rfl rfl ?_
    refine xr_loc [(0, .ref 16), (1, .ref 17), (2, .ref 687)] ⟨rfl, rfl, rfl, trivial⟩ rfl ?_
    first | exact key 0 (by omega) | exact key 1 (by omega)
