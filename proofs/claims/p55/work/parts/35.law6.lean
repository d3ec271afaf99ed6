/-! the law: messages sent -/
theorem lw_tco : ∀ (m k : Nat) (G : Nat → Nat) (j : Nat), (j < 604 + k ∨ 604 + k + m ≤ j) → lw_tc m k G j = G j
  | 0, _, _, _, _ => rfl
  | m + 1, k, G, j, h => by
    unfold lw_tc
    rw [lw_tco m (k + 1) _ j (by omega), xn_un _ _ (by omega)]
theorem lw_tso (G : Nat → Nat) (q a b : Nat) {j : Nat} (h : j < 603) : lw_ts G q a b j = G j := by
  have e : lw_t1 G j = G j := by
    unfold lw_t1
    split
    · rw [xn_un _ _ (by omega), lw_tco _ _ _ _ (by omega)]
    · rfl
  unfold lw_ts lw_t3 lw_t2
  rw [xn_un _ _ (by omega), xn_un _ _ (by omega), xn_un _ _ (by omega), xn_un _ _ (by omega), xn_un _ _ (by omega), e]
/-- a message that is lost -/
def lw_px (G : Nat → Nat) (u t : Nat) : Nat → Nat := lw_ts (xn_u G 3 (G 3 + 1)) 3 t u
theorem lw_pxL (d c s A : Nat) (W0 : xi_W) (G : Nat → Nat) (hw : W0[A]? = some (lw_a 1804 G)) (hg : 17 ≤ A) (S x num : Nat) (q u t up a h kn : Nat) (hu : u < 4) (ht : t < 4) (h6 : G 603 ≤ 300) (r : xi_R → Prop) (K : ∀ W', W'[A]? = some (lw_a 1804 (lw_px G u t)) → fr (· = A) W0 W' → r (none, W', c, s)) : xr (d + 1) 192 58 [(14, .int (Int32.ofNat x)), (12, .long (Int64.ofNat num)), (0, .ref S), (1, .int (Int32.ofNat q)), (2, .ref A), (3, .int (Int32.ofNat u)), (4, .int (Int32.ofNat t)), (5, .long (Int64.ofNat up)), (7, .int (Int32.ofNat a)), (8, .long (Int64.ofNat h)), (10, .long (Int64.ofNat kn))] [] W0 c s r := by
  have hF : fr (· = A) W0 W0 := fr.rf
  refine xr_stp rfl rfl rfl rfl ?_
  refine xr_stp (st' := .int (Int32.ofNat 3) :: _) rfl rfl rfl rfl ?_
  refine xr_stp rfl rfl rfl rfl ?_
  refine xs_ald hw hg (by omega) (by omega) rfl ?_
  refine xr_stp (st' := .long (Int64.ofNat 1) :: _) rfl rfl rfl rfl ?_
  refine xs_ladd rfl ?_
  refine xs_astk hw hg (by omega) (by omega) rfl (fun W hw hf1 => ?_)
  have hF := hF.tr2 hf1 (fun _ e => Or.inl e)
  refine xr_stp rfl rfl rfl rfl ?_
  refine xr_stp (st' := .int (Int32.ofNat 3) :: _) rfl rfl rfl rfl ?_
  refine xr_stp rfl rfl rfl rfl ?_
  refine xr_stp rfl rfl rfl rfl ?_
  refine xr_cps rfl rfl rfl (fun r1 K2 => lw_tells _ _ _ A W _ hw hg 3 t u (by omega) (by omega) (by omega) (by rw [xn_un _ _ (by omega)]; exact h6) r1 (fun W hw hf1 => K2 _ _ _ _ ?_))
  have hF := hF.tr hf1
  exact xr_ret rfl rfl (K _ hw hF)
/-- a message's row -/
def lw_r8 (u t w num up b h kn : Nat) : Nat → Nat := xn_u (xn_u (xn_u (xn_u (xn_u (xn_u (xn_u (xn_u (fun _ => 0) 0 u) 1 t) 2 w) 3 num) 4 up) 5 b) 6 h) 7 kn
def lw_pk1 (G F : Nat → Nat) : Nat → Nat := lw_rc F (411 + 8 * G 410) 8 0 G
/-- a message that is on its way -/
def lw_pk2 (G F : Nat → Nat) : Nat → Nat := xn_u (lw_pk1 G F) 410 (lw_pk1 G F 410 + 1)
theorem lw_pcL (d c s A S R g : Nat) (F : Nat → Nat) (hg : 17 ≤ A) (hgr : 17 ≤ R) (hne : R ≠ A) (x num : Nat) (q u t up a h kn : Nat) (hg4 : g < 24) (r : xi_R → Prop) : ∀ (m k : Nat) (G : Nat → Nat) (W0 : xi_W), k + m = 8 → G 410 = g → W0[A]? = some (lw_a 1804 G) → W0[R]? = some (lw_a 8 F) → (∀ W', W'[A]? = some (lw_a 1804 (lw_rc F (411 + 8 * g) m k G)) → fr (· = A) W0 W' → xr d 192 175 [(16, .int (Int32.ofNat 8)), (15, .ref R), (14, .int (Int32.ofNat x)), (12, .long (Int64.ofNat num)), (0, .ref S), (1, .int (Int32.ofNat q)), (2, .ref A), (3, .int (Int32.ofNat u)), (4, .int (Int32.ofNat t)), (5, .long (Int64.ofNat up)), (7, .int (Int32.ofNat a)), (8, .long (Int64.ofNat h)), (10, .long (Int64.ofNat kn))] [] W' c s r) → xr d 192 139 [(16, .int (Int32.ofNat k)), (15, .ref R), (14, .int (Int32.ofNat x)), (12, .long (Int64.ofNat num)), (0, .ref S), (1, .int (Int32.ofNat q)), (2, .ref A), (3, .int (Int32.ofNat u)), (4, .int (Int32.ofNat t)), (5, .long (Int64.ofNat up)), (7, .int (Int32.ofNat a)), (8, .long (Int64.ofNat h)), (10, .long (Int64.ofNat kn))] [] W0 c s r
  | 0, k, G, W0, hm, h4, hw, hr, K => by
    obtain rfl : k = 8 := by omega
    refine xr_stp rfl rfl rfl rfl ?_
    refine xr_stp (st' := .int (Int32.ofNat 8) :: _) rfl rfl rfl rfl ?_
    refine xr_j2 rfl rfl rfl rfl rfl (fun h143 => ?_) (fun h143 => ?_)
    · exact K _ hw fr.rf
    · exact absurd (nf_ge (by omega) (by omega) h143) (by omega)
  | m + 1, k, G, W0, hm, h4, hw, hr, K => by
    subst h4
    have hF : fr (· = A) W0 W0 := fr.rf
    refine xr_stp rfl rfl rfl rfl ?_
    refine xr_stp (st' := .int (Int32.ofNat 8) :: _) rfl rfl rfl rfl ?_
    refine xr_j2 rfl rfl rfl rfl rfl (fun h143 => ?_) (fun h143 => ?_)
    · exact absurd (nt_ge (by omega) (by omega) h143) (by omega)
    · refine xr_stp rfl rfl rfl rfl ?_
      refine xr_stp (st' := .int (Int32.ofNat 411) :: _) rfl rfl rfl rfl ?_
      refine xr_stp (st' := .int (Int32.ofNat 8) :: _) rfl rfl rfl rfl ?_
      refine xr_stp rfl rfl rfl rfl ?_
      refine xr_stp (st' := .int (Int32.ofNat 410) :: _) rfl rfl rfl rfl ?_
      refine xs_ald hw hg (by omega) (by omega) rfl ?_
      refine xs_l2i rfl ?_
      refine xs_mul rfl ?_
      refine xs_add rfl ?_
      refine xr_stp rfl rfl rfl rfl ?_
      refine xs_add rfl ?_
      refine xr_stp rfl rfl rfl rfl ?_
      refine xr_stp rfl rfl rfl rfl ?_
      refine xs_ald hr hgr (by omega) (by omega) rfl ?_
      refine xs_astk hw hg (by omega) (by omega) rfl (fun W hw hf1 => ?_)
      have hr := hf1.at hr hne
      have hF := hF.tr2 hf1 (fun _ e => Or.inl e)
      refine xs_inc (e := 1) rfl rfl rfl rfl ?_
      refine xr_stp rfl rfl rfl rfl ?_
      exact lw_pcL d c s A S R (G 410) F hg hgr hne x num q u t up a h kn hg4 r m (k + 1) _ _ (by omega) (by rw [xn_un _ _ (by omega)]) hw hr (fun W2 h1 h2 => K W2 h1 (hF.tr h2))
theorem lw_pkL (d c s A : Nat) (W0 : xi_W) (G : Nat → Nat) (hw : W0[A]? = some (lw_a 1804 G)) (hg : 17 ≤ A) (S x num : Nat) (q u t up a h kn : Nat) (hu : u < 4) (ht : t < 4) (ha : a < 2) (h4 : G 410 < 24) (r : xi_R → Prop) (K : ∀ W', W'[A]? = some (lw_a 1804 (lw_pk2 G (lw_r8 u t (G 0 + G 5) num up (if a = 0 then 0 else 1) h kn))) → fr (· = A) W0 W' → r (none, W', c + 1, s + 8)) : xr d 192 74 [(14, .int (Int32.ofNat x)), (12, .long (Int64.ofNat num)), (0, .ref S), (1, .int (Int32.ofNat q)), (2, .ref A), (3, .int (Int32.ofNat u)), (4, .int (Int32.ofNat t)), (5, .long (Int64.ofNat up)), (7, .int (Int32.ofNat a)), (8, .long (Int64.ofNat h)), (10, .long (Int64.ofNat kn))] [] W0 c s r := by
  have hF : fr (· = A) W0 W0 := fr.rf
  refine xr_stp (st' := .int (Int32.ofNat 8) :: _) rfl rfl rfl rfl ?_
  have hlt0 := (List.getElem?_eq_some_iff.mp hw).1
  refine xs_newl (by omega) rfl (fun R W eR hr hf1 => ?_)
  have nRA : R ≠ A := by omega
  have hw := hf1.at hw (fun e => e)
  have zR : W0.length ≤ R := by have := hF.1; omega
  have gR : 17 ≤ R := by omega
  have hF := hF.tr2 hf1 (fun _ e => e.elim)
  refine xr_stp rfl rfl rfl rfl ?_
  refine xr_stp (st' := .int (Int32.ofNat 0) :: _) rfl rfl rfl rfl ?_
  refine xr_stp rfl rfl rfl rfl ?_
  refine xs_i2l (by omega) rfl ?_
  refine xs_astk hr gR (by omega) (by omega) rfl (fun W hr hf1 => ?_)
  have hw := hf1.at hw (fun e => nRA e.symm)
  have hF := hF.tr2 hf1 (fun _ e => Or.inr (by rw [e]; exact zR))
  refine xr_stp rfl rfl rfl rfl ?_
  refine xr_stp (st' := .int (Int32.ofNat 1) :: _) rfl rfl rfl rfl ?_
  refine xr_stp rfl rfl rfl rfl ?_
  refine xs_i2l (by omega) rfl ?_
  refine xs_astk hr gR (by omega) (by omega) rfl (fun W hr hf1 => ?_)
  have hw := hf1.at hw (fun e => nRA e.symm)
  have hF := hF.tr2 hf1 (fun _ e => Or.inr (by rw [e]; exact zR))
  refine xr_stp rfl rfl rfl rfl ?_
  refine xr_stp (st' := .int (Int32.ofNat 2) :: _) rfl rfl rfl rfl ?_
  refine xr_stp rfl rfl rfl rfl ?_
  refine xr_stp (st' := .int (Int32.ofNat 0) :: _) rfl rfl rfl rfl ?_
  refine xs_ald hw hg (by omega) (by omega) rfl ?_
  refine xr_stp rfl rfl rfl rfl ?_
  refine xr_stp (st' := .int (Int32.ofNat 5) :: _) rfl rfl rfl rfl ?_
  refine xs_ald hw hg (by omega) (by omega) rfl ?_
  refine xs_ladd rfl ?_
  refine xs_astk hr gR (by omega) (by omega) rfl (fun W hr hf1 => ?_)
  have hw := hf1.at hw (fun e => nRA e.symm)
  have hF := hF.tr2 hf1 (fun _ e => Or.inr (by rw [e]; exact zR))
  refine xr_stp rfl rfl rfl rfl ?_
  refine xr_stp (st' := .int (Int32.ofNat 3) :: _) rfl rfl rfl rfl ?_
  refine xr_stp rfl rfl rfl rfl ?_
  refine xs_astk hr gR (by omega) (by omega) rfl (fun W hr hf1 => ?_)
  have hw := hf1.at hw (fun e => nRA e.symm)
  have hF := hF.tr2 hf1 (fun _ e => Or.inr (by rw [e]; exact zR))
  refine xr_stp rfl rfl rfl rfl ?_
  refine xr_stp (st' := .int (Int32.ofNat 4) :: _) rfl rfl rfl rfl ?_
  refine xr_stp rfl rfl rfl rfl ?_
  refine xs_astk hr gR (by omega) (by omega) rfl (fun W hr hf1 => ?_)
  have hw := hf1.at hw (fun e => nRA e.symm)
  have hF := hF.tr2 hf1 (fun _ e => Or.inr (by rw [e]; exact zR))
  refine xr_stp rfl rfl rfl rfl ?_
  refine xr_stp (st' := .int (Int32.ofNat 5) :: _) rfl rfl rfl rfl ?_
  refine xr_stp rfl rfl rfl rfl ?_
  refine xr_j1 rfl rfl rfl rfl rfl (fun h113 => ?_) (fun h113 => ?_)
  · have e113 := nt1_eq (by omega) h113
    rw [if_pos e113] at K
    refine xr_stp (st' := .long (Int64.ofNat 0) :: _) rfl rfl rfl rfl ?_
    refine xs_astk hr gR (by omega) (by omega) rfl (fun W hr hf1 => ?_)
    have hw := hf1.at hw (fun e => nRA e.symm)
    have hF := hF.tr2 hf1 (fun _ e => Or.inr (by rw [e]; exact zR))
    refine xr_stp rfl rfl rfl rfl ?_
    refine xr_stp (st' := .int (Int32.ofNat 6) :: _) rfl rfl rfl rfl ?_
    refine xr_stp rfl rfl rfl rfl ?_
    refine xs_astk hr gR (by omega) (by omega) rfl (fun W hr hf1 => ?_)
    have hw := hf1.at hw (fun e => nRA e.symm)
    have hF := hF.tr2 hf1 (fun _ e => Or.inr (by rw [e]; exact zR))
    refine xr_stp rfl rfl rfl rfl ?_
    refine xr_stp (st' := .int (Int32.ofNat 7) :: _) rfl rfl rfl rfl ?_
    refine xr_stp rfl rfl rfl rfl ?_
    refine xs_astk hr gR (by omega) (by omega) rfl (fun W hr hf1 => ?_)
    have hw := hf1.at hw (fun e => nRA e.symm)
    have hF := hF.tr2 hf1 (fun _ e => Or.inr (by rw [e]; exact zR))
    refine xr_stp rfl rfl rfl rfl ?_
    refine xr_stp (st' := .int (Int32.ofNat 0) :: _) rfl rfl rfl rfl ?_
    refine xr_stp rfl rfl rfl rfl ?_
    refine lw_pcL _ _ _ A S R (G 410) _ hg gR nRA x num q u t up a h kn h4 r 8 0 G W (by omega) rfl hw hr (fun W hw hf1 => ?_)
    have hF := hF.tr hf1
    change W[A]? = some (lw_a 1804 (lw_pk1 G (lw_r8 u t (G 0 + G 5) num up _ h kn))) at hw
    refine xr_stp rfl rfl rfl rfl ?_
    refine xr_stp (st' := .int (Int32.ofNat 410) :: _) rfl rfl rfl rfl ?_
    refine xr_stp rfl rfl rfl rfl ?_
    refine xs_ald hw hg (by omega) (by omega) rfl ?_
    refine xr_stp (st' := .long (Int64.ofNat 1) :: _) rfl rfl rfl rfl ?_
    refine xs_ladd rfl ?_
    refine xs_astk hw hg (by omega) (by omega) rfl (fun W hw hf1 => ?_)
    have hF := hF.tr2 hf1 (fun _ e => Or.inl e)
    exact xr_ret rfl rfl (K _ hw hF)
  · have e113 := nf1_eq h113
    rw [if_neg e113] at K
    refine xr_stp (st' := .long (Int64.ofNat 1) :: _) rfl rfl rfl rfl ?_
    refine xr_stp rfl rfl rfl rfl ?_
    refine xs_astk hr gR (by omega) (by omega) rfl (fun W hr hf1 => ?_)
    have hw := hf1.at hw (fun e => nRA e.symm)
    have hF := hF.tr2 hf1 (fun _ e => Or.inr (by rw [e]; exact zR))
    refine xr_stp rfl rfl rfl rfl ?_
    refine xr_stp (st' := .int (Int32.ofNat 6) :: _) rfl rfl rfl rfl ?_
    refine xr_stp rfl rfl rfl rfl ?_
    refine xs_astk hr gR (by omega) (by omega) rfl (fun W hr hf1 => ?_)
    have hw := hf1.at hw (fun e => nRA e.symm)
    have hF := hF.tr2 hf1 (fun _ e => Or.inr (by rw [e]; exact zR))
    refine xr_stp rfl rfl rfl rfl ?_
    refine xr_stp (st' := .int (Int32.ofNat 7) :: _) rfl rfl rfl rfl ?_
    refine xr_stp rfl rfl rfl rfl ?_
    refine xs_astk hr gR (by omega) (by omega) rfl (fun W hr hf1 => ?_)
    have hw := hf1.at hw (fun e => nRA e.symm)
    have hF := hF.tr2 hf1 (fun _ e => Or.inr (by rw [e]; exact zR))
    refine xr_stp rfl rfl rfl rfl ?_
    refine xr_stp (st' := .int (Int32.ofNat 0) :: _) rfl rfl rfl rfl ?_
    refine xr_stp rfl rfl rfl rfl ?_
    refine lw_pcL _ _ _ A S R (G 410) _ hg gR nRA x num q u t up a h kn h4 r 8 0 G W (by omega) rfl hw hr (fun W hw hf1 => ?_)
    have hF := hF.tr hf1
    change W[A]? = some (lw_a 1804 (lw_pk1 G (lw_r8 u t (G 0 + G 5) num up _ h kn))) at hw
    refine xr_stp rfl rfl rfl rfl ?_
    refine xr_stp (st' := .int (Int32.ofNat 410) :: _) rfl rfl rfl rfl ?_
    refine xr_stp rfl rfl rfl rfl ?_
    refine xs_ald hw hg (by omega) (by omega) rfl ?_
    refine xr_stp (st' := .long (Int64.ofNat 1) :: _) rfl rfl rfl rfl ?_
    refine xs_ladd rfl ?_
    refine xs_astk hw hg (by omega) (by omega) rfl (fun W hw hf1 => ?_)
    have hF := hF.tr2 hf1 (fun _ e => Or.inl e)
    exact xr_ret rfl rfl (K _ hw hF)
theorem lw_pmL (d c s A : Nat) (W0 : xi_W) (G : Nat → Nat) (hw : W0[A]? = some (lw_a 1804 G)) (hg : 17 ≤ A) (S x num : Nat) (q u t up a h kn : Nat) (hu : u < 4) (ht : t < 4) (ha : a < 2) (hx : x < 2) (h4 : G 410 ≤ 24) (h6 : G 603 ≤ 300) (r : xi_R → Prop) (K1 : (x ≠ 0 ∨ G 410 = 24) → ∀ W', W'[A]? = some (lw_a 1804 (lw_px G u t)) → fr (· = A) W0 W' → r (none, W', c, s)) (K2 : x = 0 → G 410 ≠ 24 → ∀ W', W'[A]? = some (lw_a 1804 (lw_pk2 G (lw_r8 u t (G 0 + G 5) num up (if a = 0 then 0 else 1) h kn))) → fr (· = A) W0 W' → r (none, W', c + 1, s + 8)) : xr (d + 1) 192 39 [(12, .long (Int64.ofNat num)), (0, .ref S), (1, .int (Int32.ofNat q)), (2, .ref A), (3, .int (Int32.ofNat u)), (4, .int (Int32.ofNat t)), (5, .long (Int64.ofNat up)), (7, .int (Int32.ofNat a)), (8, .long (Int64.ofNat h)), (10, .long (Int64.ofNat kn))] [.int (Int32.ofNat x)] W0 c s r := by
  refine xr_stp rfl rfl rfl rfl ?_
  refine xr_stp rfl rfl rfl rfl ?_
  refine xr_j1 rfl rfl rfl rfl rfl (fun h43 => ?_) (fun h43 => ?_)
  · have e43 := nt1_ne h43
    exact lw_pxL d c s A W0 G hw hg S x num q u t up a h kn hu ht h6 r (K1 (by omega))
  · have e43 := nf1_ne (by omega) h43
    refine xr_stp rfl rfl rfl rfl ?_
    refine xr_stp (st' := .int (Int32.ofNat 410) :: _) rfl rfl rfl rfl ?_
    refine xs_ald hw hg (by omega) (by omega) rfl ?_
    refine xr_stp (st' := .long (Int64.ofNat 24) :: _) rfl rfl rfl rfl ?_
    refine xs_lc (by omega) (by omega) rfl ?_
    refine xr_j1 rfl rfl rfl rfl rfl (fun h55 => ?_) (fun h55 => ?_)
    · have e55 := lt_ne h55
      exact lw_pkL (d + 1) c s A W0 G hw hg S x num q u t up a h kn hu ht ha (by omega) r (K2 (by omega) (by omega))
    · have e55 := lf_ne h55
      exact lw_pxL d c s A W0 G hw hg S x num q u t up a h kn hu ht h6 r (K1 (by omega))
def lw_v1 (G : Nat → Nat) : Nat → Nat := xn_u G 2 (G 2 + 1)
def lw_v2 (G : Nat → Nat) : Nat → Nat := lw_dr (lw_v1 G)
/-- a message is sent -/
def lw_po (n : Nat) (f : Nat → Int32) (G : Nat → Nat) (q u t up a h kn : Nat) : Nat → Nat := if lw_v1 G 1 % 10 < lw_lo n f (lw_v2 G) q a (bc 63 h) ∨ lw_v2 G 410 = 24 then lw_px (lw_v2 G) u t else lw_pk2 (lw_v2 G) (lw_r8 u t (lw_v2 G 0 + lw_v2 G 5) (G 2) up (if a = 0 then 0 else 1) h kn)
theorem lw_v2o (G : Nat → Nat) {j : Nat} (h1 : j ≠ 1) (h2 : j ≠ 2) : lw_v2 G j = G j := by
  unfold lw_v2 lw_dr lw_v1
  rw [xn_un _ _ (by omega), xn_un _ _ (by omega)]
theorem lw_lole (n : Nat) (f : Nat → Int32) (G : Nat → Nat) (q a b : Nat) : lw_lo n f G q a b ≤ 10 := by unfold lw_lo; split <;> omega
theorem lw_posts (d c s A S n : Nat) (W0 : xi_W) (G : Nat → Nat) (f : Nat → Int32) (hw : W0[A]? = some (lw_a 1804 G)) (hg : 17 ≤ A) (hs : W0[S]? = some (lw_s n f)) (hn : n < 2147483648) (hSA : S ≠ A) (hG : ∀ j, G j < 9223372036854775808) (q u t up a h kn : Nat) (hq : q < 2) (hu : u < 4) (ht : t < 4) (ha : a < 2) (hh : h < 9223372036854775808) (h1 : G 1 < 1000000) (h4 : G 410 ≤ 24) (h6 : G 603 ≤ 300) (r : xi_R → Prop) (K : ∀ W' c' s', c' ≤ c + 1 → s' ≤ s + 8 → W'[A]? = some (lw_a 1804 (lw_po n f G q u t up a h kn)) → fr (· = A) W0 W' → r (none, W', c', s')) : xr (d + 3) 192 0 [(0, .ref S), (1, .int (Int32.ofNat q)), (2, .ref A), (3, .int (Int32.ofNat u)), (4, .int (Int32.ofNat t)), (5, .long (Int64.ofNat up)), (7, .int (Int32.ofNat a)), (8, .long (Int64.ofNat h)), (10, .long (Int64.ofNat kn))] [] W0 c s r := by
  have hbc := bcle 63 h
  have hlo := lw_lole n f (lw_v2 G) q a (bc 63 h)
  have e410 : lw_v2 G 410 = G 410 := lw_v2o G (by omega) (by omega)
  have e603 : lw_v2 G 603 = G 603 := lw_v2o G (by omega) (by omega)
  have e332 : lw_v2 G 332 = G 332 := lw_v2o G (by omega) (by omega)
  have e1 : lw_v1 G 1 = G 1 := xn_un _ _ (by omega)
  unfold lw_po at K
  have hF : fr (· = A) W0 W0 := fr.rf
  refine xr_stp rfl rfl rfl rfl ?_
  refine xr_stp (st' := .int (Int32.ofNat 2) :: _) rfl rfl rfl rfl ?_
  refine xs_ald hw hg (by omega) (by omega) rfl ?_
  refine xr_stp rfl rfl rfl rfl ?_
  refine xr_stp rfl rfl rfl rfl ?_
  refine xr_stp (st' := .int (Int32.ofNat 2) :: _) rfl rfl rfl rfl ?_
  refine xr_stp rfl rfl rfl rfl ?_
  refine xs_ald hw hg (by omega) (by omega) rfl ?_
  refine xr_stp (st' := .long (Int64.ofNat 1) :: _) rfl rfl rfl rfl ?_
  refine xs_ladd rfl ?_
  refine xs_astk hw hg (by omega) (by omega) rfl (fun W hw hf1 => ?_)
  have hs := hf1.at hs hSA
  have hF := hF.tr2 hf1 (fun _ e => Or.inl e)
  refine xr_stp rfl rfl rfl rfl ?_
  refine xr_stp (st' := .int (Int32.ofNat 10) :: _) rfl rfl rfl rfl ?_
  refine xr_cps rfl rfl rfl (fun r1 K2 => lw_draw _ _ _ A W (lw_v1 G) hw hg 10 (by rw [e1]; exact h1) (by omega) (by omega) r1 (fun W hw hf1 => K2 _ _ _ _ ?_))
  have hs := hf1.at hs hSA
  have hF := hF.tr hf1
  refine xr_stp rfl rfl rfl rfl ?_
  refine xr_stp rfl rfl rfl rfl ?_
  refine xr_stp rfl rfl rfl rfl ?_
  refine xr_stp rfl rfl rfl rfl ?_
  refine xr_stp rfl rfl rfl rfl ?_
  refine xr_cps rfl rfl rfl (fun r1 K2 => lw_many _ _ _ _ W hh r1 (K2 _ _ _ _ ?_))
  refine xr_cps rfl rfl rfl (fun r1 K2 => lw_loses _ _ _ S n A W f hs hn (lw_v2 G) hw hg (by rw [e332]; exact hG _) q a (bc 63 h) hq ha (by omega) r1 (K2 _ _ _ _ ?_))
  refine xr_j2 rfl rfl rfl rfl rfl (fun h31 => ?_) (fun h31 => ?_)
  · have e31 := nt_ge (by omega) (by omega) h31
    refine xr_stp (st' := .int (Int32.ofNat 0) :: _) rfl rfl rfl rfl ?_
    refine lw_pmL _ _ _ A W (lw_v2 G) hw hg S _ (G 2) q u t up a h kn hu ht ha (by omega) (by rw [e410]; exact h4) (by rw [e603]; exact h6) r (fun z W2 z1 z2 => K W2 _ _ (by omega) (by omega) ?_ (hF.tr z2)) (fun z z3 W2 z1 z2 => K W2 _ _ (by omega) (by omega) ?_ (hF.tr z2))
    · first | (rw [if_pos (Or.inl (by omega))]; exact z1) | (rw [if_pos (Or.inr (z.resolve_left (fun q => q rfl)))]; exact z1)
    · first | exact absurd z (by omega) | (rw [if_neg (fun q => q.elim (fun q => absurd q (by omega)) z3)]; exact z1)
  · have e31 := nf_ge (by omega) (by omega) h31
    refine xr_stp (st' := .int (Int32.ofNat 1) :: _) rfl rfl rfl rfl ?_
    refine xr_stp rfl rfl rfl rfl ?_
    refine lw_pmL _ _ _ A W (lw_v2 G) hw hg S _ (G 2) q u t up a h kn hu ht ha (by omega) (by rw [e410]; exact h4) (by rw [e603]; exact h6) r (fun z W2 z1 z2 => K W2 _ _ (by omega) (by omega) ?_ (hF.tr z2)) (fun z z3 W2 z1 z2 => K W2 _ _ (by omega) (by omega) ?_ (hF.tr z2))
    · first | (rw [if_pos (Or.inl (by omega))]; exact z1) | (rw [if_pos (Or.inr (z.resolve_left (fun q => q rfl)))]; exact z1)
    · first | exact absurd z (by omega) | (rw [if_neg (fun q => q.elim (fun q => absurd q (by omega)) z3)]; exact z1)
theorem lw_grb (G : Nat → Nat) (hG : ∀ j, G j < 9223372036854775808) (f : Nat) : ∀ (m k : Nat) (F : Nat → Nat), (∀ j, F j < 9223372036854775808) → ∀ j, lw_gl G f m k F j < 9223372036854775808
  | 0, _, _, h => h
  | m + 1, k, F, h => by
    unfold lw_gl
    refine lw_grb G hG f m (k + 1) _ (fun j => ?_)
    have e0 : ∀ j, lw_g1 G f k F j < 9223372036854775808 := fun j => by
      unfold lw_g1 xn_u
      split
      · exact lw_j63 (n := 63) (h 0) (hG _)
      · exact h j
    unfold lw_g2 xn_u
    split
    · exact Nat.or_lt_two_pow (n := 63) (e0 1) (hG _)
    · exact e0 j
theorem lw_grb2 (G F : Nat → Nat) (hG : ∀ j, G j < 9223372036854775808) (hFb : ∀ j, F j < 9223372036854775808) (f t j : Nat) : lw_gr G F f t j < 9223372036854775808 := by
  unfold lw_gr
  split
  · unfold xn_u
    repeat' split
    all_goals first | exact hG _ | exact hFb _
  · refine lw_grb G hG f _ _ _ (fun j => ?_) j
    unfold xn_u
    repeat' split
    all_goals first | exact hG _ | exact hFb _ | omega
/-- an interval is sent -/
def lw_sn (n : Nat) (f : Nat → Int32) (G : Nat → Nat) (q u t : Nat) : Nat → Nat := lw_po n f G q u t (G (338 + u)) 0 (lw_gr G (fun _ => 0) u t 0) (lw_gr G (fun _ => 0) u t 1)
theorem lw_rco2 (F : Nat → Nat) (a m k : Nat) (G : Nat → Nat) (j : Nat) (h : j < a + k) : lw_rc F a m k G j = G j := lw_rco F a m k G j (Or.inl h)
theorem lw_poo (n : Nat) (f : Nat → Int32) (G : Nat → Nat) (q u t up a h kn : Nat) {j : Nat} (h0 : j ≠ 1) (h1 : j ≠ 2) (h2 : j ≠ 3) (h3 : j < 410) : lw_po n f G q u t up a h kn j = G j := by
  unfold lw_po
  split
  · unfold lw_px
    rw [lw_tso _ _ _ _ (by omega), xn_un _ _ (by omega), lw_v2o G h0 h1]
  · unfold lw_pk2 lw_pk1
    rw [xn_un _ _ (by omega), lw_rco2 _ _ _ _ _ _ (by omega), lw_v2o G h0 h1]
theorem lw_sends0 (d c s A S n : Nat) (W0 : xi_W) (G : Nat → Nat) (f : Nat → Int32) (hw : W0[A]? = some (lw_a 1804 G)) (hg : 17 ≤ A) (hs : W0[S]? = some (lw_s n f)) (hn : n < 2147483648) (hSA : S ≠ A) (q u t : Nat) (hu : u < 4) (ht : t < 4) (hle : G (346 + 4 * u + t) ≤ G (338 + u)) (h0 : lw_be G u t = 0) (r : xi_R → Prop) (K : ∀ W', W'[A]? = some (lw_a 1804 G) → fr (· = A) W0 W' → r (some (.int (Int32.ofNat 4294967295)), W', c + 1, s + 2)) : xr (d + 4) 194 0 [(0, .ref S), (1, .int (Int32.ofNat q)), (2, .ref A), (3, .int (Int32.ofNat u)), (4, .int (Int32.ofNat t))] [] W0 c s r := by
  have hF : fr (· = A) W0 W0 := fr.rf
  refine xr_stp (st' := .int (Int32.ofNat 2) :: _) rfl rfl rfl rfl ?_
  have hlt0 := (List.getElem?_eq_some_iff.mp hw).1
  have hlt1 := (List.getElem?_eq_some_iff.mp hs).1
  refine xs_newl (by omega) rfl (fun B W eB hb hf1 => ?_)
  have nBA : B ≠ A := by omega
  have hw := hf1.at hw (fun e => e)
  have nBS : B ≠ S := by omega
  have hs := hf1.at hs (fun e => e)
  have zB : W0.length ≤ B := by have := hF.1; omega
  have gB : 17 ≤ B := by omega
  have hF := hF.tr2 hf1 (fun _ e => e.elim)
  refine xr_stp rfl rfl rfl rfl ?_
  refine xr_stp rfl rfl rfl rfl ?_
  refine xr_stp rfl rfl rfl rfl ?_
  refine xr_stp rfl rfl rfl rfl ?_
  refine xr_stp rfl rfl rfl rfl ?_
  refine xr_cps rfl rfl rfl (fun r1 K2 => lw_group0 _ _ _ A B W G _ hw hb hg gB (fun e => nBA e.symm) u t hu ht hle h0 r1 (K2 _ _ _ _ ?_))
  refine xr_j1 rfl rfl rfl rfl rfl (fun h14 => ?_) (fun h14 => ?_)
  · exact absurd rfl (nt1_ne h14)
  · refine xr_stp (st' := .int (Int32.ofNat 4294967295) :: _) rfl rfl rfl rfl ?_
    exact xr_ret rfl rfl (K _ hw hF)
theorem lw_sends (d c s A S n : Nat) (W0 : xi_W) (G : Nat → Nat) (f : Nat → Int32) (hw : W0[A]? = some (lw_a 1804 G)) (hg : 17 ≤ A) (hs : W0[S]? = some (lw_s n f)) (hn : n < 2147483648) (hSA : S ≠ A) (hG : ∀ j, G j < 9223372036854775808) (q u t : Nat) (hq : q < 2) (hu : u < 4) (ht : t < 4) (hle : G (346 + 4 * u + t) ≤ G (338 + u)) (g1 : G (338 + u) ≤ G (342 + u) + 6) (g2 : G (338 + u) < 1000000) (h0 : lw_be G u t ≠ 0) (h1 : G 1 < 1000000) (h4 : G 410 ≤ 24) (h6 : G 603 ≤ 300) (r : xi_R → Prop) (K : ∀ W' c' s', c' ≤ c + 2 → s' ≤ s + 10 → W'[A]? = some (lw_a 1804 (lw_sn n f G q u t)) → fr (· = A) W0 W' → r (some (.int (Int32.ofNat (G (338 + u)))), W', c', s')) : xr (d + 4) 194 0 [(0, .ref S), (1, .int (Int32.ofNat q)), (2, .ref A), (3, .int (Int32.ofNat u)), (4, .int (Int32.ofNat t))] [] W0 c s r := by
  have hgb := lw_grb2 G (fun _ => 0) hG (fun _ => by omega) u t
  have hF : fr (· = A) W0 W0 := fr.rf
  refine xr_stp (st' := .int (Int32.ofNat 2) :: _) rfl rfl rfl rfl ?_
  have hlt0 := (List.getElem?_eq_some_iff.mp hw).1
  have hlt1 := (List.getElem?_eq_some_iff.mp hs).1
  refine xs_newl (by omega) rfl (fun B W eB hb hf1 => ?_)
  have nBA : B ≠ A := by omega
  have hw := hf1.at hw (fun e => e)
  have nBS : B ≠ S := by omega
  have hs := hf1.at hs (fun e => e)
  have zB : W0.length ≤ B := by have := hF.1; omega
  have gB : 17 ≤ B := by omega
  have hF := hF.tr2 hf1 (fun _ e => e.elim)
  refine xr_stp rfl rfl rfl rfl ?_
  refine xr_stp rfl rfl rfl rfl ?_
  refine xr_stp rfl rfl rfl rfl ?_
  refine xr_stp rfl rfl rfl rfl ?_
  refine xr_stp rfl rfl rfl rfl ?_
  refine xr_cps rfl rfl rfl (fun r1 K2 => lw_group _ _ _ A B W G _ hw hb hg gB (fun e => nBA e.symm) hG u t hu ht hle g1 g2 h0 r1 (fun W hb hf1 => K2 _ _ _ _ ?_))
  have hw := hf1.at hw (fun e => nBA e.symm)
  have hs := hf1.at hs (fun e => nBS e.symm)
  have hF := hF.tr2 hf1 (fun _ e => Or.inr (by rw [e]; exact zB))
  refine xr_j1 rfl rfl rfl rfl rfl (fun h14 => ?_) (fun h14 => ?_)
  · refine xr_stp rfl rfl rfl rfl ?_
    refine xr_stp rfl rfl rfl rfl ?_
    refine xr_stp rfl rfl rfl rfl ?_
    refine xr_stp rfl rfl rfl rfl ?_
    refine xr_stp rfl rfl rfl rfl ?_
    refine xr_stp rfl rfl rfl rfl ?_
    refine xr_stp (st' := .int (Int32.ofNat 338) :: _) rfl rfl rfl rfl ?_
    refine xr_stp rfl rfl rfl rfl ?_
    refine xs_add rfl ?_
    refine xs_ald hw hg (by omega) (by omega) rfl ?_
    refine xr_stp (st' := .int (Int32.ofNat 0) :: _) rfl rfl rfl rfl ?_
    refine xr_stp rfl rfl rfl rfl ?_
    refine xr_stp (st' := .int (Int32.ofNat 0) :: _) rfl rfl rfl rfl ?_
    refine xs_ald hb gB (by omega) (by omega) rfl ?_
    refine xr_stp rfl rfl rfl rfl ?_
    refine xr_stp (st' := .int (Int32.ofNat 1) :: _) rfl rfl rfl rfl ?_
    refine xs_ald hb gB (by omega) (by omega) rfl ?_
    refine xr_cps rfl rfl rfl (fun r1 K2 => lw_posts _ _ _ A S n W G f hw hg hs hn hSA hG q u t (G (338 + u)) 0 _ _ hq hu ht (by omega) (hgb 0) h1 h4 h6 r1 (fun W c2 s2 q1 q2 hw hf1 => K2 _ _ _ _ ?_))
    have hF := hF.tr hf1
    refine xr_stp rfl rfl rfl rfl ?_
    refine xr_stp (st' := .int (Int32.ofNat 338) :: _) rfl rfl rfl rfl ?_
    refine xr_stp rfl rfl rfl rfl ?_
    refine xs_add rfl ?_
    refine xs_ald hw hg (by omega) (by omega) rfl ?_
    refine xs_l2i rfl ?_
    rw [lw_poo n f G _ _ _ _ _ _ _ (by omega) (by omega) (by omega) (by omega)]
    exact xr_ret rfl rfl (K _ _ _ (by omega) (by omega) hw hF)
  · exact absurd h14 (by decide +kernel)
