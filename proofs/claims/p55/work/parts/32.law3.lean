theorem n_ge0 {off : Int} {a : Nat} (ha : a < 2147483648) (h : xg_t1 (.ifCond .ge off) (Int32.ofNat a) = false) : False := by
  have h2 : ¬ (0 : Int32) ≤ Int32.ofNat a := of_decide_eq_false h
  exact h2 ((n_le (a := 0) (b := a) (by omega) ha).mpr (by omega))
/-! the law: an entry is set, cleared -/
theorem lw_ofo (G : Nat → Nat) (b q f N : Nat) : ∀ (m k x : Nat), k + m ≤ N → x < 2 ^ N → lw_of G b q f m k x < 2 ^ N
  | 0, _, _, _, h => h
  | m + 1, k, x, hm, h => by
    unfold lw_of
    refine lw_ofo G b q f N m (k + 1) _ (by omega) ?_
    split
    · exact Nat.or_lt_two_pow h (by rw [Nat.one_mul]; exact Nat.pow_lt_pow_right (by omega) (by omega))
    · exact h
theorem lw_of63 {G : Nat → Nat} {b q f : Nat} (h : G 4 ≤ 62) : lw_of G b q f (G 4) 0 0 < 4611686018427387904 := lw_ofo G b q f 62 (G 4) 0 0 (by omega) (by decide)
theorem lw_j63 {n a ka b kb : Nat} (ha : a < 2 ^ n) (hb : b < 2 ^ n) : lw_j a ka b kb < 2 ^ n := by
  unfold lw_j
  exact Nat.or_lt_two_pow (Nat.or_lt_two_pow (Nat.and_lt_two_pow _ hb) (Nat.lt_of_le_of_lt Nat.and_le_left ha)) (Nat.lt_of_le_of_lt Nat.and_le_left hb)
theorem lw_dpo (G : Nat → Nat) (t : Nat) (ht : t < 4) {j : Nat} (h : j < 342 ∨ 410 ≤ j) (h6 : G (338 + t) ≤ G (342 + t) + 6) : lw_dp G t j = G j := by
  unfold lw_dp lw_d1
  rw [xn_un _ _ (by omega), lw_dco _ _ _ _ _ (by omega)]
theorem lw_k0o (G : Nat → Nat) (t : Nat) (ht : t < 4) {j : Nat} (h : j < 342 ∨ 410 ≤ j) (h6 : G (338 + t) ≤ G (342 + t) + 6) : lw_k0 G t j = G j := by
  unfold lw_k0
  split
  · exact lw_dpo G t ht h h6
  · rfl
/-- what a taken delta leaves as it is -/
theorem lw_tko (G : Nat → Nat) (t h n : Nat) (ht : t < 4) {j : Nat} (hj : j < 330 ∨ 410 ≤ j) (h6 : G (338 + t) ≤ G (342 + t) + 6) (h0 : G (342 + t) ≤ G (338 + t)) : lw_tk G t h n j = G j := by
  have e : lw_k0 G t (338 + t) - lw_k0 G t (342 + t) ≤ 5 := by
    unfold lw_k0
    split
    · rw [lw_dp8, lw_dp2]; omega
    · omega
  unfold lw_tk lw_k3 lw_k2 lw_k1
  rw [xn_un _ _ (by omega), xn_un _ _ (by omega), xn_un _ _ (by omega), xn_un _ _ (by omega), xn_un _ _ (by omega), lw_k0o G t ht (by omega) h6]
/-- a row of numbers is laid into the law's world -/
def lw_rc (F : Nat → Nat) (a : Nat) : Nat → Nat → (Nat → Nat) → (Nat → Nat)
  | 0, _, G => G
  | m + 1, k, G => lw_rc F a m (k + 1) (xn_u G (a + k) (F k))
theorem lw_rco (F : Nat → Nat) (a : Nat) : ∀ (m k : Nat) (G : Nat → Nat) (j : Nat), (j < a + k ∨ a + k + m ≤ j) → lw_rc F a m k G j = G j
  | 0, _, _, _, _ => rfl
  | m + 1, k, G, j, h => by
    unfold lw_rc
    rw [lw_rco F a m (k + 1) _ j (by omega), xn_un _ _ (by omega)]
theorem lw_seL (d c s A R : Nat) (hg : 17 ≤ A) (hne : R ≠ A) (F : Nat → Nat) (hFb : ∀ k, k < 5 → F k < 2147483648) (t q f v n i : Nat) (hi : i < 64) (r : xi_R → Prop) : ∀ (m k : Nat) (G : Nat → Nat) (W0 : xi_W), k + m = 5 → W0[A]? = some (lw_a 1804 G) → W0[R]? = some (lw_i 5 F) → (∀ W', W'[A]? = some (lw_a 1804 (lw_rc F (10 + 5 * i) m k G)) → fr (· = A) W0 W' → xr d 190 82 [(8, .int (Int32.ofNat 5)), (7, .ref R), (6, .int (Int32.ofNat i)), (5, .int (Int32.ofNat n)), (0, .ref A), (1, .int (Int32.ofNat t)), (2, .int (Int32.ofNat q)), (3, .int (Int32.ofNat f)), (4, .int (Int32.ofNat v))] [] W' c s r) → xr d 190 52 [(8, .int (Int32.ofNat k)), (7, .ref R), (6, .int (Int32.ofNat i)), (5, .int (Int32.ofNat n)), (0, .ref A), (1, .int (Int32.ofNat t)), (2, .int (Int32.ofNat q)), (3, .int (Int32.ofNat f)), (4, .int (Int32.ofNat v))] [] W0 c s r
  | 0, k, G, W0, hm, hw, hr, K => by
    obtain rfl : k = 5 := by omega
    refine xr_stp rfl rfl rfl rfl ?_
    refine xr_stp (st' := .int (Int32.ofNat 5) :: _) rfl rfl rfl rfl ?_
    refine xr_j2 rfl rfl rfl rfl rfl (fun h55 => ?_) (fun h55 => ?_)
    · exact K _ hw fr.rf
    · exact absurd (nf_ge (by omega) (by omega) h55) (by omega)
  | m + 1, k, G, W0, hm, hw, hr, K => by
    have hF : fr (· = A) W0 W0 := fr.rf
    refine xr_stp rfl rfl rfl rfl ?_
    refine xr_stp (st' := .int (Int32.ofNat 5) :: _) rfl rfl rfl rfl ?_
    refine xr_j2 rfl rfl rfl rfl rfl (fun h55 => ?_) (fun h55 => ?_)
    · exact absurd (nt_ge (by omega) (by omega) h55) (by omega)
    · refine xr_stp rfl rfl rfl rfl ?_
      refine xr_stp (st' := .int (Int32.ofNat 10) :: _) rfl rfl rfl rfl ?_
      refine xr_stp (st' := .int (Int32.ofNat 5) :: _) rfl rfl rfl rfl ?_
      refine xr_stp rfl rfl rfl rfl ?_
      refine xs_mul rfl ?_
      refine xs_add rfl ?_
      refine xr_stp rfl rfl rfl rfl ?_
      refine xs_add rfl ?_
      refine xr_stp rfl rfl rfl rfl ?_
      refine xr_stp rfl rfl rfl rfl ?_
      refine xs_ild hr (by omega) (by omega) rfl ?_
      refine xs_i2l (by exact hFb _ (by omega)) rfl ?_
      refine xs_astk hw hg (by omega) (by omega) rfl (fun W hw hf1 => ?_)
      have hr := hf1.at hr hne
      have hF := hF.tr2 hf1 (fun _ e => Or.inl e)
      refine xs_inc (e := 1) rfl rfl rfl rfl ?_
      refine xr_stp rfl rfl rfl rfl ?_
      exact lw_seL d c s A R hg hne F hFb t q f v n i hi r m (k + 1) _ _ (by omega) hw hr (fun W2 h1 h2 => K W2 h1 (hF.tr h2))
/-- the row of an entry -/
def lw_ro (t n q f v : Nat) : Nat → Nat := xn_u (xn_u (xn_u (xn_u (xn_u (fun _ => 0) 0 t) 1 n) 2 q) 3 f) 4 v
def lw_s1 (G : Nat → Nat) (t q f v : Nat) : Nat → Nat := lw_rc (lw_ro t (lw_nx G t (G 4) 0 1) q f v) (10 + 5 * G 4) 5 0 G
def lw_s2 (G : Nat → Nat) (t q f v : Nat) : Nat := lw_of (lw_s1 G t q f v) (lw_s1 G t q f v (330 + 2 * t)) q f (lw_s1 G t q f v 4) 0 0 ||| 1 * 2 ^ G 4
def lw_s3 (G : Nat → Nat) (t q f v : Nat) : Nat → Nat := xn_u (lw_s1 G t q f v) 4 (lw_s1 G t q f v 4 + 1)
def lw_s4 (G : Nat → Nat) (t q f v : Nat) : Nat → Nat := lw_tk (lw_s3 G t q f v) t (1 * 2 ^ G 4) (lw_s2 G t q f v)
/-- an entry is set -/
def lw_se (G : Nat → Nat) (t q f v : Nat) : Nat → Nat := lw_ts (lw_s4 G t q f v) 0 t q
/-- what holds of the law's numbers for these methods -/
def lw_ok (G : Nat → Nat) : Prop := (∀ j, G j < 9223372036854775808) ∧ G 4 ≤ 62 ∧ G 603 ≤ 300 ∧ (∀ t, t < 4 → G (342 + t) ≤ G (338 + t) ∧ G (338 + t) ≤ G (342 + t) + 6 ∧ G (338 + t) < 1000000)
theorem lw_nxle (G : Nat → Nat) (t : Nat) : ∀ (m k x : Nat), lw_nx G t m k x ≤ x + m
  | 0, _, _ => Nat.le_refl _
  | m + 1, k, x => by
    unfold lw_nx
    refine Nat.le_trans (lw_nxle G t m (k + 1) _) ?_
    split <;> omega
theorem lw_s1o (G : Nat → Nat) (t q f v : Nat) (h4 : G 4 ≤ 62) {j : Nat} (h : j < 10 ∨ 325 ≤ j) : lw_s1 G t q f v j = G j := by
  unfold lw_s1
  exact lw_rco _ _ _ _ _ _ (by omega)
theorem lw_roe (t n q f v : Nat) {B : Nat} (ht : t < B) (hn : n < B) (hq : q < B) (hf : f < B) (hv : v < B) (k : Nat) : lw_ro t n q f v k < B := by
  have h0 : 0 < B := by omega
  unfold lw_ro xn_u
  repeat' split
  all_goals assumption
theorem lw_rcb (F : Nat → Nat) (a B : Nat) (hF : ∀ k, F k < B) : ∀ (m k : Nat) (G : Nat → Nat), (∀ j, G j < B) → ∀ j, lw_rc F a m k G j < B
  | 0, _, _, h => h
  | m + 1, k, G, h => by
    unfold lw_rc
    refine lw_rcb F a B hF m (k + 1) _ (fun j => ?_)
    unfold xn_u
    split
    · exact hF k
    · exact h j
theorem lw_sets (d c s A : Nat) (W0 : xi_W) (G : Nat → Nat) (hw : W0[A]? = some (lw_a 1804 G)) (hg : 17 ≤ A) (hok : lw_ok G) (t q f v : Nat) (ht : t < 4) (hq : q < 4) (hf : f < 3) (hv : v < 100) (r : xi_R → Prop) (k : ∀ W', W'[A]? = some (lw_a 1804 (lw_se G t q f v)) → fr (· = A) W0 W' → r (some (.int (Int32.ofNat (lw_nx G t (G 4) 0 1))), W', c + 1, s + 5)) : xr (d + 2) 190 0 [(0, .ref A), (1, .int (Int32.ofNat t)), (2, .int (Int32.ofNat q)), (3, .int (Int32.ofNat f)), (4, .int (Int32.ofNat v))] [] W0 c s r := by
  obtain ⟨o1, o2, o3, o4⟩ := hok
  obtain ⟨p1, p2, p3⟩ := o4 t ht
  have hn := lw_nxle G t (G 4) 0 1
  have hF : fr (· = A) W0 W0 := fr.rf
  generalize en : lw_nx G t (G 4) 0 1 = n at hn k
  have b1 : ∀ j, lw_s1 G t q f v j < 9223372036854775808 := by
    unfold lw_s1
    rw [en]
    exact lw_rcb _ _ _ (lw_roe t n q f v (by omega) (by omega) (by omega) (by omega) (by omega)) _ _ _ o1
  have a4 : lw_s1 G t q f v 4 = G 4 := lw_s1o G t q f v o2 (by omega)
  have hp : 2 ^ G 4 < 9223372036854775808 := Nat.lt_of_le_of_lt (Nat.pow_le_pow_right (by omega) o2) (by decide)
  have a3 : ∀ j, 325 ≤ j → lw_s3 G t q f v j = G j := fun j hj => by
    unfold lw_s3
    rw [xn_un _ _ (by omega), lw_s1o G t q f v o2 (by omega)]
  refine xr_stp rfl rfl rfl rfl ?_
  refine xr_stp rfl rfl rfl rfl ?_
  refine xr_cps rfl rfl rfl (fun r1 K => lw_next _ _ _ A W0 G hw hg o1 (by omega) t ht r1 (K _ _ _ _ ?_))
  rw [en]
  refine xr_stp rfl rfl rfl rfl ?_
  refine xr_stp rfl rfl rfl rfl ?_
  refine xr_stp (st' := .int (Int32.ofNat 63) :: _) rfl rfl rfl rfl ?_
  refine xr_j2 rfl rfl rfl rfl rfl (fun h11 => ?_) (fun h11 => ?_)
  · have e11 := nt_le (by omega) (by omega) h11
    refine xr_stp rfl rfl rfl rfl ?_
    refine xr_stp (st' := .int (Int32.ofNat 4) :: _) rfl rfl rfl rfl ?_
    refine xs_ald hw hg (by omega) (by omega) rfl ?_
    refine xs_l2i rfl ?_
    refine xr_stp rfl rfl rfl rfl ?_
    refine xr_stp (st' := .int (Int32.ofNat 5) :: _) rfl rfl rfl rfl ?_
    have hlt0 := (List.getElem?_eq_some_iff.mp hw).1
    refine xs_newi (by omega) rfl (fun R W eR hr hf1 => ?_)
    have nRA : R ≠ A := by omega
    have hw := hf1.at hw (fun e => e)
    have zR : W0.length ≤ R := by have := hF.1; omega
    have gR : 17 ≤ R := by omega
    have hF := hF.tr2 hf1 (fun _ e => e.elim)
    refine xr_stp rfl rfl rfl rfl ?_
    refine xr_stp (st' := .int (Int32.ofNat 0) :: _) rfl rfl rfl rfl ?_
    refine xr_stp rfl rfl rfl rfl ?_
    refine xs_istk hr gR (by omega) (by omega) rfl (fun W hr hf1 => ?_)
    have hw := hf1.at hw (fun e => nRA e.symm)
    have hF := hF.tr2 hf1 (fun _ e => Or.inr (by rw [e]; exact zR))
    refine xr_stp rfl rfl rfl rfl ?_
    refine xr_stp (st' := .int (Int32.ofNat 1) :: _) rfl rfl rfl rfl ?_
    refine xr_stp rfl rfl rfl rfl ?_
    refine xs_istk hr gR (by omega) (by omega) rfl (fun W hr hf1 => ?_)
    have hw := hf1.at hw (fun e => nRA e.symm)
    have hF := hF.tr2 hf1 (fun _ e => Or.inr (by rw [e]; exact zR))
    refine xr_stp rfl rfl rfl rfl ?_
    refine xr_stp (st' := .int (Int32.ofNat 2) :: _) rfl rfl rfl rfl ?_
    refine xr_stp rfl rfl rfl rfl ?_
    refine xs_istk hr gR (by omega) (by omega) rfl (fun W hr hf1 => ?_)
    have hw := hf1.at hw (fun e => nRA e.symm)
    have hF := hF.tr2 hf1 (fun _ e => Or.inr (by rw [e]; exact zR))
    refine xr_stp rfl rfl rfl rfl ?_
    refine xr_stp (st' := .int (Int32.ofNat 3) :: _) rfl rfl rfl rfl ?_
    refine xr_stp rfl rfl rfl rfl ?_
    refine xs_istk hr gR (by omega) (by omega) rfl (fun W hr hf1 => ?_)
    have hw := hf1.at hw (fun e => nRA e.symm)
    have hF := hF.tr2 hf1 (fun _ e => Or.inr (by rw [e]; exact zR))
    refine xr_stp rfl rfl rfl rfl ?_
    refine xr_stp (st' := .int (Int32.ofNat 4) :: _) rfl rfl rfl rfl ?_
    refine xr_stp rfl rfl rfl rfl ?_
    refine xs_istk hr gR (by omega) (by omega) rfl (fun W hr hf1 => ?_)
    have hw := hf1.at hw (fun e => nRA e.symm)
    have hF := hF.tr2 hf1 (fun _ e => Or.inr (by rw [e]; exact zR))
    refine xr_stp rfl rfl rfl rfl ?_
    refine xr_stp (st' := .int (Int32.ofNat 0) :: _) rfl rfl rfl rfl ?_
    refine xr_stp rfl rfl rfl rfl ?_
    refine lw_seL _ _ _ A R hg nRA (lw_ro t n q f v) (fun k _ => lw_roe t n q f v (by omega) (by omega) (by omega) (by omega) (by omega) k) t q f v n (G 4) (by omega) r 5 0 G W rfl hw hr (fun W hw hf1 => ?_)
    have hF := hF.tr hf1
    rw [show lw_rc (lw_ro t n q f v) (10 + 5 * G 4) 5 0 G = lw_s1 G t q f v by unfold lw_s1; rw [en]] at hw
    refine xr_stp rfl rfl rfl rfl ?_
    refine xr_stp rfl rfl rfl rfl ?_
    refine xr_stp (st' := .int (Int32.ofNat 330) :: _) rfl rfl rfl rfl ?_
    refine xr_stp (st' := .int (Int32.ofNat 2) :: _) rfl rfl rfl rfl ?_
    refine xr_stp rfl rfl rfl rfl ?_
    refine xs_mul rfl ?_
    refine xs_add rfl ?_
    refine xs_ald hw hg (by omega) (by omega) rfl ?_
    refine xr_stp rfl rfl rfl rfl ?_
    refine xr_stp rfl rfl rfl rfl ?_
    refine xr_cps rfl rfl rfl (fun r1 K => lw_ofm _ _ _ A W _ hw hg b1 (by rw [a4]; omega) _ q f (b1 _) hq (Or.inl hf) r1 (K _ _ _ _ ?_))
    refine xr_stp (st' := .long (Int64.ofNat 1) :: _) rfl rfl rfl rfl ?_
    refine xr_stp rfl rfl rfl rfl ?_
    refine xs_lshl (by omega) rfl ?_
    refine xs_lor rfl ?_
    refine xr_stp rfl rfl rfl rfl ?_
    refine xr_stp rfl rfl rfl rfl ?_
    refine xr_stp (st' := .int (Int32.ofNat 4) :: _) rfl rfl rfl rfl ?_
    refine xr_stp rfl rfl rfl rfl ?_
    refine xs_ald hw hg (by omega) (by omega) rfl ?_
    refine xr_stp (st' := .long (Int64.ofNat 1) :: _) rfl rfl rfl rfl ?_
    refine xs_ladd rfl ?_
    refine xs_astk hw hg (by omega) (by omega) rfl (fun W hw hf1 => ?_)
    have hF := hF.tr2 hf1 (fun _ e => Or.inl e)
    refine xr_stp rfl rfl rfl rfl ?_
    refine xr_stp rfl rfl rfl rfl ?_
    refine xr_stp (st' := .long (Int64.ofNat 1) :: _) rfl rfl rfl rfl ?_
    refine xr_stp rfl rfl rfl rfl ?_
    refine xs_lshl (by omega) rfl ?_
    refine xr_stp rfl rfl rfl rfl ?_
    refine xr_cps rfl rfl rfl (fun r1 K => lw_takes _ _ _ A W (lw_s3 G t q f v) hw hg t _ (lw_s2 G t q f v) ht (by rw [a3 _ (by omega), a3 _ (by omega)]; exact p1) (by rw [a3 _ (by omega), a3 _ (by omega)]; exact p2) (by rw [a3 _ (by omega)]; exact p3) r1 (fun W hw hf1 => K _ _ _ _ ?_))
    have hF := hF.tr hf1
    refine xr_stp rfl rfl rfl rfl ?_
    refine xr_stp (st' := .int (Int32.ofNat 0) :: _) rfl rfl rfl rfl ?_
    refine xr_stp rfl rfl rfl rfl ?_
    refine xr_stp rfl rfl rfl rfl ?_
    refine xr_cps rfl rfl rfl (fun r1 K => lw_tells _ _ _ A W (lw_s4 G t q f v) hw hg 0 t q (by omega) (by omega) (by omega) ?_ r1 (fun W hw hf1 => K _ _ _ _ ?_))
    · unfold lw_s4; rw [lw_tko _ t _ _ ht (by omega) (by rw [a3 _ (by omega), a3 _ (by omega)]; exact p2) (by rw [a3 _ (by omega), a3 _ (by omega)]; exact p1), a3 _ (by omega)]; exact o3
    have hF := hF.tr hf1
    refine xr_stp rfl rfl rfl rfl ?_
    exact xr_ret rfl rfl (k _ hw hF)
  · exact absurd (nf_le (by omega) (by omega) h11) (by omega)
def lw_cx (G : Nat → Nat) (t q f : Nat) : Nat := lw_of G (G (330 + 2 * t)) q f (G 4) 0 0
/-- entries are cleared -/
def lw_cl (G : Nat → Nat) (t q f : Nat) : Nat → Nat := lw_ts (lw_tk G t 0 (lw_cx G t q f)) (if f = 4294967295 then 2 else 1) t q
theorem lw_clears0 (d c s A : Nat) (W0 : xi_W) (G : Nat → Nat) (hw : W0[A]? = some (lw_a 1804 G)) (hg : 17 ≤ A) (hok : lw_ok G) (t q f : Nat) (ht : t < 4) (hq : q < 4) (hf : f < 3 ∨ f = 4294967295) (h0 : lw_cx G t q f = 0) (r : xi_R → Prop) (k : r (some (.int (Int32.ofNat 4294967295)), W0, c, s)) : xr (d + 2) 191 0 [(0, .ref A), (1, .int (Int32.ofNat t)), (2, .int (Int32.ofNat q)), (3, .int (Int32.ofNat f))] [] W0 c s r := by
  obtain ⟨o1, o2, o3, o4⟩ := hok
  refine xr_stp rfl rfl rfl rfl ?_
  refine xr_stp rfl rfl rfl rfl ?_
  refine xr_stp (st' := .int (Int32.ofNat 330) :: _) rfl rfl rfl rfl ?_
  refine xr_stp (st' := .int (Int32.ofNat 2) :: _) rfl rfl rfl rfl ?_
  refine xr_stp rfl rfl rfl rfl ?_
  refine xs_mul rfl ?_
  refine xs_add rfl ?_
  refine xs_ald hw hg (by omega) (by omega) rfl ?_
  refine xr_stp rfl rfl rfl rfl ?_
  refine xr_stp rfl rfl rfl rfl ?_
  refine xr_cps rfl rfl rfl (fun r1 K => lw_ofm _ _ _ A W0 _ hw hg o1 (by omega) _ q f (o1 _) hq hf r1 (K _ _ _ _ ?_))
  change xr _ _ _ _ [.long (Int64.ofNat (lw_cx G t q f))] _ _ _ _
  rw [h0]
  refine xr_stp rfl rfl rfl rfl ?_
  refine xr_stp rfl rfl rfl rfl ?_
  refine xr_stp (st' := .long (Int64.ofNat 0) :: _) rfl rfl rfl rfl ?_
  refine xs_lc (by omega) (by omega) rfl ?_
  refine xr_j1 rfl rfl rfl rfl rfl (fun h21 => ?_) (fun h21 => ?_)
  · exact absurd rfl (lt_ne h21)
  · refine xr_stp (st' := .int (Int32.ofNat 4294967295) :: _) rfl rfl rfl rfl ?_
    exact xr_ret rfl rfl k
theorem lw_clears (d c s A : Nat) (W0 : xi_W) (G : Nat → Nat) (hw : W0[A]? = some (lw_a 1804 G)) (hg : 17 ≤ A) (hok : lw_ok G) (t q f : Nat) (ht : t < 4) (hq : q < 4) (hf : f < 3 ∨ f = 4294967295) (h0 : lw_cx G t q f ≠ 0) (r : xi_R → Prop) (k : ∀ W', W'[A]? = some (lw_a 1804 (lw_cl G t q f)) → fr (· = A) W0 W' → r (some (.int (Int32.ofNat (bc 63 (lw_cx G t q f)))), W', c, s)) : xr (d + 2) 191 0 [(0, .ref A), (1, .int (Int32.ofNat t)), (2, .int (Int32.ofNat q)), (3, .int (Int32.ofNat f))] [] W0 c s r := by
  obtain ⟨o1, o2, o3, o4⟩ := hok
  obtain ⟨p1, p2, p3⟩ := o4 t ht
  have hx := lw_of63 (G := G) (b := G (330 + 2 * t)) (q := q) (f := f) o2
  change lw_cx G t q f < _ at hx
  have hF : fr (· = A) W0 W0 := fr.rf
  have hbk : lw_tk G t 0 (lw_cx G t q f) 603 ≤ 300 := by rw [lw_tko _ t _ _ ht (by omega) p2 p1]; exact o3
  refine xr_stp rfl rfl rfl rfl ?_
  refine xr_stp rfl rfl rfl rfl ?_
  refine xr_stp (st' := .int (Int32.ofNat 330) :: _) rfl rfl rfl rfl ?_
  refine xr_stp (st' := .int (Int32.ofNat 2) :: _) rfl rfl rfl rfl ?_
  refine xr_stp rfl rfl rfl rfl ?_
  refine xs_mul rfl ?_
  refine xs_add rfl ?_
  refine xs_ald hw hg (by omega) (by omega) rfl ?_
  refine xr_stp rfl rfl rfl rfl ?_
  refine xr_stp rfl rfl rfl rfl ?_
  refine xr_cps rfl rfl rfl (fun r1 K => lw_ofm _ _ _ A W0 _ hw hg o1 (by omega) _ q f (o1 _) hq hf r1 (K _ _ _ _ ?_))
  change xr _ _ _ _ [.long (Int64.ofNat (lw_cx G t q f))] _ _ _ _
  refine xr_stp rfl rfl rfl rfl ?_
  refine xr_stp rfl rfl rfl rfl ?_
  refine xr_stp (st' := .long (Int64.ofNat 0) :: _) rfl rfl rfl rfl ?_
  refine xs_lc (by omega) (by omega) rfl ?_
  refine xr_j1 rfl rfl rfl rfl rfl (fun h21 => ?_) (fun h21 => ?_)
  · refine xr_stp rfl rfl rfl rfl ?_
    refine xr_stp rfl rfl rfl rfl ?_
    refine xr_stp (st' := .long (Int64.ofNat 0) :: _) rfl rfl rfl rfl ?_
    refine xr_stp rfl rfl rfl rfl ?_
    refine xr_cps rfl rfl rfl (fun r1 K => lw_takes _ _ _ A W0 _ hw hg t 0 (lw_cx G t q f) ht p1 p2 p3 r1 (fun W hw hf1 => K _ _ _ _ ?_))
    have hF := hF.tr hf1
    refine xr_stp rfl rfl rfl rfl ?_
    refine xr_stp rfl rfl rfl rfl ?_
    refine xr_j1 rfl rfl rfl rfl rfl (fun h36 => ?_) (fun h36 => ?_)
    · have e36 : f < 3 := hf.resolve_right (fun hf => by rw [hf] at h36; exact absurd h36 (by decide +kernel))
      unfold lw_cl at k
      rw [if_neg (show ¬ f = 4294967295 by omega)] at k
      refine xr_stp (st' := .int (Int32.ofNat 1) :: _) rfl rfl rfl rfl ?_
      refine xr_stp rfl rfl rfl rfl ?_
      refine xr_stp rfl rfl rfl rfl ?_
      refine xr_cps rfl rfl rfl (fun r1 K => lw_tells _ _ _ A W (lw_tk G t 0 (lw_cx G t q f)) hw hg _ t q (by omega) (by omega) (by omega) hbk r1 (fun W hw hf1 => K _ _ _ _ ?_))
      have hF := hF.tr hf1
      refine xr_stp rfl rfl rfl rfl ?_
      refine xr_cps rfl rfl rfl (fun r1 K => lw_many _ _ _ _ W (by omega) r1 (K _ _ _ _ ?_))
      exact xr_ret rfl rfl (k _ hw hF)
    · have e36 : f = 4294967295 := hf.resolve_left (fun hf => n_ge0 (by omega) h36)
      unfold lw_cl at k
      rw [if_pos e36] at k
      refine xr_stp (st' := .int (Int32.ofNat 2) :: _) rfl rfl rfl rfl ?_
      refine xr_stp rfl rfl rfl rfl ?_
      refine xr_stp rfl rfl rfl rfl ?_
      refine xr_stp rfl rfl rfl rfl ?_
      refine xr_cps rfl rfl rfl (fun r1 K => lw_tells _ _ _ A W (lw_tk G t 0 (lw_cx G t q f)) hw hg _ t q (by omega) (by omega) (by omega) hbk r1 (fun W hw hf1 => K _ _ _ _ ?_))
      have hF := hF.tr hf1
      refine xr_stp rfl rfl rfl rfl ?_
      refine xr_cps rfl rfl rfl (fun r1 K => lw_many _ _ _ _ W (by omega) r1 (K _ _ _ _ ?_))
      exact xr_ret rfl rfl (k _ hw hF)
  · exact absurd (lf_ne h21) h0
