/-! the class as law sees it: what it keeps, by its number -/
def uPd (A : Nat → Nat → Nat) (n : Nat) (G : Nat → Nat) : Nat → Nat → Nat := fun i => if i = n then G else A i
def CY (nn : Nat) (f : Nat → Int32) (q dl tx sy T N n lo : Nat) (G : Nat → Nat) (A : Nat → Nat → Nat) (W : xi_W) : Prop := lo ≤ n ∧ n - lo ≤ 30 ∧ ∃ fi, cmx nn f q dl tx sy T N fi (n - lo) (n - lo) G (fun k => A (lo + k)) W
theorem CY.push {nn : Nat} {f : Nat → Int32} {q dl tx sy T N n lo fi : Nat} {G G' : Nat → Nat} {A : Nat → Nat → Nat} {W : xi_W} (h1 : lo ≤ n) (h2 : n - lo ≤ 30) (h : cmx nn f q dl tx sy T N fi (min (n - lo + 1) 30) (min (n - lo + 1) 30) G' (sto (n - lo) (fun k => A (lo + k)) G) W) : CY nn f q dl tx sy T N (n + 1) (max lo (n + 1 - 30)) G' (uPd A n G) W := by
  have e : min (n - lo + 1) 30 = n + 1 - max lo (n + 1 - 30) := by omega
  refine ⟨by omega, by omega, fi, ?_⟩
  rw [e] at h
  refine h.ext (fun k hk => ?_)
  show (if max lo (n + 1 - 30) + k = n then G else A (max lo (n + 1 - 30) + k)) = (if k + (n - lo + 1 - min (n - lo + 1) 30) = n - lo then G else A (lo + (k + (n - lo + 1 - min (n - lo + 1) 30))))
  by_cases z : max lo (n + 1 - 30) + k = n
  · rw [if_pos z, if_pos (by omega)]
  · rw [if_neg z, if_neg (by omega), show lo + (k + (n - lo + 1 - min (n - lo + 1) 30)) = max lo (n + 1 - 30) + k by omega]
theorem kw.x {W W' : xi_W} {F : Nat → Nat} {v : Nat} (h : kw W 23 F) (hl : 687 ≤ W.length) {L : List Value} (hR : W[355]? = some (.inr (2, L))) (hp : W'[23]? = some (.inr (5, [.ref 24, .ref 28, .ref 29, .ref 30, .ref 31, .ref 32, .int (Int32.ofNat (F 8)), .int (Int32.ofNat (F 24)), .int (Int32.ofNat (F 40)), .int (Int32.ofNat v), .int (Int32.ofNat (F 72)), .int (Int32.ofNat (F 88))]))) (hf : fr (· = 23) W W') : kw W' 23 (xn_u F 56 v) := by
  have e : ∀ j k, k < 8 → xn_u F 56 v (16 * j + k) = F (16 * j + k) := fun j k hk => xn_un _ _ (by omega)
  refine kw.mk wb23 (by rw [xn_un F v (by omega), xn_un F v (by omega), xn_un F v (by omega), xn_ue, xn_un F v (by omega), xn_un F v (by omega)]; exact hp) (hf.at h.2 (by omega)) ?_ ?_ ?_ ?_ ?_ ?_ ?_ ?_
  · rw [show (fun j => xn_u F 56 v (16 * j + 0)) = (fun j => F (16 * j + 0)) from funext (fun j => e j 0 (by omega))]
    exact hf.at (h.k wb23 hl hR) (by omega)
  · rw [show (fun j => xn_u F 56 v (16 * j + 1)) = (fun j => F (16 * j + 1)) from funext (fun j => e j 1 (by omega))]
    exact hf.at (h.a wb23 hl hR) (by omega)
  · rw [show (fun j => xn_u F 56 v (16 * j + 2)) = (fun j => F (16 * j + 2)) from funext (fun j => e j 2 (by omega))]
    exact hf.at (h.c wb23 hl hR) (by omega)
  · rw [show (fun j => xn_u F 56 v (16 * j + 3)) = (fun j => F (16 * j + 3)) from funext (fun j => e j 3 (by omega))]
    exact hf.at (h.q wb23 hl hR) (by omega)
  · rw [show (fun j => xn_u F 56 v (16 * j + 4)) = (fun j => F (16 * j + 4)) from funext (fun j => e j 4 (by omega))]
    exact hf.at (h.m wb23 hl hR) (by omega)
  · rw [show (fun j => xn_u F 56 v (16 * j + 5)) = (fun j => F (16 * j + 5)) from funext (fun j => e j 5 (by omega))]
    exact hf.at (h.d wb23 hl hR) (by omega)
  · rw [show (fun j => xn_u F 56 v (16 * j + 6)) = (fun j => F (16 * j + 6)) from funext (fun j => e j 6 (by omega))]
    exact hf.at (h.f wb23 hl hR) (by omega)
  · rw [show (fun j => xn_u F 56 v (16 * j + 7)) = (fun j => F (16 * j + 7)) from funext (fun j => e j 7 (by omega))]
    exact hf.at (h.l wb23 hl hR) (by omega)
theorem RL.x {lo N : Nat} {G F : Nat → Nat} (h : RL lo N G F) {v : Nat} (hv : v < 31139) (hN : N < 1000000) : RL lo N (xn_u G 1 v) (xn_u F 56 v) := by
  refine ⟨h.1.scal (k := 1) (by omega) (by omega) (fun z => by omega) (h.j.low 1 _ (by omega) (fun _ => hv) (fun e => absurd rfl e) (Nat.le_refl _) hN), fun i hi => ?_⟩
  have e4 : xn_u G 1 v 4 = G 4 := xn_un _ _ (by omega)
  rw [e4] at hi
  rw [xn_un G v (show 10 + 5 * i ≠ 1 by omega), xn_un G v (by omega)]
  exact h.2 i hi
def tk_ (nn : Nat) (f : Nat → Int32) (q : Nat) : Nat → (Nat → Nat) → (Nat → Nat)
  | 0, G => G
  | k + 1, G => tk_ nn f q k (lw_ti nn f q 24 G)
def tkS (nn : Nat) (f : Nat → Int32) (q : Nat) : Nat → (Nat → Nat) → Nat
  | 0, _ => 0
  | k + 1, G => lw_mc nn f q 24 (lw_t0 G) + tkS nn f q k (lw_ti nn f q 24 G)
def tkA (nn : Nat) (f : Nat → Int32) (q : Nat) : Nat → Nat → (Nat → Nat) → (Nat → Nat → Nat) → (Nat → Nat → Nat)
  | 0, _, _, A => A
  | k + 1, n, G, A => tkA nn f q k (n + 1) (lw_ti nn f q 24 G) (uPd A n G)

theorem cl_dayL (d c s nn q dl tx sy T n0 : Nat) (f : Nat → Int32) (hn0 : n0 ≤ 12) (r : xi_R → Prop) : ∀ (m i S N n lo : Nat) (G : Nat → Nat) (A : Nat → Nat → Nat) (W0 : xi_W), i + m = n0 → CY nn f q dl tx sy T N n lo G A W0 → N + 65 * m + 70 < 90000 → (∀ W', CY nn f q dl tx sy T (N + 65 * m) (n + m) (max lo (n + m - 30)) (tk_ nn f q m G) (tkA nn f q m n G A) W' → fr pq W0 W' → xr (d + 7) 105 75 [(3, .int (Int32.ofNat n0)), (2, .int (Int32.ofNat (S + tkS nn f q m G))), (0, .ref 17), (1, .int (Int32.ofNat n0))] [] W' c s r) → xr (d + 7) 105 32 [(3, .int (Int32.ofNat i)), (2, .int (Int32.ofNat S)), (0, .ref 17), (1, .int (Int32.ofNat n0))] [] W0 c s r
  | 0, i, S, N, n, lo, G, A, W0, hi, hc, hN, K => by
    have K := K W0 (by
      have e : max lo (n + 0 - 30) = lo := by have := hc.1; have := hc.2.1; omega
      rw [e]; exact hc) fr.rf
    obtain ⟨_, _, fi, hc⟩ := hc
    obtain ⟨lf, lp, hO⟩ := hc.o
    obtain rfl : i = n0 := by omega
    refine xr_stp rfl rfl rfl rfl ?_
    refine xr_stp rfl rfl rfl rfl ?_
    refine xr_j2 rfl rfl rfl rfl rfl (fun h34 => ?_) (fun h34 => ?_)
    · exact K
    · exact absurd (nf_ge (by omega) (by omega) h34) (by omega)
  | m + 1, i, S, N, n, lo, G, A, W0, hi, hc, hN, K => by
    obtain ⟨hlo, hnl, fi, hc⟩ := hc
    obtain ⟨lf, lp, hO⟩ := hc.o
    refine xr_stp rfl rfl rfl rfl ?_
    refine xr_stp rfl rfl rfl rfl ?_
    refine xr_j2 rfl rfl rfl rfl rfl (fun h34 => ?_) (fun h34 => ?_)
    · exact absurd (nt_ge (by omega) (by omega) h34) (by omega)
    · refine xr_stp rfl rfl rfl rfl ?_
      refine xr_getfield hO rfl rfl rfl rfl ?_
      refine xr_stp rfl rfl rfl rfl ?_
      refine xr_getfield hO rfl rfl rfl rfl ?_
      refine xr_vcps hc.st rfl rfl rfl rfl rfl rfl (fun r1 K2 => st_stage _ _ _ nn q dl tx sy T N fi (n - lo) (n - lo) f W0 G _ hc r1 (fun W1 hc1 hf1 => K2 _ _ _ _ ?_))
      obtain ⟨lf, lp, hO⟩ := hc1.o
      obtain ⟨F, hw, hr⟩ := hc1.w
      have hl := hc1.l
      have hR := hc1.R
      have hd1 := hc1.d
      refine xr_stp rfl rfl rfl rfl ?_
      refine xr_stp rfl rfl rfl rfl ?_
      refine xr_getfield hO rfl rfl rfl rfl ?_
      refine xr_stp rfl rfl rfl rfl ?_
      refine xr_getfield hO rfl rfl rfl rfl ?_
      refine xr_vcps (hw.w wb23 hl hR) rfl rfl rfl rfl rfl rfl (fun r1 K2 => kl_tick _ _ _ 23 nn q dl tx sy T f wb23 hc1.q r1 N G F W1 hw hc1.ok hr hd1.symm (by omega) (fun W2 F2 hw2 hs2 hf2 h2 h5 => K2 _ _ _ _ ?_))
      have hc2 := hc1.now (G' := lw_ti nn f q 24 G) hf2 hw2 hs2 h2 (by rw [h5]; exact hd1) (by omega)
      obtain ⟨lf, lp, hO⟩ := hc2.o
      refine xs_add rfl ?_
      refine xr_stp rfl rfl rfl rfl ?_
      refine xr_stp rfl rfl rfl rfl ?_
      refine xr_getfield hO rfl rfl rfl rfl ?_
      refine xr_vcps hc2.st rfl rfl rfl rfl rfl rfl (fun r1 K2 => st_commit _ _ _ nn q dl tx sy T _ fi (n - lo) f W2 _ _ hc2 r1 (fun W3 fi3 hc3 hf3 => K2 _ _ _ _ ?_))
      have hc4 := CY.push hlo hnl hc3
      obtain ⟨lf, lp, hO⟩ := hc3.o
      refine xs_inc (e := 1) rfl rfl rfl rfl ?_
      refine xr_stp rfl rfl rfl rfl ?_
      refine cl_dayL d c s nn q dl tx sy T n0 f hn0 r m (i + 1) _ (N + 65) (n + 1) _ _ _ W3 (by omega) hc4 (by omega) (fun W5 hc5 hf5 => ?_)
      have K := K W5 (by
        have e : max (max lo (n + 1 - 30)) (n + 1 + m - 30) = max lo (n + (m + 1) - 30) := by omega
        rw [e, show N + 65 + 65 * m = N + 65 * (m + 1) by omega, show n + 1 + m = n + (m + 1) by omega] at hc5
        exact hc5) ((pq_s hf1).tr ((pq_k hf2).tr ((pq_c hf3).tr hf5)))
      rw [show S + tkS nn f q (m + 1) G = S + lw_mc nn f q 24 (lw_t0 G) + tkS nn f q m (lw_ti nn f q 24 G) from (Nat.add_assoc _ _ _).symm] at K
      exact K
/-- 'day' -/
theorem cl_day (d c s nn q dl tx sy T N n lo : Nat) (f : Nat → Int32) (W0 : xi_W) (G : Nat → Nat) (A : Nat → Nat → Nat) (n0 : Nat) (hc : CY nn f q dl tx sy T N n lo G A W0) (h1 : 1 ≤ n0) (h12 : n0 ≤ 12) (hck : G 0 + n0 ≤ 9999) (hN : N + 65 * n0 + 70 < 90000) (r : xi_R → Prop) (K : ∀ W', CY nn f q dl tx sy T (N + 65 * n0) (n + n0) (max lo (n + n0 - 30)) (tk_ nn f q n0 G) (tkA nn f q n0 n G A) W' → fr pq W0 W' → r (some (.int (Int32.ofNat (tkS nn f q n0 G))), W', c, s)) : xr (d + 7) 105 0 [(0, .ref 17), (1, .int (Int32.ofNat n0))] [] W0 c s r := by
  have hc0 := hc
  obtain ⟨_, _, fi, hc⟩ := hc
  obtain ⟨lf, lp, hO⟩ := hc.o
  obtain ⟨F, hw, hr⟩ := hc.w
  have hW := hw.w wb23 hc.l hc.R
  have e40 : F 40 = G 0 := hr.1.2.2.2.2.2.2.1.1
  rw [e40] at hW
  refine xr_stp rfl rfl rfl rfl ?_
  refine xr_stp (st' := .int (Int32.ofNat 1) :: _) rfl rfl rfl rfl ?_
  refine xr_j2 rfl rfl rfl rfl rfl (fun h2 => ?_) (fun h2 => ?_)
  · exact absurd (nt_lt (by omega) (by omega) h2) (by omega)
  · refine xr_stp rfl rfl rfl rfl ?_
    refine xr_stp (st' := .int (Int32.ofNat 12) :: _) rfl rfl rfl rfl ?_
    refine xr_j2 rfl rfl rfl rfl rfl (fun h8 => ?_) (fun h8 => ?_)
    · exact absurd (nt_gt (by omega) (by omega) h8) (by omega)
    · refine xr_stp rfl rfl rfl rfl ?_
      refine xr_getfield hO rfl rfl rfl rfl ?_
      refine xr_getfield hW rfl rfl rfl rfl ?_
      refine xr_stp rfl rfl rfl rfl ?_
      refine xs_add rfl ?_
      refine xr_stp (st' := .int (Int32.ofNat 9999) :: _) rfl rfl rfl rfl ?_
      refine xr_j2 rfl rfl rfl rfl rfl (fun h23 => ?_) (fun h23 => ?_)
      · refine xr_stp (st' := .int (Int32.ofNat 0) :: _) rfl rfl rfl rfl ?_
        refine xr_stp rfl rfl rfl rfl ?_
        refine xr_stp (st' := .int (Int32.ofNat 0) :: _) rfl rfl rfl rfl ?_
        refine xr_stp rfl rfl rfl rfl ?_
        refine cl_dayL d c s nn q dl tx sy T n0 f h12 r n0 0 0 N n lo G A W0 (by omega) hc0 (by omega) (fun W1 hc1 hf1 => ?_)
        rw [Nat.zero_add]
        refine xr_stp rfl rfl rfl rfl ?_
        exact xr_ret rfl rfl (K W1 hc1 hf1)
      · exact absurd (nf_le (by omega) (by omega) h23) (by omega)
theorem cl_yrL (d c s nn q dl tx sy T fi m mm sd cnt : Nat) (f : Nat → Int32) (GS : Nat → Nat → Nat) (hn0 : cnt ≤ 24) (r : xi_R → Prop) : ∀ (k i N : Nat) (G : Nat → Nat) (W0 : xi_W), i + k = cnt → cmx nn f q dl tx sy T N fi m mm G GS W0 → G 4 + k ≤ 62 → G 0 + k ≤ 9999 → N + 65 * k + 80 < 90000 → (∀ W', cmx nn f q dl tx sy T (N + 65 * k) fi m mm (lw_yr nn f q k G) GS W' → fr pq W0 W' → lw_yr nn f q k G 0 ≤ G 0 + k → xr (d + 8) 107 73 [(3, .int (Int32.ofNat cnt)), (0, .ref 17), (1, .int (Int32.ofNat sd)), (2, .int (Int32.ofNat cnt))] [] W' c s r) → xr (d + 8) 107 51 [(3, .int (Int32.ofNat i)), (0, .ref 17), (1, .int (Int32.ofNat sd)), (2, .int (Int32.ofNat cnt))] [] W0 c s r
  | 0, i, N, G, W0, hi, hc, h4, h0, hN, K => by
    have K := K W0 hc fr.rf (Nat.le_refl _)
    obtain ⟨lf, lp, hO⟩ := hc.o
    obtain rfl : i = cnt := by omega
    refine xr_stp rfl rfl rfl rfl ?_
    refine xr_stp rfl rfl rfl rfl ?_
    refine xr_j2 rfl rfl rfl rfl rfl (fun h53 => ?_) (fun h53 => ?_)
    · exact K
    · exact absurd (nf_ge (by omega) (by omega) h53) (by omega)
  | k + 1, i, N, G, W0, hi, hc, h4, h0, hN, K => by
    obtain ⟨lf, lp, hO⟩ := hc.o
    obtain ⟨F, hw, hr⟩ := hc.w
    have hl := hc.l
    have hR := hc.R
    have hd1 := hc.d
    refine xr_stp rfl rfl rfl rfl ?_
    refine xr_stp rfl rfl rfl rfl ?_
    refine xr_j2 rfl rfl rfl rfl rfl (fun h53 => ?_) (fun h53 => ?_)
    · exact absurd (nt_ge (by omega) (by omega) h53) (by omega)
    · refine xr_stp rfl rfl rfl rfl ?_
      refine xr_getfield hO rfl rfl rfl rfl ?_
      refine xr_stp rfl rfl rfl rfl ?_
      refine xr_getfield hO rfl rfl rfl rfl ?_
      refine xr_vcps (hw.w wb23 hl hR) rfl rfl rfl rfl rfl rfl (fun r1 K2 => kl_ev _ _ _ 23 N nn q dl tx sy T f W0 F G wb23 hc.q hw hc.ok hr hd1.symm (by omega) (by omega) (by omega) r1 (fun W2 F2 hw2 hs2 hf2 h2 h5 h0b => K2 _ _ _ _ ?_))
      have hc2 := hc.now (G' := lw_ev nn f q G) hf2 hw2 hs2 h2 (by rw [h5]; exact hd1) (by omega)
      have h4b := (hr.j.ev nn f q (by omega) (by omega)).2
      obtain ⟨lf, lp, hO⟩ := hc2.o
      refine xs_inc (e := 1) rfl rfl rfl rfl ?_
      refine xr_stp rfl rfl rfl rfl ?_
      refine cl_yrL d c s nn q dl tx sy T fi m mm sd cnt f GS hn0 r k (i + 1) (N + 65) _ W2 (by omega) hc2 (by omega) (by omega) (by omega) (fun W5 hc5 hf5 h5 => ?_)
      rw [show N + 65 + 65 * k = N + 65 * (k + 1) by omega] at hc5
      exact K W5 hc5 ((pq_k hf2).tr hf5) (Nat.le_trans h5 (by omega))
/-- 'years' -/
theorem cl_years (d c s nn q dl tx sy T N n lo : Nat) (f : Nat → Int32) (W0 : xi_W) (G : Nat → Nat) (A : Nat → Nat → Nat) (sd cnt : Nat) (hc : CY nn f q dl tx sy T N n lo G A W0) (hsd : sd ≤ 9999) (h1 : 1 ≤ cnt) (h24 : cnt ≤ 24) (h4 : G 4 + cnt ≤ 62) (hck : G 0 + cnt ≤ 9999) (hN : N + 65 * cnt + 80 < 90000) (r : xi_R → Prop) (K : ∀ W', CY nn f q dl tx sy T (N + 65 * cnt) (n + 1) (max lo (n + 1 - 30)) (lw_ys nn f q G sd cnt) (uPd A n G) W' → fr pq W0 W' → lw_ys nn f q G sd cnt 0 ≤ G 0 + cnt → r (some (.int (Int32.ofNat (lw_ys nn f q G sd cnt 0))), W', c, s)) : xr (d + 8) 107 0 [(0, .ref 17), (1, .int (Int32.ofNat sd)), (2, .int (Int32.ofNat cnt))] [] W0 c s r := by
  obtain ⟨hlo, hnl, fi, hc⟩ := hc
  obtain ⟨lf, lp, hO⟩ := hc.o
  refine xr_stp rfl rfl rfl rfl ?_
  refine xr_j1 rfl rfl rfl rfl rfl (fun h1_ => ?_) (fun h1_ => ?_)
  · exact absurd (show sd < 2147483648 by omega) (n_lt0 h1_)
  · refine xr_stp rfl rfl rfl rfl ?_
    refine xr_stp (st' := .int (Int32.ofNat 9999) :: _) rfl rfl rfl rfl ?_
    refine xr_j2 rfl rfl rfl rfl rfl (fun h8 => ?_) (fun h8 => ?_)
    · exact absurd (nt_gt (by omega) (by omega) h8) (by omega)
    · refine xr_stp rfl rfl rfl rfl ?_
      refine xr_stp (st' := .int (Int32.ofNat 1) :: _) rfl rfl rfl rfl ?_
      refine xr_j2 rfl rfl rfl rfl rfl (fun h13 => ?_) (fun h13 => ?_)
      · exact absurd (nt_lt (by omega) (by omega) h13) (by omega)
      · refine xr_stp rfl rfl rfl rfl ?_
        refine xr_stp (st' := .int (Int32.ofNat 24) :: _) rfl rfl rfl rfl ?_
        refine xr_j2 rfl rfl rfl rfl rfl (fun h19 => ?_) (fun h19 => ?_)
        · refine xr_stp rfl rfl rfl rfl ?_
          refine xr_getfield hO rfl rfl rfl rfl ?_
          refine xr_stp rfl rfl rfl rfl ?_
          refine xr_getfield hO rfl rfl rfl rfl ?_
          refine xr_vcps hc.st rfl rfl rfl rfl rfl rfl (fun r1 K2 => st_stage _ _ _ nn q dl tx sy T N fi (n - lo) (n - lo) f W0 G _ hc r1 (fun W1 hc1 hf1 => K2 _ _ _ _ ?_))
          obtain ⟨lf, lp, hO⟩ := hc1.o
          obtain ⟨F, hw, hr⟩ := hc1.w
          have hl := hc1.l
          have hR := hc1.R
          have hd1 := hc1.d
          have hW := hw.w wb23 hl hR
          refine xr_stp rfl rfl rfl rfl ?_
          refine xr_getfield hO rfl rfl rfl rfl ?_
          refine xr_stp rfl rfl rfl rfl ?_
          refine xr_stp (st' := .int (Int32.ofNat 2) :: _) rfl rfl rfl rfl ?_
          refine xs_mul rfl ?_
          refine xr_stp (st' := .int (Int32.ofNat 509) :: _) rfl rfl rfl rfl ?_
          refine xs_add rfl ?_
          refine xr_putk hW (by omega) rfl rfl rfl rfl rfl rfl (fun W2 hp2 hf2 => ?_)
          have hk2 := hw.x hl hR hp2 hf2
          have hc2 := hc1.now (G' := xn_u G 1 (sd * 2 + 509)) (N' := N) (hf2.weak (fun i _ (z : i = 23) => by unfold kr kin; omega)) hk2 (hc1.ok.2.2.2.2.2.1.keep hf2 (by omega) (by omega)) (by rw [xn_un G _ (show (0 : Nat) ≠ 1 by omega)]; exact hr.x (by omega) (by omega)) (by rw [xn_un G _ (show (5 : Nat) ≠ 1 by omega)]; exact hd1) (Nat.le_refl _)
          refine xr_stp (st' := .int (Int32.ofNat 0) :: _) rfl rfl rfl rfl ?_
          refine xr_stp rfl rfl rfl rfl ?_
          refine cl_yrL d c s nn q dl tx sy T fi (n - lo) (n - lo + 1) sd cnt f _ h24 r cnt 0 N _ W2 (by omega) hc2 (by rw [xn_un G _ (show (4 : Nat) ≠ 1 by omega)]; omega) (by rw [xn_un G _ (show (0 : Nat) ≠ 1 by omega)]; omega) (by omega) (fun W3 hc3 hf3 h3 => ?_)
          rw [show lw_yr nn f q cnt (xn_u G 1 (sd * 2 + 509)) = lw_ys nn f q G sd cnt from by rw [Nat.mul_comm sd 2]; rfl] at hc3 h3
          rw [xn_un G _ (show (0 : Nat) ≠ 1 by omega)] at h3
          obtain ⟨lf, lp, hO⟩ := hc3.o
          refine xr_stp rfl rfl rfl rfl ?_
          refine xr_getfield hO rfl rfl rfl rfl ?_
          refine xr_vcps hc3.st rfl rfl rfl rfl rfl rfl (fun r1 K2 => st_commit _ _ _ nn q dl tx sy T _ fi (n - lo) f W3 _ _ hc3 r1 (fun W4 fi4 hc4 hf4 => K2 _ _ _ _ ?_))
          obtain ⟨lf, lp, hO⟩ := hc4.o
          obtain ⟨F4, hw4, hr4⟩ := hc4.w
          have hW4 := hw4.w wb23 hc4.l hc4.R
          rw [show F4 40 = lw_ys nn f q G sd cnt 0 from hr4.1.2.2.2.2.2.2.1.1] at hW4
          refine xr_stp rfl rfl rfl rfl ?_
          refine xr_getfield hO rfl rfl rfl rfl ?_
          refine xr_getfield hW4 rfl rfl rfl rfl ?_
          exact xr_ret rfl rfl (K W4 (CY.push hlo hnl hc4) ((pq_s hf1).tr ((hf2.weak (fun i _ (z : i = 23) => by unfold pq; omega)).tr (hf3.tr (pq_c hf4)))) h3)
        · exact absurd (nf_le (by omega) (by omega) h19) (by omega)
