/-! the class: SET, CLEARED, RESET of a World that stands in the relation -/
theorem cn_removeF0 {b : xi_W} {I : Nat → Nat} {R : Nat × List Value} (B : cn_B b I R) (d : Nat) (F : Nat → Nat) (c s : Nat) (r q f : Nat) (hf : f < 4294967296) (hr : r < 4) (hq : q < 4) (hk0 : cn_ok F r) (h0 : cn_mo F r q f 256 0 0 = 0) : xg (d + 3) 76 0 [(0, .ref (I 0)), (1, .int (Int32.ofNat r)), (2, .int (Int32.ofNat q)), (3, .int (Int32.ofNat f))] [] (cn_w b I F) c s (some (.int (Int32.ofNat (4294967295))), cn_w b I (F), c, s) := by
  refine xg_stp rfl rfl rfl rfl ?_
  refine xg_getfield (cn_g0 B _) rfl rfl rfl rfl ?_
  refine xg_stp rfl rfl rfl rfl ?_
  refine xg_stp rfl rfl rfl rfl ?_
  refine xg_stp rfl rfl rfl rfl ?_
  refine xg_vcall (cn_g1 B _) rfl rfl rfl rfl rfl rfl (cn_many B d F 0 0 r q f (by omega) (by omega) (by omega) hk0) ?_
  refine xg_stp rfl rfl rfl rfl ?_
  refine xg_stp rfl rfl rfl rfl ?_
  refine xg_j1 rfl rfl rfl rfl rfl (fun h14 => ?_) (fun h14 => ?_)
  · exact absurd h0 (nt1_ne h14)
  · refine xg_stp (st' := .int (Int32.ofNat 4294967295) :: _) rfl rfl rfl rfl ?_
    exact xg_ret rfl rfl
/-- 'remove' -/
theorem cn_removeF {b : xi_W} {I : Nat → Nat} {R : Nat × List Value} (B : cn_B b I R) (d : Nat) (F : Nat → Nat) (c s : Nat) (r q f : Nat) (hf : f < 4294967296) (hr : r < 4) (hq : q < 4) (hk0 : cn_ok F r) (h0 : ¬ cn_mo F r q f 256 0 0 = 0) (h4 : F (16 * r + 4) < 1000000) (h5 : F (16 * r + 5) < 1000000) (hk : cn_ok (cn_nd F r) r) (h24 : cn_mg r (cn_nr F r) 4 0 (cn_pg F r q f) 24 ≤ 25) : xg (d + 3) 76 0 [(0, .ref (I 0)), (1, .int (Int32.ofNat r)), (2, .int (Int32.ofNat q)), (3, .int (Int32.ofNat f))] [] (cn_w b I F) c s (some (.int (Int32.ofNat (cn_mo F r q f 256 0 0))), cn_w b I (cn_rw F r q f), c, s) := by
  have hnr := cn_nrl F hr
  have hml := cn_mole F r q f 256 0 0
  refine xg_stp rfl rfl rfl rfl ?_
  refine xg_getfield (cn_g0 B _) rfl rfl rfl rfl ?_
  refine xg_stp rfl rfl rfl rfl ?_
  refine xg_stp rfl rfl rfl rfl ?_
  refine xg_stp rfl rfl rfl rfl ?_
  refine xg_vcall (cn_g1 B _) rfl rfl rfl rfl rfl rfl (cn_many B d F 0 0 r q f (by omega) (by omega) (by omega) hk0) ?_
  refine xg_stp rfl rfl rfl rfl ?_
  refine xg_stp rfl rfl rfl rfl ?_
  refine xg_j1 rfl rfl rfl rfl rfl (fun h14 => ?_) (fun h14 => ?_)
  · refine xg_stp rfl rfl rfl rfl ?_
    refine xg_stp rfl rfl rfl rfl ?_
    refine xg_vcall (cn_g0 B _) rfl rfl rfl rfl rfl rfl (cn_nextDelta B d F 0 0 r hr h4 h5) ?_
    refine xg_stp rfl rfl rfl rfl ?_
    refine xg_stp rfl rfl rfl rfl ?_
    refine xg_getfield (cn_g0 B _) rfl rfl rfl rfl ?_
    refine xg_stp rfl rfl rfl rfl ?_
    refine xg_stp rfl rfl rfl rfl ?_
    refine xg_stp rfl rfl rfl rfl ?_
    refine xg_stp rfl rfl rfl rfl ?_
    refine xg_vcall (cn_g1 B _) rfl rfl rfl rfl rfl rfl (cn_gather B d (cn_nd F r) 0 0 (cn_nr F r) r q f (by omega) (by omega) (by omega) (by omega) (by omega) hk) ?_
    refine xg_stp rfl rfl rfl rfl ?_
    refine xg_getfield (cn_g0 B _) rfl rfl rfl rfl ?_
    refine xg_stp rfl rfl rfl rfl ?_
    refine xg_stp rfl rfl rfl rfl ?_
    refine xg_vcall (cn_g1 B _) rfl rfl rfl rfl rfl rfl (cn_merge B (d + 2) (cn_pg F r q f) 0 0 r (cn_nr F r) (by omega) (by omega)) ?_
    refine xg_stp rfl rfl rfl rfl ?_
    refine xg_stp rfl rfl rfl rfl ?_
    refine xg_stp (st' := .int (Int32.ofNat 4294967295) :: _) rfl rfl rfl rfl ?_
    unfold cn_rw
    refine xg_j2 rfl rfl rfl rfl rfl (fun h51 => ?_) (fun h51 => ?_)
    · rw [if_neg (nt_ne h51)]
      refine xg_stp (st' := .int (Int32.ofNat 1) :: _) rfl rfl rfl rfl ?_
      refine xg_stp rfl rfl rfl rfl ?_
      refine xg_stp rfl rfl rfl rfl ?_
      refine xg_vcall (cn_g0 B _) rfl rfl rfl rfl rfl rfl (cn_write B (d + 1) (cn_mg r (cn_nr F r) 4 0 (cn_pg F r q f)) 0 0 1 r q h24) ?_
      refine xg_stp rfl rfl rfl rfl ?_
      exact xg_ret rfl rfl
    · rw [if_pos (nf_ne (by omega) (by omega) h51)]
      refine xg_stp (st' := .int (Int32.ofNat 2) :: _) rfl rfl rfl rfl ?_
      refine xg_stp rfl rfl rfl rfl ?_
      refine xg_stp rfl rfl rfl rfl ?_
      refine xg_stp rfl rfl rfl rfl ?_
      refine xg_vcall (cn_g0 B _) rfl rfl rfl rfl rfl rfl (cn_write B (d + 1) (cn_mg r (cn_nr F r) 4 0 (cn_pg F r q f)) 0 0 2 r q h24) ?_
      refine xg_stp rfl rfl rfl rfl ?_
      exact xg_ret rfl rfl
  · exact absurd (nf1_ne (by omega) h14) h0
theorem rr_a_iff {G F : Nat → Nat} {x h k u : Nat} (he : en G (G 4)) (hm : G 4 ≤ 62) (hx : ro G F x h k) (hu : u < 256) : rr_a F x u ↔ ∃ i, i < G 4 ∧ h.testBit i = true ∧ dt G i = u := by
  unfold rr_a dt
  rw [(hx (u / 64) (by omega)).2, pr_bit]
  constructor
  · rintro ⟨h1, i, h2, h3, h4, h5⟩
    have hn := he.num h2
    exact ⟨i, h2, h4, by omega⟩
  · rintro ⟨i, h2, h4, h5⟩
    have hn := he.num h2
    have ei := he i h2
    exact ⟨by omega, i, h2, by omega, h4, by omega⟩
theorem dt_lt {G : Nat → Nat} (he : en G (G 4)) (hm : G 4 ≤ 62) {i : Nat} (hi : i < G 4) : dt G i < 256 ∧ dt G i / 64 = G (10 + 5 * i) ∧ dt G i % 64 = G (11 + 5 * i) := by
  have hn := he.num hi
  have ei := he i hi
  unfold dt
  omega
theorem he_go {G : Nat → Nat} (he : en G (G 4)) (hm : G 4 ≤ 62) {O : Nat} (hO : O < 2 ^ G 4) {P : Nat → Nat} (hP : ∀ u, u < 256 → (P u ≠ 0 ↔ ∃ i, i < G 4 ∧ O.testBit i = true ∧ dt G i = u)) : go P (fun k => dt G (lw_row G O k)) (bc 63 O) 256 := by
  obtain ⟨r1, r2, r3⟩ := lw_rowE he hm hO
  refine ⟨fun k hk => (dt_lt he hm (r1 k hk).1).1, r2, fun t ht => ?_⟩
  rw [hP t ht]
  constructor
  · rintro ⟨i, h1, h2, h3⟩
    obtain ⟨k, k1, k2⟩ := r3 i h1 h2
    exact ⟨k, k1, by show dt G (lw_row G O k) = t; rw [k2, h3]⟩
  · rintro ⟨k, k1, k2⟩
    exact ⟨lw_row G O k, (r1 k k1).1, (r1 k k1).2, k2⟩
/-- entries of a key and a field of a row -/
theorem he_of {G F : Nat → Nat} {x h k : Nat} (q f : Nat) (he : en G (G 4)) (hm : G 4 ≤ 62) (hx : ro G F x h k) (hC : ∀ i, i < G 4 → F (16 * (64 * G (10 + 5 * i) + G (11 + 5 * i)) + 2) = (G (12 + 5 * i) * 3 + G (13 + 5 * i)) * 100 + G (14 + 5 * i)) (hq : q < 4) : go (fun u => cn_he F x u q f) (fun k => dt G (lw_row G (lw_of G h q f (G 4) 0 0) k)) (bc 63 (lw_of G h q f (G 4) 0 0)) 256 :=
  he_go he hm (lw_of_lt G h q f) (fun u hu => by
    rw [rr_he hq hu, rr_a_iff he hm hx hu]
    unfold rr_m
    constructor
    · rintro ⟨⟨i, h1, h2, h3⟩, h4, h5⟩
      have ei := he i h1
      have e := hC i h1
      unfold dt at h3
      rw [h3] at e
      rw [e] at h4 h5
      exact ⟨i, h1, (lw_cx_tb G h q f i).mpr ⟨h1, h2, by omega, by omega⟩, h3⟩
    · rintro ⟨i, h1, h2, h3⟩
      obtain ⟨_, b2, b3, b4⟩ := (lw_cx_tb G h q f i).mp h2
      have ei := he i h1
      have e := hC i h1
      refine ⟨⟨i, h1, b2, h3⟩, ?_⟩
      unfold dt at h3
      rw [h3] at e
      rw [e]
      omega)
/-- all entries of a row -/
theorem he_all {G F : Nat → Nat} {x h k : Nat} (he : en G (G 4)) (hm : G 4 ≤ 62) (hx : ro G F x h k) (hh : h < 2 ^ G 4) : go (fun u => cn_he F x u 4294967295 4294967295) (fun k => dt G (lw_row G h k)) (bc 63 h) 256 :=
  he_go he hm hh (fun u hu => by
    rw [← rr_a_iff he hm hx hu]
    have hb : ¬ F (16 * (x * 4 + u / 64) + 1) / 2 ^ (u % 64 - 1) &&& 1 = 0 ↔ (F (16 * (x * 4 + u / 64) + 1)).testBit (u % 64 - 1) = true := by
      rw [Nat.testBit_eq_decide_div_mod_eq, decide_eq_true_iff, Nat.and_one_is_mod]
      have := Nat.mod_lt (F (16 * (x * 4 + u / 64) + 1) / 2 ^ (u % 64 - 1)) (show 0 < 2 by omega)
      omega
    unfold cn_he rr_a
    by_cases z : cn_hp F x u 4294967295 4294967295
    · rw [if_pos z]
      unfold cn_hp at z
      rw [hb] at z
      exact ⟨fun _ => ⟨z.1, z.2.1⟩, fun _ => by omega⟩
    · rw [if_neg z]
      refine ⟨fun a => absurd rfl a, fun a => absurd ?_ z⟩
      unfold cn_hp
      rw [hb]
      exact ⟨a.1, a.2, Or.inl rfl, Or.inl rfl⟩)
theorem cn_mo_fd (F : Nat → Nat) (x q f : Nat) : ∀ (m t n : Nat), cn_mo F x q f m t n = fd (fun u => cn_he F x u q f) (fun a _ => a + 1) m t n
  | 0, _, _ => rfl
  | m + 1, t, n => by
    unfold cn_mo fd
    have hb := cn_heb F x t q f
    by_cases z : cn_he F x t q f = 0
    · rw [z, if_pos rfl, Nat.add_zero]
      exact cn_mo_fd F x q f m (t + 1) n
    · rw [if_neg z, show cn_he F x t q f = 1 by omega]
      exact cn_mo_fd F x q f m (t + 1) (n + 1)
theorem cn_mo_c {F : Nat → Nat} {x q f c : Nat} {s : Nat → Nat} (h : go (fun u => cn_he F x u q f) s c 256) : cn_mo F x q f 256 0 0 = c := by
  rw [cn_mo_fd, fd_all _ h, fk_cnt, Nat.zero_add]
theorem RE.ok {lo N : Nat} {G F F' : Nat → Nat} {h k x : Nat} (R : RL lo N G F) (hx : ro G F' x h k) (e : ∀ u, u < 256 → F' (16 * u + 2) = F (16 * u + 2)) : cn_ok F' x := by
  refine ⟨fun j hj => ?_, fun u hu => ?_⟩
  · rw [(hx j hj).2]
    have := pr_lt62 R.e R.j.e j h
    omega
  · rw [e u hu]
    have := R.1.2.2.1.2 u hu
    omega
theorem nd_ro {G F : Nat → Nat} {x h k : Nat} (r : Nat) (hx : ro G F x h k) : ro G (cn_nd F r) x h k := hx.cg rfl (fun _ _ _ => rfl) (fun s hs => ⟨cn_ndo F r (by omega) (by omega), cn_ndo F r (by omega) (by omega)⟩)
theorem cn_pg24 (F : Nat → Nat) (r q f : Nat) : cn_pg F r q f 24 = F 24 := by
  unfold cn_pg
  rw [cn_gato _ _ _ _ _ (by omega), cn_ndo F r (by omega) (by omega)]
/-- 'place' -/
theorem kl_place (d c s b lo N t q f v : Nat) (W : xi_W) (F G : Nat → Nat) (L : List Value) (hw : kw W b F) (hb : wb b) (hl : 687 ≤ W.length) (hR : W[355]? = some (.inr (2, L))) (h : RL lo N G F) (hN : N + 1 < 1000000) (h4 : G 4 ≤ 61) (ht : t < 4) (hq : q < 4) (hf : f < 3) (hv : v < 100) (r : xi_R → Prop) (K : ∀ W' F', kw W' b F' → fr (kin b) W W' → RL lo (N + 1) (lw_se G t q f v) F' → r (some (.int (Int32.ofNat (lw_nx G t (G 4) 0 1))), W', c, s)) : xr (d + 3) 75 0 [(0, .ref b), (1, .int (Int32.ofNat t)), (2, .int (Int32.ofNat q)), (3, .int (Int32.ofNat f)), (4, .int (Int32.ofNat v))] [] W c s r := by
  have hct := h.j.c t ht
  have hC := h.1.2.2.2.2.1 t ht
  have hce := ce_le G t (G 4)
  have hB := h.1.2.2.2.2.2.2.2.2.1
  have S := h.1.2.2.2.1 t ht
  have h24 : cn_pm F t q f v (ce G t (G 4)) 24 ≤ 25 := by
    unfold cn_pm cn_pb cn_be cn_e2 cn_e1
    rw [cn_mgu _ _ _ _ _ _ (by omega), xn_un _ _ (by omega), xn_un _ _ (by omega), xn_un _ _ (by omega), cn_pg24]
    omega
  have X := cn_place (hw.B hb hl hR) d F c s t q f v (ce G t (G 4)) ht hq hf (by omega) (h.own ht) (by omega) (by omega) (RE.ok h (nd_ro t S) (fun u hu => cn_ndo F t (by omega) (by omega))) h24
  rw [← lw_nxow h.2 t] at X
  exact xr_kw hw X (fun W' h1 h2 => K W' _ h1 h2 (by rw [lw_nxow h.2 t] at *; exact h.set hN h4 ht hq hf hv))
/-- 'remove' -/
theorem kl_remove (d c s b lo N t q f : Nat) (W : xi_W) (F G : Nat → Nat) (L : List Value) (hw : kw W b F) (hb : wb b) (hl : 687 ≤ W.length) (hR : W[355]? = some (.inr (2, L))) (h : RL lo N G F) (hN : N + 1 < 1000000) (ht : t < 4) (hq : q < 4) (hf : f < 4294967296) (r : xi_R → Prop) (K0 : lw_cx G t q f = 0 → r (some (.int (Int32.ofNat 4294967295)), W, c, s)) (K : lw_cx G t q f ≠ 0 → ∀ W' F', kw W' b F' → fr (kin b) W W' → RL lo (N + 1) (lw_cl G t q f) F' → r (some (.int (Int32.ofNat (bc 63 (lw_cx G t q f)))), W', c, s)) : xr (d + 3) 76 0 [(0, .ref b), (1, .int (Int32.ofNat t)), (2, .int (Int32.ofNat q)), (3, .int (Int32.ofNat f))] [] W c s r := by
  have hct := h.j.c t ht
  have hC := h.1.2.2.2.2.1 t ht
  have hB := h.1.2.2.2.2.2.2.2.2.1
  have S := h.1.2.2.2.1 t ht
  have em : cn_mo F t q f 256 0 0 = bc 63 (lw_cx G t q f) := cn_mo_c (he_of q f h.e h.j.e S h.1.2.2.1.1 hq)
  have hz : lw_cx G t q f = 0 ↔ bc 63 (lw_cx G t q f) = 0 := by
    constructor
    · intro z; rw [z]; exact bc0 63
    · intro z
      by_cases y : lw_cx G t q f = 0
      · exact y
      · have l : lw_cx G t q f < 2 ^ 63 := Nat.lt_of_lt_of_le (lw_of_lt G _ q f) (Nat.pow_le_pow_right (by omega) (by have := h.j.e; omega))
        have := bc_step 63 (lw_cx G t q f) (by omega) l
        omega
  have ok := RE.ok h S (fun _ _ => rfl)
  by_cases z : lw_cx G t q f = 0
  · have X := cn_removeF0 (hw.B hb hl hR) d F c s t q f hf ht hq ok (by rw [em]; exact hz.mp z)
    have e : cn_w W (wI b) F = W := hw.1
    have X2 : xg (d + 3) 76 0 [(0, .ref b), (1, .int (Int32.ofNat t)), (2, .int (Int32.ofNat q)), (3, .int (Int32.ofNat f))] [] (cn_w W (wI b) F) c s (some (.int (Int32.ofNat 4294967295)), cn_w W (wI b) F, c, s) := X
    rw [e] at X2
    exact xr_of X2 (K0 z)
  · have h24 : cn_mg t (cn_nr F t) 4 0 (cn_pg F t q f) 24 ≤ 25 := by
      rw [cn_mgu _ _ _ _ _ _ (by omega), cn_pg24]
      omega
    have X := cn_removeF (hw.B hb hl hR) d F c s t q f hf ht hq ok (by rw [em]; exact fun y => z (hz.mpr y)) (by omega) (by omega) (RE.ok h (nd_ro t S) (fun u hu => cn_ndo F t (by omega) (by omega))) h24
    rw [em] at X
    exact xr_kw hw X (fun W' h1 h2 => K z W' _ h1 h2 (h.clear hN f ht hq))
