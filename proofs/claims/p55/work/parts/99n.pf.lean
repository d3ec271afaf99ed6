/-! the script is played -/
def scB (nn : Nat) (f : Nat → Int32) (k : Nat) (G : Nat → Nat) : Nat := if sw nn f k = 1 then (if lw_cx G (sa nn f k) (sb nn f k) (sf nn f k) = 0 then 1 else 0) else if sw nn f k = 2 then (if lw_cx G (sa nn f k) (sb nn f k) 4294967295 = 0 then 1 else 0) else if sw nn f k = 3 then (if sa nn f k = sb nn f k ∨ lw_be G (sb nn f k) (sa nn f k) = 0 then 1 else 0) else 0
def scG (nn : Nat) (f : Nat → Int32) (q k : Nat) (G : Nat → Nat) : Nat → Nat := if sw nn f k = 0 then lw_se G (sa nn f k) (sb nn f k) (sf nn f k) 50 else if sw nn f k = 1 then lw_cl G (sa nn f k) (sb nn f k) (sf nn f k) else if sw nn f k = 2 then lw_cl G (sa nn f k) (sb nn f k) 4294967295 else if sw nn f k = 3 then lw_sn nn f G q (sb nn f k) (sa nn f k) else tk_ nn f q 2 G
/-- the clause that can't be, or -1; the row behind it -/
def scE (nn : Nat) (f : Nat → Int32) (q : Nat) : Nat → Nat → (Nat → Nat) → Nat
  | 0, _, _ => 4294967295
  | m + 1, k, G => if scB nn f k G = 1 then k else scE nn f q m (k + 1) (scG nn f q k G)
def scH (nn : Nat) (f : Nat → Int32) (q : Nat) : Nat → Nat → (Nat → Nat) → (Nat → Nat)
  | 0, _, G => G
  | m + 1, k, G => if scB nn f k G = 1 then G else scH nn f q m (k + 1) (scG nn f q k G)
def SCY (nn : Nat) (f : Nat → Int32) (q dl tx sy T N : Nat) (G : Nat → Nat) (W : xi_W) : Prop := ∃ n lo A, CY nn f q dl tx sy T N n lo G A W
theorem CY.mono {nn : Nat} {f : Nat → Int32} {q dl tx sy T N N' n lo : Nat} {G : Nat → Nat} {A : Nat → Nat → Nat} {W : xi_W} (h : CY nn f q dl tx sy T N n lo G A W) (hN : N ≤ N') : CY nn f q dl tx sy T N' n lo G A W := by
  obtain ⟨h1, h2, fi, h3⟩ := h
  exact ⟨h1, h2, fi, h3.mono hN⟩
theorem CY.j {nn : Nat} {f : Nat → Int32} {q dl tx sy T N n lo : Nat} {G : Nat → Nat} {A : Nat → Nat → Nat} {W : xi_W} (h : CY nn f q dl tx sy T N n lo G A W) : ∃ F, RL (G 0 + 1) N G F := by
  obtain ⟨h1, h2, fi, h3⟩ := h
  obtain ⟨F, _, h5⟩ := h3.w
  exact ⟨F, h5⟩
theorem tp_part (d c s T2 cl p : Nat) (W0 : xi_W) (CL : Nat) (v1 v2 v3 : Value) (C : Nat → Nat) (hT : W0[T2]? = some (.inr (4, [v1, .ref CL, v2, v3]))) (nc : Nat) (hC : W0[CL]? = some (lw_i nc C)) (hcl : cl * 5 + p < nc) (hnc : nc < 1000) (r : xi_R → Prop) (K : r (some (.int (Int32.ofNat (C (cl * 5 + p)))), W0, c, s)) : xr d 67 0 [(0, .ref T2), (1, .int (Int32.ofNat cl)), (2, .int (Int32.ofNat p))] [] W0 c s r := by
  refine xr_stp rfl rfl rfl rfl ?_
  refine xr_stp (st' := .int (Int32.ofNat 5) :: _) rfl rfl rfl rfl ?_
  refine xs_mul rfl ?_
  refine xr_stp rfl rfl rfl rfl ?_
  refine xs_add rfl ?_
  refine xr_stp rfl rfl rfl rfl ?_
  refine xr_stp rfl rfl rfl rfl ?_
  refine xr_j1 rfl rfl rfl rfl rfl (fun h7 => ?_) (fun h7 => ?_)
  · have z7 := n_lt0 h7
    exact (by omega)
  · refine xr_stp rfl rfl rfl rfl ?_
    refine xr_stp rfl rfl rfl rfl ?_
    refine xr_getfield hT rfl rfl rfl rfl ?_
    refine xs_iln hC rfl ?_
    refine xr_j2 rfl rfl rfl rfl rfl (fun h16 => ?_) (fun h16 => ?_)
    · have z16 := nt_ge (by omega) (by omega) h16
      exact (by omega)
    · refine xr_stp rfl rfl rfl rfl ?_
      refine xr_getfield hT rfl rfl rfl rfl ?_
      refine xr_stp rfl rfl rfl rfl ?_
      refine xs_ild hC (by omega) (by omega) rfl ?_
      refine xr_stp rfl rfl rfl rfl ?_
      exact xr_ret rfl rfl K
theorem cb_pss (d c s t u : Nat) (W0 : xi_W) (ht : t < 4) (e : t = u) (r : xi_R → Prop) (K : r (some (.int (Int32.ofNat 0)), W0, c, s)) : xr (d + 1) 148 0 [(0, .int (Int32.ofNat t)), (1, .int (Int32.ofNat u))] [] W0 c s r := by
  refine xr_stp rfl rfl rfl rfl ?_
  refine xr_cps rfl rfl rfl (fun r1 K2 => cl_rep _ _ _ t _ ht r1 (K2 _ _ _ _ ?_))
  refine xr_j1 rfl rfl rfl rfl rfl (fun h4 => ?_) (fun h4 => ?_)
  · have z4 := nt1_eq (by omega) h4
    exact (by omega)
  · refine xr_stp rfl rfl rfl rfl ?_
    refine xr_cps rfl rfl rfl (fun r1 K2 => cl_rep _ _ _ u _ (by omega) r1 (K2 _ _ _ _ ?_))
    refine xr_j1 rfl rfl rfl rfl rfl (fun h11 => ?_) (fun h11 => ?_)
    · have z11 := nt1_eq (by omega) h11
      exact (by omega)
    · refine xr_stp rfl rfl rfl rfl ?_
      refine xr_stp rfl rfl rfl rfl ?_
      refine xr_j2 rfl rfl rfl rfl rfl (fun h16 => ?_) (fun h16 => ?_)
      · refine xr_stp (st' := .int (Int32.ofNat 0) :: _) rfl rfl rfl rfl ?_
        exact xr_retb (by omega) rfl rfl K
      · have z16 := nf_eq h16
        exact (by omega)
theorem cb_sens (d c s t u : Nat) (W0 : xi_W) (ht : t < 4) (e : t = u) (r : xi_R → Prop) (K : r (some (.int (Int32.ofNat 4294967295)), W0, c, s)) : xr (d + 3) 104 0 [(0, .ref 17), (1, .int (Int32.ofNat t)), (2, .int (Int32.ofNat u))] [] W0 c s r := by
  refine xr_stp rfl rfl rfl rfl ?_
  refine xr_stp rfl rfl rfl rfl ?_
  refine xr_cps rfl rfl rfl (fun r1 K2 => cb_pss _ _ _ t u _ ht e r1 (K2 _ _ _ _ ?_))
  refine xr_j1 rfl rfl rfl rfl rfl (fun h5 => ?_) (fun h5 => ?_)
  · have z5 := nt1_ne h5
    exact (by omega)
  · refine xr_stp (st' := .int (Int32.ofNat 4294967295) :: _) rfl rfl rfl rfl ?_
    exact xr_ret rfl rfl K
theorem cl_pf0 (d c s nn q dl tx sy T N n lo : Nat) (f : Nat → Int32) (W0 : xi_W) (G : Nat → Nat) (A : Nat → Nat → Nat) (hc : CY nn f q dl tx sy T N n lo G A W0) (T2 CL : Nat) (v1 v2 v3 : Value) (C : Nat → Nat) (hT2 : W0[T2]? = some (.inr (4, [v1, .ref CL, v2, v3]))) (hCL : W0[CL]? = some (lw_i 40 C)) (hCK : CLK nn f 8 C) (i : Nat) (hi : i < 8) (h4 : G 4 ≤ 61) (hck : G 0 + 2 ≤ 9999) (hN : N + 300 < 90000) (ew : sw nn f i = 0) (r : xi_R → Prop) (K0 : scB nn f i G = 1 → ∀ W', SCY nn f q dl tx sy T (N + 130) G W' → fr pq W0 W' → r (some (.int (Int32.ofNat 0)), W', c, s)) (K1 : scB nn f i G ≠ 1 → ∀ W', SCY nn f q dl tx sy T (N + 130) (scG nn f q i G) W' → fr pq W0 W' → r (some (.int (Int32.ofNat 1)), W', c, s)) : xr (d + 7) 152 0 [(0, .ref 17), (1, .ref T2), (2, .int (Int32.ofNat i))] [] W0 c s r := by
  obtain ⟨hlo, hnl, fi, hc⟩ := id hc
  obtain ⟨lf, lp, hO⟩ := hc.o
  obtain ⟨q1, q2, q3, q4⟩ := swb nn f i
  have p0 : C (i * 5 + 0) = 2 := by have z := hCK i hi 0 (Nat.zero_le _); rw [ew] at z; exact z
  have p1 : C (i * 5 + 1) = sf nn f i := by have z := hCK i hi 1 (by rw [ew]; decide); rw [ew] at z; exact z
  have p2 : C (i * 5 + 2) = sb nn f i := by have z := hCK i hi 2 (by rw [ew]; decide); rw [ew] at z; exact z
  have p3 : C (i * 5 + 3) = sa nn f i := by have z := hCK i hi 3 (by rw [ew]; decide); rw [ew] at z; exact z
  have p4 : C (i * 5 + 4) = 50 := by have z := hCK i hi 4 (by rw [ew]; decide); rw [ew] at z; exact z
  have eB : ¬ scB nn f i G = 1 := by unfold scB; rw [if_neg (by omega), if_neg (by omega), if_neg (by omega)]; omega
  have eG : scG nn f q i G = lw_se G (sa nn f i) (sb nn f i) (sf nn f i) 50 := if_pos ew
  rw [eG] at K1
  have hnx := lw_nxle G (sa nn f i) (G 4) 0 1
  refine xr_stp rfl rfl rfl rfl ?_
  refine xr_stp rfl rfl rfl rfl ?_
  refine xr_stp (st' := .int (Int32.ofNat 1) :: _) rfl rfl rfl rfl ?_
  refine xr_vcps hT2 rfl rfl rfl rfl rfl rfl (fun r1 K2 => tp_part _ _ _ T2 i 1 _ CL _ _ _ C hT2 40 hCL (by omega) (by omega) r1 (K2 _ _ _ _ ?_))
  rw [p1]
  refine xr_stp rfl rfl rfl rfl ?_
  refine xr_stp rfl rfl rfl rfl ?_
  refine xr_stp rfl rfl rfl rfl ?_
  refine xr_stp (st' := .int (Int32.ofNat 2) :: _) rfl rfl rfl rfl ?_
  refine xr_vcps hT2 rfl rfl rfl rfl rfl rfl (fun r1 K2 => tp_part _ _ _ T2 i 2 _ CL _ _ _ C hT2 40 hCL (by omega) (by omega) r1 (K2 _ _ _ _ ?_))
  rw [p2]
  refine xr_stp rfl rfl rfl rfl ?_
  refine xr_stp rfl rfl rfl rfl ?_
  refine xr_stp rfl rfl rfl rfl ?_
  refine xr_stp (st' := .int (Int32.ofNat 3) :: _) rfl rfl rfl rfl ?_
  refine xr_vcps hT2 rfl rfl rfl rfl rfl rfl (fun r1 K2 => tp_part _ _ _ T2 i 3 _ CL _ _ _ C hT2 40 hCL (by omega) (by omega) r1 (K2 _ _ _ _ ?_))
  rw [p3]
  refine xr_stp rfl rfl rfl rfl ?_
  refine xr_stp rfl rfl rfl rfl ?_
  refine xr_stp rfl rfl rfl rfl ?_
  refine xr_stp (st' := .int (Int32.ofNat 0) :: _) rfl rfl rfl rfl ?_
  refine xr_vcps hT2 rfl rfl rfl rfl rfl rfl (fun r1 K2 => tp_part _ _ _ T2 i 0 _ CL _ _ _ C hT2 40 hCL (by omega) (by omega) r1 (K2 _ _ _ _ ?_))
  rw [p0]
  refine xr_stp rfl rfl rfl rfl ?_
  refine xr_stp rfl rfl rfl rfl ?_
  refine xr_stp rfl rfl rfl rfl ?_
  refine xr_stp rfl rfl rfl rfl ?_
  refine xr_stp rfl rfl rfl rfl ?_
  refine xr_stp rfl rfl rfl rfl ?_
  refine xr_stp rfl rfl rfl rfl ?_
  refine xr_stp (st' := .int (Int32.ofNat 4) :: _) rfl rfl rfl rfl ?_
  refine xr_vcps hT2 rfl rfl rfl rfl rfl rfl (fun r1 K2 => tp_part _ _ _ T2 i 4 _ CL _ _ _ C hT2 40 hCL (by omega) (by omega) r1 (K2 _ _ _ _ ?_))
  rw [p4]
  refine xr_vcps hO rfl rfl rfl rfl rfl rfl (fun r1 K2 => cl_set _ _ _ nn q dl tx sy T N fi (n - lo) f W0 G _ (sa nn f i) (sb nn f i) (sf nn f i) 50 hc h4 (by omega) (by omega) (by omega) (by omega) (by omega) r1 (fun W3 fi3 hc3 hf3 => K2 _ _ _ _ ?_))
  refine xr_stp (st' := .int (Int32.ofNat 4294967295) :: _) rfl rfl rfl rfl ?_
  refine xr_j2 rfl rfl rfl rfl rfl (fun h80 => ?_) (fun h80 => ?_)
  · have z80 := nt_eq (by omega) (by omega) h80
    exact (by omega)
  · refine xr_stp (st' := .int (Int32.ofNat 1) :: _) rfl rfl rfl rfl ?_
    refine xr_stp rfl rfl rfl rfl ?_
    exact xr_retb (by omega) rfl rfl (K1 eB W3 ⟨_, _, _, (CY.push hlo hnl hc3).mono (by omega)⟩ hf3)
theorem cl_pf1 (d c s nn q dl tx sy T N n lo : Nat) (f : Nat → Int32) (W0 : xi_W) (G : Nat → Nat) (A : Nat → Nat → Nat) (hc : CY nn f q dl tx sy T N n lo G A W0) (T2 CL : Nat) (v1 v2 v3 : Value) (C : Nat → Nat) (hT2 : W0[T2]? = some (.inr (4, [v1, .ref CL, v2, v3]))) (hCL : W0[CL]? = some (lw_i 40 C)) (hCK : CLK nn f 8 C) (i : Nat) (hi : i < 8) (h4 : G 4 ≤ 61) (hck : G 0 + 2 ≤ 9999) (hN : N + 300 < 90000) (ew : sw nn f i = 1) (r : xi_R → Prop) (K0 : scB nn f i G = 1 → ∀ W', SCY nn f q dl tx sy T (N + 130) G W' → fr pq W0 W' → r (some (.int (Int32.ofNat 0)), W', c, s)) (K1 : scB nn f i G ≠ 1 → ∀ W', SCY nn f q dl tx sy T (N + 130) (scG nn f q i G) W' → fr pq W0 W' → r (some (.int (Int32.ofNat 1)), W', c, s)) : xr (d + 7) 152 0 [(0, .ref 17), (1, .ref T2), (2, .int (Int32.ofNat i))] [] W0 c s r := by
  obtain ⟨hlo, hnl, fi, hc⟩ := id hc
  obtain ⟨lf, lp, hO⟩ := hc.o
  obtain ⟨q1, q2, q3, q4⟩ := swb nn f i
  have p0 : C (i * 5 + 0) = 3 := by have z := hCK i hi 0 (Nat.zero_le _); rw [ew] at z; exact z
  have p1 : C (i * 5 + 1) = sf nn f i := by have z := hCK i hi 1 (by rw [ew]; decide); rw [ew] at z; exact z
  have p2 : C (i * 5 + 2) = sb nn f i := by have z := hCK i hi 2 (by rw [ew]; decide); rw [ew] at z; exact z
  have p3 : C (i * 5 + 3) = sa nn f i := by have z := hCK i hi 3 (by rw [ew]; decide); rw [ew] at z; exact z
  have eB : scB nn f i G = if lw_cx G (sa nn f i) (sb nn f i) (sf nn f i) = 0 then 1 else 0 := if_pos ew
  have eG : scG nn f q i G = lw_cl G (sa nn f i) (sb nn f i) (sf nn f i) := by unfold scG; rw [if_neg (by omega), if_pos ew]
  rw [eG, eB] at K1
  rw [eB] at K0
  have hbc := bcle 63 (lw_cx G (sa nn f i) (sb nn f i) (sf nn f i))
  refine xr_stp rfl rfl rfl rfl ?_
  refine xr_stp rfl rfl rfl rfl ?_
  refine xr_stp (st' := .int (Int32.ofNat 1) :: _) rfl rfl rfl rfl ?_
  refine xr_vcps hT2 rfl rfl rfl rfl rfl rfl (fun r1 K2 => tp_part _ _ _ T2 i 1 _ CL _ _ _ C hT2 40 hCL (by omega) (by omega) r1 (K2 _ _ _ _ ?_))
  rw [p1]
  refine xr_stp rfl rfl rfl rfl ?_
  refine xr_stp rfl rfl rfl rfl ?_
  refine xr_stp rfl rfl rfl rfl ?_
  refine xr_stp (st' := .int (Int32.ofNat 2) :: _) rfl rfl rfl rfl ?_
  refine xr_vcps hT2 rfl rfl rfl rfl rfl rfl (fun r1 K2 => tp_part _ _ _ T2 i 2 _ CL _ _ _ C hT2 40 hCL (by omega) (by omega) r1 (K2 _ _ _ _ ?_))
  rw [p2]
  refine xr_stp rfl rfl rfl rfl ?_
  refine xr_stp rfl rfl rfl rfl ?_
  refine xr_stp rfl rfl rfl rfl ?_
  refine xr_stp (st' := .int (Int32.ofNat 3) :: _) rfl rfl rfl rfl ?_
  refine xr_vcps hT2 rfl rfl rfl rfl rfl rfl (fun r1 K2 => tp_part _ _ _ T2 i 3 _ CL _ _ _ C hT2 40 hCL (by omega) (by omega) r1 (K2 _ _ _ _ ?_))
  rw [p3]
  refine xr_stp rfl rfl rfl rfl ?_
  refine xr_stp rfl rfl rfl rfl ?_
  refine xr_stp rfl rfl rfl rfl ?_
  refine xr_stp (st' := .int (Int32.ofNat 0) :: _) rfl rfl rfl rfl ?_
  refine xr_vcps hT2 rfl rfl rfl rfl rfl rfl (fun r1 K2 => tp_part _ _ _ T2 i 0 _ CL _ _ _ C hT2 40 hCL (by omega) (by omega) r1 (K2 _ _ _ _ ?_))
  rw [p0]
  refine xr_stp rfl rfl rfl rfl ?_
  refine xr_stp rfl rfl rfl rfl ?_
  refine xr_stp rfl rfl rfl rfl ?_
  refine xr_stp rfl rfl rfl rfl ?_
  refine xr_stp rfl rfl rfl rfl ?_
  refine xr_vcps hO rfl rfl rfl rfl rfl rfl (fun r1 K2 => cl_clear _ _ _ nn q dl tx sy T N fi (n - lo) f W0 G _ (sa nn f i) (sb nn f i) (sf nn f i) hc (by omega) (by omega) (by omega) (by omega) r1 (fun z0 W3 hc3 hf3 => K2 _ _ _ _ ?_) (fun z0 W3 fi3 hc3 hf3 => K2 _ _ _ _ ?_))
  · refine xr_stp (st' := .int (Int32.ofNat 4294967295) :: _) rfl rfl rfl rfl ?_
    refine xr_j2 rfl rfl rfl rfl rfl (fun h99 => ?_) (fun h99 => ?_)
    · refine xr_stp (st' := .int (Int32.ofNat 0) :: _) rfl rfl rfl rfl ?_
      exact xr_retb (by omega) rfl rfl (K0 (if_pos z0) W3 ⟨n, lo, A, hlo, hnl, fi, hc3.mono (by omega)⟩ hf3)
    · have z99 := nf_eq h99
      exact (by omega)
  · refine xr_stp (st' := .int (Int32.ofNat 4294967295) :: _) rfl rfl rfl rfl ?_
    refine xr_j2 rfl rfl rfl rfl rfl (fun h99 => ?_) (fun h99 => ?_)
    · have z99 := nt_eq (by omega) (by omega) h99
      exact (by omega)
    · refine xr_stp (st' := .int (Int32.ofNat 1) :: _) rfl rfl rfl rfl ?_
      refine xr_stp rfl rfl rfl rfl ?_
      exact xr_retb (by omega) rfl rfl (K1 (by rw [if_neg z0]; omega) W3 ⟨_, _, _, (CY.push hlo hnl hc3).mono (by omega)⟩ hf3)
theorem cl_pf2 (d c s nn q dl tx sy T N n lo : Nat) (f : Nat → Int32) (W0 : xi_W) (G : Nat → Nat) (A : Nat → Nat → Nat) (hc : CY nn f q dl tx sy T N n lo G A W0) (T2 CL : Nat) (v1 v2 v3 : Value) (C : Nat → Nat) (hT2 : W0[T2]? = some (.inr (4, [v1, .ref CL, v2, v3]))) (hCL : W0[CL]? = some (lw_i 40 C)) (hCK : CLK nn f 8 C) (i : Nat) (hi : i < 8) (h4 : G 4 ≤ 61) (hck : G 0 + 2 ≤ 9999) (hN : N + 300 < 90000) (ew : sw nn f i = 2) (r : xi_R → Prop) (K0 : scB nn f i G = 1 → ∀ W', SCY nn f q dl tx sy T (N + 130) G W' → fr pq W0 W' → r (some (.int (Int32.ofNat 0)), W', c, s)) (K1 : scB nn f i G ≠ 1 → ∀ W', SCY nn f q dl tx sy T (N + 130) (scG nn f q i G) W' → fr pq W0 W' → r (some (.int (Int32.ofNat 1)), W', c, s)) : xr (d + 7) 152 0 [(0, .ref 17), (1, .ref T2), (2, .int (Int32.ofNat i))] [] W0 c s r := by
  obtain ⟨hlo, hnl, fi, hc⟩ := id hc
  obtain ⟨lf, lp, hO⟩ := hc.o
  obtain ⟨q1, q2, q3, q4⟩ := swb nn f i
  have p0 : C (i * 5 + 0) = 4 := by have z := hCK i hi 0 (Nat.zero_le _); rw [ew] at z; exact z
  have p1 : C (i * 5 + 1) = sb nn f i := by have z := hCK i hi 1 (by rw [ew]; decide); rw [ew] at z; exact z
  have p2 : C (i * 5 + 2) = sa nn f i := by have z := hCK i hi 2 (by rw [ew]; decide); rw [ew] at z; exact z
  have eB : scB nn f i G = if lw_cx G (sa nn f i) (sb nn f i) 4294967295 = 0 then 1 else 0 := (if_neg (by omega)).trans (if_pos ew)
  have eG : scG nn f q i G = lw_cl G (sa nn f i) (sb nn f i) 4294967295 := by unfold scG; rw [if_neg (by omega), if_neg (by omega), if_pos ew]
  rw [eG, eB] at K1
  rw [eB] at K0
  have hbc := bcle 63 (lw_cx G (sa nn f i) (sb nn f i) 4294967295)
  refine xr_stp rfl rfl rfl rfl ?_
  refine xr_stp rfl rfl rfl rfl ?_
  refine xr_stp (st' := .int (Int32.ofNat 1) :: _) rfl rfl rfl rfl ?_
  refine xr_vcps hT2 rfl rfl rfl rfl rfl rfl (fun r1 K2 => tp_part _ _ _ T2 i 1 _ CL _ _ _ C hT2 40 hCL (by omega) (by omega) r1 (K2 _ _ _ _ ?_))
  rw [p1]
  refine xr_stp rfl rfl rfl rfl ?_
  refine xr_stp rfl rfl rfl rfl ?_
  refine xr_stp rfl rfl rfl rfl ?_
  refine xr_stp (st' := .int (Int32.ofNat 2) :: _) rfl rfl rfl rfl ?_
  refine xr_vcps hT2 rfl rfl rfl rfl rfl rfl (fun r1 K2 => tp_part _ _ _ T2 i 2 _ CL _ _ _ C hT2 40 hCL (by omega) (by omega) r1 (K2 _ _ _ _ ?_))
  rw [p2]
  refine xr_stp rfl rfl rfl rfl ?_
  refine xr_stp rfl rfl rfl rfl ?_
  refine xr_stp rfl rfl rfl rfl ?_
  refine xr_stp (st' := .int (Int32.ofNat 3) :: _) rfl rfl rfl rfl ?_
  refine xr_vcps hT2 rfl rfl rfl rfl rfl rfl (fun r1 K2 => tp_part _ _ _ T2 i 3 _ CL _ _ _ C hT2 40 hCL (by omega) (by omega) r1 (K2 _ _ _ _ ?_))
  refine xr_stp rfl rfl rfl rfl ?_
  refine xr_stp rfl rfl rfl rfl ?_
  refine xr_stp rfl rfl rfl rfl ?_
  refine xr_stp (st' := .int (Int32.ofNat 0) :: _) rfl rfl rfl rfl ?_
  refine xr_vcps hT2 rfl rfl rfl rfl rfl rfl (fun r1 K2 => tp_part _ _ _ T2 i 0 _ CL _ _ _ C hT2 40 hCL (by omega) (by omega) r1 (K2 _ _ _ _ ?_))
  rw [p0]
  refine xr_stp rfl rfl rfl rfl ?_
  refine xr_stp rfl rfl rfl rfl ?_
  refine xr_stp rfl rfl rfl rfl ?_
  refine xr_stp rfl rfl rfl rfl ?_
  refine xr_vcps hO rfl rfl rfl rfl rfl rfl (fun r1 K2 => cl_reset _ _ _ nn q dl tx sy T N fi (n - lo) f W0 G _ (sa nn f i) (sb nn f i) hc (by omega) (by omega) (by omega) r1 (fun z0 W3 hc3 hf3 => K2 _ _ _ _ ?_) (fun z0 W3 fi3 hc3 hf3 => K2 _ _ _ _ ?_))
  · refine xr_stp (st' := .int (Int32.ofNat 4294967295) :: _) rfl rfl rfl rfl ?_
    refine xr_j2 rfl rfl rfl rfl rfl (fun h116 => ?_) (fun h116 => ?_)
    · refine xr_stp (st' := .int (Int32.ofNat 0) :: _) rfl rfl rfl rfl ?_
      exact xr_retb (by omega) rfl rfl (K0 (if_pos z0) W3 ⟨n, lo, A, hlo, hnl, fi, hc3.mono (by omega)⟩ hf3)
    · have z116 := nf_eq h116
      exact (by omega)
  · refine xr_stp (st' := .int (Int32.ofNat 4294967295) :: _) rfl rfl rfl rfl ?_
    refine xr_j2 rfl rfl rfl rfl rfl (fun h116 => ?_) (fun h116 => ?_)
    · have z116 := nt_eq (by omega) (by omega) h116
      exact (by omega)
    · refine xr_stp (st' := .int (Int32.ofNat 1) :: _) rfl rfl rfl rfl ?_
      refine xr_stp rfl rfl rfl rfl ?_
      exact xr_retb (by omega) rfl rfl (K1 (by rw [if_neg z0]; omega) W3 ⟨_, _, _, (CY.push hlo hnl hc3).mono (by omega)⟩ hf3)
theorem cl_pf3 (d c s nn q dl tx sy T N n lo : Nat) (f : Nat → Int32) (W0 : xi_W) (G : Nat → Nat) (A : Nat → Nat → Nat) (hc : CY nn f q dl tx sy T N n lo G A W0) (T2 CL : Nat) (v1 v2 v3 : Value) (C : Nat → Nat) (hT2 : W0[T2]? = some (.inr (4, [v1, .ref CL, v2, v3]))) (hCL : W0[CL]? = some (lw_i 40 C)) (hCK : CLK nn f 8 C) (i : Nat) (hi : i < 8) (h4 : G 4 ≤ 61) (hck : G 0 + 2 ≤ 9999) (hN : N + 300 < 90000) (ew : sw nn f i = 3) (r : xi_R → Prop) (K0 : scB nn f i G = 1 → ∀ W', SCY nn f q dl tx sy T (N + 130) G W' → fr pq W0 W' → r (some (.int (Int32.ofNat 0)), W', c, s)) (K1 : scB nn f i G ≠ 1 → ∀ W', SCY nn f q dl tx sy T (N + 130) (scG nn f q i G) W' → fr pq W0 W' → r (some (.int (Int32.ofNat 1)), W', c, s)) : xr (d + 7) 152 0 [(0, .ref 17), (1, .ref T2), (2, .int (Int32.ofNat i))] [] W0 c s r := by
  obtain ⟨hlo, hnl, fi, hc⟩ := id hc
  obtain ⟨lf, lp, hO⟩ := hc.o
  obtain ⟨q1, q2, q3, q4⟩ := swb nn f i
  have p0 : C (i * 5 + 0) = 5 := by have z := hCK i hi 0 (Nat.zero_le _); rw [ew] at z; exact z
  have p1 : C (i * 5 + 1) = sb nn f i := by have z := hCK i hi 1 (by rw [ew]; decide); rw [ew] at z; exact z
  have p2 : C (i * 5 + 2) = sa nn f i := by have z := hCK i hi 2 (by rw [ew]; decide); rw [ew] at z; exact z
  have eB : scB nn f i G = if sa nn f i = sb nn f i ∨ lw_be G (sb nn f i) (sa nn f i) = 0 then 1 else 0 := by unfold scB; rw [if_neg (by omega), if_neg (by omega), if_pos ew]
  have eG : scG nn f q i G = lw_sn nn f G q (sb nn f i) (sa nn f i) := by unfold scG; rw [if_neg (by omega), if_neg (by omega), if_neg (by omega), if_pos ew]
  rw [eG, eB] at K1
  rw [eB] at K0
  obtain ⟨F, hw, hr⟩ := hc.w
  have J := hr.j
  have hjc := J.c (sb nn f i) q3
  refine xr_stp rfl rfl rfl rfl ?_
  refine xr_stp rfl rfl rfl rfl ?_
  refine xr_stp (st' := .int (Int32.ofNat 1) :: _) rfl rfl rfl rfl ?_
  refine xr_vcps hT2 rfl rfl rfl rfl rfl rfl (fun r1 K2 => tp_part _ _ _ T2 i 1 _ CL _ _ _ C hT2 40 hCL (by omega) (by omega) r1 (K2 _ _ _ _ ?_))
  rw [p1]
  refine xr_stp rfl rfl rfl rfl ?_
  refine xr_stp rfl rfl rfl rfl ?_
  refine xr_stp rfl rfl rfl rfl ?_
  refine xr_stp (st' := .int (Int32.ofNat 2) :: _) rfl rfl rfl rfl ?_
  refine xr_vcps hT2 rfl rfl rfl rfl rfl rfl (fun r1 K2 => tp_part _ _ _ T2 i 2 _ CL _ _ _ C hT2 40 hCL (by omega) (by omega) r1 (K2 _ _ _ _ ?_))
  rw [p2]
  refine xr_stp rfl rfl rfl rfl ?_
  refine xr_stp rfl rfl rfl rfl ?_
  refine xr_stp rfl rfl rfl rfl ?_
  refine xr_stp (st' := .int (Int32.ofNat 3) :: _) rfl rfl rfl rfl ?_
  refine xr_vcps hT2 rfl rfl rfl rfl rfl rfl (fun r1 K2 => tp_part _ _ _ T2 i 3 _ CL _ _ _ C hT2 40 hCL (by omega) (by omega) r1 (K2 _ _ _ _ ?_))
  refine xr_stp rfl rfl rfl rfl ?_
  refine xr_stp rfl rfl rfl rfl ?_
  refine xr_stp rfl rfl rfl rfl ?_
  refine xr_stp (st' := .int (Int32.ofNat 0) :: _) rfl rfl rfl rfl ?_
  refine xr_vcps hT2 rfl rfl rfl rfl rfl rfl (fun r1 K2 => tp_part _ _ _ T2 i 0 _ CL _ _ _ C hT2 40 hCL (by omega) (by omega) r1 (K2 _ _ _ _ ?_))
  rw [p0]
  refine xr_stp rfl rfl rfl rfl ?_
  refine xr_stp rfl rfl rfl rfl ?_
  refine xr_stp rfl rfl rfl rfl ?_
  refine xr_stp rfl rfl rfl rfl ?_
  by_cases hne : sb nn f i = sa nn f i
  · refine xr_vcps hO rfl rfl rfl rfl rfl rfl (fun r1 K2 => cb_sens _ _ _ (sb nn f i) (sa nn f i) W0 (by omega) hne r1 (K2 _ _ _ _ ?_))
    refine xr_stp (st' := .int (Int32.ofNat 4294967295) :: _) rfl rfl rfl rfl ?_
    refine xr_j2 rfl rfl rfl rfl rfl (fun h133 => ?_) (fun h133 => ?_)
    · refine xr_stp (st' := .int (Int32.ofNat 0) :: _) rfl rfl rfl rfl ?_
      exact xr_retb (by omega) rfl rfl (K0 (if_pos (Or.inl hne.symm)) W0 ⟨n, lo, A, hlo, hnl, fi, hc.mono (by omega)⟩ fr.rf)
    · have z133 := nf_eq h133
      exact (by omega)
  · refine xr_vcps hO rfl rfl rfl rfl rfl rfl (fun r1 K2 => cl_send _ _ _ nn q dl tx sy T N fi (n - lo) f W0 G _ (sb nn f i) (sa nn f i) hc (by omega) (by omega) hne (by omega) r1 (fun z0 W3 hc3 hf3 => K2 _ _ _ _ ?_) (fun z0 W3 fi3 hc3 hf3 => K2 _ _ _ _ ?_))
    · refine xr_stp (st' := .int (Int32.ofNat 4294967295) :: _) rfl rfl rfl rfl ?_
      refine xr_j2 rfl rfl rfl rfl rfl (fun h133 => ?_) (fun h133 => ?_)
      · refine xr_stp (st' := .int (Int32.ofNat 0) :: _) rfl rfl rfl rfl ?_
        exact xr_retb (by omega) rfl rfl (K0 (if_pos (Or.inr z0)) W3 ⟨n, lo, A, hlo, hnl, fi, hc3.mono (by omega)⟩ hf3)
      · have z133 := nf_eq h133
        exact (by omega)
    · refine xr_stp (st' := .int (Int32.ofNat 4294967295) :: _) rfl rfl rfl rfl ?_
      refine xr_j2 rfl rfl rfl rfl rfl (fun h133 => ?_) (fun h133 => ?_)
      · have z133 := nt_eq (by omega) (by omega) h133
        exact (by omega)
      · refine xr_stp (st' := .int (Int32.ofNat 1) :: _) rfl rfl rfl rfl ?_
        refine xr_stp rfl rfl rfl rfl ?_
        exact xr_retb (by omega) rfl rfl (K1 (by rw [if_neg (fun z => z.elim (fun e => hne e.symm) z0)]; omega) W3 ⟨_, _, _, (CY.push hlo hnl hc3).mono (by omega)⟩ hf3)
theorem cl_pfL (d c s nn q dl tx sy T : Nat) (f : Nat → Int32) (r : xi_R → Prop) : ∀ (m i N n lo : Nat) (G : Nat → Nat) (A : Nat → Nat → Nat) (W0 : xi_W), i + m = 2 → CY nn f q dl tx sy T N n lo G A W0 → N + 65 * m + 70 < 90000 → G 0 + m ≤ 9999 → (∀ W', SCY nn f q dl tx sy T (N + 65 * m) (tk_ nn f q m G) W' → fr pq W0 W' → xr (d + 7) 152 202 [(0, .ref 17)] [] W' c s r) → xr (d + 7) 152 145 [(0, .ref 17), (3, .int (Int32.ofNat 2)), (6, .int (Int32.ofNat i))] [] W0 c s r
  | 0, i, N, n, lo, G, A, W0, hi, hc0, hN, hck, K => by
    obtain ⟨hlo, hnl, fi, hc⟩ := id hc0
    obtain ⟨lf, lp, hO⟩ := hc.o
    obtain rfl : i = 2 := by omega
    refine xr_stp rfl rfl rfl rfl ?_
    refine xr_stp rfl rfl rfl rfl ?_
    refine xr_j2 rfl rfl rfl rfl rfl (fun h148 => ?_) (fun h148 => ?_)
    · refine xr_loc [(0, .ref 17)] ⟨rfl, trivial⟩ rfl ?_
      exact K W0 ⟨n, lo, A, hc0⟩ fr.rf
    · have z148 := nf_ge (by omega) (by omega) h148
      exact (by omega)
  | m + 1, i, N, n, lo, G, A, W0, hi, hc0, hN, hck, K => by
    obtain ⟨hlo, hnl, fi, hc⟩ := id hc0
    obtain ⟨lf, lp, hO⟩ := hc.o
    obtain ⟨F, hw, hr⟩ := hc.w
    have hl := hc.l
    have hR := hc.R
    have e40 : F 40 = G 0 := hr.1.2.2.2.2.2.2.1.1
    have h0b : lw_ti nn f q 24 G 0 = G 0 + 1 := lw_ti0 hr.j nn f q (by omega)
    have hW := hw.w wb23 hl hR
    rw [e40] at hW
    refine xr_stp rfl rfl rfl rfl ?_
    refine xr_stp rfl rfl rfl rfl ?_
    refine xr_j2 rfl rfl rfl rfl rfl (fun h148 => ?_) (fun h148 => ?_)
    · have z148 := nt_ge (by omega) (by omega) h148
      exact (by omega)
    · refine xr_stp rfl rfl rfl rfl ?_
      refine xr_getfield hO rfl rfl rfl rfl ?_
      refine xr_getfield hW rfl rfl rfl rfl ?_
      refine xr_stp (st' := .int (Int32.ofNat 9999) :: _) rfl rfl rfl rfl ?_
      refine xr_j2 rfl rfl rfl rfl rfl (fun h161 => ?_) (fun h161 => ?_)
      · refine xr_stp rfl rfl rfl rfl ?_
        refine xr_getfield hO rfl rfl rfl rfl ?_
        refine xr_stp rfl rfl rfl rfl ?_
        refine xr_getfield hO rfl rfl rfl rfl ?_
        refine xr_vcps hc.st rfl rfl rfl rfl rfl rfl (fun r1 K2 => st_stage _ _ _ nn q dl tx sy T N fi (n - lo) (n - lo) f W0 G _ hc r1 (fun W1 hc1 hf1 => K2 _ _ _ _ ?_))
        obtain ⟨lf, lp, hO⟩ := hc1.o
        obtain ⟨F, hw, hr⟩ := hc1.w
        have hl := hc1.l
        have hR := hc1.R
        have hd1 := hc1.d
        refine xr_stp rfl rfl rfl rfl ?_
        refine xr_getfield hO rfl rfl rfl rfl ?_
        refine xr_stp rfl rfl rfl rfl ?_
        refine xr_getfield hO rfl rfl rfl rfl ?_
        refine xr_vcps (hw.w wb23 hl hR) rfl rfl rfl rfl rfl rfl (fun r1 K2 => kl_tick _ _ _ 23 nn q dl tx sy T f wb23 hc1.q r1 N G F W1 hw hc1.ok hr hd1.symm (by omega) (fun W2 F2 hw2 hs2 hf2 h2 h5 => K2 _ _ _ _ ?_))
        have hc2 := hc1.now (G' := lw_ti nn f q 24 G) hf2 hw2 hs2 h2 (by rw [h5]; exact hd1) (by omega)
        obtain ⟨lf, lp, hO⟩ := hc2.o
        refine xr_stp rfl rfl rfl rfl ?_
        refine xr_stp rfl rfl rfl rfl ?_
        refine xr_getfield hO rfl rfl rfl rfl ?_
        refine xr_vcps hc2.st rfl rfl rfl rfl rfl rfl (fun r1 K2 => st_commit _ _ _ nn q dl tx sy T _ fi (n - lo) f W2 _ _ hc2 r1 (fun W3 fi3 hc3 hf3 => K2 _ _ _ _ ?_))
        have hc4 := CY.push hlo hnl hc3
        obtain ⟨lf, lp, hO⟩ := hc3.o
        refine xs_inc (e := 1) rfl rfl rfl rfl ?_
        refine xr_stp rfl rfl rfl rfl ?_
        refine xr_loc [(0, .ref 17), (3, .int (Int32.ofNat 2)), (6, .int (Int32.ofNat (i + 1)))] ⟨rfl, rfl, rfl, trivial⟩ rfl ?_
        refine cl_pfL d c s nn q dl tx sy T f r m (i + 1) (N + 65) (n + 1) _ _ _ W3 (by omega) hc4 (by omega) (by have := h0b; omega) (fun W5 hc5 hf5 => ?_)
        refine K W5 ?_ ((pq_s hf1).tr ((pq_k hf2).tr ((pq_c hf3).tr hf5)))
        rw [show N + 65 + 65 * m = N + 65 * (m + 1) by omega] at hc5
        exact hc5
      · have z161 := nf_lt (by omega) (by omega) h161
        exact (by omega)
theorem cl_pf4 (d c s nn q dl tx sy T N n lo : Nat) (f : Nat → Int32) (W0 : xi_W) (G : Nat → Nat) (A : Nat → Nat → Nat) (hc : CY nn f q dl tx sy T N n lo G A W0) (T2 CL : Nat) (v1 v2 v3 : Value) (C : Nat → Nat) (hT2 : W0[T2]? = some (.inr (4, [v1, .ref CL, v2, v3]))) (hCL : W0[CL]? = some (lw_i 40 C)) (hCK : CLK nn f 8 C) (i : Nat) (hi : i < 8) (h4 : G 4 ≤ 61) (hck : G 0 + 2 ≤ 9999) (hN : N + 300 < 90000) (ew : sw nn f i = 4) (r : xi_R → Prop) (K0 : scB nn f i G = 1 → ∀ W', SCY nn f q dl tx sy T (N + 130) G W' → fr pq W0 W' → r (some (.int (Int32.ofNat 0)), W', c, s)) (K1 : scB nn f i G ≠ 1 → ∀ W', SCY nn f q dl tx sy T (N + 130) (scG nn f q i G) W' → fr pq W0 W' → r (some (.int (Int32.ofNat 1)), W', c, s)) : xr (d + 7) 152 0 [(0, .ref 17), (1, .ref T2), (2, .int (Int32.ofNat i))] [] W0 c s r := by
  obtain ⟨hlo, hnl, fi, hc⟩ := id hc
  obtain ⟨lf, lp, hO⟩ := hc.o
  obtain ⟨q1, q2, q3, q4⟩ := swb nn f i
  have p0 : C (i * 5 + 0) = 6 := by have z := hCK i hi 0 (Nat.zero_le _); rw [ew] at z; exact z
  have p1 : C (i * 5 + 1) = 2 := by have z := hCK i hi 1 (by rw [ew]; decide); rw [ew] at z; exact z
  have eB : ¬ scB nn f i G = 1 := by unfold scB; rw [if_neg (by omega), if_neg (by omega), if_neg (by omega)]; omega
  have eG : scG nn f q i G = tk_ nn f q 2 G := by unfold scG; rw [if_neg (by omega), if_neg (by omega), if_neg (by omega), if_neg (by omega)]
  rw [eG] at K1
  refine xr_stp rfl rfl rfl rfl ?_
  refine xr_stp rfl rfl rfl rfl ?_
  refine xr_stp (st' := .int (Int32.ofNat 1) :: _) rfl rfl rfl rfl ?_
  refine xr_vcps hT2 rfl rfl rfl rfl rfl rfl (fun r1 K2 => tp_part _ _ _ T2 i 1 _ CL _ _ _ C hT2 40 hCL (by omega) (by omega) r1 (K2 _ _ _ _ ?_))
  rw [p1]
  refine xr_stp rfl rfl rfl rfl ?_
  refine xr_stp rfl rfl rfl rfl ?_
  refine xr_stp rfl rfl rfl rfl ?_
  refine xr_stp (st' := .int (Int32.ofNat 2) :: _) rfl rfl rfl rfl ?_
  refine xr_vcps hT2 rfl rfl rfl rfl rfl rfl (fun r1 K2 => tp_part _ _ _ T2 i 2 _ CL _ _ _ C hT2 40 hCL (by omega) (by omega) r1 (K2 _ _ _ _ ?_))
  refine xr_stp rfl rfl rfl rfl ?_
  refine xr_stp rfl rfl rfl rfl ?_
  refine xr_stp rfl rfl rfl rfl ?_
  refine xr_stp (st' := .int (Int32.ofNat 3) :: _) rfl rfl rfl rfl ?_
  refine xr_vcps hT2 rfl rfl rfl rfl rfl rfl (fun r1 K2 => tp_part _ _ _ T2 i 3 _ CL _ _ _ C hT2 40 hCL (by omega) (by omega) r1 (K2 _ _ _ _ ?_))
  refine xr_stp rfl rfl rfl rfl ?_
  refine xr_stp rfl rfl rfl rfl ?_
  refine xr_stp rfl rfl rfl rfl ?_
  refine xr_stp (st' := .int (Int32.ofNat 0) :: _) rfl rfl rfl rfl ?_
  refine xr_vcps hT2 rfl rfl rfl rfl rfl rfl (fun r1 K2 => tp_part _ _ _ T2 i 0 _ CL _ _ _ C hT2 40 hCL (by omega) (by omega) r1 (K2 _ _ _ _ ?_))
  rw [p0]
  refine xr_stp rfl rfl rfl rfl ?_
  refine xr_stp (st' := .int (Int32.ofNat 0) :: _) rfl rfl rfl rfl ?_
  refine xr_stp rfl rfl rfl rfl ?_
  refine xr_loc [(0, .ref 17), (3, .int (Int32.ofNat 2)), (6, .int (Int32.ofNat 0))] ⟨rfl, rfl, rfl, trivial⟩ rfl ?_
  refine cl_pfL d c s nn q dl tx sy T f r 2 0 N n lo G A W0 rfl ⟨hlo, hnl, fi, hc⟩ (by omega) (by omega) (fun W1 hc1 hf1 => ?_)
  refine xr_stp (st' := .int (Int32.ofNat 1) :: _) rfl rfl rfl rfl ?_
  exact xr_retb (by omega) rfl rfl (K1 eB W1 hc1 hf1)
theorem cl_pf (d c s nn q dl tx sy T N n lo : Nat) (f : Nat → Int32) (W0 : xi_W) (G : Nat → Nat) (A : Nat → Nat → Nat) (hc : CY nn f q dl tx sy T N n lo G A W0) (T2 CL : Nat) (v1 v2 v3 : Value) (C : Nat → Nat) (hT2 : W0[T2]? = some (.inr (4, [v1, .ref CL, v2, v3]))) (hCL : W0[CL]? = some (lw_i 40 C)) (hCK : CLK nn f 8 C) (i : Nat) (hi : i < 8) (h4 : G 4 ≤ 61) (hck : G 0 + 2 ≤ 9999) (hN : N + 300 < 90000) (r : xi_R → Prop) (K0 : scB nn f i G = 1 → ∀ W', SCY nn f q dl tx sy T (N + 130) G W' → fr pq W0 W' → r (some (.int (Int32.ofNat 0)), W', c, s)) (K1 : scB nn f i G ≠ 1 → ∀ W', SCY nn f q dl tx sy T (N + 130) (scG nn f q i G) W' → fr pq W0 W' → r (some (.int (Int32.ofNat 1)), W', c, s)) : xr (d + 7) 152 0 [(0, .ref 17), (1, .ref T2), (2, .int (Int32.ofNat i))] [] W0 c s r := by
  have hq := (swb nn f i).1
  have e : sw nn f i = 0 ∨ sw nn f i = 1 ∨ sw nn f i = 2 ∨ sw nn f i = 3 ∨ sw nn f i = 4 := by omega
  rcases e with e | e | e | e | e
  · exact cl_pf0 d c s nn q dl tx sy T N n lo f W0 G A hc T2 CL v1 v2 v3 C hT2 hCL hCK i hi h4 hck hN e r K0 K1
  · exact cl_pf1 d c s nn q dl tx sy T N n lo f W0 G A hc T2 CL v1 v2 v3 C hT2 hCL hCK i hi h4 hck hN e r K0 K1
  · exact cl_pf2 d c s nn q dl tx sy T N n lo f W0 G A hc T2 CL v1 v2 v3 C hT2 hCL hCK i hi h4 hck hN e r K0 K1
  · exact cl_pf3 d c s nn q dl tx sy T N n lo f W0 G A hc T2 CL v1 v2 v3 C hT2 hCL hCK i hi h4 hck hN e r K0 K1
  · exact cl_pf4 d c s nn q dl tx sy T N n lo f W0 G A hc T2 CL v1 v2 v3 C hT2 hCL hCK i hi h4 hck hN e r K0 K1
theorem ru_num2 (d c s ru dl sy : Nat) (W : xi_W) (hr : ruo W 2 ru dl sy) (r : xi_R → Prop) (k : r (some .null, W, c, s)) : xr d 55 0 [(0, .ref 355), (1, .int (Int32.ofNat 2))] [] W c s r := by
  refine xr_stp rfl rfl rfl rfl ?_
  refine xr_j1 rfl rfl rfl rfl rfl (fun h1 => ?_) (fun h1 => ?_)
  · have z1 := n_lt0 h1
    exact (by omega)
  · refine xr_stp rfl rfl rfl rfl ?_
    refine xr_stp rfl rfl rfl rfl ?_
    refine xr_getfield hr rfl rfl rfl rfl ?_
    refine xr_j2 rfl rfl rfl rfl rfl (fun h9 => ?_) (fun h9 => ?_)
    · refine xr_stp rfl rfl rfl rfl ?_ -- aconst_null
      exact xr_ret rfl rfl k
    · have z9 := nf_ge (by omega) (by omega) h9
      exact (by omega)
theorem scG_b {N : Nat} {G : Nat → Nat} (J : lw_J N G) (nn : Nat) (f : Nat → Int32) (q i : Nat) (h4 : G 4 ≤ 61) (hN : N + 400 < 1000000) (hB : ¬ scB nn f i G = 1) : lw_J (N + 130) (scG nn f q i G) ∧ scG nn f q i G 4 ≤ G 4 + 1 ∧ scG nn f q i G 0 ≤ G 0 + 2 := by
  obtain ⟨q1, q2, q3, q4⟩ := swb nn f i
  have e : sw nn f i = 0 ∨ sw nn f i = 1 ∨ sw nn f i = 2 ∨ sw nn f i = 3 ∨ sw nn f i = 4 := by omega
  unfold scB at hB
  unfold scG
  rcases e with e | e | e | e | e
  · rw [if_pos e]
    have j := J.se (sa nn f i) (sb nn f i) (sf nn f i) 50 q2 q3 q4 (by omega) h4 (by omega)
    exact ⟨j.1.mono (by omega), by omega, by rw [lw_seo J _ _ _ q2 h4 (by omega)]; omega⟩
  · rw [if_neg (by omega), if_pos e]
    rw [if_pos e] at hB
    have z : ¬ lw_cx G (sa nn f i) (sb nn f i) (sf nn f i) = 0 := fun z => by rw [if_pos z] at hB; exact hB rfl
    have ec : lw_clr G (sa nn f i) (sb nn f i) (sf nn f i) = lw_cl G (sa nn f i) (sb nn f i) (sf nn f i) := if_neg z
    have j := J.cl (sa nn f i) (sb nn f i) (sf nn f i) q2 q3 (by omega)
    have o0 := lw_clro J (sb nn f i) (sf nn f i) q2 (j := 0) (by omega)
    have o5 := lw_clro J (sb nn f i) (sf nn f i) q2 (j := 5) (by omega)
    rw [ec] at o0 o5
    exact ⟨j.1.mono (by omega), by omega, by omega⟩
  · rw [if_neg (by omega), if_neg (by omega), if_pos e]
    rw [if_neg (by omega), if_pos e] at hB
    have z : ¬ lw_cx G (sa nn f i) (sb nn f i) 4294967295 = 0 := fun z => by rw [if_pos z] at hB; exact hB rfl
    have ec : lw_clr G (sa nn f i) (sb nn f i) 4294967295 = lw_cl G (sa nn f i) (sb nn f i) 4294967295 := if_neg z
    have j := J.cl (sa nn f i) (sb nn f i) 4294967295 q2 q3 (by omega)
    have o0 := lw_clro J (sb nn f i) 4294967295 q2 (j := 0) (by omega)
    have o5 := lw_clro J (sb nn f i) 4294967295 q2 (j := 5) (by omega)
    rw [ec] at o0 o5
    exact ⟨j.1.mono (by omega), by omega, by omega⟩
  · rw [if_neg (by omega), if_neg (by omega), if_neg (by omega), if_pos e]
    rw [if_neg (by omega), if_neg (by omega), if_pos e] at hB
    have z : ¬ lw_be G (sb nn f i) (sa nn f i) = 0 := fun z => by rw [if_pos (Or.inr z)] at hB; exact hB rfl
    have ec : lw_snd nn f q G (sb nn f i) (sa nn f i) = lw_sn nn f G q (sb nn f i) (sa nn f i) := if_neg z
    have j := J.snd nn f q (sb nn f i) (sa nn f i) q3 q2 (by omega)
    have o0 := lw_sndo nn f q G (sb nn f i) (sa nn f i) (j := 0) (by omega)
    have o5 := lw_sndo nn f q G (sb nn f i) (sa nn f i) (j := 5) (by omega)
    rw [ec] at j o0 o5
    exact ⟨j.1.mono (by omega), by omega, by omega⟩
  · rw [if_neg (by omega), if_neg (by omega), if_neg (by omega), if_neg (by omega)]
    show lw_J (N + 130) (lw_ti nn f q 24 (lw_ti nn f q 24 G)) ∧ lw_ti nn f q 24 (lw_ti nn f q 24 G) 4 ≤ G 4 + 1 ∧ lw_ti nn f q 24 (lw_ti nn f q 24 G) 0 ≤ G 0 + 2
    have j1 := (J.ti nn f q 24 (by omega)).mono (show N + 2 * 24 + 17 ≤ N + 65 by omega)
    have j2 := (j1.ti nn f q 24 (by omega)).mono (show N + 65 + 2 * 24 + 17 ≤ N + 130 by omega)
    refine ⟨j2, ?_, ?_⟩
    · rw [lw_ti4 j1 nn f q 24 (by omega), lw_ti4 J nn f q 24 (by omega)]; omega
    · rw [lw_ti0 j1 nn f q (by omega), lw_ti0 J nn f q (by omega)]; omega
theorem cl_plL (d c s nn q dl tx sy T : Nat) (f : Nat → Int32) (T2 CL : Nat) (v2 v3 : Value) (C : Nat → Nat) (hCK : CLK nn f 8 C) (hT2b : 687 ≤ T2) (hCLb : 687 ≤ CL) (r : xi_R → Prop) : ∀ (m i N : Nat) (G : Nat → Nat) (W0 : xi_W), i + m = 8 → SCY nn f q dl tx sy T N G W0 → W0[T2]? = some (.inr (4, [.int (Int32.ofNat 8), .ref CL, v2, v3])) → W0[CL]? = some (lw_i 40 C) → G 4 + m ≤ 62 → G 0 + 2 * m ≤ 9999 → N + 130 * m + 300 < 90000 → (∀ W', SCY nn f q dl tx sy T (N + 130 * m) (scH nn f q m i G) W' → fr pq W0 W' → r (some (.int (Int32.ofNat (scE nn f q m i G))), W', c, s)) → xr (d + 8) 106 18 [(0, .ref 17), (1, .int (Int32.ofNat 1)), (2, .ref T2), (3, .int (Int32.ofNat i))] [] W0 c s r
  | 0, i, N, G, W0, hi, hc, hT2, hCL, h4, hck, hN, K => by
    obtain rfl : i = 8 := by omega
    refine xr_stp rfl rfl rfl rfl ?_
    refine xr_stp rfl rfl rfl rfl ?_
    refine xr_getfield hT2 rfl rfl rfl rfl ?_
    refine xr_j2 rfl rfl rfl rfl rfl (fun h23 => ?_) (fun h23 => ?_)
    · refine xr_stp (st' := .int (Int32.ofNat 4294967295) :: _) rfl rfl rfl rfl ?_
      exact xr_ret rfl rfl (K W0 hc fr.rf)
    · have z23 := nf_ge (by omega) (by omega) h23
      exact (by omega)
  | m + 1, i, N, G, W0, hi, hc, hT2, hCL, h4, hck, hN, K => by
    obtain ⟨n, lo, A, hc⟩ := hc
    obtain ⟨F, hr⟩ := hc.j
    obtain ⟨lf, lp, hO⟩ := (show ∃ lf lp : Int32, W0[17]? = some (.inr (6, [.ref 18, .int lf, .int lp, .ref 23, .ref 33, .ref 43, .ref 355, .ref 360, .ref 370, .ref 682])) from by obtain ⟨_, _, fi, hc2⟩ := hc; exact hc2.o)
    unfold scE scH at K
    by_cases hB : scB nn f i G = 1
    · rw [if_pos hB, if_pos hB] at K
      refine xr_stp rfl rfl rfl rfl ?_
      refine xr_stp rfl rfl rfl rfl ?_
      refine xr_getfield hT2 rfl rfl rfl rfl ?_
      refine xr_j2 rfl rfl rfl rfl rfl (fun h23 => ?_) (fun h23 => ?_)
      · have z23 := nt_ge (by omega) (by omega) h23
        exact (by omega)
      · refine xr_stp rfl rfl rfl rfl ?_
        refine xr_stp rfl rfl rfl rfl ?_
        refine xr_stp rfl rfl rfl rfl ?_
        refine xr_vcps hO rfl rfl rfl rfl rfl rfl (fun r1 K2 => cl_pf _ _ _ nn q dl tx sy T N n lo f W0 G A hc T2 CL _ v2 v3 C hT2 hCL hCK i (by omega) (by omega) (by omega) (by omega) r1 (fun hb W3 hc3 hf3 => K2 _ _ _ _ ?_) (fun hb W3 hc3 hf3 => absurd hB hb))
        refine xr_j1 rfl rfl rfl rfl rfl (fun h32 => ?_) (fun h32 => ?_)
        · have z32 := nt1_ne h32
          exact (by omega)
        · refine xr_stp rfl rfl rfl rfl ?_
          exact xr_ret rfl rfl (K W3 (by obtain ⟨n5, lo5, A5, h5⟩ := hc3; exact ⟨n5, lo5, A5, h5.mono (by omega)⟩) hf3)
    · rw [if_neg hB, if_neg hB] at K
      have hg := scG_b hr.j nn f q i (by omega) (by omega) hB
      refine xr_stp rfl rfl rfl rfl ?_
      refine xr_stp rfl rfl rfl rfl ?_
      refine xr_getfield hT2 rfl rfl rfl rfl ?_
      refine xr_j2 rfl rfl rfl rfl rfl (fun h23 => ?_) (fun h23 => ?_)
      · have z23 := nt_ge (by omega) (by omega) h23
        exact (by omega)
      · refine xr_stp rfl rfl rfl rfl ?_
        refine xr_stp rfl rfl rfl rfl ?_
        refine xr_stp rfl rfl rfl rfl ?_
        refine xr_vcps hO rfl rfl rfl rfl rfl rfl (fun r1 K2 => cl_pf _ _ _ nn q dl tx sy T N n lo f W0 G A hc T2 CL _ v2 v3 C hT2 hCL hCK i (by omega) (by omega) (by omega) (by omega) r1 (fun hb => absurd hb hB) (fun hb W3 hc3 hf3 => K2 _ _ _ _ ?_))
        refine xr_j1 rfl rfl rfl rfl rfl (fun h32 => ?_) (fun h32 => ?_)
        · refine xs_inc (e := 1) rfl rfl rfl rfl ?_
          refine xr_stp rfl rfl rfl rfl ?_
          refine xr_loc [(0, .ref 17), (1, .int (Int32.ofNat 1)), (2, .ref T2), (3, .int (Int32.ofNat (i + 1)))] ⟨rfl, rfl, rfl, rfl, trivial⟩ rfl ?_
          have hT3 := hf3.at hT2 (by unfold pq; omega)
          have hCL3 := hf3.at hCL (by unfold pq; omega)
          refine cl_plL d c s nn q dl tx sy T f T2 CL v2 v3 C hCK hT2b hCLb r m (i + 1) (N + 130) _ W3 (by omega) hc3 hT3 hCL3 (by omega) (by omega) (by omega) (fun W5 hc5 hf5 => K W5 ?_ (hf3.tr hf5))
          rw [show N + 130 + 130 * m = N + 130 * (m + 1) by omega] at hc5
          exact hc5
        · have z32 := nf1_ne (by omega) h32
          exact (by omega)
/-- 'played' of the script -/
theorem cl_play1 (d c s nn q dl sy T N : Nat) (f : Nat → Int32) (T2 CL : Nat) (v2 v3 : Value) (C : Nat → Nat) (hCK : CLK nn f 8 C) (hT2b : 687 ≤ T2) (hCLb : 687 ≤ CL) (G : Nat → Nat) (W0 : xi_W) (hc : SCY nn f q dl 2 sy T N G W0) (RD : Nat → Option Nat) (hrd : rud W0 RD) (e2 : RD 1 = some T2) (hT2 : W0[T2]? = some (.inr (4, [.int (Int32.ofNat 8), .ref CL, v2, v3]))) (hCL : W0[CL]? = some (lw_i 40 C)) (h4 : G 4 ≤ 54) (hck : G 0 + 16 ≤ 9999) (hN : N + 2000 < 90000) (r : xi_R → Prop) (K : ∀ W', SCY nn f q dl 2 sy T (N + 1040) (scH nn f q 8 0 G) W' → fr pq W0 W' → r (some (.int (Int32.ofNat (scE nn f q 8 0 G))), W', c, s)) : xr (d + 8) 106 0 [(0, .ref 17), (1, .int (Int32.ofNat 1))] [] W0 c s r := by
  obtain ⟨n, lo, A, hc0⟩ := id hc
  obtain ⟨_, _, fi, hc1⟩ := hc0
  obtain ⟨lf, lp, hO⟩ := hc1.o
  have hR := hc1.R
  refine xr_stp rfl rfl rfl rfl ?_
  refine xr_getfield hO rfl rfl rfl rfl ?_
  refine xr_stp rfl rfl rfl rfl ?_
  refine xr_vcps hR rfl rfl rfl rfl rfl rfl (fun r1 K2 => ru_num1 _ _ _ 1 _ _ _ _ T2 W0 RD hR hrd e2 (by omega) (by omega) (by omega) r1 (K2 _ _ _ _ ?_))
  refine xr_stp rfl rfl rfl rfl ?_
  refine xr_stp rfl rfl rfl rfl ?_
  refine xr_stp rfl rfl rfl rfl ?_
  refine xr_stp (st' := .int (Int32.ofNat 0) :: _) rfl rfl rfl rfl ?_
  refine xr_stp rfl rfl rfl rfl ?_
  refine xr_loc [(0, .ref 17), (1, .int (Int32.ofNat 1)), (2, .ref T2), (3, .int (Int32.ofNat 0))] ⟨rfl, rfl, rfl, rfl, trivial⟩ rfl ?_
  exact cl_plL d _ _ nn q dl 2 sy T f T2 CL v2 v3 C hCK hT2b hCLb r 8 0 N G W0 rfl hc hT2 hCL (by omega) (by omega) (by omega) K
theorem cl_play2 (d c s ru dl sy : Nat) (W0 : xi_W) (lf lp : Int32) (hO : W0[17]? = some (.inr (6, [.ref 18, .int lf, .int lp, .ref 23, .ref 33, .ref 43, .ref 355, .ref 360, .ref 370, .ref 682]))) (hR : ruo W0 2 ru dl sy) (r : xi_R → Prop) (K : r (some (.int (Int32.ofNat 4294967294)), W0, c, s)) : xr (d + 8) 106 0 [(0, .ref 17), (1, .int (Int32.ofNat 2))] [] W0 c s r := by
  refine xr_stp rfl rfl rfl rfl ?_
  refine xr_getfield hO rfl rfl rfl rfl ?_
  refine xr_stp rfl rfl rfl rfl ?_
  refine xr_vcps hR rfl rfl rfl rfl rfl rfl (fun r1 K2 => ru_num2 _ _ _ _ _ _ W0 hR r1 (K2 _ _ _ _ ?_))
  refine xr_stp rfl rfl rfl rfl ?_
  refine xr_stp rfl rfl rfl rfl ?_
  refine xr_stp rfl rfl rfl rfl ?_
  refine xr_stp (st' := .int (Int32.ofNat 4294967294) :: _) rfl rfl rfl rfl ?_
  exact xr_ret rfl rfl K
theorem cl_pf0L (d c s T CL i : Nat) (v1 v2 v3 : Value) (C : Nat → Nat) (W0 : xi_W) (hT : W0[T]? = some (.inr (4, [v1, .ref CL, v2, v3]))) (hCL : W0[CL]? = some (lw_i 10 C)) (hi : i < 2) (e : C (i * 5 + 0) = i) (r : xi_R → Prop) (K : r (some (.int (Int32.ofNat 1)), W0, c, s)) : xr (d + 7) 152 0 [(0, .ref 17), (1, .ref T), (2, .int (Int32.ofNat i))] [] W0 c s r := by
  refine xr_stp rfl rfl rfl rfl ?_
  refine xr_stp rfl rfl rfl rfl ?_
  refine xr_stp (st' := .int (Int32.ofNat 1) :: _) rfl rfl rfl rfl ?_
  refine xr_vcps hT rfl rfl rfl rfl rfl rfl (fun r1 K2 => tp_part _ _ _ T i 1 _ CL _ _ _ C hT 10 hCL (by omega) (by omega) r1 (K2 _ _ _ _ ?_))
  refine xr_stp rfl rfl rfl rfl ?_
  refine xr_stp rfl rfl rfl rfl ?_
  refine xr_stp rfl rfl rfl rfl ?_
  refine xr_stp (st' := .int (Int32.ofNat 2) :: _) rfl rfl rfl rfl ?_
  refine xr_vcps hT rfl rfl rfl rfl rfl rfl (fun r1 K2 => tp_part _ _ _ T i 2 _ CL _ _ _ C hT 10 hCL (by omega) (by omega) r1 (K2 _ _ _ _ ?_))
  refine xr_stp rfl rfl rfl rfl ?_
  refine xr_stp rfl rfl rfl rfl ?_
  refine xr_stp rfl rfl rfl rfl ?_
  refine xr_stp (st' := .int (Int32.ofNat 3) :: _) rfl rfl rfl rfl ?_
  refine xr_vcps hT rfl rfl rfl rfl rfl rfl (fun r1 K2 => tp_part _ _ _ T i 3 _ CL _ _ _ C hT 10 hCL (by omega) (by omega) r1 (K2 _ _ _ _ ?_))
  refine xr_stp rfl rfl rfl rfl ?_
  refine xr_stp rfl rfl rfl rfl ?_
  refine xr_stp rfl rfl rfl rfl ?_
  refine xr_stp (st' := .int (Int32.ofNat 0) :: _) rfl rfl rfl rfl ?_
  refine xr_vcps hT rfl rfl rfl rfl rfl rfl (fun r1 K2 => tp_part _ _ _ T i 0 _ CL _ _ _ C hT 10 hCL (by omega) (by omega) r1 (K2 _ _ _ _ ?_))
  rw [e]
  have e2 : i = 0 ∨ i = 1 := by omega
  rcases e2 with rfl | rfl
  · refine xr_stp rfl rfl rfl rfl ?_
    refine xr_stp (st' := .int (Int32.ofNat 1) :: _) rfl rfl rfl rfl ?_
    exact xr_retb (by omega) rfl rfl K
  · refine xr_stp rfl rfl rfl rfl ?_
    refine xr_stp (st' := .int (Int32.ofNat 1) :: _) rfl rfl rfl rfl ?_
    exact xr_retb (by omega) rfl rfl K
theorem cl_play0 (d c s T CL tx ru dl sy : Nat) (v2 v3 : Value) (C : Nat → Nat) (W0 : xi_W) (lf lp : Int32) (hO : W0[17]? = some (.inr (6, [.ref 18, .int lf, .int lp, .ref 23, .ref 33, .ref 43, .ref 355, .ref 360, .ref 370, .ref 682]))) (hR : ruo W0 tx ru dl sy) (htx : 0 < tx) (htx4 : tx ≤ 4) (RD : Nat → Option Nat) (hrd : rud W0 RD) (e0 : RD 0 = some T) (hT : W0[T]? = some (.inr (4, [.int (Int32.ofNat 2), .ref CL, v2, v3]))) (hCL : W0[CL]? = some (lw_i 10 C)) (c0 : C 0 = 0) (c5 : C 5 = 1) (r : xi_R → Prop) (K : r (some (.int (Int32.ofNat 4294967295)), W0, c, s)) : xr (d + 8) 106 0 [(0, .ref 17), (1, .int (Int32.ofNat 0))] [] W0 c s r := by
  refine xr_stp rfl rfl rfl rfl ?_
  refine xr_getfield hO rfl rfl rfl rfl ?_
  refine xr_stp rfl rfl rfl rfl ?_
  refine xr_vcps hR rfl rfl rfl rfl rfl rfl (fun r1 K2 => ru_num1 _ _ _ 0 _ _ _ _ T W0 RD hR hrd e0 (by omega) (by omega) (by omega) r1 (K2 _ _ _ _ ?_))
  refine xr_stp rfl rfl rfl rfl ?_
  refine xr_stp rfl rfl rfl rfl ?_
  refine xr_stp rfl rfl rfl rfl ?_
  refine xr_stp (st' := .int (Int32.ofNat 0) :: _) rfl rfl rfl rfl ?_
  refine xr_stp rfl rfl rfl rfl ?_
  refine xr_loc [(0, .ref 17), (1, .int (Int32.ofNat 0)), (2, .ref T), (3, .int (Int32.ofNat 0))] ⟨rfl, rfl, rfl, rfl, trivial⟩ rfl ?_
  refine xr_stp rfl rfl rfl rfl ?_
  refine xr_stp rfl rfl rfl rfl ?_
  refine xr_getfield hT rfl rfl rfl rfl ?_
  refine xr_j2 rfl rfl rfl rfl rfl (fun h23 => ?_) (fun h23 => ?_)
  · have z23 := nt_ge (by omega) (by omega) h23
    exact (by omega)
  · refine xr_stp rfl rfl rfl rfl ?_
    refine xr_stp rfl rfl rfl rfl ?_
    refine xr_stp rfl rfl rfl rfl ?_
    refine xr_vcps hO rfl rfl rfl rfl rfl rfl (fun r1 K2 => cl_pf0L _ _ _ T CL 0 _ _ _ C W0 hT hCL (by omega) c0 r1 (K2 _ _ _ _ ?_))
    refine xr_j1 rfl rfl rfl rfl rfl (fun h32 => ?_) (fun h32 => ?_)
    · refine xs_inc (e := 1) rfl rfl rfl rfl ?_
      refine xr_stp rfl rfl rfl rfl ?_
      refine xr_loc [(0, .ref 17), (1, .int (Int32.ofNat 0)), (2, .ref T), (3, .int (Int32.ofNat 1))] ⟨rfl, rfl, rfl, rfl, trivial⟩ rfl ?_
      refine xr_stp rfl rfl rfl rfl ?_
      refine xr_stp rfl rfl rfl rfl ?_
      refine xr_getfield hT rfl rfl rfl rfl ?_
      refine xr_j2 rfl rfl rfl rfl rfl (fun h23 => ?_) (fun h23 => ?_)
      · have z23 := nt_ge (by omega) (by omega) h23
        exact (by omega)
      · refine xr_stp rfl rfl rfl rfl ?_
        refine xr_stp rfl rfl rfl rfl ?_
        refine xr_stp rfl rfl rfl rfl ?_
        refine xr_vcps hO rfl rfl rfl rfl rfl rfl (fun r1 K2 => cl_pf0L _ _ _ T CL 1 _ _ _ C W0 hT hCL (by omega) c5 r1 (K2 _ _ _ _ ?_))
        refine xr_j1 rfl rfl rfl rfl rfl (fun h32 => ?_) (fun h32 => ?_)
        · refine xs_inc (e := 1) rfl rfl rfl rfl ?_
          refine xr_stp rfl rfl rfl rfl ?_
          refine xr_loc [(0, .ref 17), (1, .int (Int32.ofNat 0)), (2, .ref T), (3, .int (Int32.ofNat 2))] ⟨rfl, rfl, rfl, rfl, trivial⟩ rfl ?_
          refine xr_stp rfl rfl rfl rfl ?_
          refine xr_stp rfl rfl rfl rfl ?_
          refine xr_getfield hT rfl rfl rfl rfl ?_
          refine xr_j2 rfl rfl rfl rfl rfl (fun h23 => ?_) (fun h23 => ?_)
          · refine xr_stp (st' := .int (Int32.ofNat 4294967295) :: _) rfl rfl rfl rfl ?_
            exact xr_ret rfl rfl K
          · have z23 := nf_ge (by omega) (by omega) h23
            exact (by omega)
        · have z32 := nf1_ne (by omega) h32
          exact (by omega)
    · have z32 := nf1_ne (by omega) h32
      exact (by omega)
