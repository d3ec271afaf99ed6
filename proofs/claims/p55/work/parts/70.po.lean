/-! the class: a message is sent, in the relation -/
theorem xr_kwp {d j pc pc' c s c' s' : Nat} {l l' : xi_L} {st st' : List Value} {W : xi_W} {b : Nat} {F F' : Nat → Nat} {r : xi_R → Prop} (h : kw W b F) (hx : ∀ q, xg d j pc' l' st' (cn_w W (wI b) F') c' s' q → xg d j pc l st (cn_w W (wI b) F) c s q) (k : ∀ W', kw W' b F' → fr (kin b) W W' → xr d j pc' l' st' W' c' s' r) : xr d j pc l st W c s r := by
  have hf := (cw_fr W (wI b) F').weak (P2 := kin b) (fun i _ hi => wI_in hi)
  obtain ⟨q, h1, h2⟩ := k (cn_w W (wI b) F') ⟨cw_at.of W (wI b) F', hf.at h.2 (fun z => z.2.2 rfl)⟩ hf
  refine ⟨q, ?_, h2⟩
  have e : cn_w W (wI b) F = W := h.1
  have := hx q h1
  rw [e] at this
  exact this
theorem xr_kwe {d j pc c s c' s' : Nat} {l : xi_L} {st : List Value} {W : xi_W} {b : Nat} {F F' : Nat → Nat} {v : Option Value} {r : xi_R → Prop} (h : kw W b F) (hx : xg d j pc l st (cn_w W (wI b) F) c s (v, cn_w W (wI b) F', c', s')) (k : ∀ W', kw W' b F' → fr (kin b) W W' → r (v, W', c', s')) : xr d j pc l st W c s r := by
  have hf := (cw_fr W (wI b) F').weak (P2 := kin b) (fun i _ hi => wI_in hi)
  have e : cn_w W (wI b) F = W := h.1
  rw [e] at hx
  exact ⟨_, hx, k _ ⟨cw_at.of W (wI b) F', hf.at h.2 (fun z => z.2.2 rfl)⟩ hf⟩
/-- the rules as they stand in the memory -/
def rl_ok (nn : Nat) (f : Nat → Int32) (q dl tx sy T : Nat) (W : xi_W) : Prop := 687 ≤ W.length ∧ (∃ RD, rud W RD ∧ RD 0 = some T) ∧ 0 < tx ∧ tx ≤ 4 ∧ txt nn f W T ∧ rus W ∧ ruo W tx (if q = 0 then 4294967295 else 0) dl sy
theorem rl_ok.keep {nn : Nat} {f : Nat → Int32} {q dl tx sy T : Nat} {W W' : xi_W} {Q : Nat → Prop} (h : rl_ok nn f q dl tx sy T W) (hf : fr Q W W') (hQ : ∀ i, Q i → i < 355 ∨ i = 358 ∨ i = 359 ∨ (360 ≤ i ∧ i < 687)) (hs : rus W') : rl_ok nn f q dl tx sy T W' := by
  obtain ⟨h0, ⟨RD, h1, h2⟩, h3, h4, h5, h6, h7⟩ := h
  exact ⟨Nat.le_trans h0 hf.1, ⟨RD, hf.at h1 (fun z => by have := hQ _ z; omega), h2⟩, h3, h4, h5.keep hf (fun i hi z => by have := hQ _ z; omega), hs, hf.at h7 (fun z => by have := hQ _ z; omega)⟩
theorem rus.keep {W W' : xi_W} {Q : Nat → Prop} (h : rus W) (hf : fr Q W W') (h1 : ¬ Q 358) (h2 : ¬ Q 359) : rus W' := by
  obtain ⟨⟨V, hV⟩, ⟨g, hg⟩⟩ := h
  exact ⟨⟨V, hf.at hV h1⟩, ⟨g, hf.at hg h2⟩⟩
theorem wb.k {b : Nat} (hb : wb b) : ¬ kin b 358 ∧ ¬ kin b 359 ∧ ¬ kin b 355 ∧ ∀ i, kin b i → i < 355 ∨ i = 358 ∨ i = 359 ∨ (360 ≤ i ∧ i < 687) := by
  obtain ⟨b1, b2, b3⟩ := hb
  unfold kin
  exact ⟨by omega, by omega, by omega, fun i hi => by omega⟩
/-- what a World's method that asks the rules writes into -/
def kr (b : Nat) : Nat → Prop := fun i => kin b i ∨ rin i
theorem wb.krr {b : Nat} (hb : wb b) : ∀ i, kr b i → i < 355 ∨ i = 358 ∨ i = 359 ∨ (360 ≤ i ∧ i < 687) := fun i hi => by
  obtain ⟨b1, b2, b3⟩ := hb
  unfold kr kin rin at hi
  omega
theorem wb.rinF {b i : Nat} (hb : wb b) (h : rin i) (h2 : b ≤ i) (h3 : i < b + 10) : False := by
  obtain ⟨b1, b2, b3⟩ := hb
  unfold rin at h
  omega
theorem ro.en {G F : Nat → Nat} {X h k : Nat} (he : en G (G 4)) (hm : G 4 ≤ 62) (hx : ro G F X h k) (hh : h < 2 ^ G 4) : cn_en F 4 (X * 4) (Int32.ofNat 0) = Int32.ofNat (bc 63 h) := by
  have b : ∀ r, pr G r (G 4) h < 9223372036854775808 := fun r => by have := pr_lt62 he hm r h; omega
  have e : cn_en F 4 (X * 4) (Int32.ofNat 0) = Int32.ofNat 0 + cn_bc (Int64.ofNat (F (16 * (X * 4) + 1))) + cn_bc (Int64.ofNat (F (16 * (X * 4 + 1) + 1))) + cn_bc (Int64.ofNat (F (16 * (X * 4 + 1 + 1) + 1))) + cn_bc (Int64.ofNat (F (16 * (X * 4 + 1 + 1 + 1) + 1))) := rfl
  have h0 : F (16 * (X * 4) + 1) = pr G 0 (G 4) h := (hx 0 (by omega)).2
  have h1 := (hx 1 (by omega)).2
  have h2 := (hx 2 (by omega)).2
  have h3 := (hx 3 (by omega)).2
  rw [e, h0, h1, show X * 4 + 1 + 1 = X * 4 + 2 from rfl, h2, show X * 4 + 2 + 1 = X * 4 + 3 from rfl, h3, cn_bcv (b 0), cn_bcv (b 1), cn_bcv (b 2), cn_bcv (b 3), n_add, n_add, n_add, n_add, Nat.zero_add, pr_sum he hm hh]
theorem cn_entE {d c s b X h k : Nat} {G F : Nat → Nat} {W : xi_W} {L : List Value} (hw : kw W b F) (hb : wb b) (hl : 687 ≤ W.length) (hR : W[355]? = some (.inr (2, L))) (he : en G (G 4)) (hm : G 4 ≤ 62) (hX : X < 55) (hx : ro G F X h k) (hh : h < 2 ^ G 4) (r : xi_R → Prop) (K : r (some (.int (Int32.ofNat (bc 63 h))), W, c, s)) : xr (d + 1) 7 0 [(0, .ref (b + 1)), (1, .int (Int32.ofNat X))] [] W c s r := by
  have X1 := cn_entries (hw.B hb hl hR) d F c s X hX
  have e : cn_w W (wI b) F = W := hw.1
  rw [ro.en he hm hx hh, e] at X1
  exact xr_of X1 K
theorem po_1 {b : xi_W} {I : Nat → Nat} {R : Nat × List Value} (B : cn_B b I R) (d c s : Nat) (F : Nat → Nat) (p q e u : Nat) (h1 : F 56 < 1000000) (Q : xi_R) (k : xg (d + 1) 89 19 [(6, .int (Int32.ofNat (F 56 % 10))), (0, .ref (I 0)), (1, .ref (I 2)), (2, .int (Int32.ofNat p)), (3, .int (Int32.ofNat q)), (4, .int (Int32.ofNat e)), (5, .int (Int32.ofNat u))] [] (cn_w b I (cn_q2 F)) c s Q) : xg (d + 1) 89 0 [(0, .ref (I 0)), (1, .ref (I 2)), (2, .int (Int32.ofNat p)), (3, .int (Int32.ofNat q)), (4, .int (Int32.ofNat e)), (5, .int (Int32.ofNat u))] [] (cn_w b I (F)) c s Q := by
  have z : cn_q1 F 56 = F 56 := xn_un _ _ (by omega)
  refine xg_stp rfl rfl rfl rfl ?_
  refine xg_stp rfl rfl rfl rfl ?_
  refine xg_getfield (cn_g0 B _) rfl rfl rfl rfl ?_
  refine xg_stp (st' := .int (Int32.ofNat 1) :: _) rfl rfl rfl rfl ?_
  refine xn_add rfl ?_
  refine cn_pf4 B rfl rfl ?_
  refine xg_stp rfl rfl rfl rfl ?_
  refine xg_vcall (cn_g0 B _) rfl rfl rfl rfl rfl rfl (cn_draw B d (cn_q1 F) 0 0 (by rw [z]; exact h1)) ?_
  refine xg_stp (st' := .int (Int32.ofNat 10) :: _) rfl rfl rfl rfl ?_
  refine xn_mod (by omega) (by omega) (by omega) rfl ?_
  refine xg_stp rfl rfl rfl rfl ?_
  exact k
theorem po_2 {b : xi_W} {I : Nat → Nat} {R : Nat × List Value} (B : cn_B b I R) (d c s : Nat) (F : Nat → Nat) (x p q e u : Nat) (h : F 24 ≤ 25) : xg (d + 2) 89 51 [(6, .int (Int32.ofNat x)), (0, .ref (I 0)), (1, .ref (I 2)), (2, .int (Int32.ofNat p)), (3, .int (Int32.ofNat q)), (4, .int (Int32.ofNat e)), (5, .int (Int32.ofNat u))] [] (cn_w b I F) c s (none, cn_w b I (cn_wr (xn_u F 88 (F 88 + 1)) 3 q p), c, s) := by
  refine xg_stp rfl rfl rfl rfl ?_
  refine xg_stp rfl rfl rfl rfl ?_
  refine xg_getfield (cn_g0 B _) rfl rfl rfl rfl ?_
  refine xg_stp (st' := .int (Int32.ofNat 1) :: _) rfl rfl rfl rfl ?_
  refine xn_add rfl ?_
  refine cn_pf5 B rfl rfl ?_
  refine xg_stp rfl rfl rfl rfl ?_
  refine xg_stp (st' := .int (Int32.ofNat 3) :: _) rfl rfl rfl rfl ?_
  refine xg_stp rfl rfl rfl rfl ?_
  refine xg_stp rfl rfl rfl rfl ?_
  refine xg_vcall (cn_g0 B _) rfl rfl rfl rfl rfl rfl (cn_write B d (xn_u F 88 (F 88 + 1)) 0 0 3 q p (by rw [xn_un _ _ (by omega)]; exact h)) ?_
  exact xg_ret rfl rfl
def po_f1 (F : Nat → Nat) (p q : Nat) : Nat → Nat := xn_u (xn_u (cn_rm F) (16 * (F 8 * 5) + 6) p) (16 * (F 8 * 5 + 1) + 6) q
def po_f2 (F : Nat → Nat) (p q e u dl : Nat) : Nat → Nat := xn_u (xn_u (xn_u (po_f1 F p q) (16 * (F 8 * 5 + 2) + 6) (po_f1 F p q 40 + dl)) (16 * (F 8 * 5 + 3) + 6) e) (16 * (F 8 * 5 + 4) + 6) u
theorem po_3 {b : xi_W} {I : Nat → Nat} {tx ru dl sy : Nat} (B : cn_B b I (2, [.ref 356, .int (Int32.ofNat tx), .int (Int32.ofNat ru), .int (Int32.ofNat dl), .ref 357, .int (Int32.ofNat sy), .ref 358, .ref 359])) (d c s : Nat) (F : Nat → Nat) (x p q e u : Nat) (h8 : F 8 < 24) (h40 : F 40 + dl < 2147483648) (hcm : 0 < F 8 → F (16 * ((F 8 - 1) * 5 + 2) + 6) ≤ F 40 + dl) : xg (d + 3) 89 69 [(6, .int (Int32.ofNat x)), (0, .ref (I 0)), (1, .ref (I 2)), (2, .int (Int32.ofNat p)), (3, .int (Int32.ofNat q)), (4, .int (Int32.ofNat e)), (5, .int (Int32.ofNat u))] [] (cn_w b I F) c s (none, cn_w b I (po_f2 F p q e u dl), c, s) := by
  refine xg_stp rfl rfl rfl rfl ?_
  refine xg_stp rfl rfl rfl rfl ?_
  refine xg_getfield (cn_g0 B _) rfl rfl rfl rfl ?_
  refine xg_stp rfl rfl rfl rfl ?_
  refine xg_getfield (cn_g2 B _) rfl rfl rfl rfl ?_
  refine xn_add rfl ?_
  refine xg_vcall (cn_g0 B _) rfl rfl rfl rfl rfl rfl (cn_roomFor B d F 0 0 (F 40 + dl) h40 h8 hcm) ?_
  refine xg_stp rfl rfl rfl rfl ?_
  refine xg_stp rfl rfl rfl rfl ?_
  refine xg_getfield (cn_g0 B _) rfl rfl rfl rfl ?_
  refine xg_stp rfl rfl rfl rfl ?_
  refine xg_stp rfl rfl rfl rfl ?_
  refine cn_st9 B (by omega) rfl ?_
  refine xg_stp rfl rfl rfl rfl ?_
  refine xg_getfield (cn_g0 B _) rfl rfl rfl rfl ?_
  refine xg_stp rfl rfl rfl rfl ?_
  refine xg_stp (st' := .int (Int32.ofNat 1) :: _) rfl rfl rfl rfl ?_
  refine xn_add rfl ?_
  refine xg_stp rfl rfl rfl rfl ?_
  refine cn_st9 B (by omega) rfl ?_
  refine xg_stp rfl rfl rfl rfl ?_
  refine xg_getfield (cn_g0 B _) rfl rfl rfl rfl ?_
  refine xg_stp rfl rfl rfl rfl ?_
  refine xg_stp (st' := .int (Int32.ofNat 2) :: _) rfl rfl rfl rfl ?_
  refine xn_add rfl ?_
  refine xg_stp rfl rfl rfl rfl ?_
  refine xg_getfield (cn_g0 B _) rfl rfl rfl rfl ?_
  refine xg_stp rfl rfl rfl rfl ?_
  refine xg_getfield (cn_g2 B _) rfl rfl rfl rfl ?_
  refine xn_add rfl ?_
  refine cn_st9 B (by omega) rfl ?_
  refine xg_stp rfl rfl rfl rfl ?_
  refine xg_getfield (cn_g0 B _) rfl rfl rfl rfl ?_
  refine xg_stp rfl rfl rfl rfl ?_
  refine xg_stp (st' := .int (Int32.ofNat 3) :: _) rfl rfl rfl rfl ?_
  refine xn_add rfl ?_
  refine xg_stp rfl rfl rfl rfl ?_
  refine cn_st9 B (by omega) rfl ?_
  refine xg_stp rfl rfl rfl rfl ?_
  refine xg_getfield (cn_g0 B _) rfl rfl rfl rfl ?_
  refine xg_stp rfl rfl rfl rfl ?_
  refine xg_stp (st' := .int (Int32.ofNat 4) :: _) rfl rfl rfl rfl ?_
  refine xn_add rfl ?_
  refine xg_stp rfl rfl rfl rfl ?_
  refine cn_st9 B (by omega) rfl ?_
  exact xg_ret rfl rfl
theorem po_f2v (F : Nat → Nat) (p q e u dl : Nat) : po_f2 F p q e u dl 8 = F 8 + 1 ∧ (∀ s, s < 4 → po_f2 F p q e u dl (16 * ((28 + F 8) * 4 + s) + 0) = F (16 * (52 * 4 + s) + 0) ∧ po_f2 F p q e u dl (16 * ((28 + F 8) * 4 + s) + 1) = F (16 * (52 * 4 + s) + 1)) ∧ (po_f2 F p q e u dl (16 * (F 8 * 5) + 6) = p ∧ po_f2 F p q e u dl (16 * (F 8 * 5 + 1) + 6) = q ∧ po_f2 F p q e u dl (16 * (F 8 * 5 + 2) + 6) = F 40 + dl ∧ po_f2 F p q e u dl (16 * (F 8 * 5 + 3) + 6) = e ∧ po_f2 F p q e u dl (16 * (F 8 * 5 + 4) + 6) = u) ∧ (∀ j, j ≠ 8 → (j % 16 ≠ 6 ∨ j / 16 < 5 * F 8) → (1 < j % 16 ∨ j / 16 < (28 + F 8) * 4) → po_f2 F p q e u dl j = F j) := by
  obtain ⟨r1, r2, r3⟩ := cn_rmv F
  have e40 : po_f1 F p q 40 = F 40 := by
    unfold po_f1
    rw [xn_un _ _ (by omega), xn_un _ _ (by omega)]
    exact r3 40 (by omega) (by omega)
  have v : ∀ j, po_f2 F p q e u dl j = if j = 16 * (F 8 * 5 + 4) + 6 then u else if j = 16 * (F 8 * 5 + 3) + 6 then e else if j = 16 * (F 8 * 5 + 2) + 6 then F 40 + dl else if j = 16 * (F 8 * 5 + 1) + 6 then q else if j = 16 * (F 8 * 5) + 6 then p else cn_rm F j := fun j => by
    unfold po_f2
    rw [e40]
    rfl
  refine ⟨?_, fun s hs => ⟨?_, ?_⟩, ⟨?_, ?_, ?_, ?_, ?_⟩, fun j h1 h2 h3 => ?_⟩
  · rw [v, if_neg (by omega), if_neg (by omega), if_neg (by omega), if_neg (by omega), if_neg (by omega), r1]
  · rw [v, if_neg (by omega), if_neg (by omega), if_neg (by omega), if_neg (by omega), if_neg (by omega), (r2 s hs).1]
  · rw [v, if_neg (by omega), if_neg (by omega), if_neg (by omega), if_neg (by omega), if_neg (by omega), (r2 s hs).2]
  · rw [v, if_neg (by omega), if_neg (by omega), if_neg (by omega), if_neg (by omega), if_pos rfl]
  · rw [v, if_neg (by omega), if_neg (by omega), if_neg (by omega), if_pos rfl]
  · rw [v, if_neg (by omega), if_neg (by omega), if_pos rfl]
  · rw [v, if_neg (by omega), if_pos rfl]
  · rw [v, if_pos rfl]
  · rw [v, if_neg (by omega), if_neg (by omega), if_neg (by omega), if_neg (by omega), if_neg (by omega), r3 j h1 (by omega)]
theorem po_v2 {E : (Nat → Nat → Nat) → Prop} {lo N : Nat} {G F : Nat → Nat} (h : RK E lo N G F) (hN : N + 1 < 1000000) : RK E lo (N + 1) (lw_v2 G) (cn_q2 F) := by
  have Q := h.2.2.2.2.2.2.1
  have J1 : lw_J (N + 1) (lw_v1 G) := h.1.low 2 _ (by omega) (fun z => by omega) (fun _ => by have := h.1.n2; omega) (by omega) hN
  have h1 : RK E lo (N + 1) (lw_v1 G) (cn_q1 F) := by
    unfold cn_q1
    rw [Q.2.2.1]
    exact h.scal (by omega) rfl (fun _ => by omega) J1
  have Q1 := h1.2.2.2.2.2.2.1
  unfold lw_v2 lw_dr cn_q2
  rw [Q1.2.1, show lw_v1 G 1 * 773 + 641 = 773 * lw_v1 G 1 + 641 by omega]
  exact h1.scal (by omega) rfl (fun z => by omega) (h.1.v2 hN)
/-- what is lost -/
theorem po_lost {E : (Nat → Nat → Nat) → Prop} {lo N u t : Nat} {G F : Nat → Nat} (h : RK E lo N G F) (hJ : lw_J N (xn_u G 3 (G 3 + 1))) (hu : u < 4) (ht : t < 4) : RK E lo N (lw_px G u t) (cn_wr (xn_u F 88 (F 88 + 1)) 3 t u) := by
  have Q := h.2.2.2.2.2.2.1
  unfold lw_px
  rw [Q.2.2.2]
  exact (h.scal (k := 3) (m := 88) (by omega) rfl (fun z => by omega) hJ).book 3 t u (by omega) (by omega) (by omega)
theorem lw_v2_2 (G : Nat → Nat) : lw_v2 G 2 = G 2 + 1 := by
  unfold lw_v2 lw_dr
  rw [xn_un _ _ (by omega)]
  unfold lw_v1
  rw [xn_ue]
theorem gh_v2 {N : Nat} {G : Nat → Nat} {H : Nat → Nat → Nat} (J : lw_J N G) (h : gh (lw_v2 G) H) : gh G H := by
  have v0 : ∀ j, 4 ≤ j → lw_v2 G j = G j := fun j z1 => lw_v2o G (by omega) (by omega)
  obtain ⟨q1, q2, q3, q4, q5, q6, q7⟩ := h
  refine ⟨fun u hu => ?_, fun u n hu hn => ?_, fun u n hu hn => ?_, fun u n hu h1 h2 => ?_, fun u t hu ht => ?_, fun i hi h0 => ?_, fun i hi h0 => ?_⟩
  · have := q1 u hu; rw [v0 _ (by omega), v0 _ (by omega)] at this; exact this
  · exact q2 u n hu (by rw [v0 _ (by omega)]; exact hn)
  · have := q3 u n hu (by rw [v0 _ (by omega)]; exact hn)
    exact clo.cg (G := lw_v2 G) (G' := G) this (v0 4 (by omega)).symm (fun j z1 z2 => (v0 j (by omega)).symm)
  · have := q4 u n hu (by rw [v0 _ (by omega)]; exact h1) (by rw [v0 _ (by omega)]; exact h2)
    unfold dq at this ⊢
    rw [v0 (342 + u) (by omega), v0 _ (by omega)] at this
    exact this
  · have := q5 u t hu ht; rw [v0 _ (by omega), v0 _ (by omega)] at this; exact this
  · have := q6 i (by rw [v0 _ (by omega)]; exact hi) (by rw [v0 _ (by omega)]; exact h0)
    rw [v0 (411 + 8 * i + 7) (by omega), v0 (411 + 8 * i + 0) (by omega), v0 (411 + 8 * i + 4) (by omega), v0 (411 + 8 * i + 1) (by omega), v0 (331 + 2 * G (411 + 8 * i + 1)) (by omega)] at this
    exact this
  · have := q7 i (by rw [v0 _ (by omega)]; exact hi) (by rw [v0 _ (by omega)]; exact h0)
    rw [v0 (411 + 8 * i + 0) (by omega), v0 (411 + 8 * i + 4) (by omega), v0 (411 + 8 * i + 1) (by omega), v0 (331 + 2 * G (411 + 8 * i + 0)) (by omega)] at this
    exact this
theorem po_lo {d c s b lo N u t a k nn q dl tx sy T : Nat} {f : Nat → Int32} {W0 : xi_W} {F G : Nat → Nat} {E : (Nat → Nat → Nat) → Prop} (hw : kw W0 b F) (hb : wb b) (hrl : rl_ok nn f q dl tx sy T W0) (hK : RK E lo N G F) (hq : q < 2) (hu : u < 4) (ht : t < 4) (ha : a < 2) (hk : k < 64) (r : xi_R → Prop) (K : ∀ W', rus W' → fr rin W0 W' → r (some (.int (Int32.ofNat (lw_lo nn f G q a k))), W', c, s)) : xr (d + 3) 57 0 [(0, .ref 355), (1, .ref b), (2, .int (Int32.ofNat u)), (3, .int (Int32.ofNat t)), (4, .int (Int32.ofNat a)), (5, .int (Int32.ofNat k))] [] W0 c s r := by
  obtain ⟨hl, ⟨RD, h1, h2⟩, h3, h4, h5, h6, h7⟩ := hrl
  have : q = 0 ∨ q = 1 := by omega
  rcases this with rfl | rfl
  · rw [if_pos rfl] at h7
    exact rl_losing0 (d + 2) c s b u t a k tx dl sy W0 h7 r (by have e : lw_lo nn f G 0 a k = 3 := if_pos rfl; rw [← e]; exact K W0 h6 fr.rf)
  · rw [if_neg (by omega)] at h7
    exact rl_losing1 d c s b u t a k tx dl sy T nn f W0 RD hK hw hb hl h7 h1 h2 h3 h4 h5 h6 hu ht ha hk r K
/-- 'post' -/
theorem kl_post (d c s b lo N u t a up h kn nn q dl tx sy T : Nat) (f : Nat → Int32) (W0 : xi_W) (F G : Nat → Nat) (E : (Nat → Nat → Nat) → Prop) (hw : kw W0 b F) (hb : wb b) (hrl : rl_ok nn f q dl tx sy T W0) (hK : RK E lo N G F) (hdl : dl = G 5) (hN : N + 1 < 1000000) (hlo : lo ≤ G 0 + G 5) (hx : ro G F 52 h kn) (hp : rp G h kn) (hq : q < 2) (hu : u < 4) (ht : t < 4) (ha : a < 2) (hup : up ≤ G (338 + (if a = 0 then u else t)))
    (hE0 : a = 0 → ∀ H, gh G H → E H → su kn (H u up) ∧ su (H u up) (kn ||| G (331 + 2 * t))) (hE1 : a = 1 → ∀ H, gh G H → E H → su (H t up) (G (331 + 2 * u)))
    (r : xi_R → Prop) (K : ∀ W' F', kw W' b F' → rus W' → fr (kr b) W0 W' → RK E lo (N + 1) (lw_po nn f G q u t up a h kn) F' → r (none, W', c, s)) : xr (d + 4) 89 0 [(0, .ref b), (1, .ref 355), (2, .int (Int32.ofNat u)), (3, .int (Int32.ofNat t)), (4, .int (Int32.ofNat a)), (5, .int (Int32.ofNat up))] [] W0 c s r := by
  have hl := hrl.1
  have hR := hrl.2.2.2.2.2.2
  have hJp := hK.1.po nn f q u t up a h kn hu ht ha hup (Nat.lt_of_lt_of_le (hp.1.lt hp.2) (Nat.pow_le_pow_right (n := 2) (by omega) hK.1.e)) (Nat.lt_of_lt_of_le hp.2 (Nat.pow_le_pow_right (n := 2) (by omega) hK.1.e)) hN
  have K2_ := po_v2 hK hN
  have Q := hK.2.2.2.2.2.2.1
  have hx1 := hK.1.x
  have q56 := Q.2.1
  have v0 : ∀ j, j ≠ 1 → j ≠ 2 → lw_v2 G j = G j := fun j z1 z2 => lw_v2o G z1 z2
  have v4 : lw_v2 G 4 = G 4 := v0 4 (by omega) (by omega)
  have hx2 : ro (lw_v2 G) (cn_q2 F) 52 h kn := hx.cg v4 (fun j z1 z2 => v0 j (by omega) (by omega)) (fun r hr => ⟨cn_q2o F (by omega) (by omega), cn_q2o F (by omega) (by omega)⟩)
  have hp2 : rp (lw_v2 G) h kn := hp.cg v4
  have hh2 : h < 2 ^ lw_v2 G 4 := hp2.1.lt hp2.2
  have hbh : bc 63 h < 64 := by have := bcle 63 h; omega
  have kk := hb.k
  refine xr_kwp hw (fun Q2 z => po_1 (hw.B hb hl hR) (d + 3) c s F u t a up (by omega) Q2 z) (fun W1 hw1 hf1 => ?_)
  have hrl1 := hrl.keep hf1 kk.2.2.2 (hrl.2.2.2.2.2.1.keep hf1 kk.1 kk.2.1)
  have hF1 : fr (kr b) W0 W1 := hf1.weak (fun i _ z => Or.inl z)
  have hl := hrl1.1
  have hR := hrl1.2.2.2.2.2.2
  clear hw
  have hw := hw1
  refine xr_stp rfl rfl rfl rfl ?_
  refine xr_stp rfl rfl rfl rfl ?_
  refine xr_stp rfl rfl rfl rfl ?_
  refine xr_stp rfl rfl rfl rfl ?_
  refine xr_stp rfl rfl rfl rfl ?_
  refine xr_stp rfl rfl rfl rfl ?_
  refine xr_stp rfl rfl rfl rfl ?_
  refine xr_getfield (hw.w hb hl hR) rfl rfl rfl rfl ?_
  refine xr_stp (st' := .int (Int32.ofNat 52) :: _) rfl rfl rfl rfl ?_
  refine xr_vcps hw.2 rfl rfl rfl rfl rfl rfl (fun r1 K2 => cn_entE (G := lw_v2 G) hw hb hl hR K2_.2.1.1 K2_.1.e (by omega) hx2 hh2 r1 (K2 _ _ _ _ ?_))
  refine xr_vcps hR rfl rfl rfl rfl rfl rfl (fun r1 K2 => po_lo (d := d) hw hb hrl1 K2_ hq hu ht ha hbh r1 (fun W2 hs2 hf2 => K2 _ _ _ _ ?_))
  have hw2 := hw.keep hb hl hf2 (fun i z1 z2 z3 => hb.rinF z3 z1 z2)
  have hrl2 := hrl1.keep hf2 (fun i z => by unfold rin at z; omega) hs2
  have hF2 : fr (kr b) W0 W2 := hF1.tr (hf2.weak (fun i _ z => Or.inr z))
  have hl := hrl2.1
  have hR := hrl2.2.2.2.2.2.2
  clear hw
  have hw := hw2
  have F8 := K2_.2.2.2.2.2.2.2.1.1
  have F24 := K2_.2.2.2.2.2.2.2.2.1
  have m24 := K2_.1.m
  have hlole := lw_lole nn f (lw_v2 G) q a (bc 63 h)
  have Q2 := K2_.2.2.2.2.2.2.1
  have e56 : F 56 % 10 = lw_v1 G 1 % 10 := by rw [Q.2.1]; rfl
  have done : ∀ L, (lw_v1 G 1 % 10 < lw_lo nn f (lw_v2 G) q a (bc 63 h) ∨ lw_v2 G 410 = 24) → L = [(6, .int (Int32.ofNat (F 56 % 10))), (0, .ref b), (1, .ref 355), (2, .int (Int32.ofNat u)), (3, .int (Int32.ofNat t)), (4, .int (Int32.ofNat a)), (5, .int (Int32.ofNat up))] → xr (d + 4) 89 51 L [] W2 c s r := fun L hc eL => by
    subst eL
    refine xr_kwe hw (po_2 (hw.B hb hl hR) (d + 2) c s (cn_q2 F) (F 56 % 10) u t a up (by omega)) (fun W3 hw3 hf3 => ?_)
    refine K W3 _ hw3 (hrl2.2.2.2.2.2.1.keep hf3 kk.1 kk.2.1) (hF2.tr (hf3.weak (fun i _ z => Or.inl z))) ?_
    have e : lw_po nn f G q u t up a h kn = lw_px (lw_v2 G) u t := if_pos hc
    rw [e] at hJp ⊢
    refine po_lost K2_ ?_ hu ht
    exact K2_.1.low 3 _ (by omega) (fun z => by omega) (fun _ => by rw [v0 3 (by omega) (by omega)]; have := hK.1.n3; omega) (Nat.le_refl _) hN
  refine xr_j2 rfl rfl rfl rfl rfl (fun h39 => ?_) (fun h39 => ?_)
  · exact done _ (Or.inl (by rw [← e56]; exact nt_lt (by omega) (by omega) h39)) rfl
  · have e39 := nf_lt (by omega) (by omega) h39
    refine xr_stp rfl rfl rfl rfl ?_
    refine xr_getfield (hw.w hb hl hR) rfl rfl rfl rfl ?_
    refine xr_stp (st' := .int (Int32.ofNat 24) :: _) rfl rfl rfl rfl ?_
    refine xr_j2 rfl rfl rfl rfl rfl (fun h48 => ?_) (fun h48 => ?_)
    · have e48 := nt_lt (by omega) (by omega) h48
      have h410 : lw_v2 G 410 < 24 := by omega
      have FF := K2_.2.2.2.2.2.2.2.1.2
      have I4 := K2_.2.1.2.2.2.1
      have e5 : lw_v2 G 5 = G 5 := v0 5 (by omega) (by omega)
      have d1 := K2_.1.d1
      have n0 := K2_.1.n0
      have q40 := Q2.1
      refine xr_kwe hw (po_3 (hw.B hb hl hR) (d + 1) c s (cn_q2 F) (F 56 % 10) u t a up (by omega) (by omega) (fun z => ?_)) (fun W3 hw3 hf3 => ?_)
      · have f1 := (FF (lw_v2 G 410 - 1) (by omega)).2.2.2.1
        have f2 := (I4 (lw_v2 G 410 - 1) (by omega)).2.2.1
        rw [F8, f1]
        omega
      · refine K W3 _ hw3 (hrl2.2.2.2.2.2.1.keep hf3 kk.1 kk.2.1) (hF2.tr (hf3.weak (fun i _ z => Or.inl z))) ?_
        have ec : ¬ (lw_v1 G 1 % 10 < lw_lo nn f (lw_v2 G) q a (bc 63 h) ∨ lw_v2 G 410 = 24) := by omega
        have e : lw_po nn f G q u t up a h kn = lw_pk2 (lw_v2 G) (lw_r8 u t (lw_v2 G 0 + lw_v2 G 5) (G 2) up (if a = 0 then 0 else 1) h kn) := if_neg ec
        rw [e] at hJp ⊢
        obtain ⟨p1, p2, p3, p4⟩ := po_f2v (cn_q2 F) u t a up dl
        have ea : (if a = 0 then 0 else 1) = a := by split <;> omega
        rw [ea] at hJp ⊢
        have g2 : ∀ H, gh (lw_v2 G) H → gh G H := fun H z => gh_v2 hK.1 z
        have e31 : ∀ w, lw_v2 G (331 + 2 * w) = G (331 + 2 * w) := fun w => v0 _ (by omega) (by omega)
        refine RK.push K2_ hJp h410 hp2 (by rw [v0 0 (by omega) (by omega), e5]; exact hlo) rfl (by show G 2 < lw_v2 G 2; rw [lw_v2_2]; omega) (fun i hi => ?_) (fun z H hH hE => ?_) (fun z H hH hE => ?_) ⟨hu, ht⟩ p1 (hx2.cg rfl (fun _ _ _ => rfl) p2) ⟨p3.1, p3.2.1, ?_, p3.2.2.2.1, p3.2.2.2.2⟩ p4
        · have := (hK.2.1.2.2.2.1 i (by rw [← v0 410 (by omega) (by omega)]; exact hi)).2.2.2
          rw [v0 _ (by omega) (by omega)]
          exact this
        · have := hE0 z H (g2 H hH) hE
          show su kn (H u up) ∧ su (H u up) (kn ||| lw_v2 G (331 + 2 * t))
          rw [e31]
          exact this
        · have := hE1 z H (g2 H hH) hE
          show su (H t up) (lw_v2 G (331 + 2 * u))
          rw [e31]
          exact this
        · rw [p3.2.2.1, Q2.1, hdl, ← e5]
          rfl
    · exact done _ (Or.inr (by have := nf_lt (by omega) (by omega) h48; omega)) rfl
