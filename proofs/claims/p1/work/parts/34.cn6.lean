/-! YEARS on a fresh object: the class -/
/-- the objects of the fresh world that are needed -/
def wq_l : List (Nat × ab_O) := [(0, .inr (6, [.inl (.ref 1), .inl (.int (-1)), .inl (.int (-1)), .inl (.ref 6), .inl (.ref 16), .inl (.ref 26), .inl (.ref 338), .inl (.ref 343), .inl (.ref 353), .inl (.ref 665)])), (6, .inr (5, [.inl (.ref 7), .inl (.ref 11), .inl (.ref 12), .inl (.ref 13), .inl (.ref 14), .inl (.ref 15), .inl (.int 0), .inl (.int 0), .inl (.int 0), .inl (.int 509), .inl (.int 0), .inl (.int 0)])), (7, .inr (0, [.inl (.ref 8), .inl (.ref 9), .inl (.ref 10)])), (8, .inl (.inr (.inl (220, 0, [])))), (9, .inl (.inr (.inl (220, 0, [])))), (10, .inl (.inl (.int, 256, .inl (.int 0), []))), (11, .inl (.inl (.int, 16, .inl (.int 0), []))), (12, .inl (.inl (.int, 4, .inl (.int 0), []))), (13, .inl (.inl (.int, 4, .inl (.int 0), []))), (14, .inl (.inl (.int, 120, .inl (.int 0), []))), (15, .inl (.inl (.int, 100, .inl (.int 0), []))), (26, .inr (3, [.inl (.ref 27), .inl (.int 0), .inl (.int 0)])), (27, .inl (.inr (.inr (.object "DeltaNests$World", 31, [(30, some 328), (29, some 318), (28, some 308), (27, some 298), (26, some 288), (25, some 278), (24, some 268), (23, some 258), (22, some 248), (21, some 238), (20, some 228), (19, some 218), (18, some 208), (17, some 198), (16, some 188), (15, some 178), (14, some 168), (13, some 158), (12, some 148), (11, some 138), (10, some 128), (9, some 118), (8, some 108), (7, some 98), (6, some 88), (5, some 78), (4, some 68), (3, some 58), (2, some 48), (1, some 38), (0, some 28)])))), (28, .inr (5, [.inl (.ref 29), .inl (.ref 33), .inl (.ref 34), .inl (.ref 35), .inl (.ref 36), .inl (.ref 37), .inl (.int 0), .inl (.int 0), .inl (.int 0), .inl (.int 509), .inl (.int 0), .inl (.int 0)])), (29, .inr (0, [.inl (.ref 30), .inl (.ref 31), .inl (.ref 32)])), (30, .inl (.inr (.inl (220, 0, [])))), (31, .inl (.inr (.inl (220, 0, [])))), (32, .inl (.inl (.int, 256, .inl (.int 0), []))), (33, .inl (.inl (.int, 16, .inl (.int 0), []))), (34, .inl (.inl (.int, 4, .inl (.int 0), []))), (35, .inl (.inl (.int, 4, .inl (.int 0), []))), (36, .inl (.inl (.int, 120, .inl (.int 0), []))), (37, .inl (.inl (.int, 100, .inl (.int 0), []))), (338, .inr (2, [.inl (.ref 339), .inl (.int 0), .inl (.int (-1)), .inl (.int 2), .inl (.ref 340), .inl (.int 0), .inl (.ref 341), .inl (.ref 342)])), (670, .inr (7, [.inl (.ref 671), .inl (.ref 672), .inl (.ref 673), .inl (.ref 674), .inl (.int 0), .inl (.int (-1)), .inl (.int (-1)), .inl (.int 0), .inl (.int 0), .inl (.int 0), .inl (.int 0), .inl (.long 0), .inl (.int 0), .inl (.int 0), .inl (.int 0), .inl (.ref 675), .inl (.int 0), .inl (.int 0), .inl (.int 0), .inl (.int 0), .inl (.ref 676), .inl (.ref 677), .inl (.ref 678), .inl (.int 0), .inl (.ref 679)])), (671, .inl (.inl (.int, 98262, .inl (.int 0), [(5, .inl (.int 2)), (1, .inl (.int (-1))), (7, .inl (.int 509))]))), (672, .inl (.inl (.int, 98262, .inl (.int 0), [(5, .inl (.int 2)), (1, .inl (.int (-1))), (7, .inl (.int 509))]))), (673, .inl (.inl (.int, 2916, .inl (.int 0), []))), (674, .inl (.inl (.int, 300, .inl (.int 0), []))), (675, .inl (.inl (.int, 160, .inl (.int 0), []))), (676, .inl (.inl (.int, 6, .inl (.int 0), []))), (677, .inl (.inr (.inl (330, 0, [])))), (678, .inl (.inl (.boolean, 330, .inl (.int 0), []))), (679, .inl (.inl (.int, 3163, .inl (.int 0), [])))]
def wq : Nat → Option ab_O := fun k => ab_fd wq_l k
def xi_fte (a b : FieldType) : Bool := match a, b with
  | .int, .int => true
  | .byte, .byte => true
  | .boolean, .boolean => true
  | .object s, .object t => decide (s = t)
  | _, _ => false
theorem xi_fte_ok {a b : FieldType} (h : xi_fte a b = true) : a = b := by
  unfold xi_fte at h
  split at h
  · rfl
  · rfl
  · rfl
  · rw [of_decide_eq_true h]
  · cases h
def ab_oeq (x y : ab_O) : Bool := match x, y with
  | .inl (.inl (ty, n, dv, u)), .inl (.inl (ty', n', dv', u')) => xi_fte ty ty' && (Nat.beq n n' && (decide (dv = dv') && decide (u = u')))
  | .inl (.inr (.inl (n, dv, u))), .inl (.inr (.inl (n', dv', u'))) => Nat.beq n n' && (decide (dv = dv') && decide (u = u'))
  | .inl (.inr (.inr (ty, n, u))), .inl (.inr (.inr (ty', n', u'))) => xi_fte ty ty' && (Nat.beq n n' && decide (u = u'))
  | .inr (c, l), .inr (c', l') => Nat.beq c c' && decide (l = l')
  | _, _ => false
theorem ab_oeq_ok {x y : ab_O} (h : ab_oeq x y = true) : x = y := by
  unfold ab_oeq at h
  split at h
  · simp only [Bool.and_eq_true] at h
    obtain ⟨h1, h2, h3, h4⟩ := h
    rw [xi_fte_ok h1, Nat.eq_of_beq_eq_true h2, of_decide_eq_true h3, of_decide_eq_true h4]
  · simp only [Bool.and_eq_true] at h
    obtain ⟨h2, h3, h4⟩ := h
    rw [Nat.eq_of_beq_eq_true h2, of_decide_eq_true h3, of_decide_eq_true h4]
  · simp only [Bool.and_eq_true] at h
    obtain ⟨h1, h2, h4⟩ := h
    rw [xi_fte_ok h1, Nat.eq_of_beq_eq_true h2, of_decide_eq_true h4]
  · simp only [Bool.and_eq_true] at h
    obtain ⟨h2, h4⟩ := h
    rw [Nat.eq_of_beq_eq_true h2, of_decide_eq_true h4]
  · cases h
def ab_oq (x y : Option ab_O) : Bool := match x, y with
  | some x, some y => ab_oeq x y
  | _, _ => false
theorem ab_oq_ok {x y : Option ab_O} (h : ab_oq x y = true) : x = y := by
  unfold ab_oq at h
  split at h
  · rw [ab_oeq_ok h]
  · cases h
def wq_i : List Nat := [0, 6, 7, 8, 9, 10, 11, 12, 13, 14, 15, 26, 27, 28, 29, 30, 31, 32, 33, 34, 35, 36, 37, 338, 670, 671, 672, 673, 674, 675, 676, 677, 678, 679]
def wq_ck (r : Option ab_R) : Bool := match r with
  | some (none, w', c, s) => Nat.beq c 0 && (Nat.beq s 0 && (Nat.beq w'.2.2 680 && wq_i.all (fun i => ab_oq (ab_g w' i) (wq i))))
  | _ => false
set_option maxRecDepth 100000 in
theorem wq_stage : wq_ck (ab_ev (fun _ _ _ => none) 1000 20 62 0 (ab_args 0 [.inl (.ref 26), .inl (.ref 6)]) [] (wq, [], 680) 0 0) = true := by decide +kernel
/-- what is known of a world by the list of objects -/
def wq_w (W : xi_W) : Prop := W.length = 680 ∧ ∀ i x, i ∈ wq_i → wq i = some x → ∃ o, W[i]? = some o ∧ ag_o x o
theorem wq_st {W : xi_W} (h : ag_w (wq, [], 680) W) : ∃ W1, xg 20 62 0 [(0, .ref 26), (1, .ref 6)] [] W 0 0 (none, W1, 0, 0) ∧ wq_w W1 := by
  have h0 := wq_stage
  unfold wq_ck at h0
  split at h0
  · rename_i w' c s he
    simp only [Bool.and_eq_true] at h0
    obtain ⟨hc, hs, hn, ha⟩ := h0
    have hc := Nat.eq_of_beq_eq_true hc
    have hs := Nat.eq_of_beq_eq_true hs
    subst hc
    subst hs
    have hS : ag_Sok (fun _ _ _ => none) := fun j av w v w' e => by cases e
    obtain ⟨n, res, hr, hv, hw, hcs⟩ := ag_ev hS 1000 he (L := [(0, .ref 26), (1, .ref 6)]) (ST := []) (W0 := W) ⟨.ref 26, _, rfl, rfl, .ref 6, _, rfl, rfl, rfl⟩ rfl h
    obtain ⟨v, W1, cs⟩ := res
    refine ⟨W1, ⟨n, ?_⟩, ?_, fun i x hi hx => ?_⟩
    · rw [hr]
      have e1 : v = none := by
        cases v with
        | none => rfl
        | some v => exact absurd hv (by unfold ag_vo; simp)
      have e2 : cs = (0, 0) := hcs
      rw [e1, e2]
    · have := hw.1
      rw [← this]
      exact Nat.eq_of_beq_eq_true hn
    · have := List.all_eq_true.mp ha i hi
      have e := ab_oq_ok this
      exact hw.2 i x (by rw [e]; exact hx)
  · cases h0
theorem ag_sx : ∀ (l : List Value) (S : List Value), ag_s (l.map Sum.inl) S → S = l
  | [], S, h => h
  | a :: r, S, h => by
    obtain ⟨v, R, h1, h2, h3⟩ := h
    rw [h1, show v = a from h2, ag_sx r R h3]
theorem wq_o {W : xi_W} {i c : Nat} {l : List Value} (h : wq_w W) (hi : i ∈ wq_i) (hx : wq i = some (.inr (c, l.map Sum.inl))) : W[i]? = some (.inr (c, l)) := by
  obtain ⟨o, h1, FS, h2, h3⟩ := h.2 i _ hi hx
  rw [h1, h2, ag_sx l FS h3]
theorem wq_aI {W : xi_W} {i n : Nat} (h : wq_w W) (hi : i ∈ wq_i) (hx : wq i = some (.inl (.inl (.int, n, .inl (.int 0), [])))) : W[i]? = some (.inl (.int, n, .inl (fun _ => 0))) := by
  obtain ⟨o, h1, f, h2, h3⟩ := h.2 i _ hi hx
  have e : f = fun _ => 0 := by
    funext k
    have := h3 k
    exact Value.int.inj this
  rw [h1, h2, e]
theorem wq_aL {W : xi_W} {i n : Nat} (h : wq_w W) (hi : i ∈ wq_i) (hx : wq i = some (.inl (.inr (.inl (n, 0, []))))) : W[i]? = some (.inl (.long, n, .inr (.inl (fun _ => 0)))) := by
  obtain ⟨o, h1, f, h2, h3⟩ := h.2 i _ hi hx
  have e : f = fun _ => 0 := by
    funext k
    exact h3 k
  rw [h1, h2, e]
def iI : Nat → Nat
  | 0 => 6
  | 1 => 7
  | 2 => 338
  | 3 => 8
  | 4 => 9
  | 5 => 10
  | 6 => 11
  | 7 => 12
  | 8 => 13
  | 9 => 14
  | _ => 15
def cy_F : Nat → Nat := fun k => if k = 56 then 509 else 0
def cy_R : Nat × List Value := (2, [.ref 339, .int 0, .int (-1), .int 2, .ref 340, .int 0, .ref 341, .ref 342])
theorem cy_iI : ∀ i j, i < 11 → j < 11 → iI i = iI j → i = j := by
  have h : ∀ a b : Fin 11, iI a.val = iI b.val → a.val = b.val := by decide
  intro i j hi hj e
  exact h ⟨i, hi⟩ ⟨j, hj⟩ e
theorem cy_B {W : xi_W} (h : wq_w W) : cn_B W iI cy_R := by
  refine ⟨cy_iI, fun i hi => ?_, wq_o (l := [.ref 8, .ref 9, .ref 10]) h (by decide) rfl, wq_o (l := [.ref 339, .int 0, .int (-1), .int 2, .ref 340, .int 0, .ref 341, .ref 342]) h (by decide) rfl, rfl, rfl, rfl⟩
  have h2 : ∀ a : Fin 11, iI a.val < 680 := by decide
  rw [h.1]
  exact h2 ⟨i, hi⟩
theorem cy_vL (t : Nat) (ht : t < 8) : cn_vL t cy_F = fun _ => 0 := by
  funext k; unfold cn_vL cy_F; rw [if_neg (by omega)]; rfl
theorem cy_vI (t : Nat) (ht : t < 8) : cn_vI t cy_F = fun _ => 0 := by
  funext k; unfold cn_vI cy_F; rw [if_neg (by omega)]; rfl
theorem cy_self {W : xi_W} (h : wq_w W) : W = cn_w W iI cy_F := by
  apply List.ext_getElem?
  intro i
  unfold cn_w
  rw [List.getElem?_mapIdx]
  by_cases e0 : i = 6
  · subst e0
    rw [wq_o (l := [.ref 7, .ref 11, .ref 12, .ref 13, .ref 14, .ref 15, .int 0, .int 0, .int 0, .int 509, .int 0, .int 0]) h (by decide) rfl]
    rfl
  by_cases e3 : i = 8
  · subst e3
    rw [wq_aL (n := 220) h (by decide) rfl]
    simp only [Option.map_some]
    unfold cn_f
    rw [if_neg (show ¬ 8 = iI 0 by decide), if_pos (show 8 = iI 3 from rfl), cy_vL 0 (by omega)]
  by_cases e4 : i = 9
  · subst e4
    rw [wq_aL (n := 220) h (by decide) rfl]
    simp only [Option.map_some]
    unfold cn_f
    rw [if_neg (show ¬ 9 = iI 0 by decide), if_neg (show ¬ 9 = iI 3 by decide), if_pos (show 9 = iI 4 from rfl), cy_vL 1 (by omega)]
  by_cases e5 : i = 10
  · subst e5
    rw [wq_aI (n := 256) h (by decide) rfl]
    simp only [Option.map_some]
    unfold cn_f
    rw [if_neg (show ¬ 10 = iI 0 by decide), if_neg (show ¬ 10 = iI 3 by decide), if_neg (show ¬ 10 = iI 4 by decide), if_pos (show 10 = iI 5 from rfl), cy_vI 2 (by omega)]
  by_cases e6 : i = 11
  · subst e6
    rw [wq_aI (n := 16) h (by decide) rfl]
    simp only [Option.map_some]
    unfold cn_f
    rw [if_neg (show ¬ 11 = iI 0 by decide), if_neg (show ¬ 11 = iI 3 by decide), if_neg (show ¬ 11 = iI 4 by decide), if_neg (show ¬ 11 = iI 5 by decide), if_pos (show 11 = iI 6 from rfl), cy_vI 3 (by omega)]
  by_cases e7 : i = 12
  · subst e7
    rw [wq_aI (n := 4) h (by decide) rfl]
    simp only [Option.map_some]
    unfold cn_f
    rw [if_neg (show ¬ 12 = iI 0 by decide), if_neg (show ¬ 12 = iI 3 by decide), if_neg (show ¬ 12 = iI 4 by decide), if_neg (show ¬ 12 = iI 5 by decide), if_neg (show ¬ 12 = iI 6 by decide), if_pos (show 12 = iI 7 from rfl), cy_vI 4 (by omega)]
  by_cases e8 : i = 13
  · subst e8
    rw [wq_aI (n := 4) h (by decide) rfl]
    simp only [Option.map_some]
    unfold cn_f
    rw [if_neg (show ¬ 13 = iI 0 by decide), if_neg (show ¬ 13 = iI 3 by decide), if_neg (show ¬ 13 = iI 4 by decide), if_neg (show ¬ 13 = iI 5 by decide), if_neg (show ¬ 13 = iI 6 by decide), if_neg (show ¬ 13 = iI 7 by decide), if_pos (show 13 = iI 8 from rfl), cy_vI 5 (by omega)]
  by_cases e9 : i = 14
  · subst e9
    rw [wq_aI (n := 120) h (by decide) rfl]
    simp only [Option.map_some]
    unfold cn_f
    rw [if_neg (show ¬ 14 = iI 0 by decide), if_neg (show ¬ 14 = iI 3 by decide), if_neg (show ¬ 14 = iI 4 by decide), if_neg (show ¬ 14 = iI 5 by decide), if_neg (show ¬ 14 = iI 6 by decide), if_neg (show ¬ 14 = iI 7 by decide), if_neg (show ¬ 14 = iI 8 by decide), if_pos (show 14 = iI 9 from rfl), cy_vI 6 (by omega)]
  by_cases e10 : i = 15
  · subst e10
    rw [wq_aI (n := 100) h (by decide) rfl]
    simp only [Option.map_some]
    unfold cn_f
    rw [if_neg (show ¬ 15 = iI 0 by decide), if_neg (show ¬ 15 = iI 3 by decide), if_neg (show ¬ 15 = iI 4 by decide), if_neg (show ¬ 15 = iI 5 by decide), if_neg (show ¬ 15 = iI 6 by decide), if_neg (show ¬ 15 = iI 7 by decide), if_neg (show ¬ 15 = iI 8 by decide), if_neg (show ¬ 15 = iI 9 by decide), if_pos (show 15 = iI 10 from rfl), cy_vI 7 (by omega)]
  cases W[i]? with
  | none => rfl
  | some o =>
    simp only [Option.map_some]
    unfold cn_f
    rw [if_neg (show ¬ i = iI 0 from e0), if_neg (show ¬ i = iI 3 from e3), if_neg (show ¬ i = iI 4 from e4), if_neg (show ¬ i = iI 5 from e5), if_neg (show ¬ i = iI 6 from e6), if_neg (show ¬ i = iI 7 from e7), if_neg (show ¬ i = iI 8 from e8), if_neg (show ¬ i = iI 9 from e9), if_neg (show ¬ i = iI 10 from e10)]
/-- the other objects stand as they were -/
theorem cn_oth (b : xi_W) (F : Nat → Nat) {i : Nat} (h : i < 6 ∨ i = 7 ∨ 16 ≤ i) : (cn_w b iI F)[i]? = b[i]? := by
  unfold cn_w
  rw [List.getElem?_mapIdx]
  cases b[i]? with
  | none => rfl
  | some o =>
    simp only [Option.map_some]
    unfold cn_f
    rw [if_neg (show ¬ i = iI 0 from fun e => by change i = 6 at e; omega), if_neg (show ¬ i = iI 3 from fun e => by change i = 8 at e; omega), if_neg (show ¬ i = iI 4 from fun e => by change i = 9 at e; omega), if_neg (show ¬ i = iI 5 from fun e => by change i = 10 at e; omega), if_neg (show ¬ i = iI 6 from fun e => by change i = 11 at e; omega), if_neg (show ¬ i = iI 7 from fun e => by change i = 12 at e; omega), if_neg (show ¬ i = iI 8 from fun e => by change i = 13 at e; omega), if_neg (show ¬ i = iI 9 from fun e => by change i = 14 at e; omega), if_neg (show ¬ i = iI 10 from fun e => by change i = 15 at e; omega)]
def cy_Dl : List Value := [.ref 1, .int (-1), .int (-1), .ref 6, .ref 16, .ref 26, .ref 338, .ref 343, .ref 353, .ref 665]
theorem cy_D {W : xi_W} (h : wq_w W) (F : Nat → Nat) : (cn_w W iI F)[0]? = some (.inr (6, cy_Dl)) := by
  rw [cn_oth W F (by omega)]
  exact wq_o (l := cy_Dl) h (by decide) rfl
theorem cy_S {W : xi_W} (h : wq_w W) (F : Nat → Nat) : (cn_w W iI F)[26]? = some (.inr (3, [.ref 27, .int 0, .int 0])) := by
  rw [cn_oth W F (by omega)]
  exact wq_o (l := [.ref 27, .int 0, .int 0]) h (by decide) rfl
/-- 'commit' -/
theorem cy_commit {W : xi_W} (h : wq_w W) (d : Nat) (F : Nat → Nat) (c s : Nat) : xg d 63 0 [(0, .ref 26)] [] (cn_w W iI F) c s (none, (cn_w W iI F).set 26 (.inr (3, [.ref 27, .int 0, .int 1])), c, s) := by
  refine xg_stp rfl rfl rfl rfl ?_
  refine xg_getfield (cy_S h F) rfl rfl rfl rfl ?_
  refine xg_stp (st' := .int (Int32.ofNat 30) :: _) rfl rfl rfl rfl ?_
  refine xg_j2 rfl rfl rfl rfl rfl (fun h6 => ?_) (fun h6 => ?_)
  · exact absurd h6 (by decide)
  · refine xg_stp rfl rfl rfl rfl ?_
    refine xg_stp rfl rfl rfl rfl ?_
    refine xg_getfield (cy_S h F) rfl rfl rfl rfl ?_
    refine xg_stp (st' := .int (Int32.ofNat 1) :: _) rfl rfl rfl rfl ?_
    refine xg_stp rfl rfl rfl rfl ?_
    refine xg_putfield (cy_S h F) rfl rfl rfl rfl rfl rfl ?_
    refine xg_stp rfl rfl rfl rfl ?_
    exact xg_ret rfl rfl
/-- the loop of 'years' -/
theorem cy_loop {W : xi_W} (h : wq_w W) (s0 n0 : Nat) (hn : n0 < 25) (nn : Nat → Nat) (Q : xi_R) : ∀ (m k : Nat) (F : Nat → Nat), k + m = n0 → cn_yrk nn m k F → xg 21 108 73 [(3, .int (Int32.ofNat n0)), (0, .ref 0), (1, .int (Int32.ofNat s0)), (2, .int (Int32.ofNat n0))] [] (cn_w W iI (cn_yr nn m k F)) 0 0 Q → xg 21 108 51 [(3, .int (Int32.ofNat k)), (0, .ref 0), (1, .int (Int32.ofNat s0)), (2, .int (Int32.ofNat n0))] [] (cn_w W iI F) 0 0 Q
  | 0, k, F, hm, hk, hq => by
    have e0 : k = n0 := by omega
    subst e0
    refine xg_stp rfl rfl rfl rfl ?_
    refine xg_stp rfl rfl rfl rfl ?_
    refine xg_j2 rfl rfl rfl rfl rfl (fun h53 => ?_) (fun h53 => ?_)
    · exact hq
    · exact absurd (nf_ge (by omega) (by omega) h53) (by omega)
  | m + 1, k, F, hm, hk, hq => by
    have B := cy_B h
    unfold cn_yrk at hk
    unfold cn_yr at hq
    refine xg_stp rfl rfl rfl rfl ?_
    refine xg_stp rfl rfl rfl rfl ?_
    refine xg_j2 rfl rfl rfl rfl rfl (fun h53 => ?_) (fun h53 => ?_)
    · exact absurd (nt_ge (by omega) (by omega) h53) (by omega)
    · refine xg_stp rfl rfl rfl rfl ?_
      refine xg_getfield (cy_D h _) rfl rfl rfl rfl ?_
      refine xg_stp rfl rfl rfl rfl ?_
      refine xg_getfield (cy_D h _) rfl rfl rfl rfl ?_
      refine xg_vcall (cn_g0 B _) rfl rfl rfl rfl rfl rfl (cn_drawYear B 14 F 0 0 (F 56) (nn k) rfl hk.1 hk.2.1) ?_
      refine xn_inc (e := 1) rfl rfl rfl rfl ?_
      refine xg_stp rfl rfl rfl rfl ?_
      exact cy_loop h s0 n0 hn nn Q m (k + 1) _ (by omega) hk.2.2 hq
theorem cy_end {W : xi_W} (h : wq_w W) (L : xi_L) (hL : xi_get L 0 = some (.ref 0)) (F : Nat → Nat) : xg 21 108 73 L [] (cn_w W iI F) 0 0 (some (.int (Int32.ofNat (F 40))), (cn_w W iI F).set 26 (.inr (3, [.ref 27, .int 0, .int 1])), 0, 0) := by
  refine xg_lda (k := 0) hL rfl ?_
  refine xg_getfield (cy_D h _) rfl rfl rfl rfl ?_
  refine xg_vcall (cy_S h _) rfl rfl rfl rfl rfl rfl (cy_commit h 20 _ 0 0) ?_
  refine xg_lda (k := 0) hL rfl ?_
  refine xg_getfield (show ((cn_w W iI _).set 26 _)[0]? = _ from (by rw [List.getElem?_set_ne (by decide)]; exact cy_D h _)) rfl rfl rfl rfl ?_
  refine xg_getfield (show ((cn_w W iI _).set 26 _)[6]? = _ from (by rw [List.getElem?_set_ne (by decide)]; exact cn_g0 (cy_B h) _)) rfl rfl rfl rfl ?_
  exact xg_ret rfl rfl
def cy_y0 (s0 : Nat) : Nat → Nat := xn_u cy_F 56 (s0 * 2 + 509)
theorem wq_of {W : xi_W} (h : ag_w (wq, [], 680) W) : wq_w W := ⟨h.1.symm, fun i x _ hx => h.2 i x hx⟩
/-- 'years' of the class on a fresh object -/
theorem cy_years {W : xi_W} (hW : ag_w (wq, [], 680) W) (s0 n0 : Nat) (hs : s0 ≤ 9999) (hn1 : 1 ≤ n0) (hn : n0 ≤ 24) (nn : Nat → Nat) (hk : cn_yrk nn n0 0 (cy_y0 s0)) :
    ∃ W2, xg 21 108 0 [(0, .ref 0), (1, .int (Int32.ofNat s0)), (2, .int (Int32.ofNat n0))] [] W 0 0 (some (.int (Int32.ofNat (cn_yr nn n0 0 (cy_y0 s0) 40))), W2, 0, 0) ∧ W2.length = 680 ∧ ∀ i x, i ∈ wq_i → 670 ≤ i → wq i = some x → ∃ o, W2[i]? = some o ∧ ag_o x o := by
  obtain ⟨W1, hst, h⟩ := wq_st hW
  have hW0 := wq_of hW
  have B := cy_B h
  refine ⟨(cn_w W1 iI (cn_yr nn n0 0 (cy_y0 s0))).set 26 (.inr (3, [.ref 27, .int 0, .int 1])), ?_, ?_, fun i x hi h7 hx => ?_⟩
  rotate_left
  · rw [List.length_set]
    unfold cn_w
    rw [List.length_mapIdx]
    exact h.1
  · obtain ⟨o, h1, h2⟩ := h.2 i x hi hx
    exact ⟨o, by rw [List.getElem?_set_ne (by omega), cn_oth _ _ (by omega)]; exact h1, h2⟩
  refine xg_stp rfl rfl rfl rfl ?_
  refine xg_j1 rfl rfl rfl rfl rfl (fun h1 => ?_) (fun h1 => ?_)
  · exact absurd (of_decide_eq_true h1) (of_decide_eq_false (n_not0 (by omega)))
  · refine xg_stp rfl rfl rfl rfl ?_
    refine xg_stp (st' := .int (Int32.ofNat 9999) :: _) rfl rfl rfl rfl ?_
    refine xg_j2 rfl rfl rfl rfl rfl (fun h8 => ?_) (fun h8 => ?_)
    · exact absurd (nt_gt (by omega) (by omega) h8) (by omega)
    · refine xg_stp rfl rfl rfl rfl ?_
      refine xg_stp (st' := .int (Int32.ofNat 1) :: _) rfl rfl rfl rfl ?_
      refine xg_j2 rfl rfl rfl rfl rfl (fun h13 => ?_) (fun h13 => ?_)
      · exact absurd (nt_lt (by omega) (by omega) h13) (by omega)
      · refine xg_stp rfl rfl rfl rfl ?_
        refine xg_stp (st' := .int (Int32.ofNat 24) :: _) rfl rfl rfl rfl ?_
        refine xg_j2 rfl rfl rfl rfl rfl (fun h19 => ?_) (fun h19 => ?_)
        · refine xg_stp rfl rfl rfl rfl ?_
          refine xg_getfield (wq_o (l := cy_Dl) hW0 (by decide) rfl) rfl rfl rfl rfl ?_
          refine xg_stp rfl rfl rfl rfl ?_
          refine xg_getfield (wq_o (l := cy_Dl) hW0 (by decide) rfl) rfl rfl rfl rfl ?_
          refine xg_vcall (wq_o (l := [.ref 27, .int 0, .int 0]) hW0 (by decide) rfl) rfl rfl rfl rfl rfl rfl hst ?_
          refine cn_ad (st' := []) (cy_self h) ?_
          refine xg_stp rfl rfl rfl rfl ?_
          refine xg_getfield (cy_D h _) rfl rfl rfl rfl ?_
          refine xg_stp rfl rfl rfl rfl ?_
          refine xg_stp (st' := .int (Int32.ofNat 2) :: _) rfl rfl rfl rfl ?_
          refine xn_mul rfl ?_
          refine xg_stp (st' := .int (Int32.ofNat 509) :: _) rfl rfl rfl rfl ?_
          refine xn_add rfl ?_
          refine cn_pf3 B rfl rfl ?_
          refine xg_stp (st' := .int (Int32.ofNat 0) :: _) rfl rfl rfl rfl ?_
          refine xg_stp rfl rfl rfl rfl ?_
          exact cy_loop h s0 n0 (by omega) nn _ n0 0 (cy_y0 s0) (by omega) hk (cy_end h _ rfl _)
        · exact absurd (nf_le (by omega) (by omega) h19) (by omega)
