/-! the class's world: its arrays and numbers as one function: the j-th number of array t is F (16 * j + t) (0 known, 1 alive, 2 contents, 3 acked, 4 made, 5 dropped, 6 flights, 7 lines), the k-th of the World's own F (16 * k + 8) (flying, written, clock, x, sent, lost) -/
def cn_vL (t : Nat) (F : Nat → Nat) : Nat → Int64 := fun j => Int64.ofNat (F (16 * j + t))
def cn_vI (t : Nat) (F : Nat → Nat) : Nat → Int32 := fun j => Int32.ofNat (F (16 * j + t))
def cn_Wl (I F : Nat → Nat) : List Value := [.ref (I 1), .ref (I 6), .ref (I 7), .ref (I 8), .ref (I 9), .ref (I 10), .int (Int32.ofNat (F 8)), .int (Int32.ofNat (F 24)), .int (Int32.ofNat (F 40)), .int (Int32.ofNat (F 56)), .int (Int32.ofNat (F 72)), .int (Int32.ofNat (F 88))]
def cn_f (I F : Nat → Nat) (k : Nat) (o : xi_O) : xi_O :=
  if k = I 0 then .inr (5, cn_Wl I F)
  else if k = I 3 then .inl (.long, 220, .inr (.inl (cn_vL 0 F)))
  else if k = I 4 then .inl (.long, 220, .inr (.inl (cn_vL 1 F)))
  else if k = I 5 then .inl (.int, 256, .inl (cn_vI 2 F))
  else if k = I 6 then .inl (.int, 16, .inl (cn_vI 3 F))
  else if k = I 7 then .inl (.int, 4, .inl (cn_vI 4 F))
  else if k = I 8 then .inl (.int, 4, .inl (cn_vI 5 F))
  else if k = I 9 then .inl (.int, 120, .inl (cn_vI 6 F))
  else if k = I 10 then .inl (.int, 100, .inl (cn_vI 7 F))
  else o
def cn_w (b : xi_W) (I F : Nat → Nat) : xi_W := b.mapIdx (cn_f I F)
def cn_B (b : xi_W) (I : Nat → Nat) (R : Nat × List Value) : Prop := (∀ i j, i < 11 → j < 11 → I i = I j → i = j) ∧ (∀ i, i < 11 → I i < b.length ∧ 17 ≤ I i) ∧ b[I 1]? = some (.inr (0, [.ref (I 3), .ref (I 4), .ref (I 5)])) ∧ b[I 2]? = some (.inr R) ∧ R.1 = 2 ∧ True
theorem cn_ne {b : xi_W} {I : Nat → Nat} {R : Nat × List Value} (B : cn_B b I R) {s t : Nat} (hs : s < 11) (ht : t < 11) (h : s ≠ t) : ¬ I s = I t := fun e => h (B.1 s t hs ht e)
theorem cn_get {b : xi_W} {I : Nat → Nat} {R : Nat × List Value} (B : cn_B b I R) (F : Nat → Nat) {t : Nat} (ht : t < 11) {v : xi_O} (hv : ∀ o, cn_f I F (I t) o = v) : (cn_w b I F)[I t]? = some v := by
  unfold cn_w
  rw [List.getElem?_mapIdx, List.getElem?_eq_getElem ((B.2.1 t ht).1)]
  simp only [Option.map_some, hv]
theorem cn_set {b : xi_W} {I : Nat → Nat} {R : Nat × List Value} (B : cn_B b I R) (F G : Nat → Nat) {t : Nat} (ht : t < 11) {v : xi_O} (h1 : ∀ k o, ¬ k = I t → cn_f I G k o = cn_f I F k o) (h2 : ∀ o, cn_f I G (I t) o = v) : (cn_w b I F).set (I t) v = cn_w b I G := by
  apply List.ext_getElem?
  intro k
  rw [List.getElem?_set]
  unfold cn_w
  rw [List.getElem?_mapIdx, List.getElem?_mapIdx, List.length_mapIdx]
  by_cases hk : I t = k
  · subst hk
    rw [if_pos rfl, if_pos ((B.2.1 t ht).1), List.getElem?_eq_getElem ((B.2.1 t ht).1)]
    simp only [Option.map_some, h2]
  · rw [if_neg hk]
    cases b[k]? with
    | none => rfl
    | some o =>
      simp only [Option.map_some]
      rw [h1 k o (fun e => hk e.symm)]
theorem cn_gd {b : xi_W} {I : Nat → Nat} {R : Nat × List Value} (B : cn_B b I R) {t : Nat} (ht : t < 11) : Nat.ble 17 (I t) = true := Nat.ble_eq.mpr (B.2.1 t ht).2
theorem cn_vLo (F : Nat → Nat) {t u j v : Nat} (ht : t < 16) (hu : u < 16) (h : t ≠ u) : cn_vL t (xn_u F (16 * j + u) v) = cn_vL t F := by
  funext k; unfold cn_vL; rw [xn_un _ _ (by omega)]
theorem cn_vIo (F : Nat → Nat) {t u j v : Nat} (ht : t < 16) (hu : u < 16) (h : t ≠ u) : cn_vI t (xn_u F (16 * j + u) v) = cn_vI t F := by
  funext k; unfold cn_vI; rw [xn_un _ _ (by omega)]
theorem cn_vIs (F : Nat → Nat) {t j v : Nat} : cn_vI t (xn_u F (16 * j + t) v) = upd (cn_vI t F) j (Int32.ofNat v) := by
  funext k; unfold cn_vI upd xn_u
  by_cases h : k = j
  · rw [if_pos (by omega), if_pos h]
  · rw [if_neg (by omega), if_neg h]
theorem cn_vLs (F : Nat → Nat) {t j v : Nat} : cn_vL t (xn_u F (16 * j + t) v) = vp_updL (cn_vL t F) j (Int64.ofNat v) := by
  funext k; unfold cn_vL vp_updL xn_u
  by_cases h : k = j
  · rw [if_pos (by omega), if_pos h]
  · rw [if_neg (by omega), if_neg h]
theorem cn_Wo (I F : Nat → Nat) {u j v : Nat} (hu : u < 8) : cn_Wl I (xn_u F (16 * j + u) v) = cn_Wl I F := by
  unfold cn_Wl
  rw [xn_un F v (show 8 ≠ 16 * j + u by omega), xn_un F v (show 24 ≠ 16 * j + u by omega), xn_un F v (show 40 ≠ 16 * j + u by omega), xn_un F v (show 56 ≠ 16 * j + u by omega), xn_un F v (show 72 ≠ 16 * j + u by omega), xn_un F v (show 88 ≠ 16 * j + u by omega)]
theorem cn_ad {d i pc : Nat} {l : xi_L} {st st' : List Value} {w w' : xi_W} {c s : Nat} {r : xi_R} (e : w = w') (h : xg d i pc l st w' c s r) : xg d i pc l st w c s r := e ▸ h
theorem cn_g0 {b : xi_W} {I : Nat → Nat} {R : Nat × List Value} (B : cn_B b I R) (F : Nat → Nat) : (cn_w b I F)[I 0]? = some (.inr (5, cn_Wl I F)) := cn_get B F (by omega) (fun o => by unfold cn_f; rw [if_pos rfl])
theorem cn_g3 {b : xi_W} {I : Nat → Nat} {R : Nat × List Value} (B : cn_B b I R) (F : Nat → Nat) : (cn_w b I F)[I 3]? = some (.inl (.long, 220, .inr (.inl (cn_vL 0 F)))) := cn_get B F (by omega) (fun o => by unfold cn_f; rw [if_neg (cn_ne B (s := 3) (t := 0) (by omega) (by omega) (by omega)), if_pos rfl])
theorem cn_g4 {b : xi_W} {I : Nat → Nat} {R : Nat × List Value} (B : cn_B b I R) (F : Nat → Nat) : (cn_w b I F)[I 4]? = some (.inl (.long, 220, .inr (.inl (cn_vL 1 F)))) := cn_get B F (by omega) (fun o => by unfold cn_f; rw [if_neg (cn_ne B (s := 4) (t := 0) (by omega) (by omega) (by omega)), if_neg (cn_ne B (s := 4) (t := 3) (by omega) (by omega) (by omega)), if_pos rfl])
theorem cn_g5 {b : xi_W} {I : Nat → Nat} {R : Nat × List Value} (B : cn_B b I R) (F : Nat → Nat) : (cn_w b I F)[I 5]? = some (.inl (.int, 256, .inl (cn_vI 2 F))) := cn_get B F (by omega) (fun o => by unfold cn_f; rw [if_neg (cn_ne B (s := 5) (t := 0) (by omega) (by omega) (by omega)), if_neg (cn_ne B (s := 5) (t := 3) (by omega) (by omega) (by omega)), if_neg (cn_ne B (s := 5) (t := 4) (by omega) (by omega) (by omega)), if_pos rfl])
theorem cn_g6 {b : xi_W} {I : Nat → Nat} {R : Nat × List Value} (B : cn_B b I R) (F : Nat → Nat) : (cn_w b I F)[I 6]? = some (.inl (.int, 16, .inl (cn_vI 3 F))) := cn_get B F (by omega) (fun o => by unfold cn_f; rw [if_neg (cn_ne B (s := 6) (t := 0) (by omega) (by omega) (by omega)), if_neg (cn_ne B (s := 6) (t := 3) (by omega) (by omega) (by omega)), if_neg (cn_ne B (s := 6) (t := 4) (by omega) (by omega) (by omega)), if_neg (cn_ne B (s := 6) (t := 5) (by omega) (by omega) (by omega)), if_pos rfl])
theorem cn_g7 {b : xi_W} {I : Nat → Nat} {R : Nat × List Value} (B : cn_B b I R) (F : Nat → Nat) : (cn_w b I F)[I 7]? = some (.inl (.int, 4, .inl (cn_vI 4 F))) := cn_get B F (by omega) (fun o => by unfold cn_f; rw [if_neg (cn_ne B (s := 7) (t := 0) (by omega) (by omega) (by omega)), if_neg (cn_ne B (s := 7) (t := 3) (by omega) (by omega) (by omega)), if_neg (cn_ne B (s := 7) (t := 4) (by omega) (by omega) (by omega)), if_neg (cn_ne B (s := 7) (t := 5) (by omega) (by omega) (by omega)), if_neg (cn_ne B (s := 7) (t := 6) (by omega) (by omega) (by omega)), if_pos rfl])
theorem cn_g8 {b : xi_W} {I : Nat → Nat} {R : Nat × List Value} (B : cn_B b I R) (F : Nat → Nat) : (cn_w b I F)[I 8]? = some (.inl (.int, 4, .inl (cn_vI 5 F))) := cn_get B F (by omega) (fun o => by unfold cn_f; rw [if_neg (cn_ne B (s := 8) (t := 0) (by omega) (by omega) (by omega)), if_neg (cn_ne B (s := 8) (t := 3) (by omega) (by omega) (by omega)), if_neg (cn_ne B (s := 8) (t := 4) (by omega) (by omega) (by omega)), if_neg (cn_ne B (s := 8) (t := 5) (by omega) (by omega) (by omega)), if_neg (cn_ne B (s := 8) (t := 6) (by omega) (by omega) (by omega)), if_neg (cn_ne B (s := 8) (t := 7) (by omega) (by omega) (by omega)), if_pos rfl])
theorem cn_g9 {b : xi_W} {I : Nat → Nat} {R : Nat × List Value} (B : cn_B b I R) (F : Nat → Nat) : (cn_w b I F)[I 9]? = some (.inl (.int, 120, .inl (cn_vI 6 F))) := cn_get B F (by omega) (fun o => by unfold cn_f; rw [if_neg (cn_ne B (s := 9) (t := 0) (by omega) (by omega) (by omega)), if_neg (cn_ne B (s := 9) (t := 3) (by omega) (by omega) (by omega)), if_neg (cn_ne B (s := 9) (t := 4) (by omega) (by omega) (by omega)), if_neg (cn_ne B (s := 9) (t := 5) (by omega) (by omega) (by omega)), if_neg (cn_ne B (s := 9) (t := 6) (by omega) (by omega) (by omega)), if_neg (cn_ne B (s := 9) (t := 7) (by omega) (by omega) (by omega)), if_neg (cn_ne B (s := 9) (t := 8) (by omega) (by omega) (by omega)), if_pos rfl])
theorem cn_g10 {b : xi_W} {I : Nat → Nat} {R : Nat × List Value} (B : cn_B b I R) (F : Nat → Nat) : (cn_w b I F)[I 10]? = some (.inl (.int, 100, .inl (cn_vI 7 F))) := cn_get B F (by omega) (fun o => by unfold cn_f; rw [if_neg (cn_ne B (s := 10) (t := 0) (by omega) (by omega) (by omega)), if_neg (cn_ne B (s := 10) (t := 3) (by omega) (by omega) (by omega)), if_neg (cn_ne B (s := 10) (t := 4) (by omega) (by omega) (by omega)), if_neg (cn_ne B (s := 10) (t := 5) (by omega) (by omega) (by omega)), if_neg (cn_ne B (s := 10) (t := 6) (by omega) (by omega) (by omega)), if_neg (cn_ne B (s := 10) (t := 7) (by omega) (by omega) (by omega)), if_neg (cn_ne B (s := 10) (t := 8) (by omega) (by omega) (by omega)), if_neg (cn_ne B (s := 10) (t := 9) (by omega) (by omega) (by omega)), if_pos rfl])
theorem cn_g1 {b : xi_W} {I : Nat → Nat} {R : Nat × List Value} (B : cn_B b I R) (F : Nat → Nat) : (cn_w b I F)[I 1]? = some (.inr (0, [.ref (I 3), .ref (I 4), .ref (I 5)])) := by
  unfold cn_w
  rw [List.getElem?_mapIdx, B.2.2.1]
  simp only [Option.map_some]
  unfold cn_f
  rw [if_neg (cn_ne B (s := 1) (t := 0) (by omega) (by omega) (by omega)), if_neg (cn_ne B (s := 1) (t := 3) (by omega) (by omega) (by omega)), if_neg (cn_ne B (s := 1) (t := 4) (by omega) (by omega) (by omega)), if_neg (cn_ne B (s := 1) (t := 5) (by omega) (by omega) (by omega)), if_neg (cn_ne B (s := 1) (t := 6) (by omega) (by omega) (by omega)), if_neg (cn_ne B (s := 1) (t := 7) (by omega) (by omega) (by omega)), if_neg (cn_ne B (s := 1) (t := 8) (by omega) (by omega) (by omega)), if_neg (cn_ne B (s := 1) (t := 9) (by omega) (by omega) (by omega)), if_neg (cn_ne B (s := 1) (t := 10) (by omega) (by omega) (by omega))]
theorem cn_g2 {b : xi_W} {I : Nat → Nat} {R : Nat × List Value} (B : cn_B b I R) (F : Nat → Nat) : (cn_w b I F)[I 2]? = some (.inr R) := by
  unfold cn_w
  rw [List.getElem?_mapIdx, B.2.2.2.1]
  simp only [Option.map_some]
  unfold cn_f
  rw [if_neg (cn_ne B (s := 2) (t := 0) (by omega) (by omega) (by omega)), if_neg (cn_ne B (s := 2) (t := 3) (by omega) (by omega) (by omega)), if_neg (cn_ne B (s := 2) (t := 4) (by omega) (by omega) (by omega)), if_neg (cn_ne B (s := 2) (t := 5) (by omega) (by omega) (by omega)), if_neg (cn_ne B (s := 2) (t := 6) (by omega) (by omega) (by omega)), if_neg (cn_ne B (s := 2) (t := 7) (by omega) (by omega) (by omega)), if_neg (cn_ne B (s := 2) (t := 8) (by omega) (by omega) (by omega)), if_neg (cn_ne B (s := 2) (t := 9) (by omega) (by omega) (by omega)), if_neg (cn_ne B (s := 2) (t := 10) (by omega) (by omega) (by omega))]
theorem cn_s3 {b : xi_W} {I : Nat → Nat} {R : Nat × List Value} (B : cn_B b I R) (F : Nat → Nat) (j v : Nat) : (cn_w b I F).set (I 3) (.inl (.long, 220, .inr (.inl (vp_updL (cn_vL 0 F) j (Int64.ofNat v))))) = cn_w b I (xn_u F (16 * j + 0) v) := by
  refine cn_set B F _ (by omega) (fun k o hk => ?_) (fun o => ?_)
  · unfold cn_f
    rw [cn_Wo I F (j := j) (u := 0) (v := v) (by omega), cn_vLo F (t := 1) (u := 0) (j := j) (v := v) (by omega) (by omega) (by omega), cn_vIo F (t := 2) (u := 0) (j := j) (v := v) (by omega) (by omega) (by omega), cn_vIo F (t := 3) (u := 0) (j := j) (v := v) (by omega) (by omega) (by omega), cn_vIo F (t := 4) (u := 0) (j := j) (v := v) (by omega) (by omega) (by omega), cn_vIo F (t := 5) (u := 0) (j := j) (v := v) (by omega) (by omega) (by omega), cn_vIo F (t := 6) (u := 0) (j := j) (v := v) (by omega) (by omega) (by omega), cn_vIo F (t := 7) (u := 0) (j := j) (v := v) (by omega) (by omega) (by omega), if_neg hk, if_neg hk]
  · unfold cn_f
    rw [if_neg (cn_ne B (s := 3) (t := 0) (by omega) (by omega) (by omega)), if_pos rfl, cn_vLs]
theorem cn_s4 {b : xi_W} {I : Nat → Nat} {R : Nat × List Value} (B : cn_B b I R) (F : Nat → Nat) (j v : Nat) : (cn_w b I F).set (I 4) (.inl (.long, 220, .inr (.inl (vp_updL (cn_vL 1 F) j (Int64.ofNat v))))) = cn_w b I (xn_u F (16 * j + 1) v) := by
  refine cn_set B F _ (by omega) (fun k o hk => ?_) (fun o => ?_)
  · unfold cn_f
    rw [cn_Wo I F (j := j) (u := 1) (v := v) (by omega), cn_vLo F (t := 0) (u := 1) (j := j) (v := v) (by omega) (by omega) (by omega), cn_vIo F (t := 2) (u := 1) (j := j) (v := v) (by omega) (by omega) (by omega), cn_vIo F (t := 3) (u := 1) (j := j) (v := v) (by omega) (by omega) (by omega), cn_vIo F (t := 4) (u := 1) (j := j) (v := v) (by omega) (by omega) (by omega), cn_vIo F (t := 5) (u := 1) (j := j) (v := v) (by omega) (by omega) (by omega), cn_vIo F (t := 6) (u := 1) (j := j) (v := v) (by omega) (by omega) (by omega), cn_vIo F (t := 7) (u := 1) (j := j) (v := v) (by omega) (by omega) (by omega), if_neg hk, if_neg hk]
  · unfold cn_f
    rw [if_neg (cn_ne B (s := 4) (t := 0) (by omega) (by omega) (by omega)), if_neg (cn_ne B (s := 4) (t := 3) (by omega) (by omega) (by omega)), if_pos rfl, cn_vLs]
theorem cn_s5 {b : xi_W} {I : Nat → Nat} {R : Nat × List Value} (B : cn_B b I R) (F : Nat → Nat) (j v : Nat) : (cn_w b I F).set (I 5) (.inl (.int, 256, .inl (upd (cn_vI 2 F) j (Int32.ofNat v)))) = cn_w b I (xn_u F (16 * j + 2) v) := by
  refine cn_set B F _ (by omega) (fun k o hk => ?_) (fun o => ?_)
  · unfold cn_f
    rw [cn_Wo I F (j := j) (u := 2) (v := v) (by omega), cn_vLo F (t := 0) (u := 2) (j := j) (v := v) (by omega) (by omega) (by omega), cn_vLo F (t := 1) (u := 2) (j := j) (v := v) (by omega) (by omega) (by omega), cn_vIo F (t := 3) (u := 2) (j := j) (v := v) (by omega) (by omega) (by omega), cn_vIo F (t := 4) (u := 2) (j := j) (v := v) (by omega) (by omega) (by omega), cn_vIo F (t := 5) (u := 2) (j := j) (v := v) (by omega) (by omega) (by omega), cn_vIo F (t := 6) (u := 2) (j := j) (v := v) (by omega) (by omega) (by omega), cn_vIo F (t := 7) (u := 2) (j := j) (v := v) (by omega) (by omega) (by omega), if_neg hk, if_neg hk]
  · unfold cn_f
    rw [if_neg (cn_ne B (s := 5) (t := 0) (by omega) (by omega) (by omega)), if_neg (cn_ne B (s := 5) (t := 3) (by omega) (by omega) (by omega)), if_neg (cn_ne B (s := 5) (t := 4) (by omega) (by omega) (by omega)), if_pos rfl, cn_vIs]
theorem cn_s6 {b : xi_W} {I : Nat → Nat} {R : Nat × List Value} (B : cn_B b I R) (F : Nat → Nat) (j v : Nat) : (cn_w b I F).set (I 6) (.inl (.int, 16, .inl (upd (cn_vI 3 F) j (Int32.ofNat v)))) = cn_w b I (xn_u F (16 * j + 3) v) := by
  refine cn_set B F _ (by omega) (fun k o hk => ?_) (fun o => ?_)
  · unfold cn_f
    rw [cn_Wo I F (j := j) (u := 3) (v := v) (by omega), cn_vLo F (t := 0) (u := 3) (j := j) (v := v) (by omega) (by omega) (by omega), cn_vLo F (t := 1) (u := 3) (j := j) (v := v) (by omega) (by omega) (by omega), cn_vIo F (t := 2) (u := 3) (j := j) (v := v) (by omega) (by omega) (by omega), cn_vIo F (t := 4) (u := 3) (j := j) (v := v) (by omega) (by omega) (by omega), cn_vIo F (t := 5) (u := 3) (j := j) (v := v) (by omega) (by omega) (by omega), cn_vIo F (t := 6) (u := 3) (j := j) (v := v) (by omega) (by omega) (by omega), cn_vIo F (t := 7) (u := 3) (j := j) (v := v) (by omega) (by omega) (by omega), if_neg hk, if_neg hk]
  · unfold cn_f
    rw [if_neg (cn_ne B (s := 6) (t := 0) (by omega) (by omega) (by omega)), if_neg (cn_ne B (s := 6) (t := 3) (by omega) (by omega) (by omega)), if_neg (cn_ne B (s := 6) (t := 4) (by omega) (by omega) (by omega)), if_neg (cn_ne B (s := 6) (t := 5) (by omega) (by omega) (by omega)), if_pos rfl, cn_vIs]
theorem cn_s7 {b : xi_W} {I : Nat → Nat} {R : Nat × List Value} (B : cn_B b I R) (F : Nat → Nat) (j v : Nat) : (cn_w b I F).set (I 7) (.inl (.int, 4, .inl (upd (cn_vI 4 F) j (Int32.ofNat v)))) = cn_w b I (xn_u F (16 * j + 4) v) := by
  refine cn_set B F _ (by omega) (fun k o hk => ?_) (fun o => ?_)
  · unfold cn_f
    rw [cn_Wo I F (j := j) (u := 4) (v := v) (by omega), cn_vLo F (t := 0) (u := 4) (j := j) (v := v) (by omega) (by omega) (by omega), cn_vLo F (t := 1) (u := 4) (j := j) (v := v) (by omega) (by omega) (by omega), cn_vIo F (t := 2) (u := 4) (j := j) (v := v) (by omega) (by omega) (by omega), cn_vIo F (t := 3) (u := 4) (j := j) (v := v) (by omega) (by omega) (by omega), cn_vIo F (t := 5) (u := 4) (j := j) (v := v) (by omega) (by omega) (by omega), cn_vIo F (t := 6) (u := 4) (j := j) (v := v) (by omega) (by omega) (by omega), cn_vIo F (t := 7) (u := 4) (j := j) (v := v) (by omega) (by omega) (by omega), if_neg hk, if_neg hk]
  · unfold cn_f
    rw [if_neg (cn_ne B (s := 7) (t := 0) (by omega) (by omega) (by omega)), if_neg (cn_ne B (s := 7) (t := 3) (by omega) (by omega) (by omega)), if_neg (cn_ne B (s := 7) (t := 4) (by omega) (by omega) (by omega)), if_neg (cn_ne B (s := 7) (t := 5) (by omega) (by omega) (by omega)), if_neg (cn_ne B (s := 7) (t := 6) (by omega) (by omega) (by omega)), if_pos rfl, cn_vIs]
theorem cn_s8 {b : xi_W} {I : Nat → Nat} {R : Nat × List Value} (B : cn_B b I R) (F : Nat → Nat) (j v : Nat) : (cn_w b I F).set (I 8) (.inl (.int, 4, .inl (upd (cn_vI 5 F) j (Int32.ofNat v)))) = cn_w b I (xn_u F (16 * j + 5) v) := by
  refine cn_set B F _ (by omega) (fun k o hk => ?_) (fun o => ?_)
  · unfold cn_f
    rw [cn_Wo I F (j := j) (u := 5) (v := v) (by omega), cn_vLo F (t := 0) (u := 5) (j := j) (v := v) (by omega) (by omega) (by omega), cn_vLo F (t := 1) (u := 5) (j := j) (v := v) (by omega) (by omega) (by omega), cn_vIo F (t := 2) (u := 5) (j := j) (v := v) (by omega) (by omega) (by omega), cn_vIo F (t := 3) (u := 5) (j := j) (v := v) (by omega) (by omega) (by omega), cn_vIo F (t := 4) (u := 5) (j := j) (v := v) (by omega) (by omega) (by omega), cn_vIo F (t := 6) (u := 5) (j := j) (v := v) (by omega) (by omega) (by omega), cn_vIo F (t := 7) (u := 5) (j := j) (v := v) (by omega) (by omega) (by omega), if_neg hk, if_neg hk]
  · unfold cn_f
    rw [if_neg (cn_ne B (s := 8) (t := 0) (by omega) (by omega) (by omega)), if_neg (cn_ne B (s := 8) (t := 3) (by omega) (by omega) (by omega)), if_neg (cn_ne B (s := 8) (t := 4) (by omega) (by omega) (by omega)), if_neg (cn_ne B (s := 8) (t := 5) (by omega) (by omega) (by omega)), if_neg (cn_ne B (s := 8) (t := 6) (by omega) (by omega) (by omega)), if_neg (cn_ne B (s := 8) (t := 7) (by omega) (by omega) (by omega)), if_pos rfl, cn_vIs]
theorem cn_s9 {b : xi_W} {I : Nat → Nat} {R : Nat × List Value} (B : cn_B b I R) (F : Nat → Nat) (j v : Nat) : (cn_w b I F).set (I 9) (.inl (.int, 120, .inl (upd (cn_vI 6 F) j (Int32.ofNat v)))) = cn_w b I (xn_u F (16 * j + 6) v) := by
  refine cn_set B F _ (by omega) (fun k o hk => ?_) (fun o => ?_)
  · unfold cn_f
    rw [cn_Wo I F (j := j) (u := 6) (v := v) (by omega), cn_vLo F (t := 0) (u := 6) (j := j) (v := v) (by omega) (by omega) (by omega), cn_vLo F (t := 1) (u := 6) (j := j) (v := v) (by omega) (by omega) (by omega), cn_vIo F (t := 2) (u := 6) (j := j) (v := v) (by omega) (by omega) (by omega), cn_vIo F (t := 3) (u := 6) (j := j) (v := v) (by omega) (by omega) (by omega), cn_vIo F (t := 4) (u := 6) (j := j) (v := v) (by omega) (by omega) (by omega), cn_vIo F (t := 5) (u := 6) (j := j) (v := v) (by omega) (by omega) (by omega), cn_vIo F (t := 7) (u := 6) (j := j) (v := v) (by omega) (by omega) (by omega), if_neg hk, if_neg hk]
  · unfold cn_f
    rw [if_neg (cn_ne B (s := 9) (t := 0) (by omega) (by omega) (by omega)), if_neg (cn_ne B (s := 9) (t := 3) (by omega) (by omega) (by omega)), if_neg (cn_ne B (s := 9) (t := 4) (by omega) (by omega) (by omega)), if_neg (cn_ne B (s := 9) (t := 5) (by omega) (by omega) (by omega)), if_neg (cn_ne B (s := 9) (t := 6) (by omega) (by omega) (by omega)), if_neg (cn_ne B (s := 9) (t := 7) (by omega) (by omega) (by omega)), if_neg (cn_ne B (s := 9) (t := 8) (by omega) (by omega) (by omega)), if_pos rfl, cn_vIs]
theorem cn_s10 {b : xi_W} {I : Nat → Nat} {R : Nat × List Value} (B : cn_B b I R) (F : Nat → Nat) (j v : Nat) : (cn_w b I F).set (I 10) (.inl (.int, 100, .inl (upd (cn_vI 7 F) j (Int32.ofNat v)))) = cn_w b I (xn_u F (16 * j + 7) v) := by
  refine cn_set B F _ (by omega) (fun k o hk => ?_) (fun o => ?_)
  · unfold cn_f
    rw [cn_Wo I F (j := j) (u := 7) (v := v) (by omega), cn_vLo F (t := 0) (u := 7) (j := j) (v := v) (by omega) (by omega) (by omega), cn_vLo F (t := 1) (u := 7) (j := j) (v := v) (by omega) (by omega) (by omega), cn_vIo F (t := 2) (u := 7) (j := j) (v := v) (by omega) (by omega) (by omega), cn_vIo F (t := 3) (u := 7) (j := j) (v := v) (by omega) (by omega) (by omega), cn_vIo F (t := 4) (u := 7) (j := j) (v := v) (by omega) (by omega) (by omega), cn_vIo F (t := 5) (u := 7) (j := j) (v := v) (by omega) (by omega) (by omega), cn_vIo F (t := 6) (u := 7) (j := j) (v := v) (by omega) (by omega) (by omega), if_neg hk, if_neg hk]
  · unfold cn_f
    rw [if_neg (cn_ne B (s := 10) (t := 0) (by omega) (by omega) (by omega)), if_neg (cn_ne B (s := 10) (t := 3) (by omega) (by omega) (by omega)), if_neg (cn_ne B (s := 10) (t := 4) (by omega) (by omega) (by omega)), if_neg (cn_ne B (s := 10) (t := 5) (by omega) (by omega) (by omega)), if_neg (cn_ne B (s := 10) (t := 6) (by omega) (by omega) (by omega)), if_neg (cn_ne B (s := 10) (t := 7) (by omega) (by omega) (by omega)), if_neg (cn_ne B (s := 10) (t := 8) (by omega) (by omega) (by omega)), if_neg (cn_ne B (s := 10) (t := 9) (by omega) (by omega) (by omega)), if_pos rfl, cn_vIs]
theorem cn_p0 {b : xi_W} {I : Nat → Nat} {R : Nat × List Value} (B : cn_B b I R) (F : Nat → Nat) (v : Nat) : (cn_w b I F).set (I 0) (.inr (5, (cn_Wl I F).set 6 (.int (Int32.ofNat v)))) = cn_w b I (xn_u F (16 * 0 + 8) v) := by
  refine cn_set B F _ (by omega) (fun k o hk => ?_) (fun o => ?_)
  · unfold cn_f
    rw [cn_vLo F (t := 0) (u := 8) (j := 0) (v := v) (by omega) (by omega) (by omega), cn_vLo F (t := 1) (u := 8) (j := 0) (v := v) (by omega) (by omega) (by omega), cn_vIo F (t := 2) (u := 8) (j := 0) (v := v) (by omega) (by omega) (by omega), cn_vIo F (t := 3) (u := 8) (j := 0) (v := v) (by omega) (by omega) (by omega), cn_vIo F (t := 4) (u := 8) (j := 0) (v := v) (by omega) (by omega) (by omega), cn_vIo F (t := 5) (u := 8) (j := 0) (v := v) (by omega) (by omega) (by omega), cn_vIo F (t := 6) (u := 8) (j := 0) (v := v) (by omega) (by omega) (by omega), cn_vIo F (t := 7) (u := 8) (j := 0) (v := v) (by omega) (by omega) (by omega), if_neg hk, if_neg hk]
  · unfold cn_f
    rw [if_pos rfl]
    rfl
theorem cn_p1 {b : xi_W} {I : Nat → Nat} {R : Nat × List Value} (B : cn_B b I R) (F : Nat → Nat) (v : Nat) : (cn_w b I F).set (I 0) (.inr (5, (cn_Wl I F).set 7 (.int (Int32.ofNat v)))) = cn_w b I (xn_u F (16 * 1 + 8) v) := by
  refine cn_set B F _ (by omega) (fun k o hk => ?_) (fun o => ?_)
  · unfold cn_f
    rw [cn_vLo F (t := 0) (u := 8) (j := 1) (v := v) (by omega) (by omega) (by omega), cn_vLo F (t := 1) (u := 8) (j := 1) (v := v) (by omega) (by omega) (by omega), cn_vIo F (t := 2) (u := 8) (j := 1) (v := v) (by omega) (by omega) (by omega), cn_vIo F (t := 3) (u := 8) (j := 1) (v := v) (by omega) (by omega) (by omega), cn_vIo F (t := 4) (u := 8) (j := 1) (v := v) (by omega) (by omega) (by omega), cn_vIo F (t := 5) (u := 8) (j := 1) (v := v) (by omega) (by omega) (by omega), cn_vIo F (t := 6) (u := 8) (j := 1) (v := v) (by omega) (by omega) (by omega), cn_vIo F (t := 7) (u := 8) (j := 1) (v := v) (by omega) (by omega) (by omega), if_neg hk, if_neg hk]
  · unfold cn_f
    rw [if_pos rfl]
    rfl
theorem cn_p2 {b : xi_W} {I : Nat → Nat} {R : Nat × List Value} (B : cn_B b I R) (F : Nat → Nat) (v : Nat) : (cn_w b I F).set (I 0) (.inr (5, (cn_Wl I F).set 8 (.int (Int32.ofNat v)))) = cn_w b I (xn_u F (16 * 2 + 8) v) := by
  refine cn_set B F _ (by omega) (fun k o hk => ?_) (fun o => ?_)
  · unfold cn_f
    rw [cn_vLo F (t := 0) (u := 8) (j := 2) (v := v) (by omega) (by omega) (by omega), cn_vLo F (t := 1) (u := 8) (j := 2) (v := v) (by omega) (by omega) (by omega), cn_vIo F (t := 2) (u := 8) (j := 2) (v := v) (by omega) (by omega) (by omega), cn_vIo F (t := 3) (u := 8) (j := 2) (v := v) (by omega) (by omega) (by omega), cn_vIo F (t := 4) (u := 8) (j := 2) (v := v) (by omega) (by omega) (by omega), cn_vIo F (t := 5) (u := 8) (j := 2) (v := v) (by omega) (by omega) (by omega), cn_vIo F (t := 6) (u := 8) (j := 2) (v := v) (by omega) (by omega) (by omega), cn_vIo F (t := 7) (u := 8) (j := 2) (v := v) (by omega) (by omega) (by omega), if_neg hk, if_neg hk]
  · unfold cn_f
    rw [if_pos rfl]
    rfl
theorem cn_p3 {b : xi_W} {I : Nat → Nat} {R : Nat × List Value} (B : cn_B b I R) (F : Nat → Nat) (v : Nat) : (cn_w b I F).set (I 0) (.inr (5, (cn_Wl I F).set 9 (.int (Int32.ofNat v)))) = cn_w b I (xn_u F (16 * 3 + 8) v) := by
  refine cn_set B F _ (by omega) (fun k o hk => ?_) (fun o => ?_)
  · unfold cn_f
    rw [cn_vLo F (t := 0) (u := 8) (j := 3) (v := v) (by omega) (by omega) (by omega), cn_vLo F (t := 1) (u := 8) (j := 3) (v := v) (by omega) (by omega) (by omega), cn_vIo F (t := 2) (u := 8) (j := 3) (v := v) (by omega) (by omega) (by omega), cn_vIo F (t := 3) (u := 8) (j := 3) (v := v) (by omega) (by omega) (by omega), cn_vIo F (t := 4) (u := 8) (j := 3) (v := v) (by omega) (by omega) (by omega), cn_vIo F (t := 5) (u := 8) (j := 3) (v := v) (by omega) (by omega) (by omega), cn_vIo F (t := 6) (u := 8) (j := 3) (v := v) (by omega) (by omega) (by omega), cn_vIo F (t := 7) (u := 8) (j := 3) (v := v) (by omega) (by omega) (by omega), if_neg hk, if_neg hk]
  · unfold cn_f
    rw [if_pos rfl]
    rfl
theorem cn_p4 {b : xi_W} {I : Nat → Nat} {R : Nat × List Value} (B : cn_B b I R) (F : Nat → Nat) (v : Nat) : (cn_w b I F).set (I 0) (.inr (5, (cn_Wl I F).set 10 (.int (Int32.ofNat v)))) = cn_w b I (xn_u F (16 * 4 + 8) v) := by
  refine cn_set B F _ (by omega) (fun k o hk => ?_) (fun o => ?_)
  · unfold cn_f
    rw [cn_vLo F (t := 0) (u := 8) (j := 4) (v := v) (by omega) (by omega) (by omega), cn_vLo F (t := 1) (u := 8) (j := 4) (v := v) (by omega) (by omega) (by omega), cn_vIo F (t := 2) (u := 8) (j := 4) (v := v) (by omega) (by omega) (by omega), cn_vIo F (t := 3) (u := 8) (j := 4) (v := v) (by omega) (by omega) (by omega), cn_vIo F (t := 4) (u := 8) (j := 4) (v := v) (by omega) (by omega) (by omega), cn_vIo F (t := 5) (u := 8) (j := 4) (v := v) (by omega) (by omega) (by omega), cn_vIo F (t := 6) (u := 8) (j := 4) (v := v) (by omega) (by omega) (by omega), cn_vIo F (t := 7) (u := 8) (j := 4) (v := v) (by omega) (by omega) (by omega), if_neg hk, if_neg hk]
  · unfold cn_f
    rw [if_pos rfl]
    rfl
theorem cn_p5 {b : xi_W} {I : Nat → Nat} {R : Nat × List Value} (B : cn_B b I R) (F : Nat → Nat) (v : Nat) : (cn_w b I F).set (I 0) (.inr (5, (cn_Wl I F).set 11 (.int (Int32.ofNat v)))) = cn_w b I (xn_u F (16 * 5 + 8) v) := by
  refine cn_set B F _ (by omega) (fun k o hk => ?_) (fun o => ?_)
  · unfold cn_f
    rw [cn_vLo F (t := 0) (u := 8) (j := 5) (v := v) (by omega) (by omega) (by omega), cn_vLo F (t := 1) (u := 8) (j := 5) (v := v) (by omega) (by omega) (by omega), cn_vIo F (t := 2) (u := 8) (j := 5) (v := v) (by omega) (by omega) (by omega), cn_vIo F (t := 3) (u := 8) (j := 5) (v := v) (by omega) (by omega) (by omega), cn_vIo F (t := 4) (u := 8) (j := 5) (v := v) (by omega) (by omega) (by omega), cn_vIo F (t := 5) (u := 8) (j := 5) (v := v) (by omega) (by omega) (by omega), cn_vIo F (t := 6) (u := 8) (j := 5) (v := v) (by omega) (by omega) (by omega), cn_vIo F (t := 7) (u := 8) (j := 5) (v := v) (by omega) (by omega) (by omega), if_neg hk, if_neg hk]
  · unfold cn_f
    rw [if_pos rfl]
    rfl
theorem xg_laload {d i pc a n : Nat} {l : xi_L} {st : List Value} {w : xi_W} {c s : Nat} {r : xi_R} {j : Int32} {f : Nat → Int64} (hw : w[a]? = some (.inl (.long, n, .inr (.inl f)))) (hg : Nat.ble 17 a = true) (hc : xt_cd i pc = some .laload) (hj : xi_ix j n = true) (h : xg d i (pc + 1) l (.long (f j.toNatClampNeg) :: st) w c s r) : xg d i pc l (.int j :: .ref a :: st) w c s r :=
  xg_stp hc rfl rfl (by simp only [xi_stp, hw, hg, hj, Bool.and_self, cond_true]) h
theorem xg_lastore {d i pc a n : Nat} {l : xi_L} {st : List Value} {w : xi_W} {c s : Nat} {r : xi_R} {j : Int32} {x : Int64} {f : Nat → Int64} (hw : w[a]? = some (.inl (.long, n, .inr (.inl f)))) (hg : Nat.ble 17 a = true) (hc : xt_cd i pc = some .lastore) (hj : xi_ix j n = true) (h : xg d i (pc + 1) l st (w.set a (.inl (.long, n, .inr (.inl (vp_updL f j.toNatClampNeg x))))) c s r) : xg d i pc l (.long x :: .int j :: .ref a :: st) w c s r :=
  xg_stp hc rfl rfl (by simp only [xi_stp, hw, hg, hj, Bool.and_self, cond_true]) h
/-- a method of an object is called -/
theorem xg_vcall {d i pc k j O : Nat} {l : xi_L} {st av rest : List Value} {w w' : xi_W} {c s : Nat} {r : xi_R} {v : Option Value} {o : Nat × List Value} {ps : List Nat} (hw : w[O]? = some (.inr o)) (hc : xt_cd i pc = some (.invokevirtual k)) (hm : xt_mdp (xt_mo i) k = some (0, j, ps)) (hd : st.drop (xt_mp j) = .ref O :: rest) (hav : .ref O :: (st.take (xt_mp j)).reverse = av) (ho : Nat.beq o.1 (xt_mo j) = true) (hr : xi_rm1 j av rest = true) (h1 : xg d j 0 (lv_args 0 av) [] w 0 0 (v, w', 0, 0)) (h2 : xg (d + 1) i (pc + 3) l (v.toList ++ rest) w' c s r) : xg (d + 1) i pc l st w c s r := by
  subst hav
  exact xg_call hc rfl (by simp only [xi_inv, hm, hd, hw, ho, hr, Bool.and_true, cond_true]) h1 h2
theorem xg_putfield {d i pc k a : Nat} {l : xi_L} {st : List Value} {w : xi_W} {c s : Nat} {r : xi_R} {q : Nat × Nat × Nat} {o : Nat × List Value} {v : Value} (hw : w[a]? = some (.inr o)) (hg : Nat.ble 17 a = true) (hc : xt_cd i pc = some (.putfield k)) (hq : xt_fdp (xt_mo i) k = some q) (hb : Nat.beq q.1 o.1 = true) (hy : xi_fit (xt_fy q.1 q.2.1) v = true) (hl : Nat.blt q.2.1 o.2.length = true) (hf : xt_ff q.1 q.2.1 = false) (h : xg d i (pc + 3) l st (w.set a (.inr (o.1, o.2.set q.2.1 v))) c s r) : xg d i pc l (v :: .ref a :: st) w c s r :=
  xg_stp hc rfl rfl (by simp only [xi_stp, hq, hw, hg, hb, hy, hl, hf, Bool.not_false, Bool.true_or, Bool.and_true, Bool.and_self, cond_true]) h
theorem cn_ld3 {d i pc : Nat} {l : xi_L} {st : List Value} {c s : Nat} {r : xi_R} {b : xi_W} {I : Nat → Nat} {R : Nat × List Value} {F : Nat → Nat} (B : cn_B b I R) {j : Nat} (hj : j < 220) (hc : xt_cd i pc = some .laload) (h : xg d i (pc + 1) l (.long (Int64.ofNat (F (16 * j + 0))) :: st) (cn_w b I F) c s r) : xg d i pc l (.int (Int32.ofNat j) :: .ref (I 3) :: st) (cn_w b I F) c s r :=
  xg_laload (cn_g3 B F) (cn_gd B (t := 3) (by omega)) hc (n_ix hj (by omega)) (by rw [n_nat (by omega)]; exact h)
theorem cn_st3 {d i pc : Nat} {l : xi_L} {st : List Value} {c s : Nat} {r : xi_R} {b : xi_W} {I : Nat → Nat} {R : Nat × List Value} {F : Nat → Nat} (B : cn_B b I R) {j v : Nat} (hj : j < 220) (hc : xt_cd i pc = some .lastore) (h : xg d i (pc + 1) l st (cn_w b I (xn_u F (16 * j + 0) v)) c s r) : xg d i pc l (.long (Int64.ofNat v) :: .int (Int32.ofNat j) :: .ref (I 3) :: st) (cn_w b I F) c s r :=
  xg_lastore (cn_g3 B F) (cn_gd B (t := 3) (by omega)) hc (n_ix hj (by omega)) (by rw [n_nat (by omega), cn_s3 B F j v]; exact h)
theorem cn_ld4 {d i pc : Nat} {l : xi_L} {st : List Value} {c s : Nat} {r : xi_R} {b : xi_W} {I : Nat → Nat} {R : Nat × List Value} {F : Nat → Nat} (B : cn_B b I R) {j : Nat} (hj : j < 220) (hc : xt_cd i pc = some .laload) (h : xg d i (pc + 1) l (.long (Int64.ofNat (F (16 * j + 1))) :: st) (cn_w b I F) c s r) : xg d i pc l (.int (Int32.ofNat j) :: .ref (I 4) :: st) (cn_w b I F) c s r :=
  xg_laload (cn_g4 B F) (cn_gd B (t := 4) (by omega)) hc (n_ix hj (by omega)) (by rw [n_nat (by omega)]; exact h)
theorem cn_st4 {d i pc : Nat} {l : xi_L} {st : List Value} {c s : Nat} {r : xi_R} {b : xi_W} {I : Nat → Nat} {R : Nat × List Value} {F : Nat → Nat} (B : cn_B b I R) {j v : Nat} (hj : j < 220) (hc : xt_cd i pc = some .lastore) (h : xg d i (pc + 1) l st (cn_w b I (xn_u F (16 * j + 1) v)) c s r) : xg d i pc l (.long (Int64.ofNat v) :: .int (Int32.ofNat j) :: .ref (I 4) :: st) (cn_w b I F) c s r :=
  xg_lastore (cn_g4 B F) (cn_gd B (t := 4) (by omega)) hc (n_ix hj (by omega)) (by rw [n_nat (by omega), cn_s4 B F j v]; exact h)
theorem cn_ld5 {d i pc : Nat} {l : xi_L} {st : List Value} {c s : Nat} {r : xi_R} {b : xi_W} {I : Nat → Nat} {R : Nat × List Value} {F : Nat → Nat} (B : cn_B b I R) {j : Nat} (hj : j < 256) (hc : xt_cd i pc = some .iaload) (h : xg d i (pc + 1) l (.int (Int32.ofNat (F (16 * j + 2))) :: st) (cn_w b I F) c s r) : xg d i pc l (.int (Int32.ofNat j) :: .ref (I 5) :: st) (cn_w b I F) c s r :=
  xg_iaload (cn_g5 B F) hc (n_ix hj (by omega)) rfl (by rw [n_nat (by omega)]; exact h)
theorem cn_st5 {d i pc : Nat} {l : xi_L} {st : List Value} {c s : Nat} {r : xi_R} {b : xi_W} {I : Nat → Nat} {R : Nat × List Value} {F : Nat → Nat} (B : cn_B b I R) {j v : Nat} (hj : j < 256) (hc : xt_cd i pc = some .iastore) (h : xg d i (pc + 1) l st (cn_w b I (xn_u F (16 * j + 2) v)) c s r) : xg d i pc l (.int (Int32.ofNat v) :: .int (Int32.ofNat j) :: .ref (I 5) :: st) (cn_w b I F) c s r :=
  xg_iastore (cn_g5 B F) (cn_gd B (t := 5) (by omega)) hc (n_ix hj (by omega)) rfl (by rw [n_nat (by omega), cn_s5 B F j v]; exact h)
theorem cn_ld6 {d i pc : Nat} {l : xi_L} {st : List Value} {c s : Nat} {r : xi_R} {b : xi_W} {I : Nat → Nat} {R : Nat × List Value} {F : Nat → Nat} (B : cn_B b I R) {j : Nat} (hj : j < 16) (hc : xt_cd i pc = some .iaload) (h : xg d i (pc + 1) l (.int (Int32.ofNat (F (16 * j + 3))) :: st) (cn_w b I F) c s r) : xg d i pc l (.int (Int32.ofNat j) :: .ref (I 6) :: st) (cn_w b I F) c s r :=
  xg_iaload (cn_g6 B F) hc (n_ix hj (by omega)) rfl (by rw [n_nat (by omega)]; exact h)
theorem cn_st6 {d i pc : Nat} {l : xi_L} {st : List Value} {c s : Nat} {r : xi_R} {b : xi_W} {I : Nat → Nat} {R : Nat × List Value} {F : Nat → Nat} (B : cn_B b I R) {j v : Nat} (hj : j < 16) (hc : xt_cd i pc = some .iastore) (h : xg d i (pc + 1) l st (cn_w b I (xn_u F (16 * j + 3) v)) c s r) : xg d i pc l (.int (Int32.ofNat v) :: .int (Int32.ofNat j) :: .ref (I 6) :: st) (cn_w b I F) c s r :=
  xg_iastore (cn_g6 B F) (cn_gd B (t := 6) (by omega)) hc (n_ix hj (by omega)) rfl (by rw [n_nat (by omega), cn_s6 B F j v]; exact h)
theorem cn_ld7 {d i pc : Nat} {l : xi_L} {st : List Value} {c s : Nat} {r : xi_R} {b : xi_W} {I : Nat → Nat} {R : Nat × List Value} {F : Nat → Nat} (B : cn_B b I R) {j : Nat} (hj : j < 4) (hc : xt_cd i pc = some .iaload) (h : xg d i (pc + 1) l (.int (Int32.ofNat (F (16 * j + 4))) :: st) (cn_w b I F) c s r) : xg d i pc l (.int (Int32.ofNat j) :: .ref (I 7) :: st) (cn_w b I F) c s r :=
  xg_iaload (cn_g7 B F) hc (n_ix hj (by omega)) rfl (by rw [n_nat (by omega)]; exact h)
theorem cn_st7 {d i pc : Nat} {l : xi_L} {st : List Value} {c s : Nat} {r : xi_R} {b : xi_W} {I : Nat → Nat} {R : Nat × List Value} {F : Nat → Nat} (B : cn_B b I R) {j v : Nat} (hj : j < 4) (hc : xt_cd i pc = some .iastore) (h : xg d i (pc + 1) l st (cn_w b I (xn_u F (16 * j + 4) v)) c s r) : xg d i pc l (.int (Int32.ofNat v) :: .int (Int32.ofNat j) :: .ref (I 7) :: st) (cn_w b I F) c s r :=
  xg_iastore (cn_g7 B F) (cn_gd B (t := 7) (by omega)) hc (n_ix hj (by omega)) rfl (by rw [n_nat (by omega), cn_s7 B F j v]; exact h)
theorem cn_ld8 {d i pc : Nat} {l : xi_L} {st : List Value} {c s : Nat} {r : xi_R} {b : xi_W} {I : Nat → Nat} {R : Nat × List Value} {F : Nat → Nat} (B : cn_B b I R) {j : Nat} (hj : j < 4) (hc : xt_cd i pc = some .iaload) (h : xg d i (pc + 1) l (.int (Int32.ofNat (F (16 * j + 5))) :: st) (cn_w b I F) c s r) : xg d i pc l (.int (Int32.ofNat j) :: .ref (I 8) :: st) (cn_w b I F) c s r :=
  xg_iaload (cn_g8 B F) hc (n_ix hj (by omega)) rfl (by rw [n_nat (by omega)]; exact h)
theorem cn_st8 {d i pc : Nat} {l : xi_L} {st : List Value} {c s : Nat} {r : xi_R} {b : xi_W} {I : Nat → Nat} {R : Nat × List Value} {F : Nat → Nat} (B : cn_B b I R) {j v : Nat} (hj : j < 4) (hc : xt_cd i pc = some .iastore) (h : xg d i (pc + 1) l st (cn_w b I (xn_u F (16 * j + 5) v)) c s r) : xg d i pc l (.int (Int32.ofNat v) :: .int (Int32.ofNat j) :: .ref (I 8) :: st) (cn_w b I F) c s r :=
  xg_iastore (cn_g8 B F) (cn_gd B (t := 8) (by omega)) hc (n_ix hj (by omega)) rfl (by rw [n_nat (by omega), cn_s8 B F j v]; exact h)
theorem cn_ld9 {d i pc : Nat} {l : xi_L} {st : List Value} {c s : Nat} {r : xi_R} {b : xi_W} {I : Nat → Nat} {R : Nat × List Value} {F : Nat → Nat} (B : cn_B b I R) {j : Nat} (hj : j < 120) (hc : xt_cd i pc = some .iaload) (h : xg d i (pc + 1) l (.int (Int32.ofNat (F (16 * j + 6))) :: st) (cn_w b I F) c s r) : xg d i pc l (.int (Int32.ofNat j) :: .ref (I 9) :: st) (cn_w b I F) c s r :=
  xg_iaload (cn_g9 B F) hc (n_ix hj (by omega)) rfl (by rw [n_nat (by omega)]; exact h)
theorem cn_st9 {d i pc : Nat} {l : xi_L} {st : List Value} {c s : Nat} {r : xi_R} {b : xi_W} {I : Nat → Nat} {R : Nat × List Value} {F : Nat → Nat} (B : cn_B b I R) {j v : Nat} (hj : j < 120) (hc : xt_cd i pc = some .iastore) (h : xg d i (pc + 1) l st (cn_w b I (xn_u F (16 * j + 6) v)) c s r) : xg d i pc l (.int (Int32.ofNat v) :: .int (Int32.ofNat j) :: .ref (I 9) :: st) (cn_w b I F) c s r :=
  xg_iastore (cn_g9 B F) (cn_gd B (t := 9) (by omega)) hc (n_ix hj (by omega)) rfl (by rw [n_nat (by omega), cn_s9 B F j v]; exact h)
theorem cn_ld10 {d i pc : Nat} {l : xi_L} {st : List Value} {c s : Nat} {r : xi_R} {b : xi_W} {I : Nat → Nat} {R : Nat × List Value} {F : Nat → Nat} (B : cn_B b I R) {j : Nat} (hj : j < 100) (hc : xt_cd i pc = some .iaload) (h : xg d i (pc + 1) l (.int (Int32.ofNat (F (16 * j + 7))) :: st) (cn_w b I F) c s r) : xg d i pc l (.int (Int32.ofNat j) :: .ref (I 10) :: st) (cn_w b I F) c s r :=
  xg_iaload (cn_g10 B F) hc (n_ix hj (by omega)) rfl (by rw [n_nat (by omega)]; exact h)
theorem cn_st10 {d i pc : Nat} {l : xi_L} {st : List Value} {c s : Nat} {r : xi_R} {b : xi_W} {I : Nat → Nat} {R : Nat × List Value} {F : Nat → Nat} (B : cn_B b I R) {j v : Nat} (hj : j < 100) (hc : xt_cd i pc = some .iastore) (h : xg d i (pc + 1) l st (cn_w b I (xn_u F (16 * j + 7) v)) c s r) : xg d i pc l (.int (Int32.ofNat v) :: .int (Int32.ofNat j) :: .ref (I 10) :: st) (cn_w b I F) c s r :=
  xg_iastore (cn_g10 B F) (cn_gd B (t := 10) (by omega)) hc (n_ix hj (by omega)) rfl (by rw [n_nat (by omega), cn_s10 B F j v]; exact h)
theorem cn_pf0 {d i pc : Nat} {l : xi_L} {st : List Value} {c s : Nat} {r : xi_R} {b : xi_W} {I : Nat → Nat} {R : Nat × List Value} {F : Nat → Nat} (B : cn_B b I R) {k v e : Nat} (hc : xt_cd i pc = some (.putfield k)) (hq : xt_fdp (xt_mo i) k = some (5, 6, e)) (h : xg d i (pc + 3) l st (cn_w b I (xn_u F 8 v)) c s r) : xg d i pc l (.int (Int32.ofNat v) :: .ref (I 0) :: st) (cn_w b I F) c s r :=
  xg_putfield (cn_g0 B F) (cn_gd B (t := 0) (by omega)) hc hq rfl rfl rfl rfl (by rw [cn_p0 B F v]; exact h)
theorem cn_pf1 {d i pc : Nat} {l : xi_L} {st : List Value} {c s : Nat} {r : xi_R} {b : xi_W} {I : Nat → Nat} {R : Nat × List Value} {F : Nat → Nat} (B : cn_B b I R) {k v e : Nat} (hc : xt_cd i pc = some (.putfield k)) (hq : xt_fdp (xt_mo i) k = some (5, 7, e)) (h : xg d i (pc + 3) l st (cn_w b I (xn_u F 24 v)) c s r) : xg d i pc l (.int (Int32.ofNat v) :: .ref (I 0) :: st) (cn_w b I F) c s r :=
  xg_putfield (cn_g0 B F) (cn_gd B (t := 0) (by omega)) hc hq rfl rfl rfl rfl (by rw [cn_p1 B F v]; exact h)
theorem cn_pf2 {d i pc : Nat} {l : xi_L} {st : List Value} {c s : Nat} {r : xi_R} {b : xi_W} {I : Nat → Nat} {R : Nat × List Value} {F : Nat → Nat} (B : cn_B b I R) {k v e : Nat} (hc : xt_cd i pc = some (.putfield k)) (hq : xt_fdp (xt_mo i) k = some (5, 8, e)) (h : xg d i (pc + 3) l st (cn_w b I (xn_u F 40 v)) c s r) : xg d i pc l (.int (Int32.ofNat v) :: .ref (I 0) :: st) (cn_w b I F) c s r :=
  xg_putfield (cn_g0 B F) (cn_gd B (t := 0) (by omega)) hc hq rfl rfl rfl rfl (by rw [cn_p2 B F v]; exact h)
theorem cn_pf3 {d i pc : Nat} {l : xi_L} {st : List Value} {c s : Nat} {r : xi_R} {b : xi_W} {I : Nat → Nat} {R : Nat × List Value} {F : Nat → Nat} (B : cn_B b I R) {k v e : Nat} (hc : xt_cd i pc = some (.putfield k)) (hq : xt_fdp (xt_mo i) k = some (5, 9, e)) (h : xg d i (pc + 3) l st (cn_w b I (xn_u F 56 v)) c s r) : xg d i pc l (.int (Int32.ofNat v) :: .ref (I 0) :: st) (cn_w b I F) c s r :=
  xg_putfield (cn_g0 B F) (cn_gd B (t := 0) (by omega)) hc hq rfl rfl rfl rfl (by rw [cn_p3 B F v]; exact h)
theorem cn_pf4 {d i pc : Nat} {l : xi_L} {st : List Value} {c s : Nat} {r : xi_R} {b : xi_W} {I : Nat → Nat} {R : Nat × List Value} {F : Nat → Nat} (B : cn_B b I R) {k v e : Nat} (hc : xt_cd i pc = some (.putfield k)) (hq : xt_fdp (xt_mo i) k = some (5, 10, e)) (h : xg d i (pc + 3) l st (cn_w b I (xn_u F 72 v)) c s r) : xg d i pc l (.int (Int32.ofNat v) :: .ref (I 0) :: st) (cn_w b I F) c s r :=
  xg_putfield (cn_g0 B F) (cn_gd B (t := 0) (by omega)) hc hq rfl rfl rfl rfl (by rw [cn_p4 B F v]; exact h)
theorem cn_pf5 {d i pc : Nat} {l : xi_L} {st : List Value} {c s : Nat} {r : xi_R} {b : xi_W} {I : Nat → Nat} {R : Nat × List Value} {F : Nat → Nat} (B : cn_B b I R) {k v e : Nat} (hc : xt_cd i pc = some (.putfield k)) (hq : xt_fdp (xt_mo i) k = some (5, 11, e)) (h : xg d i (pc + 3) l st (cn_w b I (xn_u F 88 v)) c s r) : xg d i pc l (.int (Int32.ofNat v) :: .ref (I 0) :: st) (cn_w b I F) c s r :=
  xg_putfield (cn_g0 B F) (cn_gd B (t := 0) (by omega)) hc hq rfl rfl rfl rfl (by rw [cn_p5 B F v]; exact h)
theorem cn_r2 {b : xi_W} {I : Nat → Nat} {R : Nat × List Value} (B : cn_B b I R) : Nat.beq 2 R.1 = true := by rw [B.2.2.2.2.1]; rfl
theorem cn_al {d i pc : Nat} {l : xi_L} {st : List Value} {c s : Nat} {r : xi_R} {b : xi_W} {I : Nat → Nat} {R : Nat × List Value} {F : Nat → Nat} (B : cn_B b I R) (hc : xt_cd i pc = some .arraylength) (h : xg d i (pc + 1) l (.int (Int32.ofNat 256) :: st) (cn_w b I F) c s r) : xg d i pc l (.ref (I 5) :: st) (cn_w b I F) c s r :=
  xg_stp hc rfl rfl (by simp only [xi_stp, cn_g5 B F]) h
/-- a piece of an array moves -/
def cn_cp (t : Nat) (F : Nat → Nat) (sp dp n : Nat) : Nat → Nat := fun k => if k % 16 = t ∧ dp ≤ k / 16 ∧ k / 16 < dp + n then F (16 * (sp + (k / 16 - dp)) + t) else F k
theorem cn_cpn (t : Nat) (F : Nat → Nat) (sp dp n : Nat) {k : Nat} (h : ¬ k % 16 = t) : cn_cp t F sp dp n k = F k := if_neg (fun e => h e.1)
theorem cn_cp0 (t : Nat) (F : Nat → Nat) (sp dp : Nat) : cn_cp t F sp dp 0 = F := by
  funext k; exact if_neg (by omega)
theorem cn_cvL (F : Nat → Nat) {t u sp dp n : Nat} (ht : t < 16) (h : t ≠ u) : cn_vL t (cn_cp u F sp dp n) = cn_vL t F := by
  funext k; unfold cn_vL; rw [cn_cpn _ _ _ _ _ (by omega)]
theorem cn_cvI (F : Nat → Nat) {t u sp dp n : Nat} (ht : t < 16) (h : t ≠ u) : cn_vI t (cn_cp u F sp dp n) = cn_vI t F := by
  funext k; unfold cn_vI; rw [cn_cpn _ _ _ _ _ (by omega)]
theorem cn_csL (F : Nat → Nat) {t sp dp n : Nat} (ht : t < 16) : cn_vL t (cn_cp t F sp dp n) = va_cpy (cn_vL t F) (cn_vL t F) sp dp n := by
  funext k; unfold cn_vL va_cpy cn_cp
  rw [show (16 * k + t) / 16 = k by omega, show (16 * k + t) % 16 = t by omega]
  by_cases h : dp ≤ k ∧ k < dp + n
  · rw [if_pos ⟨rfl, h⟩, if_pos h]
  · rw [if_neg (fun e => h e.2), if_neg h]
theorem cn_csI (F : Nat → Nat) {t sp dp n : Nat} (ht : t < 16) : cn_vI t (cn_cp t F sp dp n) = va_cpy (cn_vI t F) (cn_vI t F) sp dp n := by
  funext k; unfold cn_vI va_cpy cn_cp
  rw [show (16 * k + t) / 16 = k by omega, show (16 * k + t) % 16 = t by omega]
  by_cases h : dp ≤ k ∧ k < dp + n
  · rw [if_pos ⟨rfl, h⟩, if_pos h]
  · rw [if_neg (fun e => h e.2), if_neg h]
theorem cn_cW (I F : Nat → Nat) {u sp dp n : Nat} (hu : u < 8) : cn_Wl I (cn_cp u F sp dp n) = cn_Wl I F := by
  unfold cn_Wl
  rw [cn_cpn u F sp dp n (show ¬ 8 % 16 = u by omega), cn_cpn u F sp dp n (show ¬ 24 % 16 = u by omega), cn_cpn u F sp dp n (show ¬ 40 % 16 = u by omega), cn_cpn u F sp dp n (show ¬ 56 % 16 = u by omega), cn_cpn u F sp dp n (show ¬ 72 % 16 = u by omega), cn_cpn u F sp dp n (show ¬ 88 % 16 = u by omega)]
theorem n_not0 {a : Nat} (ha : a < 2147483648) : decide (Int32.ofNat a < 0) = false := decide_eq_false (fun h => by
  have := (n_lt (a := a) (b := 0) ha (by omega)).mp h
  omega)
theorem cn_c3 {b : xi_W} {I : Nat → Nat} {R : Nat × List Value} (B : cn_B b I R) (F : Nat → Nat) (sp dp n : Nat) : (cn_w b I F).set (I 3) (.inl (.long, 220, .inr (.inl (va_cpy (cn_vL 0 F) (cn_vL 0 F) sp dp n)))) = cn_w b I (cn_cp 0 F sp dp n) := by
  refine cn_set B F _ (by omega) (fun k o hk => ?_) (fun o => ?_)
  · unfold cn_f
    rw [cn_cW I F (u := 0) (sp := sp) (dp := dp) (n := n) (by omega), cn_cvL F (t := 1) (u := 0) (sp := sp) (dp := dp) (n := n) (by omega) (by omega), cn_cvI F (t := 2) (u := 0) (sp := sp) (dp := dp) (n := n) (by omega) (by omega), cn_cvI F (t := 3) (u := 0) (sp := sp) (dp := dp) (n := n) (by omega) (by omega), cn_cvI F (t := 4) (u := 0) (sp := sp) (dp := dp) (n := n) (by omega) (by omega), cn_cvI F (t := 5) (u := 0) (sp := sp) (dp := dp) (n := n) (by omega) (by omega), cn_cvI F (t := 6) (u := 0) (sp := sp) (dp := dp) (n := n) (by omega) (by omega), cn_cvI F (t := 7) (u := 0) (sp := sp) (dp := dp) (n := n) (by omega) (by omega), if_neg hk, if_neg hk]
  · unfold cn_f
    rw [if_neg (cn_ne B (s := 3) (t := 0) (by omega) (by omega) (by omega)), if_pos rfl, cn_csL F (by omega)]
theorem cn_ac3 {d i pc : Nat} {l : xi_L} {st : List Value} {c s : Nat} {r : xi_R} {b : xi_W} {I : Nat → Nat} {R : Nat × List Value} {F : Nat → Nat} (B : cn_B b I R) {k sp dp n x : Nat} {y : List Nat} (h1 : sp + n ≤ 220) (h2 : dp + n ≤ 220) (hc : xt_cd i pc = some (.invokestatic k)) (hm : xt_mdp (xt_mo i) k = some (5, x, y)) (hr : Nat.ble (st.map fun v => v.category).sum 8 = true) (h : xg (d + 1) i (pc + 3) l st (cn_w b I (cn_cp 0 F sp dp n)) c s r) : xg (d + 1) i pc l (.int (Int32.ofNat n) :: .int (Int32.ofNat dp) :: .ref (I 3) :: .int (Int32.ofNat sp) :: .ref (I 3) :: st) (cn_w b I F) c s r := by
  refine xg_stp hc rfl (by simp only [xi_inv, hm]) ?_ h
  have e1 : Nat.ble (sp + n) 220 = true := Nat.ble_eq.mpr h1
  have e2 : Nat.ble (dp + n) 220 = true := Nat.ble_eq.mpr h2
  have e3 : Nat.blt 0 (d + 1) = true := Nat.blt_eq.mpr (Nat.succ_pos d)
  have e4 : Nat.beq 5 6 = false ∧ Nat.beq 5 7 = false ∧ Nat.beq 5 8 = false ∧ Nat.beq 5 5 = true := ⟨rfl, rfl, rfl, rfl⟩
  have e5 : Nat.beq 5 11 = false ∧ Nat.beq 5 12 = false := ⟨rfl, rfl⟩
  simp only [xi_stp, hm, cn_gd B (t := 3) (by omega), e5.1, e5.2, e4.1, e4.2.1, e4.2.2.1, e4.2.2.2, cond_false, cond_true, e3, hr, n_not0 (show sp < 2147483648 by omega), n_not0 (show dp < 2147483648 by omega), n_not0 (show n < 2147483648 by omega), Bool.not_false, Bool.and_true, Bool.and_self, cn_g3 B F, n_nat (show sp < 2147483648 by omega), n_nat (show dp < 2147483648 by omega), n_nat (show n < 2147483648 by omega), e1, e2, cn_c3 B F]
theorem cn_c4 {b : xi_W} {I : Nat → Nat} {R : Nat × List Value} (B : cn_B b I R) (F : Nat → Nat) (sp dp n : Nat) : (cn_w b I F).set (I 4) (.inl (.long, 220, .inr (.inl (va_cpy (cn_vL 1 F) (cn_vL 1 F) sp dp n)))) = cn_w b I (cn_cp 1 F sp dp n) := by
  refine cn_set B F _ (by omega) (fun k o hk => ?_) (fun o => ?_)
  · unfold cn_f
    rw [cn_cW I F (u := 1) (sp := sp) (dp := dp) (n := n) (by omega), cn_cvL F (t := 0) (u := 1) (sp := sp) (dp := dp) (n := n) (by omega) (by omega), cn_cvI F (t := 2) (u := 1) (sp := sp) (dp := dp) (n := n) (by omega) (by omega), cn_cvI F (t := 3) (u := 1) (sp := sp) (dp := dp) (n := n) (by omega) (by omega), cn_cvI F (t := 4) (u := 1) (sp := sp) (dp := dp) (n := n) (by omega) (by omega), cn_cvI F (t := 5) (u := 1) (sp := sp) (dp := dp) (n := n) (by omega) (by omega), cn_cvI F (t := 6) (u := 1) (sp := sp) (dp := dp) (n := n) (by omega) (by omega), cn_cvI F (t := 7) (u := 1) (sp := sp) (dp := dp) (n := n) (by omega) (by omega), if_neg hk, if_neg hk]
  · unfold cn_f
    rw [if_neg (cn_ne B (s := 4) (t := 0) (by omega) (by omega) (by omega)), if_neg (cn_ne B (s := 4) (t := 3) (by omega) (by omega) (by omega)), if_pos rfl, cn_csL F (by omega)]
theorem cn_ac4 {d i pc : Nat} {l : xi_L} {st : List Value} {c s : Nat} {r : xi_R} {b : xi_W} {I : Nat → Nat} {R : Nat × List Value} {F : Nat → Nat} (B : cn_B b I R) {k sp dp n x : Nat} {y : List Nat} (h1 : sp + n ≤ 220) (h2 : dp + n ≤ 220) (hc : xt_cd i pc = some (.invokestatic k)) (hm : xt_mdp (xt_mo i) k = some (5, x, y)) (hr : Nat.ble (st.map fun v => v.category).sum 8 = true) (h : xg (d + 1) i (pc + 3) l st (cn_w b I (cn_cp 1 F sp dp n)) c s r) : xg (d + 1) i pc l (.int (Int32.ofNat n) :: .int (Int32.ofNat dp) :: .ref (I 4) :: .int (Int32.ofNat sp) :: .ref (I 4) :: st) (cn_w b I F) c s r := by
  refine xg_stp hc rfl (by simp only [xi_inv, hm]) ?_ h
  have e1 : Nat.ble (sp + n) 220 = true := Nat.ble_eq.mpr h1
  have e2 : Nat.ble (dp + n) 220 = true := Nat.ble_eq.mpr h2
  have e3 : Nat.blt 0 (d + 1) = true := Nat.blt_eq.mpr (Nat.succ_pos d)
  have e4 : Nat.beq 5 6 = false ∧ Nat.beq 5 7 = false ∧ Nat.beq 5 8 = false ∧ Nat.beq 5 5 = true := ⟨rfl, rfl, rfl, rfl⟩
  have e5 : Nat.beq 5 11 = false ∧ Nat.beq 5 12 = false := ⟨rfl, rfl⟩
  simp only [xi_stp, hm, cn_gd B (t := 4) (by omega), e5.1, e5.2, e4.1, e4.2.1, e4.2.2.1, e4.2.2.2, cond_false, cond_true, e3, hr, n_not0 (show sp < 2147483648 by omega), n_not0 (show dp < 2147483648 by omega), n_not0 (show n < 2147483648 by omega), Bool.not_false, Bool.and_true, Bool.and_self, cn_g4 B F, n_nat (show sp < 2147483648 by omega), n_nat (show dp < 2147483648 by omega), n_nat (show n < 2147483648 by omega), e1, e2, cn_c4 B F]
theorem cn_c9 {b : xi_W} {I : Nat → Nat} {R : Nat × List Value} (B : cn_B b I R) (F : Nat → Nat) (sp dp n : Nat) : (cn_w b I F).set (I 9) (.inl (.int, 120, .inl (va_cpy (cn_vI 6 F) (cn_vI 6 F) sp dp n))) = cn_w b I (cn_cp 6 F sp dp n) := by
  refine cn_set B F _ (by omega) (fun k o hk => ?_) (fun o => ?_)
  · unfold cn_f
    rw [cn_cW I F (u := 6) (sp := sp) (dp := dp) (n := n) (by omega), cn_cvL F (t := 0) (u := 6) (sp := sp) (dp := dp) (n := n) (by omega) (by omega), cn_cvL F (t := 1) (u := 6) (sp := sp) (dp := dp) (n := n) (by omega) (by omega), cn_cvI F (t := 2) (u := 6) (sp := sp) (dp := dp) (n := n) (by omega) (by omega), cn_cvI F (t := 3) (u := 6) (sp := sp) (dp := dp) (n := n) (by omega) (by omega), cn_cvI F (t := 4) (u := 6) (sp := sp) (dp := dp) (n := n) (by omega) (by omega), cn_cvI F (t := 5) (u := 6) (sp := sp) (dp := dp) (n := n) (by omega) (by omega), cn_cvI F (t := 7) (u := 6) (sp := sp) (dp := dp) (n := n) (by omega) (by omega), if_neg hk, if_neg hk]
  · unfold cn_f
    rw [if_neg (cn_ne B (s := 9) (t := 0) (by omega) (by omega) (by omega)), if_neg (cn_ne B (s := 9) (t := 3) (by omega) (by omega) (by omega)), if_neg (cn_ne B (s := 9) (t := 4) (by omega) (by omega) (by omega)), if_neg (cn_ne B (s := 9) (t := 5) (by omega) (by omega) (by omega)), if_neg (cn_ne B (s := 9) (t := 6) (by omega) (by omega) (by omega)), if_neg (cn_ne B (s := 9) (t := 7) (by omega) (by omega) (by omega)), if_neg (cn_ne B (s := 9) (t := 8) (by omega) (by omega) (by omega)), if_pos rfl, cn_csI F (by omega)]
theorem cn_ac9 {d i pc : Nat} {l : xi_L} {st : List Value} {c s : Nat} {r : xi_R} {b : xi_W} {I : Nat → Nat} {R : Nat × List Value} {F : Nat → Nat} (B : cn_B b I R) {k sp dp n x : Nat} {y : List Nat} (h1 : sp + n ≤ 120) (h2 : dp + n ≤ 120) (hc : xt_cd i pc = some (.invokestatic k)) (hm : xt_mdp (xt_mo i) k = some (5, x, y)) (hr : Nat.ble (st.map fun v => v.category).sum 8 = true) (h : xg (d + 1) i (pc + 3) l st (cn_w b I (cn_cp 6 F sp dp n)) c s r) : xg (d + 1) i pc l (.int (Int32.ofNat n) :: .int (Int32.ofNat dp) :: .ref (I 9) :: .int (Int32.ofNat sp) :: .ref (I 9) :: st) (cn_w b I F) c s r := by
  refine xg_stp hc rfl (by simp only [xi_inv, hm]) ?_ h
  have e1 : Nat.ble (sp + n) 120 = true := Nat.ble_eq.mpr h1
  have e2 : Nat.ble (dp + n) 120 = true := Nat.ble_eq.mpr h2
  have e3 : Nat.blt 0 (d + 1) = true := Nat.blt_eq.mpr (Nat.succ_pos d)
  have e4 : Nat.beq 5 6 = false ∧ Nat.beq 5 7 = false ∧ Nat.beq 5 8 = false ∧ Nat.beq 5 5 = true := ⟨rfl, rfl, rfl, rfl⟩
  have e5 : Nat.beq 5 11 = false ∧ Nat.beq 5 12 = false := ⟨rfl, rfl⟩
  simp only [xi_stp, hm, cn_gd B (t := 9) (by omega), e5.1, e5.2, e4.1, e4.2.1, e4.2.2.1, e4.2.2.2, cond_false, cond_true, e3, hr, n_not0 (show sp < 2147483648 by omega), n_not0 (show dp < 2147483648 by omega), n_not0 (show n < 2147483648 by omega), Bool.not_false, Bool.and_true, Bool.and_self, cn_g9 B F, n_nat (show sp < 2147483648 by omega), n_nat (show dp < 2147483648 by omega), n_nat (show n < 2147483648 by omega), e1, e2, cn_c9 B F]
theorem cn_c10 {b : xi_W} {I : Nat → Nat} {R : Nat × List Value} (B : cn_B b I R) (F : Nat → Nat) (sp dp n : Nat) : (cn_w b I F).set (I 10) (.inl (.int, 100, .inl (va_cpy (cn_vI 7 F) (cn_vI 7 F) sp dp n))) = cn_w b I (cn_cp 7 F sp dp n) := by
  refine cn_set B F _ (by omega) (fun k o hk => ?_) (fun o => ?_)
  · unfold cn_f
    rw [cn_cW I F (u := 7) (sp := sp) (dp := dp) (n := n) (by omega), cn_cvL F (t := 0) (u := 7) (sp := sp) (dp := dp) (n := n) (by omega) (by omega), cn_cvL F (t := 1) (u := 7) (sp := sp) (dp := dp) (n := n) (by omega) (by omega), cn_cvI F (t := 2) (u := 7) (sp := sp) (dp := dp) (n := n) (by omega) (by omega), cn_cvI F (t := 3) (u := 7) (sp := sp) (dp := dp) (n := n) (by omega) (by omega), cn_cvI F (t := 4) (u := 7) (sp := sp) (dp := dp) (n := n) (by omega) (by omega), cn_cvI F (t := 5) (u := 7) (sp := sp) (dp := dp) (n := n) (by omega) (by omega), cn_cvI F (t := 6) (u := 7) (sp := sp) (dp := dp) (n := n) (by omega) (by omega), if_neg hk, if_neg hk]
  · unfold cn_f
    rw [if_neg (cn_ne B (s := 10) (t := 0) (by omega) (by omega) (by omega)), if_neg (cn_ne B (s := 10) (t := 3) (by omega) (by omega) (by omega)), if_neg (cn_ne B (s := 10) (t := 4) (by omega) (by omega) (by omega)), if_neg (cn_ne B (s := 10) (t := 5) (by omega) (by omega) (by omega)), if_neg (cn_ne B (s := 10) (t := 6) (by omega) (by omega) (by omega)), if_neg (cn_ne B (s := 10) (t := 7) (by omega) (by omega) (by omega)), if_neg (cn_ne B (s := 10) (t := 8) (by omega) (by omega) (by omega)), if_neg (cn_ne B (s := 10) (t := 9) (by omega) (by omega) (by omega)), if_pos rfl, cn_csI F (by omega)]
theorem cn_ac10 {d i pc : Nat} {l : xi_L} {st : List Value} {c s : Nat} {r : xi_R} {b : xi_W} {I : Nat → Nat} {R : Nat × List Value} {F : Nat → Nat} (B : cn_B b I R) {k sp dp n x : Nat} {y : List Nat} (h1 : sp + n ≤ 100) (h2 : dp + n ≤ 100) (hc : xt_cd i pc = some (.invokestatic k)) (hm : xt_mdp (xt_mo i) k = some (5, x, y)) (hr : Nat.ble (st.map fun v => v.category).sum 8 = true) (h : xg (d + 1) i (pc + 3) l st (cn_w b I (cn_cp 7 F sp dp n)) c s r) : xg (d + 1) i pc l (.int (Int32.ofNat n) :: .int (Int32.ofNat dp) :: .ref (I 10) :: .int (Int32.ofNat sp) :: .ref (I 10) :: st) (cn_w b I F) c s r := by
  refine xg_stp hc rfl (by simp only [xi_inv, hm]) ?_ h
  have e1 : Nat.ble (sp + n) 100 = true := Nat.ble_eq.mpr h1
  have e2 : Nat.ble (dp + n) 100 = true := Nat.ble_eq.mpr h2
  have e3 : Nat.blt 0 (d + 1) = true := Nat.blt_eq.mpr (Nat.succ_pos d)
  have e4 : Nat.beq 5 6 = false ∧ Nat.beq 5 7 = false ∧ Nat.beq 5 8 = false ∧ Nat.beq 5 5 = true := ⟨rfl, rfl, rfl, rfl⟩
  have e5 : Nat.beq 5 11 = false ∧ Nat.beq 5 12 = false := ⟨rfl, rfl⟩
  simp only [xi_stp, hm, cn_gd B (t := 10) (by omega), e5.1, e5.2, e4.1, e4.2.1, e4.2.2.1, e4.2.2.2, cond_false, cond_true, e3, hr, n_not0 (show sp < 2147483648 by omega), n_not0 (show dp < 2147483648 by omega), n_not0 (show n < 2147483648 by omega), Bool.not_false, Bool.and_true, Bool.and_self, cn_g10 B F, n_nat (show sp < 2147483648 by omega), n_nat (show dp < 2147483648 by omega), n_nat (show n < 2147483648 by omega), e1, e2, cn_c10 B F]
theorem n_max {a m : Nat} (ha : a < 2147483648) (hm : m < 2147483648) : (if Int32.ofNat a < Int32.ofNat m then Int32.ofNat m else Int32.ofNat a) = Int32.ofNat (max a m) := by
  by_cases h : a < m
  · rw [if_pos ((n_lt ha hm).mpr h), Nat.max_eq_right (Nat.le_of_lt h)]
  · rw [if_neg (fun e => h ((n_lt ha hm).mp e)), Nat.max_eq_left (Nat.le_of_not_lt h)]
theorem n_min {a m : Nat} (ha : a < 2147483648) (hm : m < 2147483648) : (if Int32.ofNat m < Int32.ofNat a then Int32.ofNat m else Int32.ofNat a) = Int32.ofNat (min a m) := by
  by_cases h : m < a
  · rw [if_pos ((n_lt hm ha).mpr h), Nat.min_eq_right (Nat.le_of_lt h)]
  · rw [if_neg (fun e => h ((n_lt hm ha).mp e)), Nat.min_eq_left (Nat.le_of_not_lt h)]
theorem n_smx {a m k : Nat} (ha : a < 2147483648) (hm : m < 2147483648) (hk : k < 2147483648) : (if Int32.ofNat a < Int32.ofNat m - Int32.ofNat k then Int32.ofNat m - Int32.ofNat k else Int32.ofNat a) = Int32.ofNat (max a (m - k)) := by
  by_cases h : k ≤ m
  · rw [n_sub h, n_max ha (by omega)]
  · have e : (Int32.ofNat m - Int32.ofNat k).toInt = (m : Int) - k := by
      rw [Int32.toInt_sub, n_int hm, n_int hk]
      apply Int.bmod_eq_of_le <;> omega
    rw [if_neg, Nat.max_eq_left (by omega)]
    intro h2
    rw [Int32.lt_iff_toInt_lt, e, n_int ha] at h2
    omega
theorem n_xor (a b : Nat) : Int32.ofNat a ^^^ Int32.ofNat b = Int32.ofNat (a ^^^ b) := by
  apply Int32.toBitVec_inj.mp
  show BitVec.ofNat 32 a ^^^ BitVec.ofNat 32 b = BitVec.ofNat 32 (a ^^^ b)
  exact BitVec.ofNat_xor.symm
theorem n_fm {a b : Nat} (ha : a < 2147483648) (hb : b < 2147483648) (h0 : 0 < b) : xi_fm (Int32.ofNat a) (Int32.ofNat b) = Int32.ofNat (a % b) := by
  unfold xi_fm
  have hx : a ^^^ b < 2147483648 := Nat.xor_lt_two_pow (n := 31) ha hb
  rw [n_xor, if_neg (of_decide_eq_false (n_not0 hx)), n_mod ha hb h0]
theorem xn_min {d i pc a b k x : Nat} {y : List Nat} {l : xi_L} {st : List Value} {w : xi_W} {c s : Nat} {r : xi_R} (ha : a < 2147483648) (hb : b < 2147483648) (hc : xt_cd i pc = some (.invokestatic k)) (hm : xt_mdp (xt_mo i) k = some (7, x, y)) (hr : Nat.ble (st.map fun v => v.category).sum 8 = true) (h : xg (d + 1) i (pc + 3) l (.int (Int32.ofNat (min a b)) :: st) w c s r) : xg (d + 1) i pc l (.int (Int32.ofNat b) :: .int (Int32.ofNat a) :: st) w c s r := by
  refine xg_stp hc rfl (by simp only [xi_inv, hm]) ?_ h
  have e5 : Nat.beq 7 11 = false ∧ Nat.beq 7 12 = false := ⟨rfl, rfl⟩
  have e3 : Nat.blt 0 (d + 1) = true := Nat.blt_eq.mpr (Nat.succ_pos d)
  have e4 : Nat.beq 7 6 = false ∧ Nat.beq 7 7 = true := ⟨rfl, rfl⟩
  simp only [xi_stp, hm, cond_false, e5.1, e5.2, e4.1, e4.2, cond_false, cond_true, e3, hr, Bool.and_true, Bool.and_self, n_min ha hb]
theorem xn_max {d i pc a b k x : Nat} {y : List Nat} {l : xi_L} {st : List Value} {w : xi_W} {c s : Nat} {r : xi_R} (ha : a < 2147483648) (hb : b < 2147483648) (hc : xt_cd i pc = some (.invokestatic k)) (hm : xt_mdp (xt_mo i) k = some (6, x, y)) (hr : Nat.ble (st.map fun v => v.category).sum 8 = true) (h : xg (d + 1) i (pc + 3) l (.int (Int32.ofNat (max a b)) :: st) w c s r) : xg (d + 1) i pc l (.int (Int32.ofNat b) :: .int (Int32.ofNat a) :: st) w c s r := by
  refine xg_stp hc rfl (by simp only [xi_inv, hm]) ?_ h
  have e5 : Nat.beq 6 11 = false ∧ Nat.beq 6 12 = false := ⟨rfl, rfl⟩
  have e3 : Nat.blt 0 (d + 1) = true := Nat.blt_eq.mpr (Nat.succ_pos d)
  have e4 : Nat.beq 6 6 = true := rfl
  simp only [xi_stp, hm, cond_false, e5.1, e5.2, e4, cond_true, e3, hr, Bool.and_true, Bool.and_self, n_max ha hb]
/-- a difference, no less than another number -/
theorem xn_smx {d i pc a m q k x : Nat} {y : List Nat} {l : xi_L} {st : List Value} {w : xi_W} {c s : Nat} {r : xi_R} (ha : a < 2147483648) (hq : m < 2147483648) (hk : q < 2147483648) (hc0 : xt_cd i pc = some .isub) (hc : xt_cd i (pc + 1) = some (.invokestatic k)) (hm : xt_mdp (xt_mo i) k = some (6, x, y)) (hr : Nat.ble (st.map fun v => v.category).sum 8 = true) (h : xg (d + 1) i (pc + 4) l (.int (Int32.ofNat (max a (m - q))) :: st) w c s r) : xg (d + 1) i pc l (.int (Int32.ofNat q) :: .int (Int32.ofNat m) :: .int (Int32.ofNat a) :: st) w c s r := by
  refine xg_stp (pc' := pc + 1) (l' := l) (w' := w) (c' := c) (s' := s) (st' := .int (Int32.ofNat m - Int32.ofNat q) :: .int (Int32.ofNat a) :: st) hc0 rfl rfl (by simp only [xi_stp, xi_b2]) ?_
  refine xg_stp hc rfl (by simp only [xi_inv, hm]) ?_ h
  have e5 : Nat.beq 6 11 = false ∧ Nat.beq 6 12 = false := ⟨rfl, rfl⟩
  have e3 : Nat.blt 0 (d + 1) = true := Nat.blt_eq.mpr (Nat.succ_pos d)
  have e4 : Nat.beq 6 6 = true := rfl
  simp only [xi_stp, hm, cond_false, e5.1, e5.2, e4, cond_true, e3, hr, Bool.and_true, Bool.and_self, n_smx ha hq hk]
theorem xn_fm {d i pc a b k x : Nat} {y : List Nat} {l : xi_L} {st : List Value} {w : xi_W} {c s : Nat} {r : xi_R} (ha : a < 2147483648) (hb : b < 2147483648) (h0 : 0 < b) (hc : xt_cd i pc = some (.invokestatic k)) (hm : xt_mdp (xt_mo i) k = some (8, x, y)) (hr : Nat.ble (st.map fun v => v.category).sum 8 = true) (h : xg (d + 1) i (pc + 3) l (.int (Int32.ofNat (a % b)) :: st) w c s r) : xg (d + 1) i pc l (.int (Int32.ofNat b) :: .int (Int32.ofNat a) :: st) w c s r := by
  refine xg_stp hc rfl (by simp only [xi_inv, hm]) ?_ h
  have e5 : Nat.beq 8 11 = false ∧ Nat.beq 8 12 = false := ⟨rfl, rfl⟩
  have e3 : Nat.blt 0 (d + 1) = true := Nat.blt_eq.mpr (Nat.succ_pos d)
  have e4 : Nat.beq 8 6 = false ∧ Nat.beq 8 7 = false ∧ Nat.beq 8 8 = true := ⟨rfl, rfl, rfl⟩
  simp only [xi_stp, hm, cond_false, e5.1, e5.2, e4.1, e4.2.1, e4.2.2, cond_false, cond_true, e3, hr, n_ne0 hb h0, Bool.not_false, Bool.and_true, Bool.and_self, n_fm ha hb h0]
theorem nl_and (a b : Nat) : Int64.ofNat a &&& Int64.ofNat b = Int64.ofNat (a &&& b) := by
  apply Int64.toBitVec_inj.mp
  show BitVec.ofNat 64 a &&& BitVec.ofNat 64 b = BitVec.ofNat 64 (a &&& b)
  exact BitVec.ofNat_and.symm
theorem nl_or (a b : Nat) : Int64.ofNat a ||| Int64.ofNat b = Int64.ofNat (a ||| b) := by
  apply Int64.toBitVec_inj.mp
  show BitVec.ofNat 64 a ||| BitVec.ofNat 64 b = BitVec.ofNat 64 (a ||| b)
  exact BitVec.ofNat_or.symm
theorem nl_xor (a b : Nat) : Int64.ofNat a ^^^ Int64.ofNat b = Int64.ofNat (a ^^^ b) := by
  apply Int64.toBitVec_inj.mp
  show BitVec.ofNat 64 a ^^^ BitVec.ofNat 64 b = BitVec.ofNat 64 (a ^^^ b)
  exact BitVec.ofNat_xor.symm
theorem xn_land {d i pc a b : Nat} {l : xi_L} {st : List Value} {w : xi_W} {c s : Nat} {r : xi_R} (hc : xt_cd i pc = some .land) (h : xg d i (pc + 1) l (.long (Int64.ofNat (a &&& b)) :: st) w c s r) : xg d i pc l (.long (Int64.ofNat b) :: .long (Int64.ofNat a) :: st) w c s r :=
  xg_stp hc rfl rfl (by simp only [xi_stp, xi_b2l, nl_and]) h
theorem xn_lor {d i pc a b : Nat} {l : xi_L} {st : List Value} {w : xi_W} {c s : Nat} {r : xi_R} (hc : xt_cd i pc = some .lor) (h : xg d i (pc + 1) l (.long (Int64.ofNat (a ||| b)) :: st) w c s r) : xg d i pc l (.long (Int64.ofNat b) :: .long (Int64.ofNat a) :: st) w c s r :=
  xg_stp hc rfl rfl (by simp only [xi_stp, xi_b2l, nl_or]) h
theorem xn_lxor {d i pc a b : Nat} {l : xi_L} {st : List Value} {w : xi_W} {c s : Nat} {r : xi_R} (hc : xt_cd i pc = some .lxor) (h : xg d i (pc + 1) l (.long (Int64.ofNat (a ^^^ b)) :: st) w c s r) : xg d i pc l (.long (Int64.ofNat b) :: .long (Int64.ofNat a) :: st) w c s r :=
  xg_stp hc rfl rfl (by simp only [xi_stp, xi_b2l, nl_xor]) h
theorem nl_sm {k : Nat} (hk : k < 64) : (((Int32.ofNat k).toInt64 &&& 63).toBitVec.smod 64).toNat = k := by
  have h : ∀ q : Fin 64, (((Int32.ofNat q.val).toInt64 &&& 63).toBitVec.smod 64).toNat = q.val := by decide +kernel
  exact h ⟨k, hk⟩
theorem nl_shr {v k : Nat} (hv : v < 9223372036854775808) (hk : k < 64) : Int64.ofNat v >>> ((Int32.ofNat k).toInt64 &&& 63) = Int64.ofNat (v / 2 ^ k) := by
  have hlt : v / 2 ^ k < 9223372036854775808 := Nat.lt_of_le_of_lt (Nat.div_le_self _ _) hv
  apply Int64.toInt_inj.mp
  rw [nl_int hlt]
  show (BitVec.sshiftRight' (Int64.ofNat v).toBitVec (((Int32.ofNat k).toInt64 &&& 63).toBitVec.smod 64)).toInt = _
  rw [BitVec.toInt_sshiftRight', nl_sm hk]
  have h1 : (Int64.ofNat v).toBitVec.toInt = v := nl_int hv
  rw [h1, Int.shiftRight_eq_div_pow]
  rfl
theorem nl_shl {v k : Nat} (hk : k < 64) : Int64.ofNat v <<< ((Int32.ofNat k).toInt64 &&& 63) = Int64.ofNat (v * 2 ^ k) := by
  apply Int64.toBitVec_inj.mp
  show (Int64.ofNat v).toBitVec <<< (((Int32.ofNat k).toInt64 &&& 63).toBitVec.smod 64) = BitVec.ofNat 64 (v * 2 ^ k)
  rw [BitVec.shiftLeft_eq', nl_sm hk]
  apply BitVec.eq_of_toNat_eq
  rw [BitVec.toNat_shiftLeft, Nat.shiftLeft_eq, BitVec.toNat_ofNat]
  show (BitVec.ofNat 64 v).toNat * 2 ^ k % 2 ^ 64 = _
  rw [BitVec.toNat_ofNat, Nat.mod_mul_mod]
theorem xn_lshr {d i pc a k : Nat} {l : xi_L} {st : List Value} {w : xi_W} {c s : Nat} {r : xi_R} (ha : a < 9223372036854775808) (hk : k < 64) (hc : xt_cd i pc = some .lshr) (h : xg d i (pc + 1) l (.long (Int64.ofNat (a / 2 ^ k)) :: st) w c s r) : xg d i pc l (.int (Int32.ofNat k) :: .long (Int64.ofNat a) :: st) w c s r :=
  xg_stp hc rfl rfl (by simp only [xi_stp, xi_shl, nl_shr ha hk]) h
theorem xn_lshl {d i pc a k : Nat} {l : xi_L} {st : List Value} {w : xi_W} {c s : Nat} {r : xi_R} (hk : k < 64) (hc : xt_cd i pc = some .lshl) (h : xg d i (pc + 1) l (.long (Int64.ofNat (a * 2 ^ k)) :: st) w c s r) : xg d i pc l (.int (Int32.ofNat k) :: .long (Int64.ofNat a) :: st) w c s r :=
  xg_stp hc rfl rfl (by simp only [xi_stp, xi_shl, nl_shl hk]) h
/-- two longs compared, a branch over that: alike or not -/
theorem xn_lcmp {d i pc a b : Nat} {l : xi_L} {st : List Value} {w : xi_W} {c s : Nat} {r : xi_R} (ha : a < 18446744073709551616) (hb : b < 18446744073709551616) (hc : xt_cd i pc = some .lcmp) (h : ∀ e : Int32, (e = 0 ↔ a = b) → xg d i (pc + 1) l (.int e :: st) w c s r) : xg d i pc l (.long (Int64.ofNat b) :: .long (Int64.ofNat a) :: st) w c s r :=
  xg_stp (st' := .int (lg_cmp (Int64.ofNat a) (Int64.ofNat b)) :: st) hc rfl rfl (by simp only [xi_stp, xi_b2l]) (h _ ((lg_cmp_eq _ _).trans (nl_eq ha hb)))
theorem nc_eq {off : Int} {e : Int32} {p : Prop} (he : e = 0 ↔ p) (h : xg_t1 (.ifCond .eq off) e = true) : p := he.mp (of_decide_eq_true h)
theorem nd_eq {off : Int} {e : Int32} {p : Prop} (he : e = 0 ↔ p) (h : xg_t1 (.ifCond .eq off) e = false) : ¬ p := fun q => of_decide_eq_false h (he.mpr q)
theorem nc_ne {off : Int} {e : Int32} {p : Prop} (he : e = 0 ↔ p) (h : xg_t1 (.ifCond .ne off) e = true) : ¬ p := fun q => by
  have h2 : (!decide (e = 0)) = true := h
  rw [decide_eq_true (he.mpr q)] at h2
  cases h2
theorem nd_ne {off : Int} {e : Int32} {p : Prop} (he : e = 0 ↔ p) (h : xg_t1 (.ifCond .ne off) e = false) : p := by
  have h2 : (!decide (e = 0)) = false := h
  by_cases q : e = 0
  · exact he.mp q
  · rw [decide_eq_false q] at h2; cases h2
