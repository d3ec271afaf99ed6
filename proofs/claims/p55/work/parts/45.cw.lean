/-! the class's world, as a fact of a world -/
def cw_at (W : xi_W) (I F : Nat → Nat) : Prop := cn_w W I F = W
/-- the World's own objects -/
def cw_in (I : Nat → Nat) (i : Nat) : Prop := i = I 0 ∨ i = I 3 ∨ i = I 4 ∨ i = I 5 ∨ i = I 6 ∨ i = I 7 ∨ i = I 8 ∨ i = I 9 ∨ i = I 10
theorem cw_fo {I : Nat → Nat} (F : Nat → Nat) {k : Nat} (o : xi_O) (h : ¬ cw_in I k) : cn_f I F k o = o := by
  unfold cw_in at h
  unfold cn_f
  rw [if_neg (fun e => h (Or.inl e)), if_neg (fun e => h (Or.inr (Or.inl e))), if_neg (fun e => h (Or.inr (Or.inr (Or.inl e)))), if_neg (fun e => h (Or.inr (Or.inr (Or.inr (Or.inl e))))), if_neg (fun e => h (Or.inr (Or.inr (Or.inr (Or.inr (Or.inl e)))))), if_neg (fun e => h (Or.inr (Or.inr (Or.inr (Or.inr (Or.inr (Or.inl e))))))), if_neg (fun e => h (Or.inr (Or.inr (Or.inr (Or.inr (Or.inr (Or.inr (Or.inl e)))))))), if_neg (fun e => h (Or.inr (Or.inr (Or.inr (Or.inr (Or.inr (Or.inr (Or.inr (Or.inl e))))))))), if_neg (fun e => h (Or.inr (Or.inr (Or.inr (Or.inr (Or.inr (Or.inr (Or.inr (Or.inr e))))))))) ]
theorem cw_fi {I : Nat → Nat} (F : Nat → Nat) {k : Nat} (o o' : xi_O) (h : cw_in I k) : cn_f I F k o = cn_f I F k o' := by
  unfold cn_f
  split
  · rfl
  split
  · rfl
  split
  · rfl
  split
  · rfl
  split
  · rfl
  split
  · rfl
  split
  · rfl
  split
  · rfl
  split
  · rfl
  rename_i h0 h3 h4 h5 h6 h7 h8 h9 h10
  unfold cw_in at h
  exact absurd h (fun z => z.elim h0 (fun z => z.elim h3 (fun z => z.elim h4 (fun z => z.elim h5 (fun z => z.elim h6 (fun z => z.elim h7 (fun z => z.elim h8 (fun z => z.elim h9 h10))))))))
theorem cw_f2 (I F G : Nat → Nat) (k : Nat) (o : xi_O) : cn_f I G k (cn_f I F k o) = cn_f I G k o := by
  by_cases h : cw_in I k
  · exact cw_fi G _ _ h
  · rw [cw_fo F o h]
theorem cw_w (b : xi_W) (I F G : Nat → Nat) : cn_w (cn_w b I F) I G = cn_w b I G := by
  apply List.ext_getElem?
  intro k
  unfold cn_w
  rw [List.getElem?_mapIdx, List.getElem?_mapIdx, List.getElem?_mapIdx]
  cases b[k]? with
  | none => rfl
  | some o =>
    simp only [Option.map_some]
    rw [cw_f2]
theorem cw_at.of (b : xi_W) (I F : Nat → Nat) : cw_at (cn_w b I F) I F := cw_w b I F F
theorem cw_fr (W : xi_W) (I F : Nat → Nat) : fr (cw_in I) W (cn_w W I F) := by
  refine ⟨by unfold cn_w; rw [List.length_mapIdx]; exact Nat.le_refl _, fun i hi h => ?_⟩
  unfold cn_w
  rw [List.getElem?_mapIdx]
  cases W[i]? with
  | none => rfl
  | some o =>
    simp only [Option.map_some]
    rw [cw_fo F o h]
/-- a method of the class, told of a world of which something is known -/
theorem xr_cw {d j c s c' s' : Nat} {av : xi_L} {W : xi_W} {I F F' : Nat → Nat} {v : Option Value} {r : xi_R → Prop} (h : cw_at W I F) (hx : xg d j 0 av [] (cn_w W I F) c s (v, cn_w W I F', c', s')) (k : ∀ W', cw_at W' I F' → fr (cw_in I) W W' → r (v, W', c', s')) : xr d j 0 av [] W c s r :=
  ⟨_, Eq.mp (congrArg (fun w => xg d j 0 av [] w c s (v, cn_w W I F', c', s')) h) hx, k _ (cw_at.of W I F') (cw_fr W I F')⟩
/-- what else changes keeps the class's world as it is -/
theorem cw_at.keep {P : Nat → Prop} {W W' : xi_W} {I F : Nat → Nat} (h : cw_at W I F) (hf : fr P W W') (hl : ∀ i, cw_in I i → i < W.length ∧ ¬ P i) : cw_at W' I F := by
  unfold cw_at at h ⊢
  apply List.ext_getElem?
  intro k
  by_cases hk : cw_in I k
  · obtain ⟨h1, h2⟩ := hl k hk
    have e1 : (cn_w W I F)[k]? = W[k]? := by rw [h]
    rw [hf.2 k h1 h2, ← e1]
    unfold cn_w
    rw [List.getElem?_mapIdx, List.getElem?_mapIdx, hf.2 k h1 h2]
  · unfold cn_w
    rw [List.getElem?_mapIdx]
    cases W'[k]? with
    | none => rfl
    | some o =>
      simp only [Option.map_some]
      rw [cw_fo F o hk]
