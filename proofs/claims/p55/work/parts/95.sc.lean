/-! the law's scene: the class, the law's row, the script -/
theorem cmx.keep {nn : Nat} {f : Nat → Int32} {q dl tx sy T N fi m mm : Nat} {G : Nat → Nat} {GS : Nat → Nat → Nat} {P : Nat → Prop} {W W' : xi_W} (h : cmx nn f q dl tx sy T N fi m mm G GS W) (hf : fr P W W') (hp : ∀ i, i < 696 → P i → (360 ≤ i ∧ i < 687) ∨ i = 357) : cmx nn f q dl tx sy T N fi m mm G GS W' := by
  obtain ⟨⟨b0, ⟨RD, b1, b2⟩, b3, b4, b5, b6, b7⟩, ⟨lf, lp, a2⟩, a3, ⟨WF, a4, a4b⟩, a5, ⟨F0, a6, a6b⟩, ⟨F3, a7⟩, a8, a9, a10, a11⟩ := h
  have hk : ∀ {b : Nat} {F : Nat → Nat}, kw W b F → wb b → b + 10 ≤ 355 → kw W' b F := fun {b F} hw hb h2 => hw.keep hb b0 hf (fun i z1 z2 z => by
    have := hp i (by omega) z
    omega)
  have n : ∀ i, i < 357 → ¬ P i := fun i hi z => by have := hp i (by omega) z; omega
  exact ⟨⟨Nat.le_trans b0 hf.1, ⟨RD, hf.at b1 (n _ (by omega)), b2⟩, b3, b4, b5.keep hf (fun i hi z => by
    have := hp i (by omega) z
    omega), b6.keep hf (fun z => by have := hp _ (by omega) z; omega) (fun z => by have := hp _ (by omega) z; omega), hf.at b7 (n _ (by omega))⟩, ⟨lf, lp, hf.at a2 (n _ (by omega))⟩, hf.at a3 (n _ (by omega)), ⟨WF, hf.at a4 (n _ (by omega)), a4b⟩, a5, ⟨F0, hk a6 wb23 (by omega), a6b⟩, ⟨F3, hk a7 wb33 (by omega)⟩, fun i hi => by
    obtain ⟨F, c1, c2⟩ := a8 i hi
    exact ⟨F, hk c1 (wbS hi) (by omega), c2⟩, a9, a10, a11⟩
def scn (nn : Nat) (f : Nat → Int32) (q dl tx sy T N fi m mm : Nat) (G : Nat → Nat) (GS : Nat → Nat → Nat) (A : Nat) (W : xi_W) : Prop := cmx nn f q dl tx sy T N fi m mm G GS W ∧ W[A]? = some (lw_a 1804 G) ∧ W[16]? = some (lw_s nn f) ∧ 696 ≤ A ∧ ab G ∧ N < 80000 ∧ nn < 2147483648
theorem scn.new {nn : Nat} {f : Nat → Int32} {q dl tx sy T N fi m mm A : Nat} {G : Nat → Nat} {GS : Nat → Nat → Nat} {W W' : xi_W} (h : scn nn f q dl tx sy T N fi m mm G GS A W) (hf : fr (fun _ => False) W W') : scn nn f q dl tx sy T N fi m mm G GS A W' := ⟨h.1.keep hf (fun _ _ z => z.elim), hf.at h.2.1 (fun z => z), hf.at h.2.2.1 (fun z => z), h.2.2.2⟩
/-- a class call's writes -/
theorem scn.cls {nn : Nat} {f : Nat → Int32} {q dl tx sy T N fi m mm A : Nat} {G : Nat → Nat} {GS : Nat → Nat → Nat} {W W' : xi_W} (h : scn nn f q dl tx sy T N fi m mm G GS A W) (hc : cmx nn f q dl tx sy T N fi m mm G GS W') (hf : fr pq W W') : scn nn f q dl tx sy T N fi m mm G GS A W' := ⟨hc, hf.at h.2.1 (fun z => by have := h.2.2.2.1; unfold pq at z; omega), hf.at h.2.2.1 (fun z => by unfold pq at z; omega), h.2.2.2⟩
/-- writes into other rows of the law -/
theorem scn.oth {nn : Nat} {f : Nat → Int32} {q dl tx sy T N fi m mm A : Nat} {G : Nat → Nat} {GS : Nat → Nat → Nat} {P : Nat → Prop} {W W' : xi_W} (h : scn nn f q dl tx sy T N fi m mm G GS A W) (hf : fr P W W') (hp : ∀ i, P i → 696 ≤ i ∧ i ≠ A) : scn nn f q dl tx sy T N fi m mm G GS A W' := ⟨h.1.keep hf (fun i hi z => by have := hp i z; omega), hf.at h.2.1 (fun z => (hp _ z).2 rfl), hf.at h.2.2.1 (fun z => by have := hp _ z; omega), h.2.2.2⟩
theorem fr.cc {W0 W W' : xi_W} (h : fr pq W0 W) (h2 : fr pq W W') : fr pq W0 W' := h.tr h2
theorem fr.nn {W0 W W' : xi_W} (h : fr pq W0 W) (h2 : fr (fun _ => False) W W') : fr pq W0 W' := h.tr2 h2 (fun _ z => z.elim)
theorem xs_clo {d i pc a n k x : Nat} {y : List Nat} {l : xi_L} {st : List Value} {w : xi_W} {c s : Nat} {r : xi_R → Prop} {G : Nat → Nat} (hw : w[a]? = some (lw_a n G)) (hg : 17 ≤ a) (hc : xt_cd i pc = some (.invokevirtual k)) (hm : xt_mdp (xt_mo i) k = some (10, x, y)) (he : xi_inv i (.invokevirtual k) (.ref a :: st) w = none) (hr : Nat.ble (st.map fun v => v.category).sum 8 = true) (h : ∀ R w', R = w.length → w'[R]? = some (lw_a n G) → fr (fun _ => False) w w' → xr (d + 1) i (pc + 3) l (.ref R :: st) w' (c + 1) (s + n) r) : xr (d + 1) i pc l (.ref a :: st) w c s r := by
  have hg2 : Nat.ble 17 a = true := Nat.ble_eq.mpr hg
  refine xr_stp (pc' := pc + 3) (l' := l) (st' := .ref w.length :: st) (w' := w ++ [lw_a n G]) (c' := c + 1) (s' := s + n) hc rfl he ?_ (h w.length _ rfl (by simp) fr.push)
  have hw2 : w[a]? = some (.inl (.long, n, .inr (.inl (fun j => Int64.ofNat (G j))))) := hw
  simp only [xi_stp, hm, hw2, hg2, hr, Bool.true_and, cond_true]
  rfl
theorem xs_chk {d i pc a n k : Nat} {q : Nat × Nat} {l : xi_L} {st : List Value} {w : xi_W} {c s : Nat} {r : xi_R → Prop} {G : Nat → Nat} (hw : w[a]? = some (lw_a n G)) (hg : 17 ≤ a) (hc : xt_cd i pc = some (.checkcast k)) (hm : xt_adp (xt_mo i) k = some q) (hq : Nat.beq q.1 1 = true) (h : xr d i (pc + 3) l (.ref a :: st) w c s r) : xr d i pc l (.ref a :: st) w c s r := by
  have hg2 : Nat.ble 17 a = true := Nat.ble_eq.mpr hg
  have hw2 : w[a]? = some (.inl (.long, n, .inr (.inl (fun j => Int64.ofNat (G j))))) := hw
  refine xr_stp (pc' := pc + 3) (l' := l) (st' := .ref a :: st) (w' := w) (c' := c) (s' := s) hc rfl rfl ?_ h
  simp only [xi_stp, hm, hw2, hg2, hq, Bool.and_true, cond_true]
