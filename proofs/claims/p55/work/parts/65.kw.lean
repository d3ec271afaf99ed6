/-! the class's Worlds in the memory: World at b, its parts behind it; the rules at 355 .. 359 -/
def wI (b : Nat) : Nat → Nat := fun i => if i = 2 then 355 else if i ≤ 1 then b + i else b + i - 1
def wb (b : Nat) : Prop := 17 ≤ b ∧ b + 10 ≤ 687 ∧ (b + 10 ≤ 355 ∨ 360 ≤ b)
def kin (b : Nat) : Nat → Prop := fun i => b ≤ i ∧ i < b + 10 ∧ i ≠ b + 1
def kw (W : xi_W) (b : Nat) (F : Nat → Nat) : Prop := cw_at W (wI b) F ∧ W[b + 1]? = some (.inr (0, [.ref (b + 2), .ref (b + 3), .ref (b + 4)]))
theorem wI_in {b i : Nat} (h : cw_in (wI b) i) : kin b i := by
  unfold cw_in wI at h
  unfold kin
  simp only [show ¬ (0 : Nat) = 2 from by decide, show ¬ (3 : Nat) = 2 from by decide, show ¬ (4 : Nat) = 2 from by decide, show ¬ (5 : Nat) = 2 from by decide, show ¬ (6 : Nat) = 2 from by decide, show ¬ (7 : Nat) = 2 from by decide, show ¬ (8 : Nat) = 2 from by decide, show ¬ (9 : Nat) = 2 from by decide, show ¬ (10 : Nat) = 2 from by decide, show (0 : Nat) ≤ 1 from by decide, show ¬ (3 : Nat) ≤ 1 from by decide, show ¬ (4 : Nat) ≤ 1 from by decide, show ¬ (5 : Nat) ≤ 1 from by decide, show ¬ (6 : Nat) ≤ 1 from by decide, show ¬ (7 : Nat) ≤ 1 from by decide, show ¬ (8 : Nat) ≤ 1 from by decide, show ¬ (9 : Nat) ≤ 1 from by decide, show ¬ (10 : Nat) ≤ 1 from by decide, if_false, if_true] at h
  omega
theorem kw.B {W : xi_W} {b : Nat} {F : Nat → Nat} (h : kw W b F) (hb : wb b) (hl : 687 ≤ W.length) {L : List Value} (hR : W[355]? = some (.inr (2, L))) : cn_B W (wI b) (2, L) := by
  obtain ⟨b1, b2, b3⟩ := hb
  refine ⟨fun i j hi hj e => ?_, fun i hi => ?_, h.2, hR, rfl, trivial⟩
  · unfold wI at e
    split at e <;> split at e <;> (try split at e) <;> (try split at e) <;> omega
  · unfold wI
    split
    · omega
    · split <;> omega
theorem kw.keep {P : Nat → Prop} {W W' : xi_W} {b : Nat} {F : Nat → Nat} (h : kw W b F) (hb : wb b) (hl : 687 ≤ W.length) (hf : fr P W W') (hp : ∀ i, b ≤ i → i < b + 10 → ¬ P i) : kw W' b F := by
  have hb2 := hb.2.1
  refine ⟨h.1.keep hf (fun i hi => ?_), ?_⟩
  · have := wI_in hi
    unfold kin at this
    exact ⟨by omega, hp i this.1 this.2.1⟩
  · exact hf.at h.2 (hp _ (by omega) (by omega))
/-- a method of a World that was told of its numbers -/
theorem xr_kw {d j c s c' s' : Nat} {av : xi_L} {W : xi_W} {b : Nat} {F F' : Nat → Nat} {v : Option Value} {r : xi_R → Prop} (h : kw W b F) (hx : xg d j 0 av [] (cn_w W (wI b) F) c s (v, cn_w W (wI b) F', c', s')) (k : ∀ W', kw W' b F' → fr (kin b) W W' → r (v, W', c', s')) : xr d j 0 av [] W c s r :=
  xr_cw h.1 hx (fun W' h1 h2 => by
    have hf := h2.weak (P2 := kin b) (fun i _ hi => wI_in hi)
    exact k W' ⟨h1, hf.at h.2 (fun z => z.2.2 rfl)⟩ hf)
theorem kw.get {W : xi_W} {b : Nat} {F : Nat → Nat} (h : kw W b F) {i : Nat} {o : xi_O} (e : (cn_w W (wI b) F)[i]? = some o) : W[i]? = some o := by
  have h1 := h.1
  unfold cw_at at h1
  rw [h1] at e
  exact e
theorem kw.w {W : xi_W} {b : Nat} {F : Nat → Nat} (h : kw W b F) (hb : wb b) (hl : 687 ≤ W.length) {L : List Value} (hR : W[355]? = some (.inr (2, L))) : W[b]? = some (.inr (5, [.ref (b + 1), .ref (b + 5), .ref (b + 6), .ref (b + 7), .ref (b + 8), .ref (b + 9), .int (Int32.ofNat (F 8)), .int (Int32.ofNat (F 24)), .int (Int32.ofNat (F 40)), .int (Int32.ofNat (F 56)), .int (Int32.ofNat (F 72)), .int (Int32.ofNat (F 88))])) := h.get (cn_g0 (h.B hb hl hR) F)
theorem kw.k {W : xi_W} {b : Nat} {F : Nat → Nat} (h : kw W b F) (hb : wb b) (hl : 687 ≤ W.length) {L : List Value} (hR : W[355]? = some (.inr (2, L))) : W[b + 2]? = some (lw_a 220 (fun j => F (16 * j + 0))) := h.get (cn_g3 (h.B hb hl hR) F)
theorem kw.a {W : xi_W} {b : Nat} {F : Nat → Nat} (h : kw W b F) (hb : wb b) (hl : 687 ≤ W.length) {L : List Value} (hR : W[355]? = some (.inr (2, L))) : W[b + 3]? = some (lw_a 220 (fun j => F (16 * j + 1))) := h.get (cn_g4 (h.B hb hl hR) F)
theorem kw.c {W : xi_W} {b : Nat} {F : Nat → Nat} (h : kw W b F) (hb : wb b) (hl : 687 ≤ W.length) {L : List Value} (hR : W[355]? = some (.inr (2, L))) : W[b + 4]? = some (lw_i 256 (fun j => F (16 * j + 2))) := h.get (cn_g5 (h.B hb hl hR) F)
theorem kw.q {W : xi_W} {b : Nat} {F : Nat → Nat} (h : kw W b F) (hb : wb b) (hl : 687 ≤ W.length) {L : List Value} (hR : W[355]? = some (.inr (2, L))) : W[b + 5]? = some (lw_i 16 (fun j => F (16 * j + 3))) := h.get (cn_g6 (h.B hb hl hR) F)
theorem kw.m {W : xi_W} {b : Nat} {F : Nat → Nat} (h : kw W b F) (hb : wb b) (hl : 687 ≤ W.length) {L : List Value} (hR : W[355]? = some (.inr (2, L))) : W[b + 6]? = some (lw_i 4 (fun j => F (16 * j + 4))) := h.get (cn_g7 (h.B hb hl hR) F)
theorem kw.d {W : xi_W} {b : Nat} {F : Nat → Nat} (h : kw W b F) (hb : wb b) (hl : 687 ≤ W.length) {L : List Value} (hR : W[355]? = some (.inr (2, L))) : W[b + 7]? = some (lw_i 4 (fun j => F (16 * j + 5))) := h.get (cn_g8 (h.B hb hl hR) F)
theorem kw.f {W : xi_W} {b : Nat} {F : Nat → Nat} (h : kw W b F) (hb : wb b) (hl : 687 ≤ W.length) {L : List Value} (hR : W[355]? = some (.inr (2, L))) : W[b + 8]? = some (lw_i 120 (fun j => F (16 * j + 6))) := h.get (cn_g9 (h.B hb hl hR) F)
theorem kw.l {W : xi_W} {b : Nat} {F : Nat → Nat} (h : kw W b F) (hb : wb b) (hl : 687 ≤ W.length) {L : List Value} (hR : W[355]? = some (.inr (2, L))) : W[b + 9]? = some (lw_i 100 (fun j => F (16 * j + 7))) := h.get (cn_g10 (h.B hb hl hR) F)
theorem kin.n {b i : Nat} (h : i < b ∨ b + 10 ≤ i ∨ i = b + 1) : ¬ kin b i := fun z => by
  unfold kin at z
  omega
