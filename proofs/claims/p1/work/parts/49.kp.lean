/-! a run keeps what class an object is of -/
def lx_kp (w w' : xi_W) : Prop := ∀ (i : Nat) (o : Nat × List Value), w[i]? = some (.inr o) → ∃ FS, w'[i]? = some (.inr (o.1, FS))
theorem lx_kp.rf {w : xi_W} : lx_kp w w := fun _ o h => ⟨o.2, h⟩
theorem lx_kp.tr {a b c : xi_W} (h1 : lx_kp a b) (h2 : lx_kp b c) : lx_kp a c := fun i o h => by
  obtain ⟨F1, e1⟩ := h1 i o h
  exact h2 i (o.1, F1) e1
theorem lx_kp.push {w : xi_W} {x : xi_O} : lx_kp w (w ++ [x]) := fun i o h => ⟨o.2, by rw [List.getElem?_append_left (List.getElem?_eq_some_iff.mp h).1]; exact h⟩
theorem lx_kp.setr {w : xi_W} {a : Nat} {o : Nat × List Value} {FS : List Value} (h : w[a]? = some (.inr o)) : lx_kp w (w.set a (.inr (o.1, FS))) := fun i o2 h2 => by
  by_cases e : a = i
  · subst e
    have hl := (List.getElem?_eq_some_iff.mp h).1
    rw [h] at h2
    cases h2
    exact ⟨FS, by rw [List.getElem?_set, if_pos rfl, if_pos hl]⟩
  · exact ⟨o2.2, by rw [List.getElem?_set, if_neg e]; exact h2⟩
theorem lx_kp.setl {w : xi_W} {a : Nat} {x y : FieldType × Nat × ((Nat → Int32) ⊕ ((Nat → Int64) ⊕ (Nat → Option Nat)))} (h : w[a]? = some (.inl x)) : lx_kp w (w.set a (.inl y)) := fun i o2 h2 => by
  by_cases e : a = i
  · subst e
    rw [h] at h2
    cases h2
  · exact ⟨o2.2, by rw [List.getElem?_set, if_neg e]; exact h2⟩
set_option maxHeartbeats 4000000 in
theorem lx_stp_kp {i d : Nat} {ins : Jvm.ClassFile.Instr} {pc : Nat} {l : xi_L} {st : List Value} {w : xi_W} {c s : Nat} {X : xi_F} (h : xi_stp i d ins pc l st w c s = some X) : lx_kp w X.2.2.2.1 := by
  have key : ∀ {a : Nat} {b : xi_L} {f : List Value} {g : xi_W} {c' s' : Nat}, some (a, b, f, g, c', s') = some X → lx_kp w g → lx_kp w X.2.2.2.1 := by
    intro a b f g c' s' q h1
    cases q
    exact h1
  cases ins
  case ifCond cnd off =>
    cases cnd <;> simp only [xi_stp, xi_j1, Bool.cond_eq_ite] at h <;> (repeat' split at h) <;> first | (cases h; done) | exact key h lx_kp.rf
  case if_icmp cnd off =>
    cases cnd <;> simp only [xi_stp, xi_j2, Bool.cond_eq_ite] at h <;> (repeat' split at h) <;> first | (cases h; done) | exact key h lx_kp.rf
  case newarray t =>
    cases t <;> simp only [xi_stp, Bool.cond_eq_ite] at h <;> (repeat' split at h) <;> first | (cases h; done) | exact key h lx_kp.push
  all_goals (simp only [xi_stp, xi_u1, xi_u1l, xi_b2, xi_b2l, xi_shl, xi_ld, Bool.cond_eq_ite] at h)
  all_goals first | (cases h; done) | skip
  all_goals (repeat' split at h)
  all_goals first | (cases h; done) | exact key h lx_kp.rf | exact key h lx_kp.push | (refine key h (lx_kp.setr ?_); assumption) | (refine key h ?_; apply lx_kp.setl; assumption)
theorem lx_ev_kp : ∀ (n : Nat) {d i pc : Nat} {l : xi_L} {st : List Value} {w : xi_W} {c s : Nat} {res : xi_R}, xi_ev n d i pc l st w c s = some res → lx_kp w res.2.1
  | 0, _, _, _, _, _, _, _, _, _, h => by simp [xi_ev] at h
  | n + 1, d, i, pc, l, st, w, c, s, res, h => by
    unfold xi_ev at h
    split at h
    · cases h
    · split at h
      · cases h; exact lx_kp.rf
      · split at h
        · split at h
          · cases h
          · split at h
            · cases h
            · rename_i hc
              exact (lx_ev_kp n hc).tr (lx_ev_kp n h)
        · split at h
          · cases h
          · rename_i hs
            have h1 := lx_stp_kp hs
            exact h1.tr (lx_ev_kp n h)
theorem lx_xg_kp {d i pc : Nat} {l : xi_L} {st : List Value} {w : xi_W} {c s : Nat} {res : xi_R} (h : xg d i pc l st w c s res) : lx_kp w res.2.1 := by
  obtain ⟨n, h⟩ := h
  exact lx_ev_kp n h
