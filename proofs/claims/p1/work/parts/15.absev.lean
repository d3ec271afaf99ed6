def ag_vo (a : Option ab_V) (v : Option Value) : Prop := match a with
  | none => v = none
  | some a => ∃ V, v = some V ∧ ag_v a V
theorem ag_vo_st {a : Option ab_V} {v : Option Value} (h : ag_vo a v) : ag_s a.toList v.toList := by
  cases a with
  | none => rw [show v = none from h]; rfl
  | some a => obtain ⟨V, h1, h2⟩ := h; rw [h1]; exact ⟨V, [], rfl, h2, rfl⟩
theorem ag_none {i d : Nat} {ins : Jvm.ClassFile.Instr} {pc : Nat} {l : ab_L} {st : List ab_V} {w : ab_W} {c s : Nat} {A : ab_F} {ST : List Value} {W0 : xi_W} (h : ab_stp i d ins pc l st w c s = some A) : xi_end i ins ST = none ∧ xi_inv i ins ST W0 = none := by
  cases ins
  case invokevirtual k =>
    simp only [ab_stp] at h
    split at h
    · rename_i a r q hq
      obtain ⟨h1, -⟩ := xi_cond h
      rw [Bool.and_eq_true] at h1
      obtain ⟨q0, j, ps⟩ := q
      have e := Nat.eq_of_beq_eq_true h1.1
      dsimp only at e
      subst e
      exact ⟨rfl, by simp only [xi_inv, hq]⟩
    · cases h
  case invokespecial k =>
    simp only [ab_stp] at h
    split at h
    · rename_i a r q hq
      obtain ⟨h1, -⟩ := xi_cond h
      rw [Bool.and_eq_true] at h1
      obtain ⟨q0, j, ps⟩ := q
      have e := Nat.eq_of_beq_eq_true h1.1
      dsimp only at e
      subst e
      exact ⟨rfl, by simp only [xi_inv, hq]; rfl⟩
    · cases h
  case invokestatic k =>
    simp only [ab_stp] at h
    split at h
    · cases h
    · rename_i q hq
      obtain ⟨q0, j, ps⟩ := q
      refine ⟨rfl, ?_⟩
      simp only [xi_inv, hq]
      split
      · rename_i j' ps' heq
        cases heq
        exact absurd h (by intro h; cases h)
      · rfl
  all_goals first | (cases h; done) | exact ⟨rfl, rfl⟩
theorem ag_end {i : Nat} {ins : Jvm.ClassFile.Instr} {st : List ab_V} {ST : List Value} {v : Option ab_V} (h : ab_end i ins st = some v) (hs : ag_s st ST) : ∃ V, xi_end i ins ST = some V ∧ ag_vo v V := by
  cases ins with
  | return_ =>
    simp only [ab_end] at h
    split at h
    · rename_i hr
      cases h
      cases hs
      exact ⟨none, by simp only [xi_end, hr], rfl⟩
    · cases h
  | ireturn =>
    simp only [ab_end] at h
    split at h
    · rename_i v hr
      obtain ⟨h1, h2⟩ := xi_cond h
      cases h2
      obtain ⟨V, R, rfl, hv, hs1⟩ := hs
      cases hs1
      obtain ⟨x, rfl⟩ := ag_isI hv h1
      exact ⟨some (.int x), by simp only [xi_end, hr], _, rfl, hv⟩
    · rename_i x hr
      obtain ⟨h1, h2⟩ := xi_cond h
      cases h2
      obtain ⟨V, R, rfl, hv, hs1⟩ := hs
      cases hs1
      cases hv
      exact ⟨some (.int x), by simp only [xi_end, hr, h1, cond_true], _, rfl, rfl⟩
    · cases h
  | lreturn =>
    simp only [ab_end] at h
    split at h
    · rename_i x hr
      cases h
      obtain ⟨V, R, rfl, hv, hs1⟩ := hs
      cases hs1
      cases hv
      exact ⟨some (.long x), by simp only [xi_end, hr], _, rfl, rfl⟩
    · cases h
  | areturn =>
    simp only [ab_end] at h
    split at h
    · rename_i n hr
      cases h
      obtain ⟨V, R, rfl, hv, hs1⟩ := hs
      cases hs1
      cases hv
      exact ⟨some .null, by simp only [xi_end, hr], _, rfl, rfl⟩
    · rename_i a n hr
      cases h
      obtain ⟨V, R, rfl, hv, hs1⟩ := hs
      cases hs1
      cases hv
      exact ⟨some (.ref a), by simp only [xi_end, hr], _, rfl, rfl⟩
    · rename_i a n hr
      cases h
      obtain ⟨V, R, rfl, hv, hs1⟩ := hs
      cases hs1
      cases hv
      exact ⟨some (.ref a), by simp only [xi_end, hr], _, rfl, rfl⟩
    · cases h
  | _ => cases h
theorem ag_rm1 {j : Nat} {av rest : List ab_V} {AV REST : List Value} (h : ab_rm1 j av rest = true) (h1 : ag_s av AV) (h2 : ag_s rest REST) : xi_rm1 j AV REST = true := by
  unfold ab_rm1 at h
  unfold xi_rm1
  rw [h2.cats, ag_sl h1]
  exact h
theorem ag_inv {i : Nat} {ins : Jvm.ClassFile.Instr} {st av rest : List ab_V} {w : ab_W} {j : Nat} {ST : List Value} {W0 : xi_W} (h : ab_inv i ins st w = some (j, av, rest)) (hs : ag_s st ST) (hw : ag_w w W0) : ∃ AV REST, xi_inv i ins ST W0 = some (j, AV, REST) ∧ xi_end i ins ST = none ∧ ag_s av AV ∧ ag_s rest REST := by
  cases ins with
  | invokevirtual k =>
    simp only [ab_inv] at h
    split at h
    · rename_i j' ps hm
      split at h
      · rename_i b rest' hst
        split at h
        · rename_i o ho
          obtain ⟨h1, h2⟩ := xi_cond h
          rw [Bool.and_eq_true] at h1
          cases h2
          have hd := hs.drop (xt_mp j)
          rw [hst] at hd
          obtain ⟨V, R, hR, hv, hs1⟩ := hd
          cases hv
          obtain ⟨oo, hoo, FS, rfl, hFS⟩ := hw.2 _ _ ho
          have hav : ag_s (.inl (.ref b) :: (st.take (xt_mp j)).reverse) (.ref b :: (ST.take (xt_mp j)).reverse) := ⟨_, _, rfl, rfl, (hs.take _).rev⟩
          refine ⟨_, R, ?_, rfl, hav, hs1⟩
          simp only [xi_inv, hm, hR, hoo, h1.1, ag_rm1 h1.2 hav hs1, Bool.and_self, cond_true]
        · cases h
      · cases h
    · cases h
  | invokestatic k =>
    simp only [ab_inv] at h
    split at h
    · rename_i j' ps hm
      obtain ⟨h1, h2⟩ := xi_cond h
      rw [Bool.and_eq_true] at h1
      cases h2
      have hav := (hs.take (xt_mp j)).rev
      have hre := hs.drop (xt_mp j)
      refine ⟨_, _, ?_, rfl, hav, hre⟩
      simp only [xi_inv, hm, ag_rm1 h1.1 hav hre, hs.len, h1.2, Bool.and_self, cond_true]
    · cases h
  | invokespecial k =>
    simp only [ab_inv] at h
    split at h
    · rename_i q j' ps hm
      obtain ⟨h1, h2⟩ := xi_cond h
      split at h2
      · rename_i b rest' hst
        obtain ⟨h3, h4⟩ := xi_cond h2
        cases h4
        have hd := hs.drop (xt_mp j)
        rw [hst] at hd
        obtain ⟨V, R, hR, hv, hs1⟩ := hd
        cases hv
        have hav : ag_s (.inl (.ref b) :: (st.take (xt_mp j)).reverse) (.ref b :: (ST.take (xt_mp j)).reverse) := ⟨_, _, rfl, rfl, (hs.take _).rev⟩
        refine ⟨_, R, ?_, rfl, hav, hs1⟩
        simp only [xi_inv, hm, hR, h1, ag_rm1 h3 hav hs1, cond_true]
      · cases h2
    · cases h
  | _ => cases h
theorem xi_ev_up : ∀ (n : Nat) {d i pc : Nat} {l : xi_L} {st : List Value} {w : xi_W} {c s : Nat} {r : xi_R}, xi_ev n d i pc l st w c s = some r → xi_ev (n + 1) d i pc l st w c s = some r
  | 0, _, _, _, _, _, _, _, _, _, h => by simp [xi_ev] at h
  | n + 1, d, i, pc, l, st, w, c, s, r, h => by
    unfold xi_ev at h ⊢
    split at h
    · cases h
    · rename_i ins hins
      split at h
      · rename_i v hv
        try simp only [hins, hv]
        exact h
      · rename_i hv
        try simp only [hins, hv]
        split at h
        · rename_i j av rest hinv
          try simp only [hinv]
          split at h
          · cases h
          · split at h
            · cases h
            · rename_i v w' c' s' hcal
              try simp only [xi_ev_up n hcal]
              exact xi_ev_up n h
        · rename_i hinv
          try simp only [hinv]
          split at h
          · cases h
          · rename_i pc' l' st' w' c' s' hstp
            try simp only [hstp]
            exact xi_ev_up n h
theorem xi_ev_le {n m : Nat} (hnm : n ≤ m) {d i pc : Nat} {l : xi_L} {st : List Value} {w : xi_W} {c s : Nat} {r : xi_R} (h : xi_ev n d i pc l st w c s = some r) : xi_ev m d i pc l st w c s = some r := by
  induction hnm with
  | refl => exact h
  | step _ ih => exact xi_ev_up _ ih
def ag_Sok (S : ab_S) : Prop := ∀ (j : Nat) (av : List ab_V) (w : ab_W) (v : Option ab_V) (w' : ab_W), S j av w = some (some (v, w')) → ∀ (d : Nat) (AV : List Value) (W0 : xi_W), 9 ≤ d → ag_s av AV → ag_w w W0 → ∃ (n : Nat) (res : xi_R), xi_ev n d j 0 (lv_args 0 AV) [] W0 0 0 = some res ∧ ag_vo v res.1 ∧ ag_w w' res.2.1 ∧ res.2.2 = (0, 0)
/-- THE INTERPRETER BY BOUNDS IS RIGHT -/
theorem ag_ev {S : ab_S} (hS : ag_Sok S) : ∀ (n : Nat) {d i pc : Nat} {l : ab_L} {st : List ab_V} {w : ab_W} {c s : Nat} {r : ab_R} {L : xi_L} {ST : List Value} {W0 : xi_W}, ab_ev S n d i pc l st w c s = some r → ag_l l L → ag_s st ST → ag_w w W0 →
    ∃ (N : Nat) (res : xi_R), xi_ev N d i pc L ST W0 c s = some res ∧ ag_vo r.1 res.1 ∧ ag_w r.2.1 res.2.1 ∧ res.2.2 = r.2.2
  | 0, _, _, _, _, _, _, _, _, _, _, _, _, h, _, _, _ => by simp [ab_ev] at h
  | n + 1, d, i, pc, l, st, w, c, s, r, L, ST, W0, h, hl, hs, hw => by
    unfold ab_ev at h
    split at h
    · cases h
    · rename_i ins hins
      split at h
      · rename_i v hv
        cases h
        obtain ⟨V, h1, h2⟩ := ag_end hv hs
        exact ⟨1, (V, W0, c, s), by unfold xi_ev; simp only [hins, h1], h2, hw, rfl⟩
      · split at h
        · rename_i j av rest hinv
          obtain ⟨AV, REST, h1, h2, h3, h4⟩ := ag_inv hinv hs hw
          split at h
          · cases h
          · rename_i d
            split at h
            · rename_i v w' hsum
              obtain ⟨hd9, hsum⟩ := xi_cond hsum
              obtain ⟨N1, r1, e1, e2, e3, e4⟩ := hS _ _ _ _ _ hsum d AV W0 (Nat.le_of_ble_eq_true hd9) h3 hw
              obtain ⟨v1, w1, c1, s1⟩ := r1
              cases e4
              obtain ⟨N2, r2, f1, f2⟩ := ag_ev hS n h hl ((ag_vo_st e2).app h4) e3
              refine ⟨max N1 N2 + 1, r2, ?_, f2⟩
              unfold xi_ev
              simp only [hins, h2, h1, xi_ev_le (Nat.le_max_left N1 N2) e1]
              exact xi_ev_le (Nat.le_max_right N1 N2) f1
            · cases h
            · split at h
              · cases h
              · rename_i v w' c' s' hcal
                obtain ⟨N1, r1, e1, e2, e3, e4⟩ := ag_ev hS n hcal (ag_l.args 0 h3) rfl hw
                obtain ⟨v1, w1, c1, s1⟩ := r1
                cases e4
                obtain ⟨N2, r2, f1, f2⟩ := ag_ev hS n h hl ((ag_vo_st e2).app h4) e3
                refine ⟨max N1 N2 + 1, r2, ?_, f2⟩
                unfold xi_ev
                simp only [hins, h2, h1, xi_ev_le (Nat.le_max_left N1 N2) e1]
                exact xi_ev_le (Nat.le_max_right N1 N2) f1
        · split at h
          · cases h
          · rename_i pc' l' st' w' c' s' hstp
            obtain ⟨⟨pc2, l2, st2, w2, cs2⟩, h1, g1, g2, g3, g4, g5⟩ := ag_stp hstp hl hs hw
            obtain ⟨h2, h3⟩ := ag_none (ST := ST) (W0 := W0) hstp
            cases g1
            cases g5
            obtain ⟨N, res, f1, f2⟩ := ag_ev hS n h g2 g3 g4
            refine ⟨N + 1, res, ?_, f2⟩
            unfold xi_ev
            simp only [hins, h2, h3, h1]
            exact f1
