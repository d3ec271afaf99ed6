theorem ag_b2_inv {F : Nat → List ab_V → Option ab_F} {st : List ab_V} {ST : List Value} {g : Int32 → Int32 → Int32} {hh : Int × Int → Int × Int → Int × Int} {pc : Nat} {A : ab_F} (h : ab_b2 F st g hh pc = some A) (hs : ag_s st ST) (hg : ∀ {X Y : Int × Int} {x y : Int32}, X.1 ≤ x.toInt → x.toInt ≤ X.2 → Y.1 ≤ y.toInt → y.toInt ≤ Y.2 → ag_v (.inr (hh X Y)) (.int (g x y))) :
    ∃ x y R v r, ST = .int y :: .int x :: R ∧ F (pc + 1) (v :: r) = some A ∧ ag_v v (.int (g x y)) ∧ ag_s r R := by
  unfold ab_b2 at h
  split at h
  · rename_i y x r
    obtain ⟨V1, R1, rfl, h1, hs1⟩ := hs
    obtain ⟨V2, R2, rfl, h2, hs2⟩ := hs1
    cases h1
    cases h2
    exact ⟨x, y, R2, _, r, rfl, h, rfl, hs2⟩
  · rename_i y x r hne
    obtain ⟨V1, R1, rfl, h1, hs1⟩ := hs
    obtain ⟨V2, R2, rfl, h2, hs2⟩ := hs1
    split at h
    · rename_i X Y hX hY
      obtain ⟨x', rfl, h3, h4⟩ := ag_int h2 hX
      obtain ⟨y', rfl, h5, h6⟩ := ag_int h1 hY
      exact ⟨x', y', R2, _, r, rfl, h, hg h3 h4 h5 h6, hs2⟩
    · cases h
  · cases h
theorem ag_u1_inv {F : Nat → List ab_V → Option ab_F} {st : List ab_V} {ST : List Value} {g : Int32 → Value} {pc : Nat} {A : ab_F} (h : ab_u1 F st g pc = some A) (hs : ag_s st ST) : ∃ x R r, ST = .int x :: R ∧ F (pc + 1) (.inl (g x) :: r) = some A ∧ ag_s r R := by
  unfold ab_u1 at h
  split at h
  · obtain ⟨V1, R1, rfl, h1, hs1⟩ := hs
    cases h1
    exact ⟨_, _, _, rfl, h, hs1⟩
  · cases h
theorem ag_u1l_inv {F : Nat → List ab_V → Option ab_F} {st : List ab_V} {ST : List Value} {g : Int64 → Value} {pc : Nat} {A : ab_F} (h : ab_u1l F st g pc = some A) (hs : ag_s st ST) : ∃ x R r, ST = .long x :: R ∧ F (pc + 1) (.inl (g x) :: r) = some A ∧ ag_s r R := by
  unfold ab_u1l at h
  split at h
  · obtain ⟨V1, R1, rfl, h1, hs1⟩ := hs
    cases h1
    exact ⟨_, _, _, rfl, h, hs1⟩
  · cases h
theorem ag_b2l_inv {F : Nat → List ab_V → Option ab_F} {st : List ab_V} {ST : List Value} {g : Int64 → Int64 → Value} {pc : Nat} {A : ab_F} (h : ab_b2l F st g pc = some A) (hs : ag_s st ST) : ∃ x y R r, ST = .long y :: .long x :: R ∧ F (pc + 1) (.inl (g x y) :: r) = some A ∧ ag_s r R := by
  unfold ab_b2l at h
  split at h
  · obtain ⟨V1, R1, rfl, h1, hs1⟩ := hs
    obtain ⟨V2, R2, rfl, h2, hs2⟩ := hs1
    cases h1
    cases h2
    exact ⟨_, _, _, _, rfl, h, hs2⟩
  · cases h
theorem ag_shl_inv {F : Nat → List ab_V → Option ab_F} {st : List ab_V} {ST : List Value} {g : Int64 → Int32 → Int64} {pc : Nat} {A : ab_F} (h : ab_shl F st g pc = some A) (hs : ag_s st ST) : ∃ x y R r, ST = .int y :: .long x :: R ∧ F (pc + 1) (.inl (.long (g x y)) :: r) = some A ∧ ag_s r R := by
  unfold ab_shl at h
  split at h
  · obtain ⟨V1, R1, rfl, h1, hs1⟩ := hs
    obtain ⟨V2, R2, rfl, h2, hs2⟩ := hs1
    cases h1
    cases h2
    exact ⟨_, _, _, _, rfl, h, hs2⟩
  · cases h
theorem ag_j_inv {F : Nat → List ab_V → Option ab_F} {r : List ab_V} {t : Option Bool} {neg : Bool} {pc : Nat} {off : Int} {A : ab_F} (h : ab_j F r t neg pc off = some A) : ∃ b tgt, t = some b ∧ xi_jmp pc off = some tgt ∧ cond (Bool.xor b neg) (F tgt r) (F (pc + 3) r) = some A := by
  unfold ab_j at h
  split at h
  · rename_i b tgt ht
    exact ⟨b, tgt, rfl, ht, h⟩
  · cases h
theorem ag_j1_inv {F : Nat → List ab_V → Option ab_F} {st : List ab_V} {ST : List Value} {t : Int × Int → Int × Int → Option Bool} {sw neg : Bool} {pc : Nat} {off : Int} {A : ab_F} (h : ab_j1 F st t sw neg pc off = some A) (hs : ag_s st ST) :
    ∃ x R r b tgt X, ST = .int x :: R ∧ X.1 ≤ x.toInt ∧ x.toInt ≤ X.2 ∧ cond sw (t (0, 0) X) (t X (0, 0)) = some b ∧ xi_jmp pc off = some tgt ∧ cond (Bool.xor b neg) (F tgt r) (F (pc + 3) r) = some A ∧ ag_s r R := by
  unfold ab_j1 at h
  split at h
  · obtain ⟨V1, R1, rfl, h1, hs1⟩ := hs
    split at h
    · rename_i X hX
      obtain ⟨x', rfl, h3, h4⟩ := ag_int h1 hX
      obtain ⟨b, tgt, e1, e2, e3⟩ := ag_j_inv h
      exact ⟨x', R1, _, b, tgt, X, rfl, h3, h4, e1, e2, e3, hs1⟩
    · cases h
  · cases h
theorem ag_j2_inv {F : Nat → List ab_V → Option ab_F} {st : List ab_V} {ST : List Value} {t : Int × Int → Int × Int → Option Bool} {sw neg : Bool} {pc : Nat} {off : Int} {A : ab_F} (h : ab_j2 F st t sw neg pc off = some A) (hs : ag_s st ST) :
    ∃ x y R r b tgt X Y, ST = .int y :: .int x :: R ∧ X.1 ≤ x.toInt ∧ x.toInt ≤ X.2 ∧ Y.1 ≤ y.toInt ∧ y.toInt ≤ Y.2 ∧ cond sw (t Y X) (t X Y) = some b ∧ xi_jmp pc off = some tgt ∧ cond (Bool.xor b neg) (F tgt r) (F (pc + 3) r) = some A ∧ ag_s r R := by
  unfold ab_j2 at h
  split at h
  · obtain ⟨V1, R1, rfl, h1, hs1⟩ := hs
    obtain ⟨V2, R2, rfl, h2, hs2⟩ := hs1
    split at h
    · rename_i X Y hX hY
      obtain ⟨x', rfl, h3, h4⟩ := ag_int h2 hX
      obtain ⟨y', rfl, h5, h6⟩ := ag_int h1 hY
      obtain ⟨b, tgt, e1, e2, e3⟩ := ag_j_inv h
      exact ⟨x', y', R2, _, b, tgt, X, Y, rfl, h3, h4, h5, h6, e1, e2, e3, hs2⟩
    · cases h
  · cases h
theorem ag_rdI {α : Type} {dv v : α} {u : List (Nat × α)} {n : Nat} {j : ab_V} {J : Value} (h : ab_rdI dv u n j = some v) (hj : ag_v j J) : ∃ x : Int32, J = .int x ∧ xi_ix x n = true ∧ v = ab_rd dv u x.toNatClampNeg := by
  unfold ab_rdI at h
  split at h
  · rename_i x
    cases hj
    obtain ⟨h1, h2⟩ := xi_cond h
    cases h2
    exact ⟨x, rfl, h1, rfl⟩
  · rename_i lo hi
    obtain ⟨x, rfl, h3, h4⟩ := hj
    obtain ⟨h1, h2⟩ := xi_cond h
    cases h2
    simp only [Bool.and_eq_true, decide_eq_true_iff] at h1
    obtain ⟨h5, h6, h7⟩ := h1
    have hn : (x.toNatClampNeg : Int) = x.toInt := by
      show ((x.toInt.toNat : Nat) : Int) = x.toInt
      have : 0 ≤ x.toInt := Int.le_trans h5 h3
      omega
    refine ⟨x, rfl, ?_, ?_⟩
    · unfold xi_ix
      rw [Bool.and_eq_true]
      constructor
      · rw [Bool.not_eq_true', decide_eq_false_iff_not]
        intro q
        have h8 := Int32.lt_iff_toInt_lt.mp q
        have h9 : (0 : Int32).toInt = 0 := rfl
        have h3' : lo ≤ x.toInt := h3
        omega
      · refine Nat.ble_eq_true_of_le ?_
        have h4' : x.toInt ≤ hi := h4
        omega
    · rw [ag_rdout]
      intro q hq e
      have h8 := List.all_eq_true.mp h7 q hq
      rw [Bool.or_eq_true, decide_eq_true_iff, decide_eq_true_iff] at h8
      have h3' : lo ≤ x.toInt := h3
      have h4' : x.toInt ≤ hi := h4
      rw [← e] at hn
      omega
  · cases h
section AGS
variable {i d : Nat}
set_option maxHeartbeats 4000000 in
theorem ag_stp {ins : Jvm.ClassFile.Instr} {pc : Nat} {l : ab_L} {st : List ab_V} {w : ab_W} {c s : Nat} {A : ab_F} {L : xi_L} {ST : List Value} {W0 : xi_W} (h : ab_stp i d ins pc l st w c s = some A) (hl : ag_l l L) (hs : ag_s st ST) (hw : ag_w w W0) :
    ∃ X, xi_stp i d ins pc L ST W0 c s = some X ∧ ag_F A X := by
  have K1 : ∀ {pc' : Nat} {st' : List ab_V} {ST' : List Value}, some (pc', l, st', w, c, s) = some A → ag_s st' ST' → ∃ X, some (pc', L, ST', W0, c, s) = some X ∧ ag_F A X := by
    intro pc' st' ST' q h2
    cases q
    exact ⟨_, rfl, rfl, hl, h2, hw, rfl⟩
  have K2 : ∀ {pc' : Nat} {l' : ab_L} {L' : xi_L} {st' : List ab_V} {ST' : List Value}, some (pc', l', st', w, c, s) = some A → ag_s st' ST' → ag_l l' L' → ∃ X, some (pc', L', ST', W0, c, s) = some X ∧ ag_F A X := by
    intro pc' l' L' st' ST' q h2 h3
    cases q
    exact ⟨_, rfl, rfl, h3, h2, hw, rfl⟩
  have K3 : ∀ {pc' : Nat} {w' : ab_W} {W' : xi_W} {st' : List ab_V} {ST' : List Value} {c' s' : Nat}, some (pc', l, st', w', c', s') = some A → ag_s st' ST' → ag_w w' W' → ∃ X, some (pc', L, ST', W', c', s') = some X ∧ ag_F A X := by
    intro pc' w' W' st' ST' c' s' q h2 h3
    cases q
    exact ⟨_, rfl, rfl, hl, h2, h3, rfl⟩
  have mk : ∀ {a : ab_V} {v : Value} {r : List ab_V} {R : List Value}, ag_v a v → ag_s r R → ag_s (a :: r) (v :: R) := fun h1 h2 => ⟨_, _, rfl, h1, h2⟩
  cases ins with
  | aconst_null =>
    exact K1 h (mk rfl hs)
  | iconst n =>
    exact K1 h (mk rfl hs)
  | bipush n =>
    exact K1 h (mk rfl hs)
  | sipush n =>
    exact K1 h (mk rfl hs)
  | lconst n =>
    exact K1 h (mk rfl hs)
  | ldc k =>
    simp only [ab_stp] at h
    split at h
    · rename_i q hq
      simp only [xi_stp, hq]
      exact K1 h (mk rfl hs)
    · cases h
  | ldc2_w k =>
    simp only [ab_stp] at h
    split at h
    · rename_i q hq
      simp only [xi_stp, hq]
      exact K1 h (mk rfl hs)
    · cases h
  | iload k =>
    simp only [ab_stp] at h
    split at h
    · rename_i v hv
      obtain ⟨h1, h2⟩ := xi_cond h
      obtain ⟨V, hV, hvV⟩ := hl.get hv
      obtain ⟨x, rfl⟩ := ag_isI hvV h1
      simp only [xi_stp, xi_ld, hV]
      exact K1 h2 (mk hvV hs)
    · cases h
  | iload_n k =>
    simp only [ab_stp] at h
    split at h
    · rename_i v hv
      obtain ⟨h1, h2⟩ := xi_cond h
      obtain ⟨V, hV, hvV⟩ := hl.get hv
      obtain ⟨x, rfl⟩ := ag_isI hvV h1
      simp only [xi_stp, xi_ld, hV]
      exact K1 h2 (mk hvV hs)
    · cases h
  | lload k =>
    simp only [ab_stp] at h
    split at h
    · rename_i x hv
      obtain ⟨V, hV, hvV⟩ := hl.get hv
      cases hvV
      simp only [xi_stp, xi_ld, hV]
      exact K1 h (mk rfl hs)
    · cases h
  | lload_n k =>
    simp only [ab_stp] at h
    split at h
    · rename_i x hv
      obtain ⟨V, hV, hvV⟩ := hl.get hv
      cases hvV
      simp only [xi_stp, xi_ld, hV]
      exact K1 h (mk rfl hs)
    · cases h
  | aload k =>
    simp only [ab_stp] at h
    split at h
    · rename_i x hv
      obtain ⟨V, hV, hvV⟩ := hl.get hv
      cases hvV
      simp only [xi_stp, xi_ld, hV]
      exact K1 h (mk rfl hs)
    · rename_i hv
      obtain ⟨V, hV, hvV⟩ := hl.get hv
      cases hvV
      simp only [xi_stp, xi_ld, hV]
      exact K1 h (mk rfl hs)
    · cases h
  | aload_n k =>
    simp only [ab_stp] at h
    split at h
    · rename_i x hv
      obtain ⟨V, hV, hvV⟩ := hl.get hv
      cases hvV
      simp only [xi_stp, xi_ld, hV]
      exact K1 h (mk rfl hs)
    · rename_i hv
      obtain ⟨V, hV, hvV⟩ := hl.get hv
      cases hvV
      simp only [xi_stp, xi_ld, hV]
      exact K1 h (mk rfl hs)
    · cases h
  | istore k =>
    simp only [ab_stp] at h
    split at h
    · obtain ⟨h1, h2⟩ := xi_cond h
      rw [Bool.and_eq_true] at h1
      obtain ⟨V, R, rfl, hv, hs1⟩ := hs
      obtain ⟨x, rfl⟩ := ag_isI hv h1.1
      simp only [xi_stp, h1.2, cond_true]
      exact K2 h2 hs1 (ag_l.st1 _ hl hv)
    · cases h
  | istore_n k =>
    simp only [ab_stp] at h
    split at h
    · obtain ⟨h1, h2⟩ := xi_cond h
      rw [Bool.and_eq_true] at h1
      obtain ⟨V, R, rfl, hv, hs1⟩ := hs
      obtain ⟨x, rfl⟩ := ag_isI hv h1.1
      simp only [xi_stp, h1.2, cond_true]
      exact K2 h2 hs1 (ag_l.st1 _ hl hv)
    · cases h
  | lstore k =>
    simp only [ab_stp] at h
    split at h
    · obtain ⟨h1, h2⟩ := xi_cond h
      obtain ⟨V, R, rfl, hv, hs1⟩ := hs
      cases hv
      simp only [xi_stp, h1, cond_true]
      exact K2 h2 hs1 (ag_l.st2 _ hl rfl)
    · cases h
  | lstore_n k =>
    simp only [ab_stp] at h
    split at h
    · obtain ⟨h1, h2⟩ := xi_cond h
      obtain ⟨V, R, rfl, hv, hs1⟩ := hs
      cases hv
      simp only [xi_stp, h1, cond_true]
      exact K2 h2 hs1 (ag_l.st2 _ hl rfl)
    · cases h
  | astore k =>
    simp only [ab_stp] at h
    split at h
    · obtain ⟨h1, h2⟩ := xi_cond h
      obtain ⟨V, R, rfl, hv, hs1⟩ := hs
      cases hv
      simp only [xi_stp, h1, cond_true]
      exact K2 h2 hs1 (ag_l.st1 _ hl rfl)
    · obtain ⟨h1, h2⟩ := xi_cond h
      obtain ⟨V, R, rfl, hv, hs1⟩ := hs
      cases hv
      simp only [xi_stp, h1, cond_true]
      exact K2 h2 hs1 (ag_l.st1 _ hl rfl)
    · cases h
  | astore_n k =>
    simp only [ab_stp] at h
    split at h
    · obtain ⟨h1, h2⟩ := xi_cond h
      obtain ⟨V, R, rfl, hv, hs1⟩ := hs
      cases hv
      simp only [xi_stp, h1, cond_true]
      exact K2 h2 hs1 (ag_l.st1 _ hl rfl)
    · obtain ⟨h1, h2⟩ := xi_cond h
      obtain ⟨V, R, rfl, hv, hs1⟩ := hs
      cases hv
      simp only [xi_stp, h1, cond_true]
      exact K2 h2 hs1 (ag_l.st1 _ hl rfl)
    · cases h
  | iinc k n =>
    simp only [ab_stp] at h
    split at h
    · rename_i x hv
      obtain ⟨h1, h2⟩ := xi_cond h
      obtain ⟨V, hV, hvV⟩ := hl.get hv
      cases hvV
      simp only [xi_stp, hV, h1, cond_true]
      exact K2 h2 hs (ag_l.st1 _ hl rfl)
    · cases h
  | iadd =>
    simp only [ab_stp] at h
    obtain ⟨x, y, R, v, r, rfl, hF, hv, hr⟩ := ag_b2_inv h hs (fun a b c d => ag_hadd a b c d)
    exact K1 hF (mk hv hr)
  | isub =>
    simp only [ab_stp] at h
    obtain ⟨x, y, R, v, r, rfl, hF, hv, hr⟩ := ag_b2_inv h hs (fun a b c d => ag_hsub a b c d)
    exact K1 hF (mk hv hr)
  | imul =>
    simp only [ab_stp] at h
    obtain ⟨x, y, R, v, r, rfl, hF, hv, hr⟩ := ag_b2_inv h hs (fun a b c d => ag_hmul a b c d)
    exact K1 hF (mk hv hr)
  | iand =>
    simp only [ab_stp] at h
    obtain ⟨x, y, R, v, r, rfl, hF, hv, hr⟩ := ag_b2_inv h hs (fun _ _ _ _ => ag_top _)
    exact K1 hF (mk hv hr)
  | ior =>
    simp only [ab_stp] at h
    obtain ⟨x, y, R, v, r, rfl, hF, hv, hr⟩ := ag_b2_inv h hs (fun _ _ _ _ => ag_top _)
    exact K1 hF (mk hv hr)
  | ixor =>
    simp only [ab_stp] at h
    obtain ⟨x, y, R, v, r, rfl, hF, hv, hr⟩ := ag_b2_inv h hs (fun _ _ _ _ => ag_top _)
    exact K1 hF (mk hv hr)
  | ishl =>
    simp only [ab_stp] at h
    obtain ⟨x, y, R, v, r, rfl, hF, hv, hr⟩ := ag_b2_inv h hs (fun _ _ _ _ => ag_top _)
    exact K1 hF (mk hv hr)
  | ishr =>
    simp only [ab_stp] at h
    obtain ⟨x, y, R, v, r, rfl, hF, hv, hr⟩ := ag_b2_inv h hs (fun _ _ _ _ => ag_top _)
    exact K1 hF (mk hv hr)
  | iushr =>
    simp only [ab_stp] at h
    obtain ⟨x, y, R, v, r, rfl, hF, hv, hr⟩ := ag_b2_inv h hs (fun _ _ _ _ => ag_top _)
    exact K1 hF (mk hv hr)
  | idiv =>
    simp only [ab_stp] at h
    split at h
    · obtain ⟨h1, h2⟩ := xi_condN h
      obtain ⟨V1, R1, rfl, hv1, hs1⟩ := hs
      obtain ⟨V2, R2, rfl, hv2, hs2⟩ := hs1
      cases hv1
      split at h2
      · cases hv2
        simp only [xi_stp, h1, cond_false]
        exact K1 h2 (mk rfl hs2)
      · obtain ⟨h3, h4⟩ := xi_cond h2
        rw [Bool.and_eq_true, decide_eq_true_iff, decide_eq_true_iff] at h3
        obtain ⟨x, rfl, h5, h6⟩ := hv2
        obtain ⟨e1, e2⟩ := ag_div (x := x) (Int.le_trans h3.1 h5) h3.2
        simp only [xi_stp, h1, cond_false]
        exact K1 h4 (mk (ag_mk (by rw [e1]; exact Int.ediv_le_ediv h3.2 h5) (by rw [e1]; exact Int.ediv_le_ediv h3.2 h6)) hs2)
      · cases h2
    · cases h
  | irem =>
    simp only [ab_stp] at h
    split at h
    · rename_i y x0 r
      obtain ⟨h1, h2⟩ := xi_condN h
      obtain ⟨V1, R1, rfl, hv1, hs1⟩ := hs
      obtain ⟨V2, R2, rfl, hv2, hs2⟩ := hs1
      cases hv1
      split at h2
      · cases hv2
        simp only [xi_stp, h1, cond_false]
        exact K1 h2 (mk rfl hs2)
      · rename_i X
        obtain ⟨h3, h4⟩ := xi_cond h2
        rw [Bool.and_eq_true, decide_eq_true_iff, decide_eq_true_iff] at h3
        obtain ⟨x, rfl, h5, h6⟩ := hv2
        obtain ⟨e1, e2⟩ := ag_div (x := x) (Int.le_trans h3.1 h5) h3.2
        simp only [xi_stp, h1, cond_false]
        refine K1 h4 (mk ?_ hs2)
        have hy := h3.2
        have hm0 := Int.emod_nonneg x.toInt (show y.toInt ≠ 0 by omega)
        have hm1 := Int.emod_lt_of_pos x.toInt h3.2
        by_cases hq : X.1 / y.toInt = X.2 / y.toInt
        · rw [decide_eq_true hq]
          have a1 := Int.ediv_le_ediv h3.2 h5
          have a2 := Int.ediv_le_ediv h3.2 h6
          have a3 : x.toInt / y.toInt = X.1 / y.toInt := by omega
          have b1 := Int.mul_ediv_add_emod X.1 y.toInt
          have b2 := Int.mul_ediv_add_emod X.2 y.toInt
          have b3 := Int.mul_ediv_add_emod x.toInt y.toInt
          rw [a3] at b3
          rw [← hq] at b2
          refine ag_mk ?_ ?_
          · rw [e2]; show X.1 % y.toInt ≤ _; omega
          · rw [e2]; show _ ≤ X.2 % y.toInt; omega
        · rw [decide_eq_false hq]
          exact ⟨_, rfl, by rw [e2]; exact hm0, by rw [e2]; show _ ≤ y.toInt - 1; omega⟩
      · cases h2
    · cases h
  | ineg =>
    simp only [ab_stp] at h
    obtain ⟨x, R, r, rfl, hF, hr⟩ := ag_u1_inv h hs
    exact K1 hF (mk rfl hr)
  | lneg =>
    simp only [ab_stp] at h
    obtain ⟨x, R, r, rfl, hF, hr⟩ := ag_u1l_inv h hs
    exact K1 hF (mk rfl hr)
  | i2l =>
    simp only [ab_stp] at h
    obtain ⟨x, R, r, rfl, hF, hr⟩ := ag_u1_inv h hs
    exact K1 hF (mk rfl hr)
  | l2i =>
    simp only [ab_stp] at h
    obtain ⟨x, R, r, rfl, hF, hr⟩ := ag_u1l_inv h hs
    exact K1 hF (mk rfl hr)
  | ladd =>
    simp only [ab_stp] at h
    obtain ⟨x, y, R, r, rfl, hF, hr⟩ := ag_b2l_inv h hs
    exact K1 hF (mk rfl hr)
  | lsub =>
    simp only [ab_stp] at h
    obtain ⟨x, y, R, r, rfl, hF, hr⟩ := ag_b2l_inv h hs
    exact K1 hF (mk rfl hr)
  | lmul =>
    simp only [ab_stp] at h
    obtain ⟨x, y, R, r, rfl, hF, hr⟩ := ag_b2l_inv h hs
    exact K1 hF (mk rfl hr)
  | land =>
    simp only [ab_stp] at h
    obtain ⟨x, y, R, r, rfl, hF, hr⟩ := ag_b2l_inv h hs
    exact K1 hF (mk rfl hr)
  | lor =>
    simp only [ab_stp] at h
    obtain ⟨x, y, R, r, rfl, hF, hr⟩ := ag_b2l_inv h hs
    exact K1 hF (mk rfl hr)
  | lxor =>
    simp only [ab_stp] at h
    obtain ⟨x, y, R, r, rfl, hF, hr⟩ := ag_b2l_inv h hs
    exact K1 hF (mk rfl hr)
  | lcmp =>
    simp only [ab_stp] at h
    obtain ⟨x, y, R, r, rfl, hF, hr⟩ := ag_b2l_inv h hs
    exact K1 hF (mk rfl hr)
  | lshl =>
    simp only [ab_stp] at h
    obtain ⟨x, y, R, r, rfl, hF, hr⟩ := ag_shl_inv h hs
    exact K1 hF (mk rfl hr)
  | lshr =>
    simp only [ab_stp] at h
    obtain ⟨x, y, R, r, rfl, hF, hr⟩ := ag_shl_inv h hs
    exact K1 hF (mk rfl hr)
  | lushr =>
    simp only [ab_stp] at h
    obtain ⟨x, y, R, r, rfl, hF, hr⟩ := ag_shl_inv h hs
    exact K1 hF (mk rfl hr)
  | i2b =>
    simp only [ab_stp] at h
    split at h
    · obtain ⟨V1, R1, rfl, hv1, hs1⟩ := hs
      cases hv1
      exact K1 h (mk rfl hs1)
    · obtain ⟨V1, R1, rfl, hv1, hs1⟩ := hs
      obtain ⟨x, rfl, h5, h6⟩ := hv1
      exact K1 h (mk (ag_top _) hs1)
    · cases h
  | i2c =>
    simp only [ab_stp] at h
    split at h
    · obtain ⟨V1, R1, rfl, hv1, hs1⟩ := hs
      cases hv1
      exact K1 h (mk rfl hs1)
    · obtain ⟨V1, R1, rfl, hv1, hs1⟩ := hs
      obtain ⟨x, rfl, h5, h6⟩ := hv1
      exact K1 h (mk (ag_top _) hs1)
    · cases h
  | dup =>
    simp only [ab_stp] at h
    split at h
    · obtain ⟨h1, h2⟩ := xi_cond h
      obtain ⟨V, R, rfl, hv, hs1⟩ := hs
      simp only [xi_stp, ag_cat hv, h1, cond_true]
      exact K1 h2 (mk hv (mk hv hs1))
    · cases h
  | pop =>
    simp only [ab_stp] at h
    split at h
    · obtain ⟨h1, h2⟩ := xi_cond h
      obtain ⟨V, R, rfl, hv, hs1⟩ := hs
      simp only [xi_stp, ag_cat hv, h1, cond_true]
      exact K1 h2 hs1
    · cases h
  | dup2 =>
    simp only [ab_stp] at h
    split at h
    · obtain ⟨h1, h2⟩ := xi_cond h
      obtain ⟨V, R, rfl, hv, hs1⟩ := hs
      obtain ⟨U, R2, rfl, hu, hs2⟩ := hs1
      simp only [xi_stp, ag_cat hv, ag_cat hu, h1, cond_true]
      exact K1 h2 (mk hv (mk hu (mk hv (mk hu hs2))))
    · cases h
  | dup_x1 =>
    simp only [ab_stp] at h
    split at h
    · obtain ⟨h1, h2⟩ := xi_cond h
      obtain ⟨V, R, rfl, hv, hs1⟩ := hs
      obtain ⟨U, R2, rfl, hu, hs2⟩ := hs1
      simp only [xi_stp, ag_cat hv, ag_cat hu, h1, cond_true]
      exact K1 h2 (mk hv (mk hu (mk hv hs2)))
    · cases h
  | ifCond cnd off =>
    cases cnd with
    | eq =>
      simp only [ab_stp] at h
      obtain ⟨x, R, r, b, tgt, X, rfl, hX1, hX2, ht, hj, hF, hr⟩ := ag_j1_inv h hs
      have e : decide (x = (0 : Int32)) = b := ag_eq (X := X) (Y := (0, 0)) hX1 hX2 (by decide) (by decide) ht
      simp only [xi_stp, xi_j1, hj, e]
      cases b <;> exact K1 hF hr
    | ne =>
      simp only [ab_stp] at h
      obtain ⟨x, R, r, b, tgt, X, rfl, hX1, hX2, ht, hj, hF, hr⟩ := ag_j1_inv h hs
      have e : decide (x = (0 : Int32)) = b := ag_eq (X := X) (Y := (0, 0)) hX1 hX2 (by decide) (by decide) ht
      simp only [xi_stp, xi_j1, hj, e]
      cases b <;> exact K1 hF hr
    | lt =>
      simp only [ab_stp] at h
      obtain ⟨x, R, r, b, tgt, X, rfl, hX1, hX2, ht, hj, hF, hr⟩ := ag_j1_inv h hs
      have e : decide (x < (0 : Int32)) = b := ag_lt (X := X) (Y := (0, 0)) hX1 hX2 (by decide) (by decide) ht
      simp only [xi_stp, xi_j1, hj, e]
      cases b <;> exact K1 hF hr
    | ge =>
      simp only [ab_stp] at h
      obtain ⟨x, R, r, b, tgt, X, rfl, hX1, hX2, ht, hj, hF, hr⟩ := ag_j1_inv h hs
      have e : decide ((0 : Int32) ≤ x) = b := ag_le (X := (0, 0)) (Y := X) (by decide) (by decide) hX1 hX2 ht
      simp only [xi_stp, xi_j1, hj, e]
      cases b <;> exact K1 hF hr
    | gt =>
      simp only [ab_stp] at h
      obtain ⟨x, R, r, b, tgt, X, rfl, hX1, hX2, ht, hj, hF, hr⟩ := ag_j1_inv h hs
      have e : decide ((0 : Int32) < x) = b := ag_lt (X := (0, 0)) (Y := X) (by decide) (by decide) hX1 hX2 ht
      simp only [xi_stp, xi_j1, hj, e]
      cases b <;> exact K1 hF hr
    | le =>
      simp only [ab_stp] at h
      obtain ⟨x, R, r, b, tgt, X, rfl, hX1, hX2, ht, hj, hF, hr⟩ := ag_j1_inv h hs
      have e : decide (x ≤ (0 : Int32)) = b := ag_le (X := X) (Y := (0, 0)) hX1 hX2 (by decide) (by decide) ht
      simp only [xi_stp, xi_j1, hj, e]
      cases b <;> exact K1 hF hr
  | if_icmp cnd off =>
    cases cnd with
    | eq =>
      simp only [ab_stp] at h
      obtain ⟨x, y, R, r, b, tgt, X, Y, rfl, hX1, hX2, hY1, hY2, ht, hj, hF, hr⟩ := ag_j2_inv h hs
      have e : decide (x = y) = b := ag_eq hX1 hX2 hY1 hY2 ht
      simp only [xi_stp, xi_j2, hj, e]
      cases b <;> exact K1 hF hr
    | ne =>
      simp only [ab_stp] at h
      obtain ⟨x, y, R, r, b, tgt, X, Y, rfl, hX1, hX2, hY1, hY2, ht, hj, hF, hr⟩ := ag_j2_inv h hs
      have e : decide (x = y) = b := ag_eq hX1 hX2 hY1 hY2 ht
      simp only [xi_stp, xi_j2, hj, e]
      cases b <;> exact K1 hF hr
    | lt =>
      simp only [ab_stp] at h
      obtain ⟨x, y, R, r, b, tgt, X, Y, rfl, hX1, hX2, hY1, hY2, ht, hj, hF, hr⟩ := ag_j2_inv h hs
      have e : decide (x < y) = b := ag_lt hX1 hX2 hY1 hY2 ht
      simp only [xi_stp, xi_j2, hj, e]
      cases b <;> exact K1 hF hr
    | ge =>
      simp only [ab_stp] at h
      obtain ⟨x, y, R, r, b, tgt, X, Y, rfl, hX1, hX2, hY1, hY2, ht, hj, hF, hr⟩ := ag_j2_inv h hs
      have e : decide (y ≤ x) = b := ag_le hY1 hY2 hX1 hX2 ht
      simp only [xi_stp, xi_j2, hj, e]
      cases b <;> exact K1 hF hr
    | gt =>
      simp only [ab_stp] at h
      obtain ⟨x, y, R, r, b, tgt, X, Y, rfl, hX1, hX2, hY1, hY2, ht, hj, hF, hr⟩ := ag_j2_inv h hs
      have e : decide (y < x) = b := ag_lt hY1 hY2 hX1 hX2 ht
      simp only [xi_stp, xi_j2, hj, e]
      cases b <;> exact K1 hF hr
    | le =>
      simp only [ab_stp] at h
      obtain ⟨x, y, R, r, b, tgt, X, Y, rfl, hX1, hX2, hY1, hY2, ht, hj, hF, hr⟩ := ag_j2_inv h hs
      have e : decide (x ≤ y) = b := ag_le hX1 hX2 hY1 hY2 ht
      simp only [xi_stp, xi_j2, hj, e]
      cases b <;> exact K1 hF hr
  | goto off =>
    simp only [ab_stp] at h
    split at h
    · rename_i tgt ht
      simp only [xi_stp, ht]
      exact K1 h hs
    · cases h
  | ifnull off =>
    simp only [ab_stp] at h
    split at h
    · obtain ⟨V, R, rfl, hv, hs1⟩ := hs
      cases hv
      first
        | (rename_i tgt ht; simp only [xi_stp, ht]; exact K1 h hs1)
        | (simp only [xi_stp]; exact K1 h hs1)
    · obtain ⟨V, R, rfl, hv, hs1⟩ := hs
      cases hv
      first
        | (rename_i tgt ht; simp only [xi_stp, ht]; exact K1 h hs1)
        | (simp only [xi_stp]; exact K1 h hs1)
    · cases h
  | ifnonnull off =>
    simp only [ab_stp] at h
    split at h
    · obtain ⟨V, R, rfl, hv, hs1⟩ := hs
      cases hv
      first
        | (rename_i tgt ht; simp only [xi_stp, ht]; exact K1 h hs1)
        | (simp only [xi_stp]; exact K1 h hs1)
    · obtain ⟨V, R, rfl, hv, hs1⟩ := hs
      cases hv
      first
        | (rename_i tgt ht; simp only [xi_stp, ht]; exact K1 h hs1)
        | (simp only [xi_stp]; exact K1 h hs1)
    · cases h
  | tableswitch dflt lo hi offs =>
    simp only [ab_stp] at h
    split at h
    · rename_i x r
      obtain ⟨V, R, rfl, hv, hs1⟩ := hs
      cases hv
      cases hbb : (decide (x.toInt < lo) || decide (hi < x.toInt)) with
      | true =>
        simp only [xi_stp, hbb, cond_true] at h ⊢
        split at h
        · rename_i tgt ht
          simp only [ht]
          exact K1 h hs1
        · cases h
      | false =>
        simp only [xi_stp, hbb, cond_false] at h ⊢
        split at h
        · rename_i off ho
          split at h
          · rename_i tgt ht
            simp only [ho, ht]
            exact K1 h hs1
          · cases h
        · cases h
    · rename_i X r
      obtain ⟨V, R, rfl, hv, hs1⟩ := hs
      obtain ⟨x, rfl, h5, h6⟩ := hv
      obtain ⟨h1, h2⟩ := xi_cond h
      rw [Bool.or_eq_true, decide_eq_true_iff, decide_eq_true_iff] at h1
      have hbb : (decide (x.toInt < lo) || decide (hi < x.toInt)) = true := by
        rw [Bool.or_eq_true, decide_eq_true_iff, decide_eq_true_iff]
        omega
      simp only [xi_stp, hbb, cond_true]
      split at h2
      · rename_i tgt ht
        simp only [ht]
        exact K1 h2 hs1
      · cases h2
    · cases h
  | getfield k =>
    simp only [ab_stp] at h
    split at h
    · rename_i a r q hq
      obtain ⟨V, R, rfl, hv, hs1⟩ := hs
      cases hv
      split at h
      · rename_i o ho
        obtain ⟨h1, h2⟩ := xi_cond h
        split at h2
        · rename_i v hv
          obtain ⟨oo, hoo, FS, rfl, hFS⟩ := hw.2 _ _ ho
          obtain ⟨V, hV, hvV⟩ := hFS.at hv
          simp only [xi_stp, hq, hoo, h1, cond_true, hV]
          exact K1 h2 (mk hvV hs1)
        · cases h2
      · cases h
    · cases h
  | putfield k =>
    simp only [ab_stp] at h
    split at h
    · rename_i v a r q hq
      obtain ⟨V, R0, rfl, hv, hs0⟩ := hs
      obtain ⟨V2, R, rfl, hv2, hs1⟩ := hs0
      cases hv2
      split at h
      · rename_i o ho
        obtain ⟨h1, h2⟩ := xi_cond h
        obtain ⟨oo, hoo, FS, rfl, hFS⟩ := hw.2 _ _ ho
        simp only [Bool.and_eq_true] at h1
        obtain ⟨h3, h4, h5, h6⟩ := h1
        have h7 := ag_fit hv h4
        have h8 : Nat.blt q.2.1 FS.length = true := by rw [hFS.len]; exact h5
        simp only [xi_stp, hq, hoo, h3, h7, h8, h6, Bool.and_self, Bool.true_and, cond_true]
        exact K3 h2 hs1 (hw.set _ ⟨_, rfl, hFS.put hv⟩)
      · cases h
    · cases h
  | new k =>
    simp only [ab_stp] at h
    split at h
    · rename_i q hq
      simp only [xi_stp, hq]
      rw [← hw.1]
      exact K3 h (mk rfl hs) (hw.push ⟨_, rfl, ag_s.inl _⟩)
    · cases h
  | newarray t =>
    simp only [ab_stp] at h
    split at h
    · rename_i n r
      obtain ⟨h1, h2⟩ := xi_condN h
      obtain ⟨V, R, rfl, hv, hs1⟩ := hs
      cases hv
      cases t with
      | int =>
        simp only [xi_stp, h1, cond_false]
        rw [← hw.1]
        exact K3 h2 (mk rfl hs1) (hw.push ⟨_, rfl, fun _ => rfl⟩)
      | byte =>
        simp only [xi_stp, h1, cond_false]
        rw [← hw.1]
        exact K3 h2 (mk rfl hs1) (hw.push ⟨_, rfl, fun _ => rfl⟩)
      | boolean =>
        simp only [xi_stp, h1, cond_false]
        rw [← hw.1]
        exact K3 h2 (mk rfl hs1) (hw.push ⟨_, rfl, fun _ => rfl⟩)
      | long =>
        simp only [xi_stp, h1, cond_false]
        rw [← hw.1]
        exact K3 h2 (mk rfl hs1) (hw.push ⟨_, rfl, fun _ => rfl⟩)
      | char => cases h2
      | float => cases h2
      | double => cases h2
      | short => cases h2
    · cases h
  | anewarray k =>
    simp only [ab_stp] at h
    split at h
    · rename_i n r q hq
      obtain ⟨h1, h2⟩ := xi_condN h
      obtain ⟨V, R, rfl, hv, hs1⟩ := hs
      cases hv
      simp only [xi_stp, hq, h1, cond_false]
      rw [← hw.1]
      exact K3 h2 (mk rfl hs1) (hw.push ⟨_, rfl, fun _ => rfl⟩)
    · cases h
  | arraylength =>
    simp only [ab_stp] at h
    split at h
    · rename_i a r
      obtain ⟨V, R, rfl, hv, hs1⟩ := hs
      cases hv
      split at h
      · rename_i o ho
        obtain ⟨oo, hoo, f, rfl, hf⟩ := hw.2 _ _ ho
        simp only [xi_stp, hoo]
        exact K1 h (mk rfl hs1)
      · rename_i o ho
        obtain ⟨oo, hoo, f, rfl, hf⟩ := hw.2 _ _ ho
        simp only [xi_stp, hoo]
        exact K1 h (mk rfl hs1)
      · rename_i o ho
        obtain ⟨oo, hoo, f, rfl, hf⟩ := hw.2 _ _ ho
        simp only [xi_stp, hoo]
        exact K1 h (mk rfl hs1)
      · cases h
    · cases h
  | iaload =>
    simp only [ab_stp] at h
    split at h
    · rename_i j a r
      obtain ⟨V0, R0, rfl, hv0, hs0⟩ := hs
      obtain ⟨V, R, rfl, hv, hs1⟩ := hs0
      cases hv
      split at h
      · rename_i ty n dv u ho
        obtain ⟨h1, h2⟩ := xi_cond h
        split at h2
        · rename_i v hrd
          obtain ⟨h3, h4⟩ := xi_cond h2
          obtain ⟨oo, hoo, f, rfl, hf⟩ := hw.2 _ _ ho
          obtain ⟨x, rfl, hix, rfl⟩ := ag_rdI hrd hv0
          simp only [xi_stp, hoo, hix, h1, Bool.and_self, cond_true]
          exact K1 h4 (mk (hf _) hs1)
        · cases h2
      · cases h
    · cases h
  | baload =>
    simp only [ab_stp] at h
    split at h
    · rename_i j a r
      obtain ⟨V0, R0, rfl, hv0, hs0⟩ := hs
      obtain ⟨V, R, rfl, hv, hs1⟩ := hs0
      cases hv
      split at h
      · rename_i ty n dv u ho
        obtain ⟨h1, h2⟩ := xi_cond h
        split at h2
        · rename_i v hrd
          obtain ⟨h3, h4⟩ := xi_cond h2
          obtain ⟨oo, hoo, f, rfl, hf⟩ := hw.2 _ _ ho
          obtain ⟨x, rfl, hix, rfl⟩ := ag_rdI hrd hv0
          simp only [xi_stp, hoo, hix, h1, Bool.and_self, cond_true]
          exact K1 h4 (mk (hf _) hs1)
        · cases h2
      · cases h
    · cases h
  | laload =>
    simp only [ab_stp] at h
    split at h
    · rename_i j a r
      obtain ⟨V0, R0, rfl, hv0, hs0⟩ := hs
      obtain ⟨V, R, rfl, hv, hs1⟩ := hs0
      cases hv
      split at h
      · rename_i n dv u ho
        split at h
        · rename_i v hrd
          obtain ⟨oo, hoo, f, rfl, hf⟩ := hw.2 _ _ ho
          obtain ⟨x, rfl, hix, rfl⟩ := ag_rdI hrd hv0
          simp only [xi_stp, hoo, hix, cond_true]
          exact K1 h (mk (congrArg Value.long (hf _)) hs1)
        · cases h
      · cases h
    · cases h
  | aaload =>
    simp only [ab_stp] at h
    split at h
    · rename_i j a r
      obtain ⟨V0, R0, rfl, hv0, hs0⟩ := hs
      obtain ⟨V, R, rfl, hv, hs1⟩ := hs0
      cases hv
      cases hv0
      split at h
      · rename_i C n u ho
        obtain ⟨h1, h2⟩ := xi_cond h
        obtain ⟨oo, hoo, f, rfl, hf⟩ := hw.2 _ _ ho
        simp only [xi_stp, hoo, h1, cond_true, hf]
        exact K1 h2 (mk rfl hs1)
      · cases h
    · cases h
  | iastore =>
    simp only [ab_stp] at h
    split at h
    · rename_i x j a r
      obtain ⟨V00, R00, rfl, hv00, hs00⟩ := hs
      obtain ⟨V0, R0, rfl, hv0, hs0⟩ := hs00
      obtain ⟨V, R, rfl, hv, hs1⟩ := hs0
      cases hv
      cases hv0
      split at h
      · rename_i ty n dv u ho
        obtain ⟨h1, h2⟩ := xi_cond h
        simp only [Bool.and_eq_true] at h1
        obtain ⟨h3, h4, h5⟩ := h1
        obtain ⟨oo, hoo, f, rfl, hf⟩ := hw.2 _ _ ho
        obtain ⟨y, rfl⟩ := ag_isI hv00 h3
        simp only [xi_stp, hoo, h4, h5, Bool.and_self, cond_true]
        refine K3 h2 hs1 (hw.set _ ⟨_, rfl, fun k => ?_⟩)
        have e : ab_rd dv (cond (ab_ex x) (ab_put dv u j.toNatClampNeg x) ((j.toNatClampNeg, x) :: u)) k = if k = j.toNatClampNeg then x else ab_rd dv u k := by
          cases ab_ex x
          · exact ag_rdcons k
          · exact ag_rdput k
        rw [e]
        unfold upd
        by_cases hk : k = j.toNatClampNeg
        · rw [if_pos hk, if_pos hk]; exact hv00
        · rw [if_neg hk, if_neg hk]; exact hf k
      · cases h
    · cases h
  | bastore =>
    simp only [ab_stp] at h
    split at h
    · rename_i x j a r
      obtain ⟨V00, R00, rfl, hv00, hs00⟩ := hs
      obtain ⟨V0, R0, rfl, hv0, hs0⟩ := hs00
      obtain ⟨V, R, rfl, hv, hs1⟩ := hs0
      cases hv
      cases hv0
      split at h
      · rename_i ty n dv u ho
        obtain ⟨h1, h2⟩ := xi_cond h
        simp only [Bool.and_eq_true] at h1
        obtain ⟨h3, h4, h5⟩ := h1
        obtain ⟨oo, hoo, f, rfl, hf⟩ := hw.2 _ _ ho
        obtain ⟨y, rfl⟩ := ag_isI hv00 h3
        simp only [xi_stp, hoo, h4, h5, Bool.and_self, cond_true]
        refine K3 h2 hs1 (hw.set _ ⟨_, rfl, fun k => ?_⟩)
        rw [ag_rdcons]
        unfold upd
        by_cases hk : k = j.toNatClampNeg
        · rw [if_pos hk, if_pos hk]; exact ag_nar (xi_isa_t h5) hv00
        · rw [if_neg hk, if_neg hk]; exact hf k
      · cases h
    · cases h
  | lastore =>
    simp only [ab_stp] at h
    split at h
    · rename_i x j a r
      obtain ⟨V00, R00, rfl, hv00, hs00⟩ := hs
      obtain ⟨V0, R0, rfl, hv0, hs0⟩ := hs00
      obtain ⟨V, R, rfl, hv, hs1⟩ := hs0
      cases hv
      cases hv0
      cases hv00
      split at h
      · rename_i n dv u ho
        obtain ⟨h1, h2⟩ := xi_cond h
        obtain ⟨oo, hoo, f, rfl, hf⟩ := hw.2 _ _ ho
        simp only [xi_stp, hoo, h1, cond_true]
        refine K3 h2 hs1 (hw.set _ ⟨_, rfl, fun k => ?_⟩)
        rw [ag_rdput]
        unfold vp_updL
        by_cases hk : k = j.toNatClampNeg
        · rw [if_pos hk, if_pos hk]
        · rw [if_neg hk, if_neg hk]; exact hf k
      · cases h
    · cases h
  | aastore =>
    simp only [ab_stp] at h
    split at h
    · rename_i v j a r
      obtain ⟨V00, R00, rfl, hv00, hs00⟩ := hs
      obtain ⟨V0, R0, rfl, hv0, hs0⟩ := hs00
      obtain ⟨V, R, rfl, hv, hs1⟩ := hs0
      cases hv
      cases hv0
      cases hv00
      split at h
      · rename_i C n u o ho hvo
        obtain ⟨h1, h2⟩ := xi_cond h
        obtain ⟨oo, hoo, f, rfl, hf⟩ := hw.2 _ _ ho
        obtain ⟨o2, hoo2, FS, rfl, hFS⟩ := hw.2 _ _ hvo
        simp only [xi_stp, hoo, hoo2, h1, cond_true]
        refine K3 h2 hs1 (hw.set _ ⟨_, rfl, fun k => ?_⟩)
        rw [ag_rdcons]
        unfold va_up
        by_cases hk : k = j.toNatClampNeg
        · rw [if_pos hk, if_pos hk]
        · rw [if_neg hk, if_neg hk]; exact hf k
      · cases h
    · rename_i j a r
      obtain ⟨V00, R00, rfl, hv00, hs00⟩ := hs
      obtain ⟨V0, R0, rfl, hv0, hs0⟩ := hs00
      obtain ⟨V, R, rfl, hv, hs1⟩ := hs0
      cases hv
      cases hv0
      cases hv00
      split at h
      · rename_i C n u ho
        obtain ⟨h1, h2⟩ := xi_cond h
        obtain ⟨oo, hoo, f, rfl, hf⟩ := hw.2 _ _ ho
        simp only [xi_stp, hoo, h1, cond_true]
        refine K3 h2 hs1 (hw.set _ ⟨_, rfl, fun k => ?_⟩)
        rw [ag_rdput]
        unfold va_up
        by_cases hk : k = j.toNatClampNeg
        · rw [if_pos hk, if_pos hk]
        · rw [if_neg hk, if_neg hk]; exact hf k
      · cases h
    · cases h
  | checkcast k =>
    simp only [ab_stp] at h
    split at h
    · rename_i a r q hq
      obtain ⟨V, R, rfl, hv, hs1⟩ := hs
      cases hv
      split at h
      · rename_i z ho
        obtain ⟨n, dv, u⟩ := z
        obtain ⟨oo, hoo, f, rfl, hf⟩ := hw.2 _ _ ho
        simp only [xi_stp, hq, hoo]
        exact K1 h (mk rfl hs1)
      · cases h
    · cases h
  | invokevirtual k =>
    simp only [ab_stp] at h
    split at h
    · rename_i a r q hq
      obtain ⟨V, R, rfl, hv, hs1⟩ := hs
      cases hv
      obtain ⟨h1, h2⟩ := xi_cond h
      split at h2
      · rename_i n dv u ho
        obtain ⟨oo, hoo, f, rfl, hf⟩ := hw.2 _ _ ho
        rw [← hs1.cats] at h1
        simp only [xi_stp, hq, hoo, h1, cond_true]
        rw [← hw.1]
        exact K3 h2 (mk rfl hs1) (hw.push ⟨_, rfl, hf⟩)
      · cases h2
    · cases h
  | invokespecial k =>
    simp only [ab_stp] at h
    split at h
    · rename_i a r q hq
      obtain ⟨V, R, rfl, hv, hs1⟩ := hs
      cases hv
      obtain ⟨h1, h2⟩ := xi_cond h
      rw [← hs1.cats] at h1
      simp only [xi_stp, hq, h1, cond_true]
      exact K1 h2 hs1
    · cases h
  | invokestatic k =>
    simp only [ab_stp] at h
    split at h
    · cases h
    · rename_i q hq
      cases h6 : Nat.beq q.1 6 with
      | true =>
        simp only [h6, cond_true] at h
        split at h
        · rename_i y x r
          obtain ⟨V0, R0, rfl, hv0, hs0⟩ := hs
          obtain ⟨V, R, rfl, hv, hs1⟩ := hs0
          cases hv
          cases hv0
          obtain ⟨h1, h2⟩ := xi_cond h
          rw [← hs1.cats] at h1
          simp only [xi_stp, hq, h6, cond_true, cond_false, h1]
          exact K1 h2 (mk rfl hs1)
        · cases h
      | false =>
      cases h7 : Nat.beq q.1 7 with
      | true =>
        simp only [h6, h7, cond_true, cond_false] at h
        split at h
        · rename_i y x r
          obtain ⟨V0, R0, rfl, hv0, hs0⟩ := hs
          obtain ⟨V, R, rfl, hv, hs1⟩ := hs0
          cases hv
          cases hv0
          obtain ⟨h1, h2⟩ := xi_cond h
          rw [← hs1.cats] at h1
          simp only [xi_stp, hq, h6, h7, cond_true, cond_false, h1]
          exact K1 h2 (mk rfl hs1)
        · cases h
      | false =>
      cases h8 : Nat.beq q.1 8 with
      | true =>
        simp only [h6, h7, h8, cond_true, cond_false] at h
        split at h
        · rename_i y x r
          obtain ⟨V0, R0, rfl, hv0, hs0⟩ := hs
          obtain ⟨V, R, rfl, hv, hs1⟩ := hs0
          cases hv
          cases hv0
          obtain ⟨h1, h2⟩ := xi_cond h
          rw [← hs1.cats] at h1
          simp only [xi_stp, hq, h6, h7, h8, cond_true, cond_false, h1]
          exact K1 h2 (mk rfl hs1)
        · cases h
      | false =>
        simp only [h6, h7, h8, cond_false] at h
        obtain ⟨h5, h⟩ := xi_cond h
        split at h
        · rename_i n dp a sp a0 r z
          obtain ⟨V4, R4, rfl, hv4, hs4⟩ := hs
          obtain ⟨V3, R3, rfl, hv3, hs3⟩ := hs4
          obtain ⟨V2, R2, rfl, hv2, hs2⟩ := hs3
          obtain ⟨V0, R0, rfl, hv0, hs0⟩ := hs2
          obtain ⟨V, R, rfl, hv, hs1⟩ := hs0
          cases hv4
          cases hv3
          cases hv2
          cases hv0
          cases hv
          obtain ⟨h1, h2⟩ := xi_cond h
          rw [← hs1.cats] at h1
          split at h2
          · rename_i n0 d0 u0 n1 d1 u1 ho0 ho1
            obtain ⟨h9, h10⟩ := xi_cond h2
            simp only [Bool.and_eq_true, decide_eq_true_iff] at h9
            obtain ⟨h11, h12, rfl⟩ := h9
            obtain ⟨o0, hoo0, f0, rfl, hf0⟩ := hw.2 _ _ ho0
            obtain ⟨o1, hoo1, f1, rfl, hf1⟩ := hw.2 _ _ ho1
            simp only [xi_stp, hq, h6, h7, h8, h5, cond_true, cond_false, h1, hoo0, hoo1, h11, h12, Bool.and_self]
            refine K3 h10 hs1 (hw.set _ ⟨_, rfl, fun k => ?_⟩)
            rw [ag_rdcpy]
            unfold va_cpy
            by_cases hk : dp.toNatClampNeg ≤ k ∧ k < dp.toNatClampNeg + n.toNatClampNeg
            · rw [if_pos hk, if_pos hk]; exact hf0 _
            · rw [if_neg hk, if_neg hk]; exact hf1 k
          · rename_i n0 d0 u0 n1 d1 u1 ho0 ho1
            obtain ⟨h9, h10⟩ := xi_cond h2
            simp only [Bool.and_eq_true, decide_eq_true_iff] at h9
            obtain ⟨h11, h12, rfl⟩ := h9
            obtain ⟨o0, hoo0, f0, rfl, hf0⟩ := hw.2 _ _ ho0
            obtain ⟨o1, hoo1, f1, rfl, hf1⟩ := hw.2 _ _ ho1
            simp only [xi_stp, hq, h6, h7, h8, h5, cond_true, cond_false, h1, hoo0, hoo1, h11, h12, Bool.and_self]
            refine K3 h10 hs1 (hw.set _ ⟨_, rfl, fun k => ?_⟩)
            rw [ag_rdcpy]
            unfold va_cpy
            by_cases hk : dp.toNatClampNeg ≤ k ∧ k < dp.toNatClampNeg + n.toNatClampNeg
            · rw [if_pos hk, if_pos hk]; exact hf0 _
            · rw [if_neg hk, if_neg hk]; exact hf1 k
          · cases h2
        · cases h
  | _ => cases h
end AGS
