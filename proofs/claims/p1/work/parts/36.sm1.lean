/-! what methods of the reference do on a fresh object, for the interpreter by bounds -/
def sm_n (x : Int32) : Nat := x.toBitVec.toNat
theorem sm_lt (x : Int32) : sm_n x < 4294967296 := x.toBitVec.isLt
theorem sm_of (x : Int32) : Int32.ofNat (sm_n x) = x := by
  apply Int32.toBitVec_inj.mp
  show BitVec.ofNat 32 x.toBitVec.toNat = x.toBitVec
  apply BitVec.eq_of_toNat_eq
  rw [BitVec.toNat_ofNat]
  exact Nat.mod_eq_of_lt x.toBitVec.isLt
theorem ag_sget : ∀ {l : List ab_V} {L : List Value} {i : Nat} {a : ab_V}, ag_s l L → l[i]? = some a → ∃ v, L[i]? = some v ∧ ag_v a v
  | [], L, i, a, _, h => by simp at h
  | b :: r, L, i, a, hs, h => by
    obtain ⟨v, R, h1, h2, h3⟩ := hs
    subst h1
    cases i with
    | zero =>
      have e : b = a := Option.some.inj h
      exact ⟨v, rfl, e ▸ h2⟩
    | succ i => exact ag_sget (l := r) (L := R) (i := i) h3 h
/-- an array of ints of a world by bounds -/
def sm_arr (w : ab_W) (k n : Nat) : Option (List (Nat × ab_V)) := match ab_g w k with
  | some (.inl (.inl (ty, m, dv, u))) => cond (xi_fte ty .int && (Nat.beq m n && decide (dv = .inl (.int 0)))) (some u) none
  | _ => none
theorem sm_arrw {w : ab_W} {W0 : xi_W} {k n : Nat} {u : List (Nat × ab_V)} (hw : ag_w w W0) (h : sm_arr w k n = some u) : ∃ F : Nat → Nat, W0[k]? = some (.inl (.int, n, .inl (xn_f F))) ∧ (∀ j, F j < 4294967296) ∧ ∀ j, ag_v (ab_rd (.inl (.int 0)) u j) (.int (Int32.ofNat (F j))) := by
  unfold sm_arr at h
  split at h
  · rename_i ty m dv u' he
    obtain ⟨h1, h2⟩ := xi_cond h
    simp only [Bool.and_eq_true] at h1
    obtain ⟨e1, e2, e3⟩ := h1
    have e1 := xi_fte_ok e1
    have e2 := Nat.eq_of_beq_eq_true e2
    have e3 := of_decide_eq_true e3
    have e4 : u' = u := Option.some.inj h2
    subst e1
    subst e2
    subst e3
    subst e4
    obtain ⟨o, g1, f, g2, g3⟩ := hw.2 k _ he
    refine ⟨fun j => sm_n (f j), ?_, fun j => sm_lt _, fun j => ?_⟩
    · rw [g1, g2]
      have : xn_f (fun j => sm_n (f j)) = f := by
        funext j
        exact sm_of (f j)
      rw [this]
    · rw [sm_of]; exact g3 j
  · cases h
theorem sm_set {w : ab_W} {W0 : xi_W} (hw : ag_w w W0) (k n : Nat) {u : List (Nat × ab_V)} {G : Nat → Nat} (hG : ∀ j, ag_v (ab_rd (.inl (.int 0)) u j) (.int (Int32.ofNat (G j)))) : ag_w (ab_s w k (.inl (.inl (.int, n, .inl (.int 0), u)))) (W0.set k (.inl (.int, n, .inl (xn_f G)))) := hw.set k ⟨xn_f G, rfl, hG⟩
/-- the reference's object -/
def sm_obj (w : ab_W) : Option Int32 := match ab_g w 670 with
  | some (.inr (c, fl)) => cond (Nat.beq c 7 && (decide (fl[0]? = some (.inl (.ref 671))) && decide (fl[24]? = some (.inl (.ref 679))))) (match (fl[23]? : Option ab_V) with | some (.inl (.int n)) => some n | _ => none) none
  | _ => none
theorem sm_objw {w : ab_W} {W0 : xi_W} {n : Int32} (hw : ag_w w W0) (h : sm_obj w = some n) : ∃ FL, W0[670]? = some (.inr (7, FL)) ∧ FL[0]? = some (.ref 671) ∧ FL[24]? = some (.ref 679) ∧ FL[23]? = some (.int n) := by
  unfold sm_obj at h
  split at h
  · rename_i c fl he
    obtain ⟨h1, h2⟩ := xi_cond h
    simp only [Bool.and_eq_true] at h1
    obtain ⟨e1, e2, e3⟩ := h1
    have e1 := Nat.eq_of_beq_eq_true e1
    have e2 := of_decide_eq_true e2
    have e3 := of_decide_eq_true e3
    subst e1
    obtain ⟨o, g1, FL, g2, g3⟩ := hw.2 670 _ he
    split at h2
    · rename_i m hm
      have e4 : m = n := Option.some.inj h2
      subst e4
      obtain ⟨v1, a1, a2⟩ := ag_sget g3 e2
      obtain ⟨v2, b1, b2⟩ := ag_sget g3 e3
      obtain ⟨v3, c1, c2⟩ := ag_sget g3 hm
      exact ⟨FL, by rw [g1, g2], by rw [a1, show v1 = .ref 671 from a2], by rw [b1, show v2 = .ref 679 from b2], by rw [c1, show v3 = .int m from c2]⟩
    · cases h2
  · cases h
theorem sm_len {W0 : xi_W} {k : Nat} {o : xi_O} (h : W0[k]? = some o) : k < W0.length := by
  rcases Nat.lt_or_ge k W0.length with e | e
  · exact e
  · rw [List.getElem?_eq_none e] at h; cases h
theorem sm_B {W0 : xi_W} {FL : List Value} {F : Nat → Nat} (h0 : W0[670]? = some (.inr (7, FL))) (h1 : FL[0]? = some (.ref 671)) (h2 : W0[671]? = some (.inl (.int, 98262, .inl (xn_f F)))) : rf_B W0 670 671 (7, FL) ∧ rf_w W0 671 F = W0 := ⟨⟨h0, sm_len h2, by decide, rfl, h1⟩, set_same h2⟩
/-- nothing lies in the states -/
def sm_z (u : List (Nat × ab_V)) : Bool := u.all (fun q => Nat.blt q.1 205 || Nat.ble 3372 q.1)
theorem sm_zr {d : ab_V} : ∀ {u : List (Nat × ab_V)} {k : Nat}, sm_z u = true → 205 ≤ k → k < 3372 → ab_rd d u k = d
  | [], _, _, _, _ => rfl
  | q :: r, k, h, h1, h2 => by
    unfold sm_z at h
    rw [List.all_cons, Bool.and_eq_true] at h
    have e : Nat.beq q.1 k = false := by
      rw [ag_beqF]
      intro e
      have h3 := h.1
      rw [Bool.or_eq_true] at h3
      rcases h3 with h3 | h3
      · have := xi_blt h3; omega
      · have := Nat.le_of_ble_eq_true h3; omega
    unfold ab_rd
    rw [e, cond_false]
    exact sm_zr (u := r) h.2 h1 h2
theorem sm_z0 {u : List (Nat × ab_V)} {F : Nat → Nat} (hz : sm_z u = true) (hF : ∀ j, F j < 4294967296) (hu : ∀ j, ag_v (ab_rd (.inl (.int 0)) u j) (.int (Int32.ofNat (F j)))) {k : Nat} (h1 : 205 ≤ k) (h2 : k < 3372) : F k = 0 := by
  have h := hu k
  rw [sm_zr hz h1 h2] at h
  exact (n_eq (hF k) (by omega)).mp (Value.int.inj h)
/-- an int that is a state's place -/
def sm_in (x : Int32) : Bool := Nat.ble 205 (sm_n x) && Nat.ble (sm_n x + 57) 3372
theorem sm_in_ok {x : Int32} (h : sm_in x = true) : 205 ≤ sm_n x ∧ sm_n x + 57 ≤ 3372 ∧ Int32.ofNat (sm_n x) = x := by
  unfold sm_in at h
  rw [Bool.and_eq_true] at h
  exact ⟨Nat.le_of_ble_eq_true h.1, Nat.le_of_ble_eq_true h.2, sm_of x⟩
/-- joins of empty states -/
theorem sm_mer {F : Nat → Nat} (hz : ∀ k, 205 ≤ k → k < 3372 → F k = 0) {X Y : Nat} (hX : 205 ≤ X ∧ X + 57 ≤ 3372) (hY : 205 ≤ Y ∧ Y + 57 ≤ 3372) (hX1 : X + 57 ≤ 3201 ∨ 3258 ≤ X) (hY1 : Y + 57 ≤ 3201 ∨ 3258 ≤ Y) : rf_mer F X Y = F := by
  funext k
  by_cases hk : k < 3201 ∨ 3258 ≤ k
  · exact rf_mero hX1 hY1 hk
  · unfold rf_mer
    have e : ∀ H : Nat → Nat, H (X + 8) = 0 → H (Y + 8) = 0 → rf_mg X Y 48 0 0 H = H := fun H h1 h2 => by
      unfold rf_mg
      rw [if_neg (by omega)]
    rw [e _ (by rw [rf_oro X Y 8 0 _ _ rfl (by omega), rf_zo _ _ _ (by omega)]; exact hz _ (by omega) (by omega)) (by rw [rf_oro X Y 8 0 _ _ rfl (by omega), rf_zo _ _ _ (by omega)]; exact hz _ (by omega) (by omega)), hz k (by omega) (by omega)]
    by_cases h8 : k < 3209
    · have e2 : k = 3201 + (k - 3201) := by omega
      rw [e2, rf_orv X Y (by omega) (by omega) 8 0 _ _ rfl (by omega) (by omega), rf_zo _ _ _ (by omega), rf_zo _ _ _ (by omega), hz _ (by omega) (by omega), hz _ (by omega) (by omega)]
      rfl
    · rw [rf_oro X Y 8 0 _ _ rfl (by omega)]
      exact if_pos (by omega)
theorem sm_clr {F : Nat → Nat} (hz : ∀ k, 205 ≤ k → k < 3372 → F k = 0) {X : Nat} (hX : 205 ≤ X ∧ X + 57 ≤ 3372) : rf_z F X 0 = F := by
  funext k
  unfold rf_z
  split
  · exact (hz k (by omega) (by omega)).symm
  · rfl
theorem sm_cpy {F : Nat → Nat} (hz : ∀ k, 205 ≤ k → k < 3372 → F k = 0) {X Y : Nat} (hX : 205 ≤ X ∧ X + 57 ≤ 3372) (hY : 205 ≤ Y ∧ Y + 57 ≤ 3372) : rf_c F X Y 0 = F := by
  funext k
  unfold rf_c
  split
  · rw [hz k (by omega) (by omega), hz _ (by omega) (by omega)]
  · rfl
/-! whole copies -/
def cp_f (F : Nat → Nat) (p q : Nat) : Nat → Nat → (Nat → Nat) → (Nat → Nat)
  | 0, _, H => H
  | m + 1, k, H => cp_f F p q m (k + 1) (xn_u H (q + k) (F (p + k)))
theorem cp_v (F : Nat → Nat) (p q : Nat) : ∀ (m k : Nat) (H : Nat → Nat) (j : Nat), cp_f F p q m k H j = if q + k ≤ j ∧ j < q + k + m then F (p + (j - q)) else H j
  | 0, k, H, j => by
    unfold cp_f
    rw [if_neg (by omega)]
  | m + 1, k, H, j => by
    unfold cp_f
    rw [cp_v F p q m (k + 1) _ j]
    by_cases e : j = q + k
    · subst e
      rw [if_neg (by omega), if_pos (by omega), xn_ue]
      exact congrArg F (by omega)
    · by_cases h : q + (k + 1) ≤ j ∧ j < q + (k + 1) + m
      · rw [if_pos h, if_pos (by omega)]
      · rw [if_neg h, if_neg (by omega), xn_un _ _ e]
theorem cp_L (d c s : Nat) (w : xi_W) (a v : Nat) (hab : a ≠ v) (F : Nat → Nat) (ha : w[a]? = some (.inl (.int, 98262, .inl (xn_f F)))) (hb : v < w.length) : ∀ (m k : Nat) (H : Nat → Nat), k + m = 98262 → xg d 158 2 [(2, .int (Int32.ofNat k)), (0, .ref a), (1, .ref v)] [] (w.set v (.inl (.int, 98262, .inl (xn_f H)))) c s (none, w.set v (.inl (.int, 98262, .inl (xn_f (cp_f F 0 0 m k H)))), c, s)
  | 0, k, H, hm => by
    unfold cp_f
    refine xg_stp rfl rfl rfl rfl ?_
    refine xg_stp (st' := .int (Int32.ofNat 98262) :: _) rfl rfl rfl rfl ?_
    refine xg_j2 rfl rfl rfl rfl rfl (fun h5 => ?_) (fun h5 => ?_)
    · exact xg_ret rfl rfl
    · exact absurd (nf_ge (by omega) (by omega) h5) (by omega)
  | m + 1, k, H, hm => by
    unfold cp_f
    rw [Nat.zero_add]
    refine xg_stp rfl rfl rfl rfl ?_
    refine xg_stp (st' := .int (Int32.ofNat 98262) :: _) rfl rfl rfl rfl ?_
    refine xg_j2 rfl rfl rfl rfl rfl (fun h5 => ?_) (fun h5 => ?_)
    · exact absurd (nt_ge (by omega) (by omega) h5) (by omega)
    · refine xg_stp rfl rfl rfl rfl ?_
      refine xg_stp rfl rfl rfl rfl ?_
      refine xg_stp rfl rfl rfl rfl ?_
      refine xg_stp rfl rfl rfl rfl ?_
      refine xn_iaload (F := F) (n := 98262) (by rw [List.getElem?_set_ne (fun e => hab e.symm)]; exact ha) (by omega) (by omega) rfl ?_
      refine xn_iastore (F := H) (n := 98262) (List.getElem?_set_self hb) (by omega) (by omega) rfl ?_
      rw [List.set_set]
      refine xn_inc (e := 1) rfl rfl rfl rfl ?_
      refine xg_stp rfl rfl rfl rfl ?_
      have e := cp_L d c s w a v hab F ha hb m (k + 1) (xn_u H (0 + k) (F (0 + k))) (by omega)
      rw [Nat.zero_add] at e
      exact e
theorem cp_copy (d c s : Nat) (w : xi_W) (a v : Nat) (hab : a ≠ v) (F H : Nat → Nat) (ha : w[a]? = some (.inl (.int, 98262, .inl (xn_f F)))) (hv : w[v]? = some (.inl (.int, 98262, .inl (xn_f H)))) : xg d 158 0 [(0, .ref a), (1, .ref v)] [] w c s (none, w.set v (.inl (.int, 98262, .inl (xn_f (cp_f F 0 0 98262 0 H)))), c, s) := by
  refine xg_stp (st' := .int (Int32.ofNat 0) :: _) rfl rfl rfl rfl ?_
  refine xg_stp rfl rfl rfl rfl ?_
  have e := cp_L d c s w a v hab F ha (sm_len hv) 98262 0 H rfl
  rw [set_same hv] at e
  exact e
theorem putAsideL (d c s : Nat) (w : xi_W) (FL : List Value) (h0 : w[670]? = some (.inr (7, FL))) (hf0 : FL[0]? = some (.ref 671)) (hf24 : FL[24]? = some (.ref 679)) (F : Nat → Nat) (ha : w[671]? = some (.inl (.int, 98262, .inl (xn_f F)))) (hb : 679 < w.length) : ∀ (m k : Nat) (H : Nat → Nat), k + m = 3163 → xg d 293 2 [(1, .int (Int32.ofNat k)), (0, .ref 670)] [] (w.set 679 (.inl (.int, 3163, .inl (xn_f H)))) c s (none, w.set 679 (.inl (.int, 3163, .inl (xn_f (cp_f F 6 0 m k H)))), c, s)
  | 0, k, H, hm => by
    unfold cp_f
    refine xg_stp rfl rfl rfl rfl ?_
    refine xg_stp (st' := .int (Int32.ofNat 3163) :: _) rfl rfl rfl rfl ?_
    refine xg_j2 rfl rfl rfl rfl rfl (fun h6 => ?_) (fun h6 => ?_)
    · exact xg_ret rfl rfl
    · exact absurd (nf_ge (by omega) (by omega) h6) (by omega)
  | m + 1, k, H, hm => by
    unfold cp_f
    rw [Nat.zero_add]
    refine xg_stp rfl rfl rfl rfl ?_
    refine xg_stp (st' := .int (Int32.ofNat 3163) :: _) rfl rfl rfl rfl ?_
    refine xg_j2 rfl rfl rfl rfl rfl (fun h6 => ?_) (fun h6 => ?_)
    · exact absurd (nt_ge (by omega) (by omega) h6) (by omega)
    · refine xg_stp rfl rfl rfl rfl ?_
      refine xg_getfield (show (w.set 679 _)[670]? = _ from (by rw [List.getElem?_set_ne (by decide)]; exact h0)) rfl rfl rfl hf24 ?_
      refine xg_stp rfl rfl rfl rfl ?_
      refine xg_stp rfl rfl rfl rfl ?_
      refine xg_getfield (show (w.set 679 _)[670]? = _ from (by rw [List.getElem?_set_ne (by decide)]; exact h0)) rfl rfl rfl hf0 ?_
      refine xg_stp (st' := .int (Int32.ofNat 6) :: _) rfl rfl rfl rfl ?_
      refine xg_stp rfl rfl rfl rfl ?_
      refine xn_add rfl ?_
      refine xn_iaload (F := F) (n := 98262) (show (w.set 679 _)[671]? = _ from (by rw [List.getElem?_set_ne (by decide)]; exact ha)) (by omega) (by omega) rfl ?_
      refine xn_iastore (F := H) (n := 3163) (List.getElem?_set_self hb) (by omega) (by omega) rfl ?_
      rw [List.set_set]
      refine xn_inc (e := 1) rfl rfl rfl rfl ?_
      refine xg_stp rfl rfl rfl rfl ?_
      have e := putAsideL d c s w FL h0 hf0 hf24 F ha hb m (k + 1) (xn_u H (0 + k) (F (6 + k))) (by omega)
      rw [Nat.zero_add] at e
      exact e
theorem cp_putAside (d c s : Nat) (w : xi_W) (FL : List Value) (h0 : w[670]? = some (.inr (7, FL))) (hf0 : FL[0]? = some (.ref 671)) (hf24 : FL[24]? = some (.ref 679)) (F H : Nat → Nat) (ha : w[671]? = some (.inl (.int, 98262, .inl (xn_f F)))) (hv : w[679]? = some (.inl (.int, 3163, .inl (xn_f H)))) : xg d 293 0 [(0, .ref 670)] [] w c s (none, w.set 679 (.inl (.int, 3163, .inl (xn_f (cp_f F 6 0 3163 0 H)))), c, s) := by
  refine xg_stp (st' := .int (Int32.ofNat 0) :: _) rfl rfl rfl rfl ?_
  refine xg_stp rfl rfl rfl rfl ?_
  have e := putAsideL d c s w FL h0 hf0 hf24 F ha (sm_len hv) 3163 0 H rfl
  rw [set_same hv] at e
  exact e
theorem bringBackL (d c s : Nat) (w : xi_W) (FL : List Value) (h0 : w[670]? = some (.inr (7, FL))) (hf0 : FL[0]? = some (.ref 671)) (hf24 : FL[24]? = some (.ref 679)) (F : Nat → Nat) (ha : w[679]? = some (.inl (.int, 3163, .inl (xn_f F)))) (hb : 671 < w.length) : ∀ (m k : Nat) (H : Nat → Nat), k + m = 3163 → xg d 294 2 [(1, .int (Int32.ofNat k)), (0, .ref 670)] [] (w.set 671 (.inl (.int, 98262, .inl (xn_f H)))) c s (none, w.set 671 (.inl (.int, 98262, .inl (xn_f (cp_f F 0 6 m k H)))), c, s)
  | 0, k, H, hm => by
    unfold cp_f
    refine xg_stp rfl rfl rfl rfl ?_
    refine xg_stp (st' := .int (Int32.ofNat 3163) :: _) rfl rfl rfl rfl ?_
    refine xg_j2 rfl rfl rfl rfl rfl (fun h6 => ?_) (fun h6 => ?_)
    · exact xg_ret rfl rfl
    · exact absurd (nf_ge (by omega) (by omega) h6) (by omega)
  | m + 1, k, H, hm => by
    unfold cp_f
    rw [Nat.zero_add]
    refine xg_stp rfl rfl rfl rfl ?_
    refine xg_stp (st' := .int (Int32.ofNat 3163) :: _) rfl rfl rfl rfl ?_
    refine xg_j2 rfl rfl rfl rfl rfl (fun h6 => ?_) (fun h6 => ?_)
    · exact absurd (nt_ge (by omega) (by omega) h6) (by omega)
    · refine xg_stp rfl rfl rfl rfl ?_
      refine xg_getfield (show (w.set 671 _)[670]? = _ from (by rw [List.getElem?_set_ne (by decide)]; exact h0)) rfl rfl rfl hf0 ?_
      refine xg_stp (st' := .int (Int32.ofNat 6) :: _) rfl rfl rfl rfl ?_
      refine xg_stp rfl rfl rfl rfl ?_
      refine xn_add rfl ?_
      refine xg_stp rfl rfl rfl rfl ?_
      refine xg_getfield (show (w.set 671 _)[670]? = _ from (by rw [List.getElem?_set_ne (by decide)]; exact h0)) rfl rfl rfl hf24 ?_
      refine xg_stp rfl rfl rfl rfl ?_
      refine xn_iaload (F := F) (n := 3163) (show (w.set 671 _)[679]? = _ from (by rw [List.getElem?_set_ne (by decide)]; exact ha)) (by omega) (by omega) rfl ?_
      refine xn_iastore (F := H) (n := 98262) (List.getElem?_set_self hb) (by omega) (by omega) rfl ?_
      rw [List.set_set]
      refine xn_inc (e := 1) rfl rfl rfl rfl ?_
      refine xg_stp rfl rfl rfl rfl ?_
      have e := bringBackL d c s w FL h0 hf0 hf24 F ha hb m (k + 1) (xn_u H (6 + k) (F (0 + k))) (by omega)
      rw [Nat.zero_add] at e
      exact e
theorem cp_bringBack (d c s : Nat) (w : xi_W) (FL : List Value) (h0 : w[670]? = some (.inr (7, FL))) (hf0 : FL[0]? = some (.ref 671)) (hf24 : FL[24]? = some (.ref 679)) (F H : Nat → Nat) (ha : w[679]? = some (.inl (.int, 3163, .inl (xn_f F)))) (hv : w[671]? = some (.inl (.int, 98262, .inl (xn_f H)))) : xg d 294 0 [(0, .ref 670)] [] w c s (none, w.set 671 (.inl (.int, 98262, .inl (xn_f (cp_f F 0 6 3163 0 H)))), c, s) := by
  refine xg_stp (st' := .int (Int32.ofNat 0) :: _) rfl rfl rfl rfl ?_
  refine xg_stp rfl rfl rfl rfl ?_
  have e := bringBackL d c s w FL h0 hf0 hf24 F ha (sm_len hv) 3163 0 H rfl
  rw [set_same hv] at e
  exact e
