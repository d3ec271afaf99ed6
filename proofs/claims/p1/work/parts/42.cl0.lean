/-! the calls on fresh objects: boxes of the arguments, each cut in two where a branch asks -/
def cl_in : List (Int × Int) → List Int32 → Prop
  | [], [] => True
  | q :: r, x :: xs => (q.1 ≤ x.toInt ∧ x.toInt ≤ q.2) ∧ cl_in r xs
  | _, _ => False
def cl_lo : List (Int × Int) → Nat → Int → List (Int × Int)
  | [], _, _ => []
  | q :: r, 0, c => (q.1, c - 1) :: r
  | q :: r, i + 1, c => q :: cl_lo r i c
def cl_hi : List (Int × Int) → Nat → Int → List (Int × Int)
  | [], _, _ => []
  | q :: r, 0, c => (c, q.2) :: r
  | q :: r, i + 1, c => q :: cl_hi r i c
theorem cl_cut : ∀ (b : List (Int × Int)) (i : Nat) (c : Int) (xs : List Int32), cl_in b xs → cl_in (cl_lo b i c) xs ∨ cl_in (cl_hi b i c) xs
  | [], _, _, [], _ => .inl trivial
  | [], _, _, _ :: _, h => h.elim
  | _ :: _, _, _, [], h => h.elim
  | q :: r, 0, c, x :: xs, h => by
    by_cases e : x.toInt ≤ c - 1
    · exact .inl ⟨⟨h.1.1, e⟩, h.2⟩
    · exact .inr ⟨⟨by show c ≤ x.toInt; omega, h.1.2⟩, h.2⟩
  | q :: r, i + 1, c, x :: xs, h => (cl_cut r i c xs h.2).elim (fun k => .inl ⟨h.1, k⟩) (fun k => .inr ⟨h.1, k⟩)
def cl_v (q : Int × Int) : ab_V := cond (decide (q.1 = q.2)) (.inl (.int (Int32.ofInt q.1))) (.inr q)
theorem cl_vok {q : Int × Int} {x : Int32} (h1 : q.1 ≤ x.toInt) (h2 : x.toInt ≤ q.2) : ag_v (cl_v q) (.int x) := by
  unfold cl_v
  by_cases e : q.1 = q.2
  · rw [decide_eq_true e]
    have e2 : q.1 = x.toInt := by omega
    show Value.int x = Value.int (Int32.ofInt q.1)
    rw [e2, Int32.ofInt_toInt]
  · rw [decide_eq_false e]
    exact ⟨x, rfl, h1, h2⟩
def cl_as (k : Nat) (xs : List Int32) : List Value := .ref k :: xs.map .int
def cl_aa (k : Nat) (b : List (Int × Int)) : List ab_V := .inl (.ref k) :: b.map cl_v
theorem cl_sok : ∀ (b : List (Int × Int)) (xs : List Int32), cl_in b xs → ag_s (b.map cl_v) (xs.map .int)
  | [], [], _ => rfl
  | [], _ :: _, h => h.elim
  | _ :: _, [], h => h.elim
  | _ :: r, x :: xs, h => ⟨.int x, _, rfl, cl_vok h.1.1 h.1.2, cl_sok r xs h.2⟩
def cl_f2 (C S : Nat) (v : Int32) (c1 s1 : Nat) (r : Option ab_R) : Bool := match r with
  | some (some (.inl (.int v2)), _, c2, s2) => decide (v = v2) && (Nat.ble (c1 + c2) C && Nat.ble (s1 + s2) S)
  | _ => false
def cl_f1 (C S jm : Nat) (b : List (Int × Int)) (N : Nat) (r : Option ab_R) : Bool := match r with
  | some (some (.inl (.int v)), w1, c1, s1) => cl_f2 C S v c1 s1 (ab_ev sm_S N 21 jm 0 (ab_args 0 (cl_aa 670 b)) [] w1 0 0)
  | _ => false
def cl_lf (C S jc jm N : Nat) (b : List (Int × Int)) : Bool := cl_f1 C S jm b N (ab_ev sm_S N 21 jc 0 (ab_args 0 (cl_aa 0 b)) [] (fw_w, [], 680) 0 0)
/-- both sides' first call answers the same -/
def cl_ok (C S jc jm : Nat) (W : xi_W) (xs : List Int32) : Prop := ∃ (v : Int32) (W1 W2 : xi_W) (c1 s1 c2 s2 : Nat), xg 21 jc 0 (lv_args 0 (cl_as 0 xs)) [] W 0 0 (some (.int v), W1, c1, s1) ∧ xg 21 jm 0 (lv_args 0 (cl_as 670 xs)) [] W1 0 0 (some (.int v), W2, c2, s2) ∧ c1 + c2 ≤ C ∧ s1 + s2 ≤ S
theorem cl_lf_ok {C S jc jm N : Nat} {b : List (Int × Int)} (h : cl_lf C S jc jm N b = true) {W : xi_W} (hW : ag_w (fw_w, [], 680) W) {xs : List Int32} (hx : cl_in b xs) : cl_ok C S jc jm W xs := by
  unfold cl_lf cl_f1 at h
  have hs := cl_sok b xs hx
  split at h
  · rename_i v w1 c1 s1 he
    unfold cl_f2 at h
    split at h
    · rename_i v2 w2 c2 s2 he2
      simp only [Bool.and_eq_true] at h
      obtain ⟨hv, hc, hss⟩ := h
      have hv := of_decide_eq_true hv
      subst hv
      have a0 : ag_s (cl_aa 0 b) (cl_as 0 xs) := ⟨.ref 0, _, rfl, rfl, hs⟩
      have a1 : ag_s (cl_aa 670 b) (cl_as 670 xs) := ⟨.ref 670, _, rfl, rfl, hs⟩
      obtain ⟨n1, r1, e1, u1, x1, y1⟩ := ag_ev sm_Sok N he (L := lv_args 0 (cl_as 0 xs)) (ST := []) (W0 := W) (ag_l.args 0 a0) rfl hW
      obtain ⟨V1, W1, cs1⟩ := r1
      obtain ⟨n2, r2, e2, u2, x2, y2⟩ := ag_ev sm_Sok N he2 (L := lv_args 0 (cl_as 670 xs)) (ST := []) (W0 := W1) (ag_l.args 0 a1) rfl x1
      obtain ⟨V2, W2, cs2⟩ := r2
      have k1 : V1 = some (.int v) := by
        obtain ⟨z, hz, hz2⟩ := u1
        exact (show _ = some z from hz).trans (congrArg some (show z = .int v from hz2))
      have k2 : V2 = some (.int v) := by
        obtain ⟨z, hz, hz2⟩ := u2
        exact (show _ = some z from hz).trans (congrArg some (show z = .int v from hz2))
      have y1 : cs1 = (c1, s1) := y1
      have y2 : cs2 = (c2, s2) := y2
      subst k1
      subst k2
      subst y1
      subst y2
      exact ⟨v, W1, W2, c1, s1, c2, s2, ⟨n1, e1⟩, ⟨n2, e2⟩, Nat.le_of_ble_eq_true hc, Nat.le_of_ble_eq_true hss⟩
    · cases h
  · cases h
def cl_t (F : List (Int × Int) → Bool) : Nat → List (Option (Nat × Int)) → List (Int × Int) → Option (List (Option (Nat × Int)))
  | 0, _, _ => none
  | _ + 1, [], _ => none
  | _ + 1, none :: r, b => cond (F b) (some r) none
  | n + 1, some q :: r, b => match cl_t F n r (cl_lo b q.1 q.2) with
    | some r2 => cl_t F n r2 (cl_hi b q.1 q.2)
    | none => none
theorem cl_t_ok {F : List (Int × Int) → Bool} {P : List Int32 → Prop} (hF : ∀ b, F b = true → ∀ xs, cl_in b xs → P xs) : ∀ (n : Nat) (l : List (Option (Nat × Int))) (b : List (Int × Int)) (r : List (Option (Nat × Int))), cl_t F n l b = some r → ∀ xs, cl_in b xs → P xs
  | 0, _, _, _, h, _, _ => by cases h
  | n + 1, [], _, _, h, _, _ => by cases h
  | n + 1, none :: l, b, r, h, xs, hx => by
    unfold cl_t at h
    cases e : F b with
    | true => exact hF b e xs hx
    | false => rw [e] at h; cases h
  | n + 1, some q :: l, b, r, h, xs, hx => by
    unfold cl_t at h
    split at h
    · rename_i r2 h2
      rcases cl_cut b q.1 q.2 xs hx with k | k
      · exact cl_t_ok hF n l _ _ h2 xs k
      · exact cl_t_ok hF n r2 _ _ h xs k
    · cases h
def cl_is (r : Option (List (Option (Nat × Int)))) : Bool := match r with
  | some _ => true
  | none => false
theorem cl_of {C S jc jm N n : Nat} {l : List (Option (Nat × Int))} {b : List (Int × Int)} (h : cl_is (cl_t (cl_lf C S jc jm N) n l b) = true) {W : xi_W} (hW : ag_w (fw_w, [], 680) W) {xs : List Int32} (hx : cl_in b xs) : cl_ok C S jc jm W xs := by
  unfold cl_is at h
  split at h
  · rename_i r e
    exact cl_t_ok (fun b hb xs hx => cl_lf_ok hb hW hx) n l b r e xs hx
  · cases h
theorem cl_top (x : Int32) : -2147483648 ≤ x.toInt ∧ x.toInt ≤ 2147483647 := ⟨x.le_toInt, by have := x.toInt_lt; omega⟩
