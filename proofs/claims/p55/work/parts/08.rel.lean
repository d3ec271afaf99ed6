/-! what the interpreter's objects and values are in a heap -/
def xi_v (as : List Nat) (v V : Value) : Prop := match v with
  | .ref i => ∃ a, V = .ref a ∧ as[i]? = some a
  | .float _ => V = .null ∨ ∃ a, V = .ref a
  | v => V = v
def xi_s (as : List Nat) : List Value → List Value → Prop
  | [], S => S = []
  | v :: r, S => ∃ V R, S = V :: R ∧ xi_v as v V ∧ xi_s as r R
def xi_l (as : List Nat) : xi_L → xi_L → Prop
  | [], S => S = []
  | q :: r, S => ∃ V R, S = (q.1, V) :: R ∧ xi_v as q.2 V ∧ xi_l as r R
def xi_q (as : List Nat) (x X : Option Nat) : Prop := match x with
  | none => X = none
  | some i => ∃ a, X = some a ∧ as[i]? = some a
/-- an array of arrays of longs: its component's class -/
def xk_J (U : State) (cA : ClassId) (ty : FieldType) : Prop := ty = .array .long → ∃ (kA : Class) (comp : ClassId), U.vm.classes[cA]? = some kA ∧ kA.kind = .array comp (.array .long) ∧ U.vm.findClass "[J" = some comp
theorem xk_J.moved {u U : State} (hvm : u.vm.Alike U.vm) {cA : ClassId} {ty : FieldType} (h : xk_J u cA ty) : xk_J U cA ty := fun e => by
  obtain ⟨kA, comp, h1, h2, h3⟩ := h e
  obtain ⟨k', hk', he⟩ := hvm.2.2 _ _ h1
  exact ⟨k', comp, hk', by rw [he]; exact h2, by rw [hvm.findClass]; exact h3⟩
def xi_AT (U : State) (cA : ClassId) (ty : FieldType) : Prop := ArrOfT U cA ty ∧ va_RA U cA ty
def xi_o (U : State) (as : List Nat) (o : xi_O) (E : va_E) : Prop := match o with
  | .inl (ty, n, .inl f) => ∃ cA, E = .inl (cA, n, .inl f) ∧ xi_AT U cA ty
  | .inl (ty, n, .inr (.inl f)) => ∃ cA, E = .inl (cA, n, .inr (.inl f)) ∧ xi_AT U cA ty
  | .inl (ty, n, .inr (.inr f)) => ∃ cA F, E = .inl (cA, n, .inr (.inr (.inr (.inr F)))) ∧ (∀ k, xi_q as (f k) (F k)) ∧ xi_AT U cA ty ∧ xk_J U cA ty
  | .inr o => ∃ FS, E = .inr (o.1, FS) ∧ xi_s as o.2 FS
/-- what stands outside the method's own cells: the String constants, their bytes, the script; Z: their addresses, the script's length and numbers -/
abbrev xi_Z : Type := List Nat × Nat × (Nat → Int32)
def xk_c (Z : xi_Z) (i : Nat) : xi_O :=
  if i < 8 then .inr (7, [.ref (8 + i), .int 0])
  else if i < 16 then .inl (.byte, xt_sl.getD (i - 8) 0, .inl (fun j => (xt_sb.getD (i - 8) []).getD j 0))
  else .inl (.int, Z.2.1, .inl Z.2.2)
def xi_as (Z : xi_Z) (WS : va_W) : List Nat := Z.1 ++ WS.map Prod.fst
def xi_w (Z : xi_Z) (U : State) (w : xi_W) (WS : va_W) : Prop := Z.1.length = 17 ∧ w.length = 17 + WS.length ∧ (∀ i, i < 17 → w[i]? = some (xk_c Z i)) ∧ ∀ (i : Nat) (o : xi_O), w[17 + i]? = some o → ∃ (a : Nat) (E : va_E), WS[i]? = some (a, E) ∧ xi_o U (xi_as Z WS) o E
def xi_up (as as' : List Nat) : Prop := ∀ (i a : Nat), as[i]? = some a → as'[i]? = some a
theorem xi_up.refl {as : List Nat} : xi_up as as := fun _ _ h => h
theorem xi_up.tr {a b c : List Nat} (h1 : xi_up a b) (h2 : xi_up b c) : xi_up a c := fun i x h => h2 i x (h1 i x h)
theorem xi_v.up {as as' : List Nat} (h : xi_up as as') {v V : Value} (hv : xi_v as v V) : xi_v as' v V := by
  cases v with
  | ref i => obtain ⟨a, h1, h2⟩ := hv; exact ⟨a, h1, h i a h2⟩
  | _ => exact hv
theorem xi_s.up {as as' : List Nat} (h : xi_up as as') : ∀ {v V : List Value}, xi_s as v V → xi_s as' v V
  | [], _, hv => hv
  | _ :: _, _, hv => by obtain ⟨V, R, h1, h2, h3⟩ := hv; exact ⟨V, R, h1, h2.up h, xi_s.up h h3⟩
theorem xi_l.up {as as' : List Nat} (h : xi_up as as') : ∀ {v V : xi_L}, xi_l as v V → xi_l as' v V
  | [], _, hv => hv
  | _ :: _, _, hv => by obtain ⟨V, R, h1, h2, h3⟩ := hv; exact ⟨V, R, h1, h2.up h, xi_l.up h h3⟩
theorem xi_q.up {as as' : List Nat} (h : xi_up as as') {x X : Option Nat} (hv : xi_q as x X) : xi_q as' x X := by
  cases x with
  | none => exact hv
  | some i => obtain ⟨a, h1, h2⟩ := hv; exact ⟨a, h1, h i a h2⟩
theorem xi_o.up {U : State} {as as' : List Nat} (h : xi_up as as') {o : xi_O} {E : va_E} (ho : xi_o U as o E) : xi_o U as' o E := by
  match o, ho with
  | .inl (ty, n, .inl f), ho => exact ho
  | .inl (ty, n, .inr (.inl f)), ho => exact ho
  | .inl (ty, n, .inr (.inr f)), ho => obtain ⟨cA, F, h1, h2, h3⟩ := ho; exact ⟨cA, F, h1, fun k => (h2 k).up h, h3⟩
  | .inr o, ho => obtain ⟨FS, h1, h2⟩ := ho; exact ⟨FS, h1, h2.up h⟩
theorem xi_AT.moved {u U : State} (hvm : u.vm.Alike U.vm) {cA : ClassId} {ty : FieldType} (h : xi_AT u cA ty) : xi_AT U cA ty := ⟨arrOfT_moved hvm h.1, h.2.moved hvm⟩
theorem xi_o.moved {u U : State} (hvm : u.vm.Alike U.vm) {as : List Nat} {o : xi_O} {E : va_E} (ho : xi_o u as o E) : xi_o U as o E := by
  match o, ho with
  | .inl (ty, n, .inl f), ho => obtain ⟨cA, h1, h2⟩ := ho; exact ⟨cA, h1, h2.moved hvm⟩
  | .inl (ty, n, .inr (.inl f)), ho => obtain ⟨cA, h1, h2⟩ := ho; exact ⟨cA, h1, h2.moved hvm⟩
  | .inl (ty, n, .inr (.inr f)), ho => obtain ⟨cA, F, h1, h2, h3, h4⟩ := ho; exact ⟨cA, F, h1, h2, h3.moved hvm, h4.moved hvm⟩
  | .inr o, ho => exact ho
theorem xi_w.moved {Z : xi_Z} {u U : State} (hvm : u.vm.Alike U.vm) {w : xi_W} {WS : va_W} (h : xi_w Z u w WS) : xi_w Z U w WS :=
  ⟨h.1, h.2.1, h.2.2.1, fun i o hi => by obtain ⟨a, E, h1, h2⟩ := h.2.2.2 i o hi; exact ⟨a, E, h1, h2.moved hvm⟩⟩
theorem xi_as_at {Z : xi_Z} {WS : va_W} {i a : Nat} {E : va_E} (hz : Z.1.length = 17) (h : WS[i]? = some (a, E)) : (xi_as Z WS)[17 + i]? = some a := by
  unfold xi_as
  rw [List.getElem?_append_right (by omega), hz, show 17 + i - 17 = i by omega, List.getElem?_map, h]
  rfl
theorem xi_as_c {Z : xi_Z} {WS : va_W} {i : Nat} (hz : Z.1.length = 17) (h : i < 17) : (xi_as Z WS)[i]? = Z.1[i]? := by
  unfold xi_as
  rw [List.getElem?_append_left (by omega)]
theorem xi_as_set {Z : xi_Z} {WS : va_W} {i a : Nat} {E E' : va_E} (h : WS[i]? = some (a, E)) : xi_as Z (WS.set i (a, E')) = xi_as Z WS := by
  unfold xi_as
  congr 1
  rw [List.map_set]
  apply List.ext_getElem?
  intro j
  rw [List.getElem?_set]
  by_cases hj : i = j
  · subst hj
    rw [if_pos rfl, List.getElem?_map, h]
    have := (List.getElem?_eq_some_iff.mp h).1
    simp [this]
  · rw [if_neg hj]
theorem xi_as_push {Z : xi_Z} {WS : va_W} {q : Nat × va_E} : xi_up (xi_as Z WS) (xi_as Z (WS ++ [q])) := by
  intro i a h
  unfold xi_as at h ⊢
  rw [List.map_append, ← List.append_assoc, List.getElem?_append_left (List.getElem?_eq_some_iff.mp h).1]
  exact h
theorem xi_w.set {Z : xi_Z} {U : State} {w : xi_W} {WS : va_W} (h : xi_w Z U w WS) {i a : Nat} {E E' : va_E} {o' : xi_O} (hi : 17 ≤ i) (he : WS[i - 17]? = some (a, E)) (ho : xi_o U (xi_as Z WS) o' E') : xi_w Z U (w.set i o') (WS.set (i - 17) (a, E')) := by
  have hl := (List.getElem?_eq_some_iff.mp he).1
  refine ⟨h.1, by rw [List.length_set, List.length_set]; exact h.2.1, fun j hj => ?_, fun j o hj => ?_⟩
  · rw [List.getElem?_set, if_neg (by omega)]
    exact h.2.2.1 j hj
  · rw [xi_as_set he]
    rw [List.getElem?_set] at hj ⊢
    by_cases hij : i = 17 + j
    · rw [if_pos hij, if_pos (by rw [h.2.1]; omega)] at hj
      cases hj
      rw [if_pos (by omega), if_pos hl]
      exact ⟨a, E', rfl, ho⟩
    · rw [if_neg hij] at hj
      rw [if_neg (by omega)]
      exact h.2.2.2 j o hj
theorem xi_w.push {Z : xi_Z} {U : State} {w : xi_W} {WS : va_W} (h : xi_w Z U w WS) {q : Nat} {E : va_E} {o : xi_O} (ho : xi_o U (xi_as Z WS) o E) : xi_w Z U (w ++ [o]) (WS ++ [(q, E)]) := by
  refine ⟨h.1, by simp [h.2.1]; omega, fun j hj => ?_, fun j p hj => ?_⟩
  · rw [List.getElem?_append_left (by rw [h.2.1]; omega)]
    exact h.2.2.1 j hj
  · by_cases hl : 17 + j < w.length
    · rw [List.getElem?_append_left hl] at hj
      obtain ⟨a, E1, h1, h2⟩ := h.2.2.2 j p hj
      exact ⟨a, E1, by rw [List.getElem?_append_left (by have := h.2.1; omega)]; exact h1, h2.up xi_as_push⟩
    · rw [List.getElem?_append_right (by omega)] at hj
      have hz := (List.getElem?_eq_some_iff.mp hj).1
      have hz : 17 + j - w.length = 0 := by simp at hz; omega
      rw [hz] at hj
      cases hj
      refine ⟨q, E, ?_, ho.up xi_as_push⟩
      have := h.2.1
      rw [List.getElem?_append_right (by omega), show j - WS.length = 0 by omega]
      rfl
theorem xi_as_new {Z : xi_Z} {w : xi_W} {U : State} {WS : va_W} (h : xi_w Z U w WS) {q : Nat} {E : va_E} : (xi_as Z (WS ++ [(q, E)]))[w.length]? = some q := by
  unfold xi_as
  rw [List.map_append, ← List.append_assoc, List.getElem?_append_right (by have := h.1; have := h.2.1; simp; omega)]
  have e : w.length - (Z.1 ++ List.map Prod.fst WS).length = 0 := by have := h.1; have := h.2.1; simp; omega
  rw [e]
  rfl
theorem xi_cat {as : List Nat} {v V : Value} (h : xi_v as v V) : V.category = v.category := by
  cases v with
  | ref i => obtain ⟨a, h1, -⟩ := h; subst h1; rfl
  | float x =>
    rcases h with h1 | ⟨a, h1⟩
    · subst h1; rfl
    · subst h1; rfl
  | _ => cases h; rfl
theorem xi_s.app {as : List Nat} : ∀ {a b A B : List Value}, xi_s as a A → xi_s as b B → xi_s as (a ++ b) (A ++ B)
  | [], _, _, _, h1, h2 => by cases h1; exact h2
  | _ :: _, _, _, _, h1, h2 => by obtain ⟨V, R, h3, h4, h5⟩ := h1; subst h3; exact ⟨V, _, rfl, h4, xi_s.app h5 h2⟩
theorem xi_s.len {as : List Nat} : ∀ {a A : List Value}, xi_s as a A → A.length = a.length
  | [], _, h => by cases h; rfl
  | _ :: _, _, h => by obtain ⟨V, R, h3, h4, h5⟩ := h; subst h3; simp [xi_s.len h5]
theorem xi_s.take {as : List Nat} : ∀ (n : Nat) {a A : List Value}, xi_s as a A → xi_s as (a.take n) (A.take n)
  | 0, _, _, _ => by simp [xi_s]
  | n + 1, [], _, h => by cases h; simp [xi_s]
  | n + 1, _ :: _, _, h => by obtain ⟨V, R, h3, h4, h5⟩ := h; subst h3; exact ⟨V, _, rfl, h4, xi_s.take n h5⟩
theorem xi_s.drop {as : List Nat} : ∀ (n : Nat) {a A : List Value}, xi_s as a A → xi_s as (a.drop n) (A.drop n)
  | 0, _, _, h => h
  | n + 1, [], _, h => by cases h; simp [xi_s]
  | n + 1, _ :: _, _, h => by obtain ⟨V, R, h3, h4, h5⟩ := h; subst h3; exact xi_s.drop n h5
theorem xi_s.rev {as : List Nat} : ∀ {a A : List Value}, xi_s as a A → xi_s as a.reverse A.reverse
  | [], _, h => by cases h; simp [xi_s]
  | _ :: _, _, h => by
    obtain ⟨V, R, h3, h4, h5⟩ := h
    subst h3
    rw [List.reverse_cons, List.reverse_cons]
    exact xi_s.app (xi_s.rev h5) ⟨V, [], rfl, h4, rfl⟩
theorem xi_s.cats {as : List Nat} : ∀ {a A : List Value}, xi_s as a A → (A.map fun v => v.category) = (a.map fun v => v.category)
  | [], _, h => by cases h; rfl
  | _ :: _, _, h => by obtain ⟨V, R, h3, h4, h5⟩ := h; subst h3; simp [xi_s.cats h5, xi_cat h4]
theorem xi_s.at {as : List Nat} : ∀ {a A : List Value} {k : Nat} {v : Value}, xi_s as a A → a[k]? = some v → ∃ (V : Value), A[k]? = some V ∧ xi_v as v V
  | [], _, _, _, _, hk => by simp at hk
  | _ :: _, _, 0, _, h, hk => by obtain ⟨V, R, h3, h4, h5⟩ := h; subst h3; simp at hk; subst hk; exact ⟨V, rfl, h4⟩
  | _ :: _, _, k + 1, _, h, hk => by obtain ⟨V, R, h3, h4, h5⟩ := h; subst h3; exact xi_s.at (k := k) h5 (by simpa using hk)
theorem xi_s.put {as : List Nat} : ∀ {a A : List Value} {k : Nat} {v V : Value}, xi_s as a A → xi_v as v V → xi_s as (a.set k v) (A.set k V)
  | [], _, _, _, _, h, _ => by cases h; simp [xi_s]
  | _ :: _, _, 0, _, _, h, hv => by obtain ⟨V, R, h3, h4, h5⟩ := h; subst h3; exact ⟨_, _, rfl, hv, h5⟩
  | _ :: _, _, k + 1, _, _, h, hv => by obtain ⟨V, R, h3, h4, h5⟩ := h; subst h3; exact ⟨V, _, rfl, h4, xi_s.put h5 hv⟩
theorem xi_l.get {as : List Nat} : ∀ {l L : xi_L} {i : Nat} {v : Value}, xi_l as l L → xi_get l i = some v → ∃ (V : Value) (k : Nat), L[k]? = some (i, V) ∧ xi_v as v V
  | [], _, _, _, _, hk => by simp [xi_get] at hk
  | q :: _, _, i, _, h, hk => by
    obtain ⟨V, R, h3, h4, h5⟩ := h
    subst h3
    unfold xi_get at hk
    cases hb : Nat.beq q.1 i with
    | true => rw [hb] at hk; cases hk; exact ⟨V, 0, by rw [← Nat.eq_of_beq_eq_true hb]; rfl, h4⟩
    | false => rw [hb] at hk; obtain ⟨V', k, h6, h7⟩ := xi_l.get h5 hk; exact ⟨V', k + 1, h6, h7⟩
theorem xi_l.flt {as : List Nat} (p : Nat → Nat → Bool) : ∀ {l L : xi_L}, xi_l as l L → xi_l as (l.filter (fun q => p q.1 q.2.category)) (L.filter (fun q => p q.1 q.2.category))
  | [], _, h => by cases h; simp [xi_l]
  | q :: _, _, h => by
    obtain ⟨V, R, h3, h4, h5⟩ := h
    subst h3
    simp only [List.filter_cons, xi_cat h4]
    by_cases hp : p q.1 q.2.category = true
    · rw [if_pos hp, if_pos hp]
      exact ⟨V, _, rfl, h4, xi_l.flt p h5⟩
    · rw [if_neg hp, if_neg hp]
      exact xi_l.flt p h5
theorem xi_l.st1 {as : List Nat} {l L : xi_L} (i : Nat) {v V : Value} (h : xi_l as l L) (hv : xi_v as v V) : xi_l as (xi_st1 l i v) ((i, V) :: L.filter (fun q => !(q.1 == i) && !(q.1 + 1 == i && q.2.category == 2))) :=
  ⟨V, _, rfl, hv, xi_l.flt (fun a b => !(a == i) && !(a + 1 == i && b == 2)) h⟩
theorem xi_l.st2 {as : List Nat} {l L : xi_L} (i : Nat) {v V : Value} (h : xi_l as l L) (hv : xi_v as v V) : xi_l as (xi_st2 l i v) ((i, V) :: L.filter (fun q => !(q.1 == i) && (!(q.1 == i + 1) && !(q.1 + 1 == i && q.2.category == 2)))) :=
  ⟨V, _, rfl, hv, xi_l.flt (fun a b => !(a == i) && (!(a == i + 1) && !(a + 1 == i && b == 2))) h⟩
theorem xi_l.args {as : List Nat} : ∀ {a A : List Value} (i : Nat), xi_s as a A → xi_l as (lv_args i a) (lv_args i A)
  | [], _, _, h => by cases h; simp [lv_args, xi_l]
  | v :: _, _, i, h => by
    obtain ⟨V, R, h3, h4, h5⟩ := h
    subst h3
    unfold lv_args
    rw [xi_cat h4]
    exact ⟨V, _, rfl, h4, xi_l.args _ h5⟩
theorem xi_sl {as : List Nat} : ∀ {a A : List Value}, xi_s as a A → (lg_sl A).length = (lg_sl a).length
  | [], _, h => by cases h; rfl
  | _ :: _, _, h => by
    obtain ⟨V, R, h3, h4, h5⟩ := h
    subst h3
    have ih := xi_sl h5
    unfold lg_sl at ih ⊢
    simp only [List.flatMap_cons, List.length_append, ih, xi_cat h4]
    split <;> simp
theorem xi_ix_in {i : Int32} {n : Nat} (h : xi_ix i n = true) : vp_in i n := by
  unfold xi_ix at h
  simp only [Bool.and_eq_true, Bool.not_eq_true', decide_eq_false_iff_not] at h
  rintro (q | q)
  · exact h.1 q
  · have := Nat.lt_of_succ_le (Nat.le_of_ble_eq_true h.2)
    omega
theorem xi_jmp_ok {pc : Nat} {off : Int} {t : Nat} (h : xi_jmp pc off = some t) : (pc : Int) + off = (t : Int) := by
  unfold xi_jmp at h
  split at h
  · rename_i n hn
    cases h
    rw [hn]
    rfl
  · cases h
theorem xi_blt {a b : Nat} (h : Nat.blt a b = true) : a < b := Nat.lt_of_succ_le (Nat.le_of_ble_eq_true h)
theorem xi_cond {α : Type} {b : Bool} {x : Option α} {y : α} (h : cond b x none = some y) : b = true ∧ x = some y := by
  cases b with
  | true => exact ⟨rfl, h⟩
  | false => cases h
theorem xi_condN {α : Type} {b : Bool} {x : Option α} {y : α} (h : cond b none x = some y) : b = false ∧ x = some y := by
  cases b with
  | true => cases h
  | false => exact ⟨rfl, h⟩
