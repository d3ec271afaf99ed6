/-! one instruction: what the interpreter says is what the machine does -/
def xk_AO (U : State) : Prop := (Cond.arrayOver (.array .long)).before #[] U = true
theorem xk_AO.moved {u U : State} (hvm : u.vm.Alike U.vm) (h : xk_AO u) : xk_AO U := by
  obtain ⟨comp, c, k, h1, h2, h3, h4, h5⟩ := arrayOverA_spec h
  obtain ⟨k', hk', he⟩ := hvm.2.2 _ _ h3
  have hi : (U.vm.classes.findIdx? fun (x : Class) => match x.kind with | .array component _ => component == comp | _ => false) = some c := by
    have e1 := va_idx_bare U.vm comp
    have e2 := va_idx_bare u.vm comp
    have e0 : U.vm.bare = u.vm.bare := by first | exact hvm.bare_eq | exact hvm.bare_eq.symm
    rw [e0] at e1
    exact e1.symm.trans (e2.trans h2)
  have hkind : k'.kind = .array comp (.array .long) := by rw [he]; exact h4
  have f1 : U.vm.findClass (FieldType.array FieldType.long).toString = some comp := by rw [hvm.findClass]; exact h1
  have f2 : U.vm.findClass ("[" ++ (FieldType.array FieldType.long).toString) = some c := by rw [hvm.findClass]; exact h5
  unfold xk_AO Cond.before Cond.holds
  simp only [Cond.value]
  rw [f1, Option.bind_some]
  refine (congrArg (fun o : Option Nat => (o.bind (fun c => (U.vm.classes[c]?).map fun (k : Class) => match k.kind with | .array _ ty => decide (ty = FieldType.array FieldType.long) && decide (U.vm.findClass ("[" ++ (FieldType.array FieldType.long).toString) = some c) | _ => false) == some true)) hi).trans ?_
  simp [hk', hkind, f2]
def xi_N (U : State) : Prop := (∀ q ∈ xt_NL, va_Nw (.methodLinkNest q.1 q.2.1 q.2.2.1 q.2.2.2) U) ∧ va_AO "DeltaNests$World" U ∧ va_AO "DeltaNests$Text" U ∧ va_Nw (.castable "[I" "java/lang/Cloneable") U ∧ va_Nw (.castable "[J" "java/lang/Cloneable") U ∧ xk_AO U
/-- the constants, in a state -/
def xi_KS (Z : xi_Z) (A : Nat → Prop) (U : State) (H : Heap) : Prop := vk_S 8 xt_sl xt_sb (fun i => Z.1.getD i 0) (fun i => Z.1.getD (8 + i) 0) A U H ∧ (∀ n, n < 8 → ∀ q t, xt_so[n]? = some q → xt_st[n]? = some t → vk_R (xt_on q.1) q.2 t (Z.1.getD n 0) U) ∧ va_T .int (Z.1.getD 16 0) Z.2.1 (fun j => .int (Z.2.2 j)) A U H ∧ va_Z "java/lang/String" "COMPACT_STRINGS" "Z" (.int 1) A U H ∧ va_Zq "jdk/internal/util/Preconditions" "SIOOBE_FORMATTER" "Ljava/util/function/BiFunction;" A U H ∧ Z.1.length = 17
theorem xi_KS.warm {Z : xi_Z} {A : Nat → Prop} {s U : State} {H : Heap} (hW : s.WarmedH U.vm) (h : xi_KS Z A s H) : xi_KS Z A U H :=
  ⟨h.1.moved hW.alike, fun n hn q t h1 h2 => (h.2.1 n hn q t h1 h2).warm hW, h.2.2.1.moved hW.alike, h.2.2.2.1.moved hW.alike, h.2.2.2.2.1.moved hW.alike, h.2.2.2.2.2⟩
theorem xi_KS.same {Z : xi_Z} {A : Nat → Prop} {u U : State} {H : Heap} (hv : U.vm = u.vm) (h : xi_KS Z A u H) : xi_KS Z A U H := by
  have hal : u.vm.Alike U.vm := by rw [hv]; exact Vm.Alike.refl u.vm
  exact ⟨h.1.moved hal, fun n hn q t h1 h2 => (h.2.1 n hn q t h1 h2).same hv, h.2.2.1.moved hal, h.2.2.2.1.moved hal, h.2.2.2.2.1.moved hal, h.2.2.2.2.2⟩
theorem xi_KS.kept {Z : xi_Z} {A : Nat → Prop} {U : State} {H H1 : Heap} (h : xi_KS Z A U H) (hq : ∀ a : Nat, a < H.size → ¬ A a → H1[a]? = H[a]?) : xi_KS Z A U H1 :=
  ⟨h.1.kept hq, h.2.1, h.2.2.1.kept hq, h.2.2.2.1.kept hq, h.2.2.2.2.1.kept hq, h.2.2.2.2.2⟩
theorem xi_KS.narrow {Z : xi_Z} {A B : Nat → Prop} {U : State} {H : Heap} (h : xi_KS Z A U H) (hAB : ∀ q, B q → A q) : xi_KS Z B U H :=
  ⟨h.1.narrow hAB, h.2.1, h.2.2.1.narrow hAB, h.2.2.2.1.narrow hAB, h.2.2.2.2.1.narrow hAB, h.2.2.2.2.2⟩
def xi_C (Z : xi_Z) (p : Program) (s : State) (m : MethodId) (args : Array Value) (meth : Method) (c : Code) (D : va_G) (A : Nat → Prop) (i : Nat) : Prop :=
  p.tables.exec = Jvm.exec ∧ c.code = xt_mb i ∧ c.maxLocals = xt_ml i ∧ s.vm.findClass (xt_on (xt_mo i)) = some m.cls ∧ (∀ w ∈ xt_G, w.before args s = true) ∧ va_K D xt_cl [] s ∧ xi_N s ∧ (∀ q, s.heap.size ≤ q → A q) ∧ (xt_mi i = true → meth.name = "<init>") ∧ meth.sig.returnType = xt_mr i ∧ meth.locks = false ∧ xi_KS Z A s s.heap
theorem xi_dec {b : ByteArray} {pc : Nat} {ins : Jvm.ClassFile.Instr} (h : ∃ len, decode b pc = .ok (ins, len) ∧ (xi_sw ins = true ∨ len = xi_ln ins)) (hs : xi_sw ins = false) : decode b pc = .ok (ins, xi_ln ins) := by
  obtain ⟨len, h1, h2 | h2⟩ := h
  · rw [hs] at h2; cases h2
  · rw [← h2]; exact h1
theorem xi_s_i {as : List Nat} {x : Int32} {r ST : List Value} (h : xi_s as (.int x :: r) ST) : ∃ R, ST = .int x :: R ∧ xi_s as r R := by
  obtain ⟨V, R, h1, h2, h3⟩ := h; cases h2; exact ⟨R, h1, h3⟩
theorem xi_s_l {as : List Nat} {x : Int64} {r ST : List Value} (h : xi_s as (.long x :: r) ST) : ∃ R, ST = .long x :: R ∧ xi_s as r R := by
  obtain ⟨V, R, h1, h2, h3⟩ := h; cases h2; exact ⟨R, h1, h3⟩
theorem xi_s_n {as : List Nat} {r ST : List Value} (h : xi_s as (.null :: r) ST) : ∃ R, ST = .null :: R ∧ xi_s as r R := by
  obtain ⟨V, R, h1, h2, h3⟩ := h; cases h2; exact ⟨R, h1, h3⟩
theorem xi_s_r {as : List Nat} {x : Nat} {r ST : List Value} (h : xi_s as (.ref x :: r) ST) : ∃ a R, ST = .ref a :: R ∧ as[x]? = some a ∧ xi_s as r R := by
  obtain ⟨V, R, h1, ⟨a, h2, h4⟩, h3⟩ := h; subst h2; exact ⟨a, R, h1, h4, h3⟩
theorem xi_s_c {as : List Nat} {v : Value} {r ST : List Value} (h : xi_s as (v :: r) ST) : ∃ V R, ST = V :: R ∧ xi_v as v V ∧ xi_s as r R := h
theorem xi_mk {as : List Nat} {v V : Value} {r R : List Value} (hv : xi_v as v V) (h : xi_s as r R) : xi_s as (v :: r) (V :: R) := ⟨V, R, rfl, hv, h⟩
theorem xi_ob {Z : xi_Z} {U : State} {w : xi_W} {WS : va_W} (h : xi_w Z U w WS) {i a : Nat} {o : xi_O} (hi : 17 ≤ i) (ho : w[i]? = some o) (ha : (xi_as Z WS)[i]? = some a) : ∃ E, WS[i - 17]? = some (a, E) ∧ xi_o U (xi_as Z WS) o E := by
  obtain ⟨a', E, h1, h2⟩ := h.2.2.2 (i - 17) o (by rw [show 17 + (i - 17) = i by omega]; exact ho)
  have h3 := xi_as_at h.1 h1
  rw [show 17 + (i - 17) = i by omega, ha] at h3
  cases h3
  exact ⟨E, h1, h2⟩
theorem xi_obc {Z : xi_Z} {U : State} {w : xi_W} {WS : va_W} (h : xi_w Z U w WS) {i a : Nat} {o : xi_O} (hi : i < 17) (ho : w[i]? = some o) (ha : (xi_as Z WS)[i]? = some a) : o = xk_c Z i ∧ a = Z.1.getD i 0 := by
  have h1 := h.2.2.1 i hi
  rw [ho] at h1
  rw [xi_as_c h.1 hi] at ha
  refine ⟨Option.some.inj h1, ?_⟩
  rw [List.getD_eq_getElem?_getD, ha]
  rfl
theorem xk_17 {a : Nat} (h : Nat.ble 17 a = true) : 17 ≤ a := Nat.le_of_ble_eq_true h
theorem xi_KA {D : va_G} {s : State} {cA : ClassId} {ty : FieldType} (hK : va_K D xt_cl [] s) (h : xi_AT s cA ty) : va_K D xt_cl [(cA, ty)] s :=
  ⟨hK.1, fun k q hk => by
    cases k with
    | zero => cases hk; exact h
    | succ k => simp at hk⟩
theorem xi_u1_inv {F : Nat → List Value → Option xi_F} {st : List Value} {g : Int32 → Value} {pc : Nat} {X : xi_F} (h : xi_u1 F st g pc = some X) : ∃ x r, st = .int x :: r ∧ F (pc + 1) (g x :: r) = some X := by
  unfold xi_u1 at h
  split at h
  · exact ⟨_, _, rfl, h⟩
  · cases h
theorem xi_u1l_inv {F : Nat → List Value → Option xi_F} {st : List Value} {g : Int64 → Value} {pc : Nat} {X : xi_F} (h : xi_u1l F st g pc = some X) : ∃ x r, st = .long x :: r ∧ F (pc + 1) (g x :: r) = some X := by
  unfold xi_u1l at h
  split at h
  · exact ⟨_, _, rfl, h⟩
  · cases h
theorem xi_b2_inv {F : Nat → List Value → Option xi_F} {st : List Value} {g : Int32 → Int32 → Int32} {pc : Nat} {X : xi_F} (h : xi_b2 F st g pc = some X) : ∃ x y r, st = .int y :: .int x :: r ∧ F (pc + 1) (.int (g x y) :: r) = some X := by
  unfold xi_b2 at h
  split at h
  · exact ⟨_, _, _, rfl, h⟩
  · cases h
theorem xi_b2l_inv {F : Nat → List Value → Option xi_F} {st : List Value} {g : Int64 → Int64 → Value} {pc : Nat} {X : xi_F} (h : xi_b2l F st g pc = some X) : ∃ x y r, st = .long y :: .long x :: r ∧ F (pc + 1) (g x y :: r) = some X := by
  unfold xi_b2l at h
  split at h
  · exact ⟨_, _, _, rfl, h⟩
  · cases h
theorem xi_shl_inv {F : Nat → List Value → Option xi_F} {st : List Value} {g : Int64 → Int32 → Int64} {pc : Nat} {X : xi_F} (h : xi_shl F st g pc = some X) : ∃ x y r, st = .int y :: .long x :: r ∧ F (pc + 1) (.long (g x y) :: r) = some X := by
  unfold xi_shl at h
  split at h
  · exact ⟨_, _, _, rfl, h⟩
  · cases h
theorem xi_j1_inv {F : Nat → List Value → Option xi_F} {st : List Value} {t : Int32 → Bool} {pc : Nat} {off : Int} {X : xi_F} (h : xi_j1 F st t pc off = some X) : ∃ x r tgt, st = .int x :: r ∧ (pc : Int) + off = ((tgt : Nat) : Int) ∧ (t x = true → F tgt r = some X) ∧ (t x = false → F (pc + 3) r = some X) := by
  unfold xi_j1 at h
  split at h
  · rename_i x r tgt hj
    refine ⟨x, r, tgt, rfl, xi_jmp_ok hj, fun q => ?_, fun q => ?_⟩
    · rw [q] at h; exact h
    · rw [q] at h; exact h
  · cases h
theorem xi_j2_inv {F : Nat → List Value → Option xi_F} {st : List Value} {t : Int32 → Int32 → Bool} {pc : Nat} {off : Int} {X : xi_F} (h : xi_j2 F st t pc off = some X) : ∃ x y r tgt, st = .int y :: .int x :: r ∧ (pc : Int) + off = ((tgt : Nat) : Int) ∧ (t x y = true → F tgt r = some X) ∧ (t x y = false → F (pc + 3) r = some X) := by
  unfold xi_j2 at h
  split at h
  · rename_i y x r tgt hj
    refine ⟨x, y, r, tgt, rfl, xi_jmp_ok hj, fun q => ?_, fun q => ?_⟩
    · rw [q] at h; exact h
    · rw [q] at h; exact h
  · cases h
theorem xi_ld_inv {F : Nat → List Value → Option xi_F} {l : xi_L} {st : List Value} {i pc k : Nat} {X : xi_F} (h : xi_ld F l st i pc k = some X) : ∃ v, xi_get l i = some v ∧ k = (match v with | .int _ => 0 | .long _ => 1 | .ref _ => 2 | .null => 2 | _ => 3) ∧ F pc (v :: st) = some X := by
  unfold xi_ld at h
  split at h
  · rename_i v hv
    obtain ⟨h1, h2⟩ := xi_cond h
    exact ⟨v, hv, Nat.eq_of_beq_eq_true h1, h2⟩
  · cases h
theorem xi_ld_i {l : xi_L} {LL : xi_L} {as : List Nat} {i : Nat} {v : Value} (hl : xi_l as l LL) (h : xi_get l i = some v) {ls : Array Slot} {nL : Nat} (hh : lv_has ls nL LL) : ∃ V, ls[i]? = some (.val V) ∧ xi_v as v V := by
  obtain ⟨V, k, h1, h2⟩ := hl.get h
  exact ⟨V, lv_at hh k h1, h2⟩
theorem xi_fit_ok {as : List Nat} {ty : FieldType} {v V : Value} (h : xi_fit ty v = true) (hv : xi_v as v V) : narrow ty V = V ∧ fits ty V = true := by
  cases v with
  | ref i =>
    obtain ⟨a, h1, -⟩ := hv
    subst h1
    cases ty <;> first | (simp [xi_fit] at h; done) | exact ⟨rfl, rfl⟩
  | null =>
    cases hv
    cases ty <;> first | (simp [xi_fit] at h; done) | exact ⟨rfl, rfl⟩
  | int x =>
    cases hv
    cases ty <;> first | (simp [xi_fit] at h; done) | exact ⟨rfl, rfl⟩ | skip
    simp only [xi_fit, Bool.and_eq_true] at h
    exact ⟨of_decide_eq_true h.1, h.2⟩
  | long x =>
    cases hv
    cases ty <;> first | (simp [xi_fit] at h; done) | exact ⟨rfl, rfl⟩
  | _ => simp [xi_fit] at h
theorem xi_isa_f {ty : FieldType} (h : xi_isa false ty = true) : ty = .int := by cases ty <;> first | rfl | (simp [xi_isa] at h; done)
theorem xi_isa_t {ty : FieldType} (h : xi_isa true ty = true) : ty = .byte ∨ ty = .boolean := by cases ty <;> first | exact Or.inl rfl | exact Or.inr rfl | (simp [xi_isa] at h; done)
theorem xi_self {as : List Nat} : ∀ {l : List Value}, l.all (fun v => match v with | .ref _ => false | .float _ => false | _ => true) = true → xi_s as l l
  | [], _ => rfl
  | v :: r, h => by
    rw [List.all_cons, Bool.and_eq_true] at h
    refine ⟨v, r, rfl, ?_, xi_self h.2⟩
    cases v <;> first | rfl | (simp at h; done)
/-- what the tables' facts say of a class -/
theorem xi_cls (ci : Nat) {C : String} {T : u_T} {N : Nat} (h : xt_cl[ci]? = some (C, T, N)) : (∀ w ∈ u_ws C T N, w ∈ xt_G) ∧ (∀ k, k < N → parseFieldDescriptor (T k).2.2.1 = some (xt_fy ci k)) ∧ (∀ a, a < N → ∀ b, b < N → a ≠ b → (T a).2.1 ≠ (T b).2.1) ∧ (∀ k, k < N → defaultValue (xt_fy ci k) = vp_V (xt_df ci) k) ∧ C = xt_cn ci ∧ N = xt_nf ci ∧ C = xt_on ci ∧ ∀ as, xi_s as (xt_df ci) (xt_df ci) := by
  have key : ∀ (C0 : String) (T0 : u_T) (N0 : Nat) (ps : List Nat), ((List.range N0).zip ps).all (fun x => xi_at x.2 (u_lay C0 T0 x.1)) = true → ps.length = N0 → ∀ w ∈ u_ws C0 T0 N0, w ∈ xt_G := by
    intro C0 T0 N0 ps h1 h2 w hw
    obtain ⟨k, hk, rfl⟩ := List.mem_map.mp hw
    have hk := List.mem_range.mp hk
    have h3 := List.all_eq_true.mp h1 (k, ps[k]'(by omega)) (by
      refine List.mem_of_getElem? (i := k) ?_
      rw [List.getElem?_zip_eq_some]
      exact ⟨by simp [hk], by simp [h2, hk]⟩)
    exact xi_at_in h3
  match ci, h with
  | 0, h => cases h; exact ⟨key _ _ _ [135, 137, 139] xf_w0 rfl, xf_y0, xf_e0, xf_d0, rfl, rfl, rfl, fun as => xi_self rfl⟩
  | 1, h => cases h; exact ⟨key _ _ _ [85, 87, 89, 91, 93, 95, 97, 99, 101, 103, 105, 107, 109, 111, 113] xf_w1 rfl, xf_y1, xf_e1, xf_d1, rfl, rfl, rfl, fun as => xi_self rfl⟩
  | 2, h => cases h; exact ⟨key _ _ _ [234, 236, 238, 240, 242, 244, 246, 248] xf_w2 rfl, xf_y2, xf_e2, xf_d2, rfl, rfl, rfl, fun as => xi_self rfl⟩
  | 3, h => cases h; exact ⟨key _ _ _ [205, 207, 209] xf_w3 rfl, xf_y3, xf_e3, xf_d3, rfl, rfl, rfl, fun as => xi_self rfl⟩
  | 4, h => cases h; exact ⟨key _ _ _ [516, 518, 520, 522] xf_w4 rfl, xf_y4, xf_e4, xf_d4, rfl, rfl, rfl, fun as => xi_self rfl⟩
  | 5, h => cases h; exact ⟨key _ _ _ [167, 169, 171, 173, 175, 177, 179, 181, 183, 185, 187, 189] xf_w5 rfl, xf_y5, xf_e5, xf_d5, rfl, rfl, rfl, fun as => xi_self rfl⟩
  | 6, h => cases h; exact ⟨key _ _ _ [261, 263, 265, 267, 269, 271, 273, 275, 277, 279] xf_w6 rfl, xf_y6, xf_e6, xf_d6, rfl, rfl, rfl, fun as => xi_self rfl⟩
  | n + 7, h => simp [xt_cl] at h
section XKR
variable {p : Program} {l : Launch} {e : Env} {R : Room} {s : State} {m : MethodId} {args : Array Value} {below : List Frame} {meth : Method} {c : Code} {H : Heap} {locs : List Loc} {cells slots : Nat} {Q : State → Prop} {cc : ByteArray} {pc : Nat} {ls : Array Slot} {rest : List Value} {D : va_G} {cl : List vw_C} {A : Nat → Prop} {a : Nat} {tys : List (ClassId × FieldType)} {ws : va_W} {H0 : Heap}
theorem xk_ldcw (hexec : p.tables.exec = Jvm.exec) (hb : c.code = cc) {own tx : String} {index q : Nat} (hown : s.vm.findClass own = some m.cls) (hZ : vk_R own index tx q s) (hdg : decode cc pc = .ok (.ldc_w index, 3))
    (k : W p l e R s m args below meth c H locs cells slots Q (F0 m (pc + 3) ls (.ref q :: rest))) : W p l e R s m args below meth c H locs cells slots Q (F0 m pc ls rest) := by
  intro T hT X
  obtain ⟨t, a1, b1⟩ := k T hT X
  exact ⟨t, X.ldcStringW hexec hown (text := tx) (a := q) hZ.1 hZ.2 (g := F0 m pc ls rest) rfl (by rw [hb]; exact hdg) t a1, b1⟩
theorem xk_aldq (hexec : p.tables.exec = Jvm.exec) (hb : c.code = cc) (hK : va_K D cl tys s) (hP : va_P D cl ws H) (q0 t0 : Nat) {cA : ClassId} {ty : FieldType} {n : Nat} {f : Nat → Option Nat} (ha : ws[q0]? = some (a, .inl (cA, n, .inr (.inr (.inr (.inr f)))))) (ht : tys[t0]? = some (cA, ty)) (hr : ty.isReference = true) {i : Int32} (hin : vp_in i n) (hdg : decode cc pc = .ok (.aaload, 1))
    (kk : W p l e R s m args below meth c H locs cells slots Q (F0 m (pc + 1) ls (va_rf (f i.toNatClampNeg) :: rest))) : W p l e R s m args below meth c H locs cells slots Q (F0 m pc ls (.int i :: .ref a :: rest)) := by
  have hlt : i.toNatClampNeg < n := Nat.not_le.mp fun q => hin (Or.inr q)
  exact W.aald (v := va_rf (f i.toNatClampNeg)) (ty := ty) hexec hb (hP q0 _ ha) ((hK.2 t0 _ ht).1 n (fun j => va_rf (f j))) hr (fun q => by cases q) (by show ¬ (i < 0 ∨ (arrV _ _ _).slots.size ≤ _); rw [arrV_size]; exact hin) (by show (arrV _ _ _).slots[_]? = _; rw [arrV_read _ _ hlt]) rfl rfl hdg kk
theorem xk_astq (hexec : p.tables.exec = Jvm.exec) (hb : c.code = cc) (hP : va_P D cl ws H) (hD : va_D A ws) (hS : va_S A H0 H locs) (q0 qk : Nat) {cA cV : ClassId} {n v n2 : Nat} {f2 : Nat → Int64} {f : Nat → Option Nat} (ha : ws[q0]? = some (a, .inl (cA, n, .inr (.inr (.inr (.inr f)))))) (hv : ws[qk]? = some (v, .inl (cV, n2, .inr (.inl f2)))) (hJ : ∃ (kA : Class) (comp : ClassId), s.vm.classes[cA]? = some kA ∧ kA.kind = .array comp (.array .long) ∧ s.vm.findClass "[J" = some comp) (hV : xi_AT s cV .long) {i : Int32} (hin : vp_in i n) (hdg : decode cc pc = .ok (.aastore, 1))
    (kk : ∀ (H1 : Heap) (locs1 : List Loc), va_P D cl (ws.set q0 (a, .inl (cA, n, .inr (.inr (.inr (.inr (va_up f i.toNatClampNeg (some v)))))))) H1 → va_D A (ws.set q0 (a, .inl (cA, n, .inr (.inr (.inr (.inr (va_up f i.toNatClampNeg (some v)))))))) → va_S A H0 H1 locs1 → W p l e R s m args below meth c H1 locs1 cells slots Q (F0 m (pc + 1) ls rest)) : W p l e R s m args below meth c H locs cells slots Q (F0 m pc ls (.ref v :: .int i :: .ref a :: rest)) := by
  have hlt : i.toNatClampNeg < n := Nat.not_le.mp fun q => hin (Or.inr q)
  have h0 : ¬ i < 0 := fun q => hin (Or.inl q)
  obtain ⟨kA, comp, k1, k2, k3⟩ := hJ
  have hnm : s.vm.findClass "[J" = some cV := hV.2
  have hcomp : comp = cV := Option.some.inj (k3.symm.trans hnm)
  subst hcomp
  obtain ⟨kC, hkC, -⟩ := Vm.findClass_spec hnm
  refine W.aast hexec hb (hP q0 _ ha) (fun q h => by cases h) (fun h => by cases h) k1 k2 rfl hkC ⟨h0, by show _ < (arrV _ _ _).slots.size; rw [arrV_size]; exact hlt⟩ (hP qk _ hv) (fun q h => by cases h) hkC (va_asg _ _) rfl rfl hdg fun H1 e z oq => ?_
  refine kk H1 _ (hP.set hD ha ?_ oq) (hD.set ha) (hS.put z oq (hD.2 q0 _ ha))
  show H1[a]? = some (vp_cell _ _)
  rw [e]
  rw [vp_cell_q, vp_cell_q, arrV_store]
  congr 2
  funext q
  by_cases hq : q = i.toNatClampNeg
  · subst hq
    simp [updV, va_up, va_rf]
  · simp [updV, va_up, hq]
theorem xk_newq (hexec : p.tables.exec = Jvm.exec) (hb : c.code = cc) {own : String} {index : Nat} (hown : s.vm.findClass own = some m.cls) (hclink : (Cond.classLink own index "[J").before args s = true) (hover : xk_AO s) (hK : va_K D cl tys s) (hP : va_P D cl ws H) (hD : va_D A ws) (hS : va_S A H0 H locs) (hA : ∀ q, H0.size ≤ q → A q)
    {n : Int32} {N' : Nat} (hn : ¬ n < 0) (hN : n.toNatClampNeg = N') (hbytes : N' * 4 ≤ 536870912) (hcells : cells + 1 ≤ R.cells) (hslots : slots + N' ≤ R.slots) (hdg : decode cc pc = .ok (.anewarray index, 3))
    (kk : ∀ (q : Nat) (cA : ClassId) (H1 : Heap), va_K D cl (tys ++ [(cA, .array .long)]) s → (∃ (kA : Class) (comp : ClassId), s.vm.classes[cA]? = some kA ∧ kA.kind = .array comp (.array .long) ∧ s.vm.findClass "[J" = some comp) → va_P D cl (ws ++ [(q, .inl (cA, N', .inr (.inr (.inr (.inr (fun _ => none))))))]) H1 → va_D A (ws ++ [(q, .inl (cA, N', .inr (.inr (.inr (.inr (fun _ => none))))))]) → va_S A H0 H1 locs →
      W p l e R s m args below meth c H1 locs (cells + 1) (slots + N') Q (F0 m (pc + 3) ls (.ref q :: rest))) : W p l e R s m args below meth c H locs cells slots Q (F0 m pc ls (.int n :: rest)) := by
  subst hN
  refine W.anewA (t := .long) hexec hb hown hclink hover rfl hdg rfl hn hbytes hcells hslots fun cA kA comp f1 f2 f3 f4 => ?_
  generalize hH1 : H.push ({ cls := cA, slots := Array.replicate n.toNatClampNeg .null, vm := .none } : Cell) = H1
  have z1 : H1.size = H.size + 1 := by rw [← hH1, Array.size_push]
  have e1 : H1[H.size]? = some (arrV cA n.toNatClampNeg (fun _ => .null)) := by rw [← hH1, Array.getElem?_push_size, ← arrV_new]
  have o1 : ∀ q : Nat, q < H.size → H1[q]? = H[q]? := fun q hq => by rw [← hH1, Array.getElem?_push, if_neg (Nat.ne_of_lt hq)]
  have hAr : ArrOfT s cA (.array .long) := fun N z => ⟨(fun k h => by cases h), kA, f2, comp, f3⟩
  have hk : ∀ (k : Nat) (x : Nat × va_E), ws[k]? = some x → H1[x.1]? = H[x.1]? := fun k x hx => o1 x.1 ((hP k x hx).lt)
  refine kk H.size cA H1 ⟨hK.1, fun k x hx => ?_⟩ ⟨kA, comp, f2, f3, f4⟩ ((hP.kept hk).app (fun k x hx => ?_)) (hD.push hP rfl (hA _ hS.1)) ⟨Nat.le_trans hS.1 (by omega), fun x h1 h2 => (o1 x (Nat.lt_of_lt_of_le h1 hS.1)).trans (hS.2.1 x h1 h2), hS.2.2⟩
  · by_cases hl : k < tys.length
    · rw [List.getElem?_append_left hl] at hx
      exact hK.2 k x hx
    · rw [List.getElem?_append_right (by omega)] at hx
      have hz : k - tys.length < 1 := (List.getElem?_eq_some_iff.mp hx).1
      rw [show k - tys.length = 0 by omega] at hx
      cases hx
      exact ⟨hAr, f1⟩
  · have hz : k < 1 := (List.getElem?_eq_some_iff.mp hx).1
    rw [show k = 0 by omega] at hx
    cases hx
    show H1[H.size]? = some (vp_cell _ _)
    rw [vp_cell_q]
    exact e1
end XKR
section XSTEP
variable {Z : xi_Z} {p : Program} {l : Launch} {e : Env} {R : Room} {s : State} {m : MethodId} {args : Array Value} {below : List Frame} {meth : Method} {c : Code} {Q : State → Prop} {D : va_G} {A : Nat → Prop} {i d : Nat}
/-- what goes on behind an instruction -/
def xi_K (Z : xi_Z) (p : Program) (l : Launch) (e : Env) (R : Room) (s : State) (m : MethodId) (args : Array Value) (below : List Frame) (meth : Method) (c : Code) (Q : State → Prop) (D : va_G) (A : Nat → Prop) (i : Nat) (as : List Nat) (X : xi_F) : Prop :=
  ∀ (LL : xi_L) (ST : List Value) (WS : va_W) (H : Heap) (locs : List Loc) (ls : Array Slot), xi_w Z s X.2.2.2.1 WS → xi_s (xi_as Z WS) X.2.2.1 ST → xi_l (xi_as Z WS) X.2.1 LL → xi_up as (xi_as Z WS) → va_P D xt_cl WS H → va_D A WS → va_S A s.heap H locs → lv_has ls (xt_ml i) LL → W p l e R s m args below meth c H locs X.2.2.2.2.1 X.2.2.2.2.2 Q (F0 m X.1 ls ST)
set_option maxHeartbeats 4000000 in
theorem xi_stp_ok (C0 : xi_C Z p s m args meth c D A i) {ins : Jvm.ClassFile.Instr} {pc : Nat} {l0 : xi_L} {st : List Value} {w : xi_W} {cz sz : Nat} {X : xi_F} (h : xi_stp i d ins pc l0 st w cz sz = some X)
    (hd : ∃ len, decode (xt_mb i) pc = .ok (ins, len) ∧ (xi_sw ins = true ∨ len = xi_ln ins)) (hRf : 0 < d → 1 ≤ R.frames) (hRl : 0 < d → 64 ≤ R.locals) (hRc : X.2.2.2.2.1 ≤ R.cells) (hRs : X.2.2.2.2.2 ≤ R.slots)
    {LL : xi_L} {ST : List Value} {WS : va_W} {H : Heap} {locs : List Loc} {ls : Array Slot} (hw : xi_w Z s w WS) (hs : xi_s (xi_as Z WS) st ST) (hl : xi_l (xi_as Z WS) l0 LL) (hP : va_P D xt_cl WS H) (hD : va_D A WS) (hS : va_S A s.heap H locs) (hh : lv_has ls (xt_ml i) LL)
    (kk : xi_K Z p l e R s m args below meth c Q D A i (xi_as Z WS) X) : W p l e R s m args below meth c H locs cz sz Q (F0 m pc ls ST) := by
  obtain ⟨hx, hb, hml, hown, hts, hK, hN, hA, hini, hret, hlk, hKS⟩ := C0
  have K1 : ∀ {pc' : Nat} {st' ST' : List Value}, some (pc', l0, st', w, cz, sz) = some X → xi_s (xi_as Z WS) st' ST' → W p l e R s m args below meth c H locs cz sz Q (F0 m pc' ls ST') := by
    intro pc' st' ST' q h2
    cases q
    exact kk LL ST' WS H locs ls hw h2 hl xi_up.refl hP hD hS hh
  have K2 : ∀ {pc' : Nat} {l' LL' : xi_L} {st' ST' : List Value} {ls' : Array Slot}, some (pc', l', st', w, cz, sz) = some X → xi_s (xi_as Z WS) st' ST' → xi_l (xi_as Z WS) l' LL' → lv_has ls' (xt_ml i) LL' → W p l e R s m args below meth c H locs cz sz Q (F0 m pc' ls' ST') := by
    intro pc' l' LL' st' ST' ls' q h2 h3 h4
    cases q
    exact kk LL' ST' WS H locs ls' hw h2 h3 xi_up.refl hP hD hS h4
  have K3 : ∀ {pc' j a : Nat} {o' : xi_O} {E E' : va_E} {st' ST' : List Value} {H' : Heap} {locs' : List Loc}, some (pc', l0, st', w.set j o', cz, sz) = some X → 17 ≤ j → WS[j - 17]? = some (a, E) → xi_o s (xi_as Z WS) o' E' → xi_s (xi_as Z WS) st' ST' → va_P D xt_cl (WS.set (j - 17) (a, E')) H' → va_D A (WS.set (j - 17) (a, E')) → va_S A s.heap H' locs' → W p l e R s m args below meth c H' locs' cz sz Q (F0 m pc' ls ST') := by
    intro pc' j a o' E E' st' ST' H' locs' q hge he ho h2 h3 h4 h5
    cases q
    have hq := xi_as_set (Z := Z) (E' := E') he
    exact kk LL ST' _ H' locs' ls (hw.set hge he ho) (by rw [hq]; exact h2) (by rw [hq]; exact hl) (by rw [hq]; exact xi_up.refl) h3 h4 h5 hh
  have K4 : ∀ {pc' q : Nat} {o' : xi_O} {E' : va_E} {st' ST' : List Value} {H' : Heap} {locs' : List Loc} {c' s' : Nat}, some (pc', l0, .ref w.length :: st', w ++ [o'], c', s') = some X → xi_o s (xi_as Z WS) o' E' → xi_s (xi_as Z WS) st' ST' → va_P D xt_cl (WS ++ [(q, E')]) H' → va_D A (WS ++ [(q, E')]) → va_S A s.heap H' locs' → W p l e R s m args below meth c H' locs' c' s' Q (F0 m pc' ls (.ref q :: ST')) := by
    intro pc' q o' E' st' ST' H' locs' c' s' z ho h2 h3 h4 h5
    cases z
    exact kk LL _ _ H' locs' ls (hw.push ho) ⟨_, _, rfl, ⟨q, rfl, xi_as_new hw⟩, h2.up xi_as_push⟩ (hl.up xi_as_push) xi_as_push h3 h4 h5 hh
  cases ins with
  | aconst_null =>
    exact lv_null hx hb (xi_dec hd rfl) (K1 h (xi_mk rfl hs))
  | iconst n =>
    exact lv_iconst hx hb (xi_dec hd rfl) rfl (K1 h (xi_mk rfl hs))
  | bipush n =>
    exact lv_bipush hx hb (xi_dec hd rfl) rfl (K1 h (xi_mk rfl hs))
  | sipush n =>
    exact lv_sipush hx hb (xi_dec hd rfl) rfl (K1 h (xi_mk rfl hs))
  | lconst n =>
    exact lv_lconst hx hb (xi_dec hd rfl) rfl (K1 h (xi_mk rfl hs))
  | ldc k =>
    simp only [xi_stp] at h
    split at h
    · rename_i q hq
      exact lv_ldc hx hb hown (hts _ (xf_k hq)) (xi_dec hd rfl) (K1 h (xi_mk rfl hs))
    · split at h
      · rename_i q hq
        obtain ⟨h8, hso, t, ht⟩ := xf_q hq
        have hR := hKS.2.1 q.1 h8 _ t hso ht
        have hz := hKS.2.2.2.2.2
        refine va_ldcS hx hb hown hR (xi_dec hd rfl) (K1 h (xi_mk ⟨_, rfl, ?_⟩ hs))
        rw [xi_as_c hz (by omega), List.getD_eq_getElem?_getD, List.getElem?_eq_getElem (by omega)]
        rfl
      · cases h
  | ldc_w k =>
    simp only [xi_stp] at h
    split at h
    · rename_i q hq
      obtain ⟨h8, hso, t, ht⟩ := xf_q hq
      have hR := hKS.2.1 q.1 h8 _ t hso ht
      have hz := hKS.2.2.2.2.2
      refine xk_ldcw hx hb hown hR (xi_dec hd rfl) (K1 h (xi_mk ⟨_, rfl, ?_⟩ hs))
      rw [xi_as_c hz (by omega), List.getD_eq_getElem?_getD, List.getElem?_eq_getElem (by omega)]
      rfl
    · cases h
  | getstatic k =>
    simp only [xi_stp] at h
    split at h
    · rename_i q hq
      obtain ⟨g0, g1⟩ := xf_s hq
      cases h0 : Nat.beq q.1 0 with
      | true =>
        rw [h0] at h
        simp only [cond_true] at h
        exact va_gets hx hb hKS.2.2.2.1 hS hown (hts _ (g0 (Nat.eq_of_beq_eq_true h0))) (fun _ z => z) (xi_dec hd rfl) (K1 h (xi_mk rfl hs))
      | false =>
        rw [h0] at h
        simp only [cond_false] at h
        obtain ⟨h1, h2⟩ := xi_cond h
        rcases hKS.2.2.2.2.1 with hz | ⟨t, hz⟩
        · exact va_gets hx hb hz hS hown (hts _ (g1 (Nat.eq_of_beq_eq_true h1))) (fun _ z => z) (xi_dec hd rfl) (K1 h2 (xi_mk (Or.inl rfl) hs))
        · exact va_gets hx hb hz hS hown (hts _ (g1 (Nat.eq_of_beq_eq_true h1))) (fun _ z => z) (xi_dec hd rfl) (K1 h2 (xi_mk (Or.inr ⟨t, rfl⟩) hs))
    · cases h
  | lookupswitch dflt ps =>
    obtain ⟨len, hdd, -⟩ := hd
    simp only [xi_stp] at h
    split at h
    · rename_i x r
      obtain ⟨S1, rfl, hs1⟩ := xi_s_i hs
      obtain ⟨h1, h2⟩ := xi_cond h
      split at h2
      · rename_i tgt ht
        exact lv_lookup hx hb hdd h1 rfl (xi_jmp_ok ht) (K1 h2 hs1)
      · cases h2
    · cases h
  | ldc2_w k =>
    simp only [xi_stp] at h
    split at h
    · rename_i q hq
      exact lv_ldc2 hx hb hown (hts _ (xf_j hq)) (xi_dec hd rfl) (K1 h (xi_mk rfl hs))
    · cases h
  | iload k =>
    simp only [xi_stp] at h
    obtain ⟨v, hv, hkd, hF⟩ := xi_ld_inv h
    obtain ⟨V, hV, hvV⟩ := xi_ld_i hl hv hh
    cases v with
    | int x => cases hvV; exact lv_iload hx hb (xi_dec hd rfl) hV (K1 hF (xi_mk rfl hs))
    | long x => simp at hkd
    | float x => simp at hkd
    | double x => simp at hkd
    | null => simp at hkd
    | ref x => simp at hkd
    | retAddr x => simp at hkd
  | lload k =>
    simp only [xi_stp] at h
    obtain ⟨v, hv, hkd, hF⟩ := xi_ld_inv h
    obtain ⟨V, hV, hvV⟩ := xi_ld_i hl hv hh
    cases v with
    | int x => simp at hkd
    | long x => cases hvV; exact lv_lload hx hb (xi_dec hd rfl) hV (K1 hF (xi_mk rfl hs))
    | float x => simp at hkd
    | double x => simp at hkd
    | null => simp at hkd
    | ref x => simp at hkd
    | retAddr x => simp at hkd
  | aload k =>
    simp only [xi_stp] at h
    obtain ⟨v, hv, hkd, hF⟩ := xi_ld_inv h
    obtain ⟨V, hV, hvV⟩ := xi_ld_i hl hv hh
    cases v with
    | int x => simp at hkd
    | long x => simp at hkd
    | float x => simp at hkd
    | double x => simp at hkd
    | null => cases hvV; exact lv_aloadN hx hb (xi_dec hd rfl) hV (K1 hF (xi_mk rfl hs))
    | ref x => obtain ⟨a, ha, ha2⟩ := hvV; subst ha; exact lv_aload hx hb (xi_dec hd rfl) hV (K1 hF (xi_mk ⟨a, rfl, ha2⟩ hs))
    | retAddr x => simp at hkd
  | iload_n k =>
    simp only [xi_stp] at h
    obtain ⟨v, hv, hkd, hF⟩ := xi_ld_inv h
    obtain ⟨V, hV, hvV⟩ := xi_ld_i hl hv hh
    cases v with
    | int x => cases hvV; exact lv_iload_n hx hb (xi_dec hd rfl) rfl hV (K1 hF (xi_mk rfl hs))
    | long x => simp at hkd
    | float x => simp at hkd
    | double x => simp at hkd
    | null => simp at hkd
    | ref x => simp at hkd
    | retAddr x => simp at hkd
  | lload_n k =>
    simp only [xi_stp] at h
    obtain ⟨v, hv, hkd, hF⟩ := xi_ld_inv h
    obtain ⟨V, hV, hvV⟩ := xi_ld_i hl hv hh
    cases v with
    | int x => simp at hkd
    | long x => cases hvV; exact lv_lload_n hx hb (xi_dec hd rfl) rfl hV (K1 hF (xi_mk rfl hs))
    | float x => simp at hkd
    | double x => simp at hkd
    | null => simp at hkd
    | ref x => simp at hkd
    | retAddr x => simp at hkd
  | aload_n k =>
    simp only [xi_stp] at h
    obtain ⟨v, hv, hkd, hF⟩ := xi_ld_inv h
    obtain ⟨V, hV, hvV⟩ := xi_ld_i hl hv hh
    cases v with
    | int x => simp at hkd
    | long x => simp at hkd
    | float x => simp at hkd
    | double x => simp at hkd
    | null => cases hvV; exact lv_aload_nN hx hb (xi_dec hd rfl) rfl hV (K1 hF (xi_mk rfl hs))
    | ref x => obtain ⟨a, ha, ha2⟩ := hvV; subst ha; exact lv_aload_n hx hb (xi_dec hd rfl) rfl hV (K1 hF (xi_mk ⟨a, rfl, ha2⟩ hs))
    | retAddr x => simp at hkd
  | istore k =>
    simp only [xi_stp] at h
    split at h
    · obtain ⟨h1, h2⟩ := xi_cond h
      obtain ⟨S1, rfl, hs1⟩ := xi_s_i hs
      exact lv_istore hx hb (xi_dec hd rfl) hh (xi_blt h1) rfl (fun ls' hl' => K2 h2 hs1 (xi_l.st1 _ hl rfl) hl')
    · cases h
  | istore_n k =>
    simp only [xi_stp] at h
    split at h
    · obtain ⟨h1, h2⟩ := xi_cond h
      obtain ⟨S1, rfl, hs1⟩ := xi_s_i hs
      exact lv_istore_n hx hb (xi_dec hd rfl) rfl hh (xi_blt h1) rfl (fun ls' hl' => K2 h2 hs1 (xi_l.st1 _ hl rfl) hl')
    · cases h
  | lstore k =>
    simp only [xi_stp] at h
    split at h
    · obtain ⟨h1, h2⟩ := xi_cond h
      obtain ⟨S1, rfl, hs1⟩ := xi_s_l hs
      exact lv_lstore hx hb (xi_dec hd rfl) hh (xi_blt h1) rfl (fun ls' hl' => K2 h2 hs1 (xi_l.st2 _ hl rfl) hl')
    · cases h
  | lstore_n k =>
    simp only [xi_stp] at h
    split at h
    · obtain ⟨h1, h2⟩ := xi_cond h
      obtain ⟨S1, rfl, hs1⟩ := xi_s_l hs
      exact lv_lstore_n hx hb (xi_dec hd rfl) rfl hh (xi_blt h1) rfl (fun ls' hl' => K2 h2 hs1 (xi_l.st2 _ hl rfl) hl')
    · cases h
  | astore k =>
    simp only [xi_stp] at h
    split at h
    · obtain ⟨h1, h2⟩ := xi_cond h
      obtain ⟨a, S1, rfl, ha, hs1⟩ := xi_s_r hs
      exact lv_astore hx hb (xi_dec hd rfl) hh (xi_blt h1) rfl (fun ls' hl' => K2 h2 hs1 (xi_l.st1 _ hl ⟨a, rfl, ha⟩) hl')
    · obtain ⟨h1, h2⟩ := xi_cond h
      obtain ⟨S1, rfl, hs1⟩ := xi_s_n hs
      exact lv_astoreN hx hb (xi_dec hd rfl) hh (xi_blt h1) rfl (fun ls' hl' => K2 h2 hs1 (xi_l.st1 _ hl rfl) hl')
    · cases h
  | astore_n k =>
    simp only [xi_stp] at h
    split at h
    · obtain ⟨h1, h2⟩ := xi_cond h
      obtain ⟨a, S1, rfl, ha, hs1⟩ := xi_s_r hs
      exact lv_astore_n hx hb (xi_dec hd rfl) rfl hh (xi_blt h1) rfl (fun ls' hl' => K2 h2 hs1 (xi_l.st1 _ hl ⟨a, rfl, ha⟩) hl')
    · obtain ⟨h1, h2⟩ := xi_cond h
      obtain ⟨S1, rfl, hs1⟩ := xi_s_n hs
      exact lv_astore_nN hx hb (xi_dec hd rfl) rfl hh (xi_blt h1) rfl (fun ls' hl' => K2 h2 hs1 (xi_l.st1 _ hl rfl) hl')
    · cases h
  | iinc k n =>
    simp only [xi_stp] at h
    split at h
    · rename_i x hg
      obtain ⟨h1, h2⟩ := xi_cond h
      obtain ⟨V, j, hj, hv⟩ := hl.get hg
      cases hv
      exact lv_iinc hx hb (xi_dec hd rfl) hh hj rfl (xi_blt h1) rfl (fun ls' hl' => K2 h2 hs (xi_l.st1 _ hl rfl) hl')
    · cases h
  | iadd =>
    simp only [xi_stp] at h
    obtain ⟨x, y, r, rfl, hF⟩ := xi_b2_inv h
    obtain ⟨S1, rfl, hs1⟩ := xi_s_i hs
    obtain ⟨S2, rfl, hs2⟩ := xi_s_i hs1
    exact lv_iadd hx hb (xi_dec hd rfl) (K1 hF (xi_mk rfl hs2))
  | isub =>
    simp only [xi_stp] at h
    obtain ⟨x, y, r, rfl, hF⟩ := xi_b2_inv h
    obtain ⟨S1, rfl, hs1⟩ := xi_s_i hs
    obtain ⟨S2, rfl, hs2⟩ := xi_s_i hs1
    exact lv_isub hx hb (xi_dec hd rfl) (K1 hF (xi_mk rfl hs2))
  | imul =>
    simp only [xi_stp] at h
    obtain ⟨x, y, r, rfl, hF⟩ := xi_b2_inv h
    obtain ⟨S1, rfl, hs1⟩ := xi_s_i hs
    obtain ⟨S2, rfl, hs2⟩ := xi_s_i hs1
    exact lv_imul hx hb (xi_dec hd rfl) (K1 hF (xi_mk rfl hs2))
  | iand =>
    simp only [xi_stp] at h
    obtain ⟨x, y, r, rfl, hF⟩ := xi_b2_inv h
    obtain ⟨S1, rfl, hs1⟩ := xi_s_i hs
    obtain ⟨S2, rfl, hs2⟩ := xi_s_i hs1
    exact lv_iand hx hb (xi_dec hd rfl) (K1 hF (xi_mk rfl hs2))
  | ior =>
    simp only [xi_stp] at h
    obtain ⟨x, y, r, rfl, hF⟩ := xi_b2_inv h
    obtain ⟨S1, rfl, hs1⟩ := xi_s_i hs
    obtain ⟨S2, rfl, hs2⟩ := xi_s_i hs1
    exact lv_ior hx hb (xi_dec hd rfl) (K1 hF (xi_mk rfl hs2))
  | ixor =>
    simp only [xi_stp] at h
    obtain ⟨x, y, r, rfl, hF⟩ := xi_b2_inv h
    obtain ⟨S1, rfl, hs1⟩ := xi_s_i hs
    obtain ⟨S2, rfl, hs2⟩ := xi_s_i hs1
    exact lv_ixor hx hb (xi_dec hd rfl) (K1 hF (xi_mk rfl hs2))
  | ishl =>
    simp only [xi_stp] at h
    obtain ⟨x, y, r, rfl, hF⟩ := xi_b2_inv h
    obtain ⟨S1, rfl, hs1⟩ := xi_s_i hs
    obtain ⟨S2, rfl, hs2⟩ := xi_s_i hs1
    exact lv_ishl hx hb (xi_dec hd rfl) (K1 hF (xi_mk rfl hs2))
  | ishr =>
    simp only [xi_stp] at h
    obtain ⟨x, y, r, rfl, hF⟩ := xi_b2_inv h
    obtain ⟨S1, rfl, hs1⟩ := xi_s_i hs
    obtain ⟨S2, rfl, hs2⟩ := xi_s_i hs1
    exact lv_ishr hx hb (xi_dec hd rfl) (K1 hF (xi_mk rfl hs2))
  | iushr =>
    simp only [xi_stp] at h
    obtain ⟨x, y, r, rfl, hF⟩ := xi_b2_inv h
    obtain ⟨S1, rfl, hs1⟩ := xi_s_i hs
    obtain ⟨S2, rfl, hs2⟩ := xi_s_i hs1
    exact lv_iushr hx hb (xi_dec hd rfl) rfl (K1 hF (xi_mk rfl hs2))
  | idiv =>
    simp only [xi_stp] at h
    split at h
    · obtain ⟨h1, h2⟩ := xi_condN h
      obtain ⟨S1, rfl, hs1⟩ := xi_s_i hs
      obtain ⟨S2, rfl, hs2⟩ := xi_s_i hs1
      exact lv_idiv hx hb (xi_dec hd rfl) (of_decide_eq_false h1) (K1 h2 (xi_mk rfl hs2))
    · cases h
  | irem =>
    simp only [xi_stp] at h
    split at h
    · obtain ⟨h1, h2⟩ := xi_condN h
      obtain ⟨S1, rfl, hs1⟩ := xi_s_i hs
      obtain ⟨S2, rfl, hs2⟩ := xi_s_i hs1
      exact lv_irem hx hb (xi_dec hd rfl) (of_decide_eq_false h1) (K1 h2 (xi_mk rfl hs2))
    · cases h
  | ldiv =>
    simp only [xi_stp] at h
    split at h
    · obtain ⟨h1, h2⟩ := xi_condN h
      obtain ⟨S1, rfl, hs1⟩ := xi_s_l hs
      obtain ⟨S2, rfl, hs2⟩ := xi_s_l hs1
      exact lv_ldiv hx hb (xi_dec hd rfl) (of_decide_eq_false h1) (K1 h2 (xi_mk rfl hs2))
    · cases h
  | lrem =>
    simp only [xi_stp] at h
    split at h
    · obtain ⟨h1, h2⟩ := xi_condN h
      obtain ⟨S1, rfl, hs1⟩ := xi_s_l hs
      obtain ⟨S2, rfl, hs2⟩ := xi_s_l hs1
      exact lv_lrem hx hb (xi_dec hd rfl) (of_decide_eq_false h1) (K1 h2 (xi_mk rfl hs2))
    · cases h
  | ineg =>
    simp only [xi_stp] at h
    obtain ⟨x, r, rfl, hF⟩ := xi_u1_inv h
    obtain ⟨S1, rfl, hs1⟩ := xi_s_i hs
    exact lv_ineg hx hb (xi_dec hd rfl) (K1 hF (xi_mk rfl hs1))
  | ladd =>
    simp only [xi_stp] at h
    obtain ⟨x, y, r, rfl, hF⟩ := xi_b2l_inv h
    obtain ⟨S1, rfl, hs1⟩ := xi_s_l hs
    obtain ⟨S2, rfl, hs2⟩ := xi_s_l hs1
    exact lv_ladd hx hb (xi_dec hd rfl) (K1 hF (xi_mk rfl hs2))
  | lsub =>
    simp only [xi_stp] at h
    obtain ⟨x, y, r, rfl, hF⟩ := xi_b2l_inv h
    obtain ⟨S1, rfl, hs1⟩ := xi_s_l hs
    obtain ⟨S2, rfl, hs2⟩ := xi_s_l hs1
    exact lv_lsub hx hb (xi_dec hd rfl) (K1 hF (xi_mk rfl hs2))
  | lmul =>
    simp only [xi_stp] at h
    obtain ⟨x, y, r, rfl, hF⟩ := xi_b2l_inv h
    obtain ⟨S1, rfl, hs1⟩ := xi_s_l hs
    obtain ⟨S2, rfl, hs2⟩ := xi_s_l hs1
    exact lv_lmul hx hb (xi_dec hd rfl) (K1 hF (xi_mk rfl hs2))
  | land =>
    simp only [xi_stp] at h
    obtain ⟨x, y, r, rfl, hF⟩ := xi_b2l_inv h
    obtain ⟨S1, rfl, hs1⟩ := xi_s_l hs
    obtain ⟨S2, rfl, hs2⟩ := xi_s_l hs1
    exact lv_land hx hb (xi_dec hd rfl) (K1 hF (xi_mk rfl hs2))
  | lor =>
    simp only [xi_stp] at h
    obtain ⟨x, y, r, rfl, hF⟩ := xi_b2l_inv h
    obtain ⟨S1, rfl, hs1⟩ := xi_s_l hs
    obtain ⟨S2, rfl, hs2⟩ := xi_s_l hs1
    exact lv_lor hx hb (xi_dec hd rfl) (K1 hF (xi_mk rfl hs2))
  | lxor =>
    simp only [xi_stp] at h
    obtain ⟨x, y, r, rfl, hF⟩ := xi_b2l_inv h
    obtain ⟨S1, rfl, hs1⟩ := xi_s_l hs
    obtain ⟨S2, rfl, hs2⟩ := xi_s_l hs1
    exact lv_lxor hx hb (xi_dec hd rfl) (K1 hF (xi_mk rfl hs2))
  | lcmp =>
    simp only [xi_stp] at h
    obtain ⟨x, y, r, rfl, hF⟩ := xi_b2l_inv h
    obtain ⟨S1, rfl, hs1⟩ := xi_s_l hs
    obtain ⟨S2, rfl, hs2⟩ := xi_s_l hs1
    exact W.lcmp hx hb (xi_dec hd rfl) (K1 hF (xi_mk rfl hs2))
  | lneg =>
    simp only [xi_stp] at h
    obtain ⟨x, r, rfl, hF⟩ := xi_u1l_inv h
    obtain ⟨S1, rfl, hs1⟩ := xi_s_l hs
    exact lv_lneg hx hb (xi_dec hd rfl) (K1 hF (xi_mk rfl hs1))
  | lshl =>
    simp only [xi_stp] at h
    obtain ⟨x, y, r, rfl, hF⟩ := xi_shl_inv h
    obtain ⟨S1, rfl, hs1⟩ := xi_s_i hs
    obtain ⟨S2, rfl, hs2⟩ := xi_s_l hs1
    exact lv_lshl hx hb (xi_dec hd rfl) rfl (K1 hF (xi_mk rfl hs2))
  | lshr =>
    simp only [xi_stp] at h
    obtain ⟨x, y, r, rfl, hF⟩ := xi_shl_inv h
    obtain ⟨S1, rfl, hs1⟩ := xi_s_i hs
    obtain ⟨S2, rfl, hs2⟩ := xi_s_l hs1
    exact lv_lshr hx hb (xi_dec hd rfl) rfl (K1 hF (xi_mk rfl hs2))
  | lushr =>
    simp only [xi_stp] at h
    obtain ⟨x, y, r, rfl, hF⟩ := xi_shl_inv h
    obtain ⟨S1, rfl, hs1⟩ := xi_s_i hs
    obtain ⟨S2, rfl, hs2⟩ := xi_s_l hs1
    exact lv_lushr hx hb (xi_dec hd rfl) rfl (K1 hF (xi_mk rfl hs2))
  | i2l =>
    simp only [xi_stp] at h
    obtain ⟨x, r, rfl, hF⟩ := xi_u1_inv h
    obtain ⟨S1, rfl, hs1⟩ := xi_s_i hs
    exact lv_i2l hx hb (xi_dec hd rfl) rfl (K1 hF (xi_mk rfl hs1))
  | l2i =>
    simp only [xi_stp] at h
    obtain ⟨x, r, rfl, hF⟩ := xi_u1l_inv h
    obtain ⟨S1, rfl, hs1⟩ := xi_s_l hs
    exact lv_l2i hx hb (xi_dec hd rfl) rfl (K1 hF (xi_mk rfl hs1))
  | i2b =>
    simp only [xi_stp] at h
    obtain ⟨x, r, rfl, hF⟩ := xi_u1_inv h
    obtain ⟨S1, rfl, hs1⟩ := xi_s_i hs
    exact lv_i2b hx hb (xi_dec hd rfl) rfl (K1 hF (xi_mk rfl hs1))
  | i2c =>
    simp only [xi_stp] at h
    obtain ⟨x, r, rfl, hF⟩ := xi_u1_inv h
    obtain ⟨S1, rfl, hs1⟩ := xi_s_i hs
    exact lv_i2c hx hb (xi_dec hd rfl) rfl (K1 hF (xi_mk rfl hs1))
  | dup =>
    simp only [xi_stp] at h
    split at h
    · obtain ⟨h1, h2⟩ := xi_cond h
      obtain ⟨V, S1, rfl, hv, hs1⟩ := xi_s_c hs
      exact lv_dup hx hb (xi_dec hd rfl) ((xi_cat hv).trans (Nat.eq_of_beq_eq_true h1)) (K1 h2 (xi_mk hv (xi_mk hv hs1)))
    · cases h
  | pop =>
    simp only [xi_stp] at h
    split at h
    · obtain ⟨h1, h2⟩ := xi_cond h
      obtain ⟨V, S1, rfl, hv, hs1⟩ := xi_s_c hs
      exact lv_pop hx hb (xi_dec hd rfl) ((xi_cat hv).trans (Nat.eq_of_beq_eq_true h1)) (K1 h2 hs1)
    · cases h
  | dup2 =>
    simp only [xi_stp] at h
    split at h
    · obtain ⟨h1, h2⟩ := xi_cond h
      rw [Bool.and_eq_true] at h1
      obtain ⟨V, S1, rfl, hv, hs1⟩ := xi_s_c hs
      obtain ⟨U, S2, rfl, hu, hs2⟩ := xi_s_c hs1
      exact lv_dup2_11 hx hb (xi_dec hd rfl) ((xi_cat hv).trans (Nat.eq_of_beq_eq_true h1.1)) ((xi_cat hu).trans (Nat.eq_of_beq_eq_true h1.2)) (K1 h2 (xi_mk hv (xi_mk hu (xi_mk hv (xi_mk hu hs2)))))
    · cases h
  | dup_x1 =>
    simp only [xi_stp] at h
    split at h
    · obtain ⟨h1, h2⟩ := xi_cond h
      rw [Bool.and_eq_true] at h1
      obtain ⟨V, S1, rfl, hv, hs1⟩ := xi_s_c hs
      obtain ⟨U, S2, rfl, hu, hs2⟩ := xi_s_c hs1
      exact lv_dup_x1 hx hb (xi_dec hd rfl) ((xi_cat hv).trans (Nat.eq_of_beq_eq_true h1.1)) ((xi_cat hu).trans (Nat.eq_of_beq_eq_true h1.2)) (K1 h2 (xi_mk hv (xi_mk hu (xi_mk hv hs2))))
    · cases h
  | ifCond cnd off =>
    cases cnd with
    | eq =>
      simp only [xi_stp] at h
      obtain ⟨x, r, tgt, rfl, ht, hT, hF⟩ := xi_j1_inv h
      obtain ⟨S1, rfl, hs1⟩ := xi_s_i hs
      exact lv_if_eq hx hb (xi_dec hd rfl) ht (fun q => K1 (hT (decide_eq_true q)) hs1) (fun q => K1 (hF (decide_eq_false q)) hs1)
    | ne =>
      simp only [xi_stp] at h
      obtain ⟨x, r, tgt, rfl, ht, hT, hF⟩ := xi_j1_inv h
      obtain ⟨S1, rfl, hs1⟩ := xi_s_i hs
      exact lv_if_ne hx hb (xi_dec hd rfl) ht (fun q => K1 (hT (by rw [decide_eq_false q]; rfl)) hs1) (fun q => K1 (hF (by rw [decide_eq_true q]; rfl)) hs1)
    | lt =>
      simp only [xi_stp] at h
      obtain ⟨x, r, tgt, rfl, ht, hT, hF⟩ := xi_j1_inv h
      obtain ⟨S1, rfl, hs1⟩ := xi_s_i hs
      exact lv_if_lt hx hb (xi_dec hd rfl) ht (fun q => K1 (hT (decide_eq_true q)) hs1) (fun q => K1 (hF (decide_eq_false q)) hs1)
    | ge =>
      simp only [xi_stp] at h
      obtain ⟨x, r, tgt, rfl, ht, hT, hF⟩ := xi_j1_inv h
      obtain ⟨S1, rfl, hs1⟩ := xi_s_i hs
      exact lv_if_ge hx hb (xi_dec hd rfl) ht (fun q => K1 (hT (decide_eq_true q)) hs1) (fun q => K1 (hF (decide_eq_false q)) hs1)
    | gt =>
      simp only [xi_stp] at h
      obtain ⟨x, r, tgt, rfl, ht, hT, hF⟩ := xi_j1_inv h
      obtain ⟨S1, rfl, hs1⟩ := xi_s_i hs
      exact lv_if_gt hx hb (xi_dec hd rfl) ht (fun q => K1 (hT (decide_eq_true q)) hs1) (fun q => K1 (hF (decide_eq_false q)) hs1)
    | le =>
      simp only [xi_stp] at h
      obtain ⟨x, r, tgt, rfl, ht, hT, hF⟩ := xi_j1_inv h
      obtain ⟨S1, rfl, hs1⟩ := xi_s_i hs
      exact lv_if_le hx hb (xi_dec hd rfl) ht (fun q => K1 (hT (decide_eq_true q)) hs1) (fun q => K1 (hF (decide_eq_false q)) hs1)
  | if_icmp cnd off =>
    cases cnd with
    | eq =>
      simp only [xi_stp] at h
      obtain ⟨x, y, r, tgt, rfl, ht, hT, hF⟩ := xi_j2_inv h
      obtain ⟨S1, rfl, hs1⟩ := xi_s_i hs
      obtain ⟨S2, rfl, hs2⟩ := xi_s_i hs1
      exact lv_icmp_eq hx hb (xi_dec hd rfl) ht (fun q => K1 (hT (decide_eq_true q)) hs2) (fun q => K1 (hF (decide_eq_false q)) hs2)
    | ne =>
      simp only [xi_stp] at h
      obtain ⟨x, y, r, tgt, rfl, ht, hT, hF⟩ := xi_j2_inv h
      obtain ⟨S1, rfl, hs1⟩ := xi_s_i hs
      obtain ⟨S2, rfl, hs2⟩ := xi_s_i hs1
      exact lv_icmp_ne hx hb (xi_dec hd rfl) ht (fun q => K1 (hT (by rw [decide_eq_false q]; rfl)) hs2) (fun q => K1 (hF (by rw [decide_eq_true q]; rfl)) hs2)
    | lt =>
      simp only [xi_stp] at h
      obtain ⟨x, y, r, tgt, rfl, ht, hT, hF⟩ := xi_j2_inv h
      obtain ⟨S1, rfl, hs1⟩ := xi_s_i hs
      obtain ⟨S2, rfl, hs2⟩ := xi_s_i hs1
      exact lv_icmp_lt hx hb (xi_dec hd rfl) ht (fun q => K1 (hT (decide_eq_true q)) hs2) (fun q => K1 (hF (decide_eq_false q)) hs2)
    | ge =>
      simp only [xi_stp] at h
      obtain ⟨x, y, r, tgt, rfl, ht, hT, hF⟩ := xi_j2_inv h
      obtain ⟨S1, rfl, hs1⟩ := xi_s_i hs
      obtain ⟨S2, rfl, hs2⟩ := xi_s_i hs1
      exact lv_icmp_ge hx hb (xi_dec hd rfl) ht (fun q => K1 (hT (decide_eq_true q)) hs2) (fun q => K1 (hF (decide_eq_false q)) hs2)
    | gt =>
      simp only [xi_stp] at h
      obtain ⟨x, y, r, tgt, rfl, ht, hT, hF⟩ := xi_j2_inv h
      obtain ⟨S1, rfl, hs1⟩ := xi_s_i hs
      obtain ⟨S2, rfl, hs2⟩ := xi_s_i hs1
      exact lv_icmp_gt hx hb (xi_dec hd rfl) ht (fun q => K1 (hT (decide_eq_true q)) hs2) (fun q => K1 (hF (decide_eq_false q)) hs2)
    | le =>
      simp only [xi_stp] at h
      obtain ⟨x, y, r, tgt, rfl, ht, hT, hF⟩ := xi_j2_inv h
      obtain ⟨S1, rfl, hs1⟩ := xi_s_i hs
      obtain ⟨S2, rfl, hs2⟩ := xi_s_i hs1
      exact lv_icmp_le hx hb (xi_dec hd rfl) ht (fun q => K1 (hT (decide_eq_true q)) hs2) (fun q => K1 (hF (decide_eq_false q)) hs2)
  | goto off =>
    simp only [xi_stp] at h
    split at h
    · rename_i tgt ht
      exact lv_goto hx hb (xi_dec hd rfl) (xi_jmp_ok ht) (K1 h hs)
    · cases h
  | ifnull off =>
    simp only [xi_stp] at h
    split at h
    · rename_i r tgt ht
      obtain ⟨S1, rfl, hs1⟩ := xi_s_n hs
      exact lv_ifnullN hx hb (xi_dec hd rfl) (xi_jmp_ok ht) (K1 h hs1)
    · obtain ⟨a, S1, rfl, ha, hs1⟩ := xi_s_r hs
      exact lv_ifnull hx hb (xi_dec hd rfl) (K1 h hs1)
    · cases h
  | ifnonnull off =>
    simp only [xi_stp] at h
    split at h
    · obtain ⟨S1, rfl, hs1⟩ := xi_s_n hs
      exact lv_ifnonnullN hx hb (xi_dec hd rfl) (K1 h hs1)
    · rename_i r tgt ht
      obtain ⟨a, S1, rfl, ha, hs1⟩ := xi_s_r hs
      exact lv_ifnonnull hx hb (xi_dec hd rfl) (xi_jmp_ok ht) (K1 h hs1)
    · cases h
  | tableswitch dflt lo hi offs =>
    obtain ⟨len, hdd, -⟩ := hd
    simp only [xi_stp] at h
    split at h
    · rename_i x r
      obtain ⟨S1, rfl, hs1⟩ := xi_s_i hs
      cases hbb : (decide (x.toInt < lo) || decide (hi < x.toInt)) with
      | true =>
        rw [hbb] at h
        simp only [cond_true] at h
        rw [Bool.or_eq_true, decide_eq_true_iff, decide_eq_true_iff] at hbb
        split at h
        · rename_i tgt ht
          exact lv_tableOut hx hb hdd hbb (xi_jmp_ok ht) (K1 h hs1)
        · cases h
      | false =>
        rw [hbb] at h
        simp only [cond_false] at h
        rw [Bool.or_eq_false_iff, decide_eq_false_iff_not, decide_eq_false_iff_not] at hbb
        split at h
        · rename_i off ho
          split at h
          · rename_i tgt ht
            exact lv_tableIn hx hb hdd hbb.1 hbb.2 (by rw [← Array.getElem?_toList]; exact ho) (xi_jmp_ok ht) (K1 h hs1)
          · cases h
        · cases h
    · cases h
  | getfield k =>
    simp only [xi_stp] at h
    split at h
    · rename_i a r q hq
      split at h
      · rename_i o ho
        obtain ⟨h1, h2⟩ := xi_cond h
        have h1 := Nat.eq_of_beq_eq_true h1
        split at h2
        · rename_i v hv
          obtain ⟨aa, S1, rfl, ha, hs1⟩ := xi_s_r hs
          obtain ⟨a, rfl⟩ : ∃ n : Nat, n = a := ⟨a, rfl⟩
          by_cases hge : 17 ≤ a
          · obtain ⟨E, hE, hoE⟩ := xi_ob hw hge ho ha
            obtain ⟨FS, rfl, hFS⟩ := hoE
            obtain ⟨V, hV, hvV⟩ := hFS.at hv
            obtain ⟨rr, hrr, -⟩ := hP (a - 17) _ hE
            have h7 : q.1 ≠ 7 := by
              intro e
              rw [← h1, e] at hrr
              cases hrr
            obtain ⟨C, F, N, hc, hkN, hlink, hsame, hpf⟩ := xf_f hq h7
            obtain ⟨hin, -⟩ := xi_cls _ hc
            rw [h1] at hc
            exact va_get (D := D) (ref := (F q.2.1).1) hx hb hts hin hown hK hP (a - 17) hE hc q.2.1 hkN (hts _ hlink) (fun _ z => z) hV (xi_dec hd rfl) (K1 h2 (xi_mk hvV hs1))
          · have hlt : a < 17 := by omega
            obtain ⟨e1, e2⟩ := xi_obc hw hlt ho ha
            have hz := hKS.2.2.2.2.2
            have h8 : a < 8 := by
              unfold xk_c at e1
              split at e1
              · assumption
              · split at e1 <;> cases e1
            unfold xk_c at e1
            rw [if_pos h8] at e1
            have e1 := Sum.inr.inj e1
            subst e1
            obtain ⟨k1, k2, k3, k4⟩ := hKS.1.1 a h8
            subst e2
            rcases xf_fs hq h1 with ⟨g0, g1⟩ | ⟨g0, g1⟩
            · rw [g0] at hv
              have hv := Option.some.inj hv
              subst hv
              refine vk_getf hx hb k3 hS hown (hts _ g1) (fun _ z => z) (xi_dec hd rfl) (K1 h2 (xi_mk ⟨_, rfl, ?_⟩ hs1))
              show (xi_as Z WS)[8 + a]? = some (Z.1.getD (8 + a) 0)
              rw [xi_as_c hz (by omega), List.getD_eq_getElem?_getD, List.getElem?_eq_getElem (by omega)]
              rfl
            · rw [g0] at hv
              have hv := Option.some.inj hv
              subst hv
              exact vk_getf hx hb k2 hS hown (hts _ g1) (fun _ z => z) (xi_dec hd rfl) (K1 h2 (xi_mk rfl hs1))
        · cases h2
      · cases h
    · cases h
  | putfield k =>
    simp only [xi_stp] at h
    split at h
    · rename_i v a r q hq
      split at h
      · rename_i o ho
        obtain ⟨h1, h2⟩ := xi_cond h
        simp only [Bool.and_eq_true, Bool.or_eq_true, Bool.not_eq_true'] at h1
        obtain ⟨⟨hge, h1⟩, hf, hk, hfin⟩ := h1
        have hge := xk_17 hge
        have h1 := Nat.eq_of_beq_eq_true h1
        obtain ⟨V, S0, rfl, hvV, hs0⟩ := xi_s_c hs
        obtain ⟨aa, S1, rfl, ha, hs1⟩ := xi_s_r hs0
        obtain ⟨E, hE, hoE⟩ := xi_ob hw hge ho ha
        obtain ⟨FS, rfl, hFS⟩ := hoE
        obtain ⟨rr, hrr, -⟩ := hP (a - 17) _ hE
        have h7 : q.1 ≠ 7 := by
          intro e
          rw [← h1, e] at hrr
          cases hrr
        obtain ⟨C, F, N, hc, hkN, hlink, hsame, hpf⟩ := xf_f hq h7
        obtain ⟨hin, hty, hnm, -, -, -, hcn, -⟩ := xi_cls _ hc
        obtain ⟨hn1, hn2⟩ := xi_fit_ok hf hvV
        have hlen : q.2.1 < FS.length := by rw [hFS.len]; exact xi_blt hk
        have hff : (F q.2.1).2.2.2 = xt_ff q.1 q.2.1 := by simp [xt_ff, hc]
        have hK3 : ∀ (H1 : Heap) (locs1 : List Loc), va_P D xt_cl (WS.set (a - 17) (aa, .inr (o.1, FS.set q.2.1 V))) H1 → va_D A (WS.set (a - 17) (aa, .inr (o.1, FS.set q.2.1 V))) → va_S A s.heap H1 locs1 → W p l e R s m args below meth c H1 locs1 cz sz Q (F0 m (pc + 3) ls S1) := fun H1 locs1 hP1 hD1 hS1 => K3 h2 hge hE ⟨_, rfl, hFS.put hvV⟩ hs1 hP1 hD1 hS1
        rcases hfin with hfin | ⟨hfi, hfo⟩
        · rw [h1] at hc hff
          exact va_put (D := D) (ref := (F q.2.1).1) hx hb hts hin _ hty hnm hown hK hP hD hS (a - 17) hE hc q.2.1 hkN (hts _ hlink) (fun _ z => z) (by rw [hff, ← h1]; exact hfin) hpf hn1 hn2 hlen (xi_dec hd rfl) hK3
        · have hfo := Nat.eq_of_beq_eq_true hfo
          by_cases hfin2 : (F q.2.1).2.2.2 = false
          · rw [h1] at hc
            exact va_put (D := D) (ref := (F q.2.1).1) hx hb hts hin _ hty hnm hown hK hP hD hS (a - 17) hE hc q.2.1 hkN (hts _ hlink) (fun _ z => z) hfin2 hpf hn1 hn2 hlen (xi_dec hd rfl) hK3
          · rw [h1] at hc
            exact va_putF (D := D) (ref := (F q.2.1).1) hx hb hts hin _ hty hnm hown hK hP hD hS (a - 17) hE hc q.2.1 hkN (hts _ hlink) (fun _ z => z) (by simpa using hfin2) (hini hfi) (by rw [hsame, hcn, hfo]) hpf hn1 hn2 hlen (xi_dec hd rfl) hK3
      · cases h
    · cases h
  | new k =>
    simp only [xi_stp] at h
    split at h
    · rename_i q hq
      obtain ⟨C, F, N, hc, hcl, hins, hinit⟩ := xf_n hq
      obtain ⟨hin, hty, hnm, hdf, hcn, hnf, -, hself⟩ := xi_cls _ hc
      have h0 := Option.some.inj h
      have hc1 : cz + 1 ≤ R.cells := by rw [← h0] at hRc; exact hRc
      have hc2 : sz + N ≤ R.slots := by rw [← h0] at hRs; rw [hnf]; exact hRs
      exact va_new (D := D) (ci := q.1) (fs := xt_df q.1) hx hb hts hin _ hty hown (hts _ hcl) (hts _ hins) (hts _ hinit) hK hP hD hS hA hc hdf hc1 hc2 (xi_dec hd rfl) (fun a H1 hP1 hD1 hS1 => by
        rw [hnf]
        exact K4 h (E' := .inr (q.1, xt_df q.1)) ⟨_, rfl, hself _⟩ hs hP1 hD1 hS1)
    · cases h
  | newarray t =>
    simp only [xi_stp] at h
    split at h
    · rename_i n r
      obtain ⟨h1, h2⟩ := xi_condN h
      rw [Bool.or_eq_false_iff] at h1
      obtain ⟨S1, rfl, hs1⟩ := xi_s_i hs
      have hn : ¬ n < 0 := of_decide_eq_false h1.1
      have hle : n.toNatClampNeg ≤ 1000000 := by
        rcases Nat.lt_or_ge 1000000 n.toNatClampNeg with z | z
        · have z2 : Nat.blt 1000000 n.toNatClampNeg = true := Nat.ble_eq_true_of_le z
          rw [h1.2] at z2; cases z2
        · exact z
      cases t with
      | int =>
        have h0 := Option.some.inj h2
        have hc1 : cz + 1 ≤ R.cells := by rw [← h0] at hRc; exact hRc
        have hc2 : sz + n.toNatClampNeg ≤ R.slots := by rw [← h0] at hRs; exact hRs
        exact va_newa (D := D) (atype := .int) (ty := .int) (a0 := (n.toNatClampNeg, .inl (fun _ => 0))) hx hb (hts _ xf_aI) rfl hK hP hD hS hA (fun cA => rfl) hn rfl (by simp only [componentBytes]; omega) hc1 hc2 (xi_dec hd rfl) (fun a cA H1 hK1 hP1 hD1 hS1 => K4 h2 (E' := .inl (cA, n.toNatClampNeg, .inl (fun _ => 0))) ⟨cA, rfl, hK1.2 0 (cA, .int) rfl⟩ hs1 hP1 hD1 hS1)
      | byte =>
        have h0 := Option.some.inj h2
        have hc1 : cz + 1 ≤ R.cells := by rw [← h0] at hRc; exact hRc
        have hc2 : sz + n.toNatClampNeg ≤ R.slots := by rw [← h0] at hRs; exact hRs
        exact va_newa (D := D) (atype := .byte) (ty := .byte) (a0 := (n.toNatClampNeg, .inl (fun _ => 0))) hx hb (hts _ xf_aB) rfl hK hP hD hS hA (fun cA => rfl) hn rfl (by simp only [componentBytes]; omega) hc1 hc2 (xi_dec hd rfl) (fun a cA H1 hK1 hP1 hD1 hS1 => K4 h2 (E' := .inl (cA, n.toNatClampNeg, .inl (fun _ => 0))) ⟨cA, rfl, hK1.2 0 (cA, .byte) rfl⟩ hs1 hP1 hD1 hS1)
      | boolean => cases h2
      | long =>
        have h0 := Option.some.inj h2
        have hc1 : cz + 1 ≤ R.cells := by rw [← h0] at hRc; exact hRc
        have hc2 : sz + n.toNatClampNeg ≤ R.slots := by rw [← h0] at hRs; exact hRs
        exact va_newa (D := D) (atype := .long) (ty := .long) (a0 := (n.toNatClampNeg, .inr (.inl (fun _ => 0)))) hx hb (hts _ xf_aL) rfl hK hP hD hS hA (fun cA => rfl) hn rfl (by simp only [componentBytes]; omega) hc1 hc2 (xi_dec hd rfl) (fun a cA H1 hK1 hP1 hD1 hS1 => K4 h2 (E' := .inl (cA, n.toNatClampNeg, .inr (.inl (fun _ => 0)))) ⟨cA, rfl, hK1.2 0 (cA, .long) rfl⟩ hs1 hP1 hD1 hS1)
      | char => cases h2
      | float => cases h2
      | double => cases h2
      | short => cases h2
    · cases h
  | anewarray k =>
    simp only [xi_stp] at h
    split at h
    · rename_i n r
      obtain ⟨h1, h2⟩ := xi_condN h
      rw [Bool.or_eq_false_iff] at h1
      obtain ⟨S1, rfl, hs1⟩ := xi_s_i hs
      have hn : ¬ n < 0 := of_decide_eq_false h1.1
      have hle : n.toNatClampNeg ≤ 1000000 := by
        rcases Nat.lt_or_ge 1000000 n.toNatClampNeg with z | z
        · have z2 : Nat.blt 1000000 n.toNatClampNeg = true := Nat.ble_eq_true_of_le z
          rw [h1.2] at z2; cases z2
        · exact z
      split at h2
      · rename_i q hq
        obtain ⟨h54, h2⟩ := xi_cond h2
        rw [Bool.or_eq_true] at h54
        have h54 := h54.imp Nat.eq_of_beq_eq_true Nat.eq_of_beq_eq_true
        obtain ⟨C, F, N, hc, hcl, hins, hinit⟩ := xf_n hq
        have hcn : C = xt_cn q.1 := (xi_cls _ hc).2.2.2.2.1
        have hao : va_AO C s := by
          rcases h54 with z | z
          · rw [z] at hc; cases hc; exact hN.2.1
          · rw [z] at hc; cases hc; exact hN.2.2.1
        have h0 := Option.some.inj h2
        have hc1 : cz + 1 ≤ R.cells := by rw [← h0] at hRc; exact hRc
        have hc2 : sz + n.toNatClampNeg ≤ R.slots := by rw [← h0] at hRs; exact hRs
        exact va_newq (D := D) hx hb hown (hts _ hcl) hao hK hP hD hS hA hn rfl (by omega) hc1 hc2 (xi_dec hd rfl) (fun a cA H1 hK1 hP1 hD1 hS1 => K4 h2 (E' := .inl (cA, n.toNatClampNeg, .inr (.inr (.inr (.inr (fun _ => none)))))) ⟨cA, _, rfl, fun _ => rfl, by rw [← hcn]; exact hK1.2 0 (cA, .object C) rfl, fun e => by cases e⟩ hs1 hP1 hD1 hS1)
      · split at h2
        · rename_i q hq
          obtain ⟨hq1, h2⟩ := xi_cond h2
          have h0 := Option.some.inj h2
          have hc1 : cz + 1 ≤ R.cells := by rw [← h0] at hRc; exact hRc
          have hc2 : sz + n.toNatClampNeg ≤ R.slots := by rw [← h0] at hRs; exact hRs
          exact xk_newq (D := D) hx hb hown (hts _ ((xf_a hq).2 (Nat.eq_of_beq_eq_true hq1))) hN.2.2.2.2.2 hK hP hD hS hA hn rfl (by omega) hc1 hc2 (xi_dec hd rfl) (fun a cA H1 hK1 hJ hP1 hD1 hS1 => K4 h2 (E' := .inl (cA, n.toNatClampNeg, .inr (.inr (.inr (.inr (fun _ => none)))))) ⟨cA, _, rfl, fun _ => rfl, hK1.2 0 (cA, .array .long) rfl, fun _ => hJ⟩ hs1 hP1 hD1 hS1)
        · cases h2
    · cases h
  | arraylength =>
    simp only [xi_stp] at h
    split at h
    · rename_i a r
      split at h
      · rename_i o ho
        obtain ⟨aa, S1, rfl, ha, hs1⟩ := xi_s_r hs
        obtain ⟨a, rfl⟩ : ∃ n : Nat, n = a := ⟨a, rfl⟩
        by_cases hge : 17 ≤ a
        · obtain ⟨E, hE, hoE⟩ := xi_ob hw hge ho ha
          obtain ⟨ty, n, f | f | f⟩ := o
          · obtain ⟨cA, rfl, hAT⟩ := hoE
            exact va_alen (D := D) hx hb (xi_KA hK hAT) hP (a - 17) 0 hE rfl rfl (xi_dec hd rfl) (K1 h (xi_mk rfl hs1))
          · obtain ⟨cA, rfl, hAT⟩ := hoE
            exact va_alen (D := D) hx hb (xi_KA hK hAT) hP (a - 17) 0 hE rfl rfl (xi_dec hd rfl) (K1 h (xi_mk rfl hs1))
          · obtain ⟨cA, FF, rfl, hFF, hAT, -⟩ := hoE
            exact va_alen (D := D) hx hb (xi_KA hK hAT) hP (a - 17) 0 hE rfl rfl (xi_dec hd rfl) (K1 h (xi_mk rfl hs1))
        · obtain ⟨e1, e2⟩ := xi_obc hw (by omega) ho ha
          subst e2
          unfold xk_c at e1
          split at e1
          · cases e1
          · split at e1
            · rename_i h8 h16
              have e1 := Sum.inl.inj e1
              subst e1
              obtain ⟨k1, k2, k3, k4⟩ := hKS.1.1 (a - 8) (by omega)
              have k4 : va_T .byte (Z.1.getD (8 + (a - 8)) 0) _ _ A s s.heap := k4
              rw [show 8 + (a - 8) = a by omega] at k4
              exact va_tlen hx hb k4 hS rfl (xi_dec hd rfl) (K1 h (xi_mk rfl hs1))
            · rename_i h8 h16
              have e1 := Sum.inl.inj e1
              subst e1
              have e16 : a = 16 := by omega
              subst e16
              exact va_tlen hx hb hKS.2.2.1 hS rfl (xi_dec hd rfl) (K1 h (xi_mk rfl hs1))
      · cases h
    · cases h
  | iaload =>
    simp only [xi_stp] at h
    split at h
    · rename_i j a r
      split at h
      · rename_i ty n f ho
        obtain ⟨h1, h2⟩ := xi_cond h
        rw [Bool.and_eq_true] at h1
        have hty := xi_isa_f h1.2
        subst hty
        obtain ⟨S0, rfl, hs0⟩ := xi_s_i hs
        obtain ⟨aa, S1, rfl, ha, hs1⟩ := xi_s_r hs0
        obtain ⟨a, rfl⟩ : ∃ n : Nat, n = a := ⟨a, rfl⟩
        by_cases hge : 17 ≤ a
        · obtain ⟨E, hE, cA, rfl, hAT⟩ := xi_ob hw hge ho ha
          exact va_iald (D := D) hx hb (xi_KA hK hAT) hP (a - 17) 0 hE rfl (xi_ix_in h1.1) (xi_dec hd rfl) (K1 h2 (xi_mk rfl hs1))
        · obtain ⟨e1, e2⟩ := xi_obc hw (by omega) ho ha
          subst e2
          unfold xk_c at e1
          split at e1
          · cases e1
          · split at e1
            · cases e1
            · rename_i h8 h16
              cases e1
              have e16 : a = 16 := by omega
              subst e16
              exact va_ti hx hb hKS.2.2.1 hS (xi_ix_in h1.1) rfl (xi_dec hd rfl) (K1 h2 (xi_mk rfl hs1))
      · cases h
    · cases h
  | baload =>
    simp only [xi_stp] at h
    split at h
    · rename_i j a r
      split at h
      · rename_i ty n f ho
        obtain ⟨h1, h2⟩ := xi_cond h
        rw [Bool.and_eq_true] at h1
        obtain ⟨S0, rfl, hs0⟩ := xi_s_i hs
        obtain ⟨aa, S1, rfl, ha, hs1⟩ := xi_s_r hs0
        obtain ⟨a, rfl⟩ : ∃ n : Nat, n = a := ⟨a, rfl⟩
        by_cases hge : 17 ≤ a
        · obtain ⟨E, hE, cA, rfl, hAT⟩ := xi_ob hw hge ho ha
          rcases xi_isa_t h1.2 with hty | hty
          · subst hty
            exact va_bald (D := D) hx hb (xi_KA hK hAT) hP (a - 17) 0 hE rfl (xi_ix_in h1.1) (xi_dec hd rfl) (K1 h2 (xi_mk rfl hs1))
          · subst hty
            exact va_zald (D := D) hx hb (xi_KA hK hAT) hP (a - 17) 0 hE rfl (xi_ix_in h1.1) (xi_dec hd rfl) (K1 h2 (xi_mk rfl hs1))
        · obtain ⟨e1, e2⟩ := xi_obc hw (by omega) ho ha
          subst e2
          unfold xk_c at e1
          split at e1
          · cases e1
          · split at e1
            · rename_i h8 h16
              cases e1
              obtain ⟨k1, k2, k3, k4⟩ := hKS.1.1 (a - 8) (by omega)
              have k4 : va_T .byte (Z.1.getD (8 + (a - 8)) 0) _ _ A s s.heap := k4
              rw [show 8 + (a - 8) = a by omega] at k4
              exact va_tb hx hb k4 hS (xi_ix_in h1.1) rfl (xi_dec hd rfl) (K1 h2 (xi_mk rfl hs1))
            · cases e1
              have z := h1.2
              simp [xi_isa] at z
      · cases h
    · cases h
  | laload =>
    simp only [xi_stp] at h
    split at h
    · rename_i j a r
      split at h
      · rename_i n f ho
        obtain ⟨h1, h2⟩ := xi_cond h
        rw [Bool.and_eq_true] at h1
        obtain ⟨hge, h1⟩ := h1
        have hge := xk_17 hge
        obtain ⟨S0, rfl, hs0⟩ := xi_s_i hs
        obtain ⟨aa, S1, rfl, ha, hs1⟩ := xi_s_r hs0
        obtain ⟨E, hE, cA, rfl, hAT⟩ := xi_ob hw hge ho ha
        exact va_lald (D := D) hx hb (xi_KA hK hAT) hP (a - 17) 0 hE rfl (xi_ix_in h1) (xi_dec hd rfl) (K1 h2 (xi_mk rfl hs1))
      · cases h
    · cases h
  | aaload =>
    simp only [xi_stp] at h
    split at h
    · rename_i j a r
      split at h
      · rename_i ty n f ho
        obtain ⟨h1, h2⟩ := xi_cond h
        simp only [Bool.and_eq_true] at h1
        obtain ⟨hge, h1, hr⟩ := h1
        have hge := xk_17 hge
        obtain ⟨S0, rfl, hs0⟩ := xi_s_i hs
        obtain ⟨aa, S1, rfl, ha, hs1⟩ := xi_s_r hs0
        obtain ⟨E, hE, cA, FF, rfl, hFF, hAT, -⟩ := xi_ob hw hge ho ha
        have hv : xi_v (xi_as Z WS) (xi_rf (f j.toNatClampNeg)) (va_rf (FF j.toNatClampNeg)) := by
          have z := hFF j.toNatClampNeg
          cases hf : f j.toNatClampNeg with
          | none => rw [hf] at z; rw [show FF j.toNatClampNeg = none from z]; rfl
          | some x => rw [hf] at z; obtain ⟨b, h3, h4⟩ := z; rw [h3]; exact ⟨b, rfl, h4⟩
        have hre : ty.isReference = true := by
          cases ty with
          | object C => rfl
          | array t => rfl
          | _ => simp [xi_isr] at hr
        exact xk_aldq (D := D) hx hb (xi_KA hK hAT) hP (a - 17) 0 hE rfl hre (xi_ix_in h1) (xi_dec hd rfl) (K1 h2 (xi_mk hv hs1))
      · cases h
    · cases h
  | iastore =>
    simp only [xi_stp] at h
    split at h
    · rename_i x j a r
      split at h
      · rename_i ty n f ho
        obtain ⟨h1, h2⟩ := xi_cond h
        rw [Bool.and_eq_true] at h1
        obtain ⟨hge, h1⟩ := h1
        have hge := xk_17 hge
        rw [Bool.and_eq_true] at h1
        have hty := xi_isa_f h1.2
        subst hty
        obtain ⟨S00, rfl, hs00⟩ := xi_s_i hs
        obtain ⟨S0, rfl, hs0⟩ := xi_s_i hs00
        obtain ⟨aa, S1, rfl, ha, hs1⟩ := xi_s_r hs0
        obtain ⟨E, hE, cA, rfl, hAT⟩ := xi_ob hw hge ho ha
        exact va_iast (D := D) hx hb (xi_KA hK hAT) hP hD hS (a - 17) 0 hE rfl (xi_ix_in h1.1) (xi_dec hd rfl) (fun H1 locs1 hP1 hD1 hS1 => K3 h2 hge hE ⟨cA, rfl, hAT⟩ hs1 hP1 hD1 hS1)
      · cases h
    · cases h
  | bastore =>
    simp only [xi_stp] at h
    split at h
    · rename_i x j a r
      split at h
      · rename_i ty n f ho
        obtain ⟨h1, h2⟩ := xi_cond h
        rw [Bool.and_eq_true] at h1
        obtain ⟨hge, h1⟩ := h1
        have hge := xk_17 hge
        rw [Bool.and_eq_true] at h1
        obtain ⟨S00, rfl, hs00⟩ := xi_s_i hs
        obtain ⟨S0, rfl, hs0⟩ := xi_s_i hs00
        obtain ⟨aa, S1, rfl, ha, hs1⟩ := xi_s_r hs0
        obtain ⟨E, hE, cA, rfl, hAT⟩ := xi_ob hw hge ho ha
        rcases xi_isa_t h1.2 with hty | hty
        · subst hty
          exact va_bast (D := D) hx hb (xi_KA hK hAT) hP hD hS (a - 17) 0 hE rfl (xi_ix_in h1.1) (xi_dec hd rfl) (fun H1 locs1 hP1 hD1 hS1 => K3 h2 hge hE ⟨cA, rfl, hAT⟩ hs1 hP1 hD1 hS1)
        · subst hty
          exact va_zast (D := D) hx hb (xi_KA hK hAT) hP hD hS (a - 17) 0 hE rfl (xi_ix_in h1.1) (xi_dec hd rfl) (fun H1 locs1 hP1 hD1 hS1 => K3 h2 hge hE ⟨cA, rfl, hAT⟩ hs1 hP1 hD1 hS1)
      · cases h
    · cases h
  | lastore =>
    simp only [xi_stp] at h
    split at h
    · rename_i x j a r
      split at h
      · rename_i n f ho
        obtain ⟨h1, h2⟩ := xi_cond h
        rw [Bool.and_eq_true] at h1
        obtain ⟨hge, h1⟩ := h1
        have hge := xk_17 hge
        obtain ⟨S00, rfl, hs00⟩ := xi_s_l hs
        obtain ⟨S0, rfl, hs0⟩ := xi_s_i hs00
        obtain ⟨aa, S1, rfl, ha, hs1⟩ := xi_s_r hs0
        obtain ⟨E, hE, cA, rfl, hAT⟩ := xi_ob hw hge ho ha
        exact va_last (D := D) hx hb (xi_KA hK hAT) hP hD hS (a - 17) 0 hE rfl (xi_ix_in h1) (xi_dec hd rfl) (fun H1 locs1 hP1 hD1 hS1 => K3 h2 hge hE ⟨cA, rfl, hAT⟩ hs1 hP1 hD1 hS1)
      · cases h
    · cases h
  | aastore =>
    simp only [xi_stp] at h
    split at h
    · rename_i v j a r
      split at h
      · rename_i C n f o ho hv
        obtain ⟨h1, h2⟩ := xi_cond h
        simp only [Bool.and_eq_true] at h1
        obtain ⟨hge, hgv, h1, h3⟩ := h1
        have hge := xk_17 hge
        have hgv := xk_17 hgv
        have hC : C = xt_cn o.1 := of_decide_eq_true h3
        obtain ⟨vv, S00, rfl, hvv, hs00⟩ := xi_s_r hs
        obtain ⟨S0, rfl, hs0⟩ := xi_s_i hs00
        obtain ⟨aa, S1, rfl, ha, hs1⟩ := xi_s_r hs0
        obtain ⟨E, hE, cA, FF, rfl, hFF, hAT, hJ⟩ := xi_ob hw hge ho ha
        obtain ⟨E2, hE2, FS, rfl, hFS⟩ := xi_ob hw hgv hv hvv
        obtain ⟨rr, hrr, -⟩ := hP (v - 17) _ hE2
        obtain ⟨RC, RT, RN⟩ := rr
        have hRC : RC = C := by rw [hC]; exact (xi_cls _ hrr).2.2.2.2.1
        subst hRC
        refine va_astq (D := D) (r := (RC, RT, RN)) hx hb (xi_KA hK hAT) hP hD hS (a - 17) 0 (v - 17) o.1 hE rfl hE2 hrr (xi_ix_in h1) (xi_dec hd rfl) (fun H1 locs1 hP1 hD1 hS1 => K3 h2 hge hE ⟨cA, _, rfl, fun k => ?_, hAT, hJ⟩ hs1 hP1 hD1 hS1)
        unfold va_up
        by_cases hk : k = j.toNatClampNeg
        · rw [if_pos hk, if_pos hk]; exact ⟨vv, rfl, hvv⟩
        · rw [if_neg hk, if_neg hk]; exact hFF k
      · rename_i n f n2 f2 ho hv
        obtain ⟨h1, h2⟩ := xi_cond h
        simp only [Bool.and_eq_true] at h1
        obtain ⟨hge, hgv, h1⟩ := h1
        have hge := xk_17 hge
        have hgv := xk_17 hgv
        obtain ⟨vv, S00, rfl, hvv, hs00⟩ := xi_s_r hs
        obtain ⟨S0, rfl, hs0⟩ := xi_s_i hs00
        obtain ⟨aa, S1, rfl, ha, hs1⟩ := xi_s_r hs0
        obtain ⟨E, hE, cA, FF, rfl, hFF, hAT, hJ⟩ := xi_ob hw hge ho ha
        obtain ⟨E2, hE2, cV, rfl, hAV⟩ := xi_ob hw hgv hv hvv
        refine xk_astq (D := D) hx hb hP hD hS (a - 17) (v - 17) hE hE2 (hJ rfl) hAV (xi_ix_in h1) (xi_dec hd rfl) (fun H1 locs1 hP1 hD1 hS1 => K3 h2 hge hE ⟨cA, _, rfl, fun k => ?_, hAT, hJ⟩ hs1 hP1 hD1 hS1)
        unfold va_up
        by_cases hk : k = j.toNatClampNeg
        · rw [if_pos hk, if_pos hk]; exact ⟨vv, rfl, hvv⟩
        · rw [if_neg hk, if_neg hk]; exact hFF k
      · cases h
    · rename_i j a r
      split at h
      · rename_i C n f ho
        obtain ⟨h1, h2⟩ := xi_cond h
        rw [Bool.and_eq_true] at h1
        obtain ⟨hge, h1⟩ := h1
        have hge := xk_17 hge
        obtain ⟨S00, rfl, hs00⟩ := xi_s_n hs
        obtain ⟨S0, rfl, hs0⟩ := xi_s_i hs00
        obtain ⟨aa, S1, rfl, ha, hs1⟩ := xi_s_r hs0
        obtain ⟨E, hE, cA, FF, rfl, hFF, hAT, hJ⟩ := xi_ob hw hge ho ha
        refine va_astqN (D := D) (C := C) hx hb (xi_KA hK hAT) hP hD hS (a - 17) 0 hE rfl (xi_ix_in h1) (xi_dec hd rfl) (fun H1 locs1 hP1 hD1 hS1 => K3 h2 hge hE ⟨cA, _, rfl, fun k => ?_, hAT, hJ⟩ hs1 hP1 hD1 hS1)
        unfold va_up
        by_cases hk : k = j.toNatClampNeg
        · rw [if_pos hk, if_pos hk]; rfl
        · rw [if_neg hk, if_neg hk]; exact hFF k
      · cases h
    · cases h
  | checkcast k =>
    simp only [xi_stp] at h
    split at h
    · rename_i a r q hq
      split at h
      · rename_i n f ho
        obtain ⟨h1, h2⟩ := xi_cond h
        rw [Bool.and_eq_true] at h1
        obtain ⟨hge, h1⟩ := h1
        have hge := xk_17 hge
        obtain ⟨aa, S1, rfl, ha, hs1⟩ := xi_s_r hs
        obtain ⟨E, hE, cA, rfl, hAT⟩ := xi_ob hw hge ho ha
        have hnm : s.vm.findClass "[I" = some cA := hAT.2
        exact va_castA (D := D) hx hb hown (hts _ ((xf_a hq).1 (Nat.eq_of_beq_eq_true h1))) hP (a - 17) hE hnm (xi_dec hd rfl) (K1 h2 (xi_mk ⟨aa, rfl, ha⟩ hs1))
      · rename_i n f ho
        obtain ⟨h1, h2⟩ := xi_cond h
        rw [Bool.and_eq_true] at h1
        obtain ⟨hge, h1⟩ := h1
        have hge := xk_17 hge
        obtain ⟨aa, S1, rfl, ha, hs1⟩ := xi_s_r hs
        obtain ⟨E, hE, cA, rfl, hAT⟩ := xi_ob hw hge ho ha
        have hnm : s.vm.findClass "[J" = some cA := hAT.2
        exact va_castA (D := D) hx hb hown (hts _ ((xf_a hq).2 (Nat.eq_of_beq_eq_true h1))) hP (a - 17) hE hnm (xi_dec hd rfl) (K1 h2 (xi_mk ⟨aa, rfl, ha⟩ hs1))
      · cases h
    · cases h
  | invokevirtual k =>
    simp only [xi_stp] at h
    split at h
    · rename_i a r q hq
      obtain ⟨h1, h2⟩ := xi_cond h
      simp only [Bool.and_eq_true] at h1
      obtain ⟨hge, h4, h5⟩ := h1
      have hge := xk_17 hge
      have hd0 := xi_blt h4
      have hRl0 := hRl hd0
      have h5 := Nat.le_of_ble_eq_true h5
      split at h2
      · rename_i n f ho
        obtain ⟨h3, h2⟩ := xi_cond h2
        obtain ⟨aa, S1, rfl, ha, hs1⟩ := xi_s_r hs
        obtain ⟨E, hE, cA, rfl, hAT⟩ := xi_ob hw hge ho ha
        have hnm : s.vm.findClass "[I" = some cA := hAT.2
        obtain ⟨hl1, hl2, hl3, hl4, hl5⟩ := xf_c9 hq (Nat.eq_of_beq_eq_true h3)
        have h0 := Option.some.inj h2
        have hc1 : cz + 1 ≤ R.cells := by rw [← h0] at hRc; exact hRc
        have hc2 : sz + n ≤ R.slots := by rw [← h0] at hRs; exact hRs
        exact va_clone (D := D) (ty := .int) (x := (n, .inl f)) hx hb (by rw [hml]; exact hh.1.symm) hown (hts _ hl1) (hts _ hl2) (hts _ hl3) (hts _ hl4) (hts _ hl5) hN.2.2.2.1 (xi_KA hK hAT) hP hD hS hA (a - 17) 0 hE rfl hnm (xi_fits_arr n f) (hRf hd0) (by rw [hs1.cats]; omega) hc1 hc2 (xi_dec hd rfl) (fun b H1 hK1 hP1 hD1 hS1 => K4 h2 (E' := .inl (cA, n, .inl f)) ⟨cA, rfl, hAT⟩ hs1 hP1 hD1 hS1)
      · rename_i n f ho
        obtain ⟨h3, h2⟩ := xi_cond h2
        obtain ⟨aa, S1, rfl, ha, hs1⟩ := xi_s_r hs
        obtain ⟨E, hE, cA, rfl, hAT⟩ := xi_ob hw hge ho ha
        have hnm : s.vm.findClass "[J" = some cA := hAT.2
        obtain ⟨hl1, hl2, hl3, hl4, hl5⟩ := xf_c10 hq (Nat.eq_of_beq_eq_true h3)
        have h0 := Option.some.inj h2
        have hc1 : cz + 1 ≤ R.cells := by rw [← h0] at hRc; exact hRc
        have hc2 : sz + n ≤ R.slots := by rw [← h0] at hRs; exact hRs
        exact va_clone (D := D) (ty := .long) (x := (n, .inr (.inl f))) hx hb (by rw [hml]; exact hh.1.symm) hown (hts _ hl1) (hts _ hl2) (hts _ hl3) (hts _ hl4) (hts _ hl5) hN.2.2.2.2.1 (xi_KA hK hAT) hP hD hS hA (a - 17) 0 hE rfl hnm (xi_fits_arl n f) (hRf hd0) (by rw [hs1.cats]; omega) hc1 hc2 (xi_dec hd rfl) (fun b H1 hK1 hP1 hD1 hS1 => K4 h2 (E' := .inl (cA, n, .inr (.inl f))) ⟨cA, rfl, hAT⟩ hs1 hP1 hD1 hS1)
      · cases h2
    · cases h
  | invokespecial k =>
    simp only [xi_stp] at h
    split at h
    · rename_i a r q hq
      obtain ⟨h1, h2⟩ := xi_cond h
      simp only [Bool.and_eq_true] at h1
      obtain ⟨h3, h4, h5⟩ := h1
      have hd0 := xi_blt h4
      have h5 := Nat.le_of_ble_eq_true h5
      obtain ⟨aa, S1, rfl, ha, hs1⟩ := xi_s_r hs
      obtain ⟨hl1, hl2⟩ := xf_c4 hq (Nat.eq_of_beq_eq_true h3)
      have hRl0 := hRl hd0
      refine W.objInit hx hb hown (hts _ hl1) (hts _ hl2) (hts _ xf_ob) rfl (by rw [hml]; exact hh.1) rfl (xi_dec hd rfl) (hRf hd0) (by
        show 2 * 0 + _ + 12 ≤ _
        rw [hs1.cats]
        omega) ?_
      exact K1 h2 hs1
    · cases h
  | invokestatic k =>
    simp only [xi_stp] at h
    split at h
    · cases h
    · rename_i q hq
      cases h11 : Nat.beq q.1 11 with
      | true =>
        rw [h11] at h
        simp only [cond_true] at h
        split at h
        · obtain ⟨h1, h2⟩ := xi_cond h
          rw [Bool.and_eq_true] at h1
          have hd0 := xi_blt h1.1
          have hRl0 := hRl hd0
          have h5 := Nat.le_of_ble_eq_true h1.2
          obtain ⟨S0, rfl, hs0⟩ := xi_s_l hs
          obtain ⟨S1, rfl, hs1⟩ := xi_s_l hs0
          obtain ⟨hl1, hl2, hl3, hl4⟩ := xf_c11 hq (Nat.eq_of_beq_eq_true h11)
          have h0 := Option.some.inj h2
          have hc1 : cz ≤ R.cells := by rw [← h0] at hRc; exact hRc
          have hc2 : sz ≤ R.slots := by rw [← h0] at hRs; exact hRs
          exact va_mmax_long hx hb (by rw [hml]; exact hh.1.symm) hown (hts _ hl1) (hts _ hl2) (hts _ hl3) (hts _ hl4) (hRf hd0) (by rw [hs1.cats]; omega) hc1 hc2 (xi_dec hd rfl) (K1 h2 (xi_mk rfl hs1))
        · cases h
      | false =>
      rw [h11] at h
      simp only [cond_false] at h
      cases h12 : Nat.beq q.1 12 with
      | true =>
        rw [h12] at h
        simp only [cond_true] at h
        split at h
        · obtain ⟨h1, h2⟩ := xi_cond h
          rw [Bool.and_eq_true] at h1
          have hd0 := xi_blt h1.1
          have hRl0 := hRl hd0
          have h5 := Nat.le_of_ble_eq_true h1.2
          obtain ⟨S0, rfl, hs0⟩ := xi_s_l hs
          obtain ⟨S1, rfl, hs1⟩ := xi_s_l hs0
          obtain ⟨hl1, hl2, hl3, hl4⟩ := xf_c12 hq (Nat.eq_of_beq_eq_true h12)
          have h0 := Option.some.inj h2
          have hc1 : cz ≤ R.cells := by rw [← h0] at hRc; exact hRc
          have hc2 : sz ≤ R.slots := by rw [← h0] at hRs; exact hRs
          exact va_mmin_long hx hb (by rw [hml]; exact hh.1.symm) hown (hts _ hl1) (hts _ hl2) (hts _ hl3) (hts _ hl4) (hRf hd0) (by rw [hs1.cats]; omega) hc1 hc2 (xi_dec hd rfl) (K1 h2 (xi_mk rfl hs1))
        · cases h
      | false =>
      rw [h12] at h
      simp only [cond_false] at h
      cases h6 : Nat.beq q.1 6 with
      | true =>
        rw [h6] at h
        simp only [cond_true] at h
        split at h
        · obtain ⟨h1, h2⟩ := xi_cond h
          rw [Bool.and_eq_true] at h1
          have hd0 := xi_blt h1.1
          have hRl0 := hRl hd0
          have h5 := Nat.le_of_ble_eq_true h1.2
          obtain ⟨S0, rfl, hs0⟩ := xi_s_i hs
          obtain ⟨S1, rfl, hs1⟩ := xi_s_i hs0
          obtain ⟨hl1, hl2, hl3, hl4⟩ := xf_c6 hq (Nat.eq_of_beq_eq_true h6)
          have h0 := Option.some.inj h2
          have hc1 : cz ≤ R.cells := by rw [← h0] at hRc; exact hRc
          have hc2 : sz ≤ R.slots := by rw [← h0] at hRs; exact hRs
          exact va_mmax hx hb (by rw [hml]; exact hh.1.symm) hown (hts _ hl1) (hts _ hl2) (hts _ hl3) (hts _ hl4) (hRf hd0) (by rw [hs1.cats]; omega) hc1 hc2 (xi_dec hd rfl) (K1 h2 (xi_mk rfl hs1))
        · cases h
      | false =>
        rw [h6] at h
        simp only [cond_false] at h
        cases h7 : Nat.beq q.1 7 with
        | true =>
          rw [h7] at h
          simp only [cond_true] at h
          split at h
          · obtain ⟨h1, h2⟩ := xi_cond h
            rw [Bool.and_eq_true] at h1
            have hd0 := xi_blt h1.1
            have hRl0 := hRl hd0
            have h5 := Nat.le_of_ble_eq_true h1.2
            obtain ⟨S0, rfl, hs0⟩ := xi_s_i hs
            obtain ⟨S1, rfl, hs1⟩ := xi_s_i hs0
            obtain ⟨hl1, hl2, hl3, hl4⟩ := xf_c7 hq (Nat.eq_of_beq_eq_true h7)
            have h0 := Option.some.inj h2
            have hc1 : cz ≤ R.cells := by rw [← h0] at hRc; exact hRc
            have hc2 : sz ≤ R.slots := by rw [← h0] at hRs; exact hRs
            exact va_mmin hx hb (by rw [hml]; exact hh.1.symm) hown (hts _ hl1) (hts _ hl2) (hts _ hl3) (hts _ hl4) (hRf hd0) (by rw [hs1.cats]; omega) hc1 hc2 (xi_dec hd rfl) (K1 h2 (xi_mk rfl hs1))
          · cases h
        | false =>
          rw [h7] at h
          simp only [cond_false] at h
          cases h8 : Nat.beq q.1 8 with
          | true =>
            rw [h8] at h
            simp only [cond_true] at h
            split at h
            · obtain ⟨h1, h2⟩ := xi_cond h
              simp only [Bool.and_eq_true, Bool.not_eq_true', decide_eq_false_iff_not] at h1
              obtain ⟨⟨h3, h4⟩, hy⟩ := h1
              have hd0 := xi_blt h3
              have hRl0 := hRl hd0
              have h5 := Nat.le_of_ble_eq_true h4
              obtain ⟨S0, rfl, hs0⟩ := xi_s_i hs
              obtain ⟨S1, rfl, hs1⟩ := xi_s_i hs0
              obtain ⟨hl1, hl2, hl3, hl4⟩ := xf_c8 hq (Nat.eq_of_beq_eq_true h8)
              have h0 := Option.some.inj h2
              have hc1 : cz ≤ R.cells := by rw [← h0] at hRc; exact hRc
              have hc2 : sz ≤ R.slots := by rw [← h0] at hRs; exact hRs
              exact xi_floorMod hx hb (by rw [hml]; exact hh.1.symm) hown (hts _ hl1) (hts _ hl2) (hts _ hl3) (hts _ hl4) (hRf hd0) (by rw [hs1.cats]; omega) hc1 hc2 hy (xi_dec hd rfl) (K1 h2 (xi_mk rfl hs1))
            · cases h
          | false =>
            rw [h8] at h
            simp only [cond_false] at h
            obtain ⟨h9, h⟩ := xi_cond h
            obtain ⟨hl1, hl2, hl3, hl4⟩ := xf_c5 hq (Nat.eq_of_beq_eq_true h9)
            split at h
            · obtain ⟨h1, h2⟩ := xi_cond h
              simp only [Bool.and_eq_true, Bool.not_eq_true', decide_eq_false_iff_not] at h1
              obtain ⟨⟨h3, h4⟩, hn1, hn2, hn3, hga, hgb⟩ := h1
              have hga := xk_17 hga
              have hgb := xk_17 hgb
              have hd0 := xi_blt h3
              have hRl0 := hRl hd0
              have h5 := Nat.le_of_ble_eq_true h4
              have hnw : nativeFrameWords "java/lang/System" "arraycopy" 5 + 11 ≤ 56 := by decide +kernel
              obtain ⟨S4, rfl, hs4⟩ := xi_s_i hs
              obtain ⟨S3, rfl, hs3⟩ := xi_s_i hs4
              obtain ⟨aa, S2, rfl, ha, hs2⟩ := xi_s_r hs3
              obtain ⟨S0, rfl, hs0⟩ := xi_s_i hs2
              obtain ⟨ab, S1, rfl, hab, hs1⟩ := xi_s_r hs0
              split at h2
              · rename_i n0 f n1 g ho0 ho1
                obtain ⟨h6, h7⟩ := xi_cond h2
                rw [Bool.and_eq_true] at h6
                obtain ⟨E0, hE0, c0, rfl, hA0⟩ := xi_ob hw hgb ho0 hab
                obtain ⟨E1, hE1, c1, rfl, hA1⟩ := xi_ob hw hga ho1 ha
                exact va_copyi (D := D) (tys := [(c0, .int), (c1, .int)]) (ty := .int) hx hb (by rw [hml]; exact hh.1.symm) hown (hts _ hl1) (hts _ hl2) (hts _ hl3) (hts _ hl4) (xi_KA2 hK hA0 hA1) hP hD hS _ _ 0 1 hE0 hE1 rfl rfl rfl hn1 hn2 hn3 (Nat.le_of_ble_eq_true h6.1) (Nat.le_of_ble_eq_true h6.2) (fun _ _ => rfl) (hRf hd0) (by rw [hs1.cats]; omega) (xi_dec hd rfl) (fun H1 locs1 hP1 hD1 hS1 => K3 h7 hga hE1 ⟨c1, rfl, hA1⟩ hs1 hP1 hD1 hS1)
              · rename_i n0 f n1 g ho0 ho1
                obtain ⟨h6, h7⟩ := xi_cond h2
                rw [Bool.and_eq_true] at h6
                obtain ⟨E0, hE0, c0, rfl, hA0⟩ := xi_ob hw hgb ho0 hab
                obtain ⟨E1, hE1, c1, rfl, hA1⟩ := xi_ob hw hga ho1 ha
                exact va_copyl (D := D) (tys := [(c0, .long), (c1, .long)]) (ty := .long) hx hb (by rw [hml]; exact hh.1.symm) hown (hts _ hl1) (hts _ hl2) (hts _ hl3) (hts _ hl4) (xi_KA2 hK hA0 hA1) hP hD hS _ _ 0 1 hE0 hE1 rfl rfl rfl hn1 hn2 hn3 (Nat.le_of_ble_eq_true h6.1) (Nat.le_of_ble_eq_true h6.2) (fun _ _ => rfl) (hRf hd0) (by rw [hs1.cats]; omega) (xi_dec hd rfl) (fun H1 locs1 hP1 hD1 hS1 => K3 h7 hga hE1 ⟨c1, rfl, hA1⟩ hs1 hP1 hD1 hS1)
              · cases h2
            · cases h
  | _ => cases h
end XSTEP
