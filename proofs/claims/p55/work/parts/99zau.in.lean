/-! the law at its entry: the constants, the room, its end -/
def R_law : String := "DeltaNestsLaw"
def lw_P (b : Addr) (xs : List Int32) (args : Array Value) (s : State) : Prop := args = #[.ref b] ∧ s.IntsAt b xs ∧ xs.length ≤ 260 ∧ (Jvm.Cond.and given_1 narrow_1).before args s = true
def lw_Q (_ : Array Value) (s : State) (o : Outcome) (t : State) : Prop := o = .returned (some (.int 1)) ∧ Framed s o t [] 313906 8160532
def lw_Z (below : List Frame) (a : Array Value) (s : State) : State → Prop := fun t => ∃ o, t.status = .running ∧ Ended t below o ∧ lw_Q a s o t
theorem lx_hr {s : State} {pl : Platform} {r r' : Room} (hf : r.frames ≤ r'.frames) (hl : r.locals ≤ r'.locals) (hc : r.cells ≤ r'.cells) (hs : r.slots ≤ r'.slots) (h : s.hasRoom pl r' = true) : s.hasRoom pl r = true := by
  simp only [State.hasRoom, Bool.and_eq_true, decide_eq_true_eq] at h ⊢
  obtain ⟨⟨⟨⟨y, a, b, c, d, e⟩, f⟩, g⟩, i⟩ := h
  exact ⟨⟨⟨⟨by omega, by omega, by omega, by omega, by omega, e⟩, by omega⟩, by omega⟩, i⟩
theorem lx_fin {below : List Frame} {a : Array Value} {s t : State} {Z : xi_Z} {D : va_G} {W1 : xi_W} {mc ms : Nat} (h1 : mc ≤ 313906) (h2 : ms ≤ 8160532) (h : MQ below (xi_B Z D [] (fun q => s.heap.size ≤ q) (some (.int (Int32.ofNat 1)), W1, mc, ms)) a s mc ms (fun q => s.heap.size ≤ q) t) : lw_Z below a s t := by
  obtain ⟨o, hr, he, ⟨⟨VO, WS, ho, ⟨U, hU, hu⟩, -⟩, -⟩, L, hF, hL⟩ := h
  have hu : U = .int (Int32.ofNat 1) := hu
  subst hu
  subst hU
  subst ho
  exact ⟨_, hr, he, rfl, ⟨_, rfl⟩, hF.2.1, hF.2.2.weaken (fun y hy hlt => absurd hlt (Nat.not_lt.mpr (hL y hy))) h1 h2⟩
/-- the tables' words, at the law's entry -/
theorem lx_N {args : Array Value} {s : State} (hts : ∀ w ∈ lw_tb2, w.before args s = true) : xi_N s := by
  refine ⟨fun q hq => ?_, va_AO.of (hts _ xf_oW), va_AO.of (hts _ xf_oT), va_Nw.of rfl (hts _ xf_cC), va_Nw.of rfl (hts _ xf_cJ), hts _ xf_oJ⟩
  refine va_Nw.of rfl (hts _ ?_)
  simp only [xt_NL, List.mem_cons, List.not_mem_nil, or_false] at hq
  rcases hq with rfl | rfl | rfl | rfl | rfl
  · exact List.mem_of_getElem? (i := 200) (by decide +kernel)
  · exact List.mem_of_getElem? (i := 126) (by decide +kernel)
  · exact List.mem_of_getElem? (i := 63) (by decide +kernel)
  · exact List.mem_of_getElem? (i := 120) (by decide +kernel)
  · exact List.mem_of_getElem? (i := 214) (by decide +kernel)
def lx_has (w : Cond) : Bool := lw_tb2.any (fun v => decide (v = w))
theorem lx_in {w : Cond} (h : lx_has w = true) : w ∈ lw_tb2 := by
  obtain ⟨v, hv, e⟩ := List.any_eq_true.mp h
  rw [← of_decide_eq_true e]
  exact hv
def lx_ic (ci : Nat) : Bool := match xt_cl[ci]? with | some q => lx_has (.instantiable q.1 q.2.2) | none => true
theorem lx_ica : (List.range 7).all lx_ic = true := by decide +kernel
theorem lx_D {args : Array Value} {s : State} (hts : ∀ w ∈ lw_tb2, w.before args s = true) : ∃ D : va_G, va_K D xt_cl [] s := by
  have key : ∀ (ci : Nat) (q : vw_C), xt_cl[ci]? = some q → ∃ (cC : ClassId) (iS : Nat → Nat), u_Kn s q.1 q.2.1 q.2.2 cC iS := by
    intro ci q hq
    have hl : ci < 7 := (List.getElem?_eq_some_iff.mp hq).1
    have h1 := xi_all lx_ica hl
    unfold lx_ic at h1
    rw [hq] at h1
    have h2 := lx_in h1
    obtain ⟨C, T, N⟩ := q
    exact u_known hts (fun w hw => xi_tbl ((xi_cls ci hq).1 w hw)) (hts _ h2)
  obtain ⟨c0, i0, -⟩ := key 0 _ rfl
  have key2 : ∀ ci : Nat, ∃ x : ClassId × (Nat → Nat), ∀ q : vw_C, xt_cl[ci]? = some q → u_Kn s q.1 q.2.1 q.2.2 x.1 x.2 := by
    intro ci
    cases h : xt_cl[ci]? with
    | none => exact ⟨(c0, i0), fun q hq => by cases hq⟩
    | some q =>
      obtain ⟨c1, i1, k1⟩ := key ci q h
      exact ⟨(c1, i1), fun q2 hq => by cases hq; exact k1⟩
  refine ⟨(fun ci => (Classical.choose (key2 ci)).1, fun ci => (Classical.choose (key2 ci)).2), fun ci q hq => Classical.choose_spec (key2 ci) q hq, fun k q h => by simp at h⟩
/-! the String constants, as the start gives them -/
def lx_fl : List Cond := flatC (Jvm.Cond.and given_1 narrow_1)
def lx_po (i : Nat) : Nat := [23, 150, 166, 194, 219, 240, 261, 277].getD i 0
def lx_tm (i : Nat) : Term := .string (xt_on (xt_so.getD i (0, 0)).1) (xt_so.getD i (0, 0)).2
def lx_k1 (i : Nat) : Bool := decide (lx_fl[lx_po i]? = some (.exactly (lx_tm i) "java/lang/String")) && (decide (lx_fl[lx_po i + 1]? = some (.eq (.field (lx_tm i) "java/lang/String" "coder" "B") (.int 0))) && (decide (lx_fl[lx_po i + 2]? = some (.arrayOf (.field (lx_tm i) "java/lang/String" "value" "[B") .byte)) && decide (lx_fl[lx_po i + 3]? = some (.eq (.length (.field (lx_tm i) "java/lang/String" "value" "[B")) (.int (Int32.ofNat (xt_sl.getD i 0)))))))
def lx_k2 (i : Nat) : Bool := (List.range (xt_sl.getD i 0)).all (fun j => decide (lx_fl[lx_po i + 4 + j]? = some (.eq (.elem (.field (lx_tm i) "java/lang/String" "value" "[B") (.int (Int32.ofNat j))) (.int ((xt_sb.getD i []).getD j 0)))))
def lx_k3 (j : Nat) : Bool := (List.range j).all (fun i => decide (lx_fl[lx_po j + 4 + xt_sl.getD j 0 + i]? = some (.not (.eq (lx_tm i) (lx_tm j)))))
def lx_k4 (i : Nat) : Bool := lx_has (.stringRef (xt_on (xt_so.getD i (0, 0)).1) (xt_so.getD i (0, 0)).2 (xt_st.getD i "")) && Nat.blt (xt_sl.getD i 0) 1000
theorem lx_k1a : (List.range 8).all lx_k1 = true := by decide +kernel
theorem lx_k2a : (List.range 8).all lx_k2 = true := by decide +kernel
theorem lx_k3a : (List.range 8).all lx_k3 = true := by decide +kernel
theorem lx_k4a : (List.range 8).all lx_k4 = true := by decide +kernel
theorem lx_w1 : lx_has (.laysStatic "java/lang/String" "COMPACT_STRINGS" "Z") = true := by decide +kernel
theorem lx_w2 : lx_has (.initialized "java/lang/String") = true := by decide +kernel
theorem lx_w3 : lx_has (.laysStatic "jdk/internal/util/Preconditions" "SIOOBE_FORMATTER" "Ljava/util/function/BiFunction;") = true := by decide +kernel
theorem lx_w4 : lx_has (.initialized "jdk/internal/util/Preconditions") = true := by decide +kernel
theorem lx_f4 : lx_fl[4]? = some (.eq (.static "java/lang/String" "COMPACT_STRINGS" "Z") (.int 1)) := by decide +kernel
theorem lx_f5 : lx_fl[5]? = some (.isRef (.static "jdk/internal/util/Preconditions" "SIOOBE_FORMATTER" "Ljava/util/function/BiFunction;")) := by decide +kernel
theorem lx_KS {args : Array Value} {s : State} {b L : Nat} {xs : Nat → Int32} (hts : ∀ w ∈ lw_tb2, w.before args s = true) (hgv : (Jvm.Cond.and given_1 narrow_1).before args s = true) (hX : va_X b L xs s s.heap) (hbl : b < s.heap.size) : ∃ Z : xi_Z, Z.1.length = 17 ∧ Z.2 = (L, xs) ∧ Z.1[16]? = some b ∧ xi_KS Z (fun q => s.heap.size ≤ q) s s.heap := by
  have hfl : ∀ w ∈ lx_fl, w.before args s = true := flat_of_before _ hgv
  have hA : ∀ a : Nat, a < s.heap.size → ¬ s.heap.size ≤ a := fun a h => Nat.not_le.mpr h
  have k1 : ∀ i, i < 8 → _ := fun i hi => xi_all lx_k1a hi
  have k2 : ∀ i, i < 8 → _ := fun i hi => xi_all lx_k2a hi
  have k3 : ∀ i, i < 8 → _ := fun i hi => xi_all lx_k3a hi
  have k4 : ∀ i, i < 8 → _ := fun i hi => xi_all lx_k4a hi
  unfold lx_k1 at k1
  unfold lx_k2 at k2
  unfold lx_k3 at k3
  unfold lx_k4 at k4
  simp only [Bool.and_eq_true, decide_eq_true_eq] at k1 k4
  obtain ⟨adK, adV, hS, hadr⟩ := vk_Sof (args := args) (s := s) (N := 8) (tm := lx_tm) (len := xt_sl) (byt := xt_sb) (A := fun q => s.heap.size ≤ q) (fun i hi => Nat.lt_trans (Nat.lt_of_succ_le (Nat.le_of_ble_eq_true (k4 i hi).2)) (by decide)) (fun i hi => hfl _ (List.mem_of_getElem? (k1 i hi).1)) (fun i hi => hfl _ (List.mem_of_getElem? (k1 i hi).2.1)) (fun i hi => hfl _ (List.mem_of_getElem? (k1 i hi).2.2.1)) (fun i hi => hfl _ (List.mem_of_getElem? (k1 i hi).2.2.2)) (fun i hi j hj => hfl _ (List.mem_of_getElem? (of_decide_eq_true (xi_all (k2 i hi) hj)))) (fun i j hi hj hij => by
    by_cases h : i < j
    · exact Or.inl (hfl _ (List.mem_of_getElem? (of_decide_eq_true (xi_all (k3 j hj) h))))
    · exact Or.inr (hfl _ (List.mem_of_getElem? (of_decide_eq_true (xi_all (k3 i hi) (show j < i by omega)))))) hA
  have e1 : ∀ i, i < 8 → ([adK 0, adK 1, adK 2, adK 3, adK 4, adK 5, adK 6, adK 7, adV 0, adV 1, adV 2, adV 3, adV 4, adV 5, adV 6, adV 7, b] : List Nat).getD i 0 = adK i := fun i hi => by
    match i, hi with
    | 0, _ => rfl
    | 1, _ => rfl
    | 2, _ => rfl
    | 3, _ => rfl
    | 4, _ => rfl
    | 5, _ => rfl
    | 6, _ => rfl
    | 7, _ => rfl
    | n + 8, h => exact absurd h (by omega)
  have e2 : ∀ i, i < 8 → ([adK 0, adK 1, adK 2, adK 3, adK 4, adK 5, adK 6, adK 7, adV 0, adV 1, adV 2, adV 3, adV 4, adV 5, adV 6, adV 7, b] : List Nat).getD (8 + i) 0 = adV i := fun i hi => by
    match i, hi with
    | 0, _ => rfl
    | 1, _ => rfl
    | 2, _ => rfl
    | 3, _ => rfl
    | 4, _ => rfl
    | 5, _ => rfl
    | 6, _ => rfl
    | 7, _ => rfl
    | n + 8, h => exact absurd h (by omega)
  refine ⟨([adK 0, adK 1, adK 2, adK 3, adK 4, adK 5, adK 6, adK 7, adV 0, adV 1, adV 2, adV 3, adV 4, adV 5, adV 6, adV 7, b], L, xs), rfl, rfl, rfl, ⟨fun i hi => ?_, fun i j hi hj h => ?_⟩, fun n hn q t h1 h2 => ?_, ?_, ?_, ?_, rfl⟩
  · dsimp only
    rw [e1 i hi, e2 i hi]
    exact hS.1 i hi
  · dsimp only at h
    rw [e1 i hi, e1 j hj] at h
    exact hS.2 i j hi hj h
  · have hq : xt_so.getD n (0, 0) = q := by rw [List.getD_eq_getElem?_getD, h1]; rfl
    have ht : xt_st.getD n "" = t := by rw [List.getD_eq_getElem?_getD, h2]; rfl
    have h3 := (k4 n hn).1
    rw [hq, ht] at h3
    dsimp only
    rw [e1 n hn]
    have h4 := hadr n hn
    unfold lx_tm at h4
    rw [hq] at h4
    exact vk_R.of (A := args) (hts _ (lx_in h3)) h4
  · obtain ⟨scr, x1, x2, x3, x4, x5⟩ := hX
    exact ⟨scr, x1, x2, x3, by show L ≤ scr.slots.size; omega, by rw [x4], x5, hA b hbl⟩
  · exact va_Zof (hts _ (lx_in lx_w1)) (hts _ (lx_in lx_w2)) (va_eqt (hfl _ (List.mem_of_getElem? lx_f4))) hA
  · exact va_Zqof (hts _ (lx_in lx_w3)) (hts _ (lx_in lx_w4)) (hfl _ (List.mem_of_getElem? lx_f5)) hA
theorem lx_w0 (Z : xi_Z) : kc ((List.range 17).map (xk_c Z)) ∧ ((List.range 17).map (xk_c Z))[16]? = some (lw_s Z.2.1 Z.2.2) ∧ ((List.range 17).map (xk_c Z)).length = 17 := by
  refine ⟨fun i hi => ⟨?_, ?_⟩, rfl, rfl⟩
  · rw [List.getElem?_map, List.getElem?_range (by omega)]
    show some (xk_c Z i) = _
    unfold xk_c
    rw [if_pos hi]
  · rw [List.getElem?_map, List.getElem?_range (by omega)]
    show some (xk_c Z (8 + i)) = _
    unfold xk_c
    rw [if_neg (by omega), if_pos (by omega), show 8 + i - 8 = i by omega]
/-- from the entry, for every script, the law comes to its end with true -/
theorem whole_start {p : Program} {e : Env} {s : State} {m : MethodId} {below : List Frame} {meth : Method} {c : Code} (l : Launch) {b L : Nat} {xs : Nat → Int32} (hL : L ≤ 260) (hx : p.tables.exec = Jvm.exec) (hb : c.code = code) (hr : meth.sig.returnType = ret) (hml : c.maxLocals = 18) (hown : s.vm.findClass R_law = some m.cls) (hts : ∀ w ∈ lw_tb2, w.before #[Value.ref b] s = true) (hX : va_X b L xs s s.heap) (hbl : b < s.heap.size) (hlocks : meth.locks = false) (hgv : (Jvm.Cond.and given_1 narrow_1).before #[Value.ref b] s = true) : W p l e room_1 s m #[Value.ref b] below meth c s.heap [] 0 0 (lw_Z below #[Value.ref b] s) (entryFrame m ([Value.ref b] : List Value).toArray 18) := by
  obtain ⟨Z, hz, hz2, hz16, hks⟩ := lx_KS hts hgv hX hbl
  obtain ⟨D, hK⟩ := lx_D hts
  obtain ⟨w1, w2, w3⟩ := lx_w0 Z
  rw [hz2] at w2
  obtain ⟨res, ⟨n, hev⟩, W1, c1, s1, h1, h2, rfl⟩ := mAll 0 0 0 L xs _ (by omega) w1 w2 w3 (fun q => ∃ (W1 : xi_W) (c1 s1 : Nat), c1 ≤ 50000 ∧ s1 ≤ 900000 ∧ q = (some (.int (Int32.ofNat 1)), W1, c1, s1)) (fun W1 c1 s1 h1 h2 => ⟨W1, c1, s1, by omega, by omega, rfl⟩)
  have C0 : xi_C Z p s m #[Value.ref b] meth c D (fun q => s.heap.size ≤ q) 199 := ⟨hx, hb, hml, hown, fun w hw => hts w (xi_tbl hw), hK, lx_N hts, fun _ h => h, fun h => absurd h (by decide), hr, hlocks, hks⟩
  have hls := lv_entry ([.ref b]) (n := 18) (Nat.le_of_ble_eq_true rfl)
  rw [lg_entry_eq]
  generalize (lg_sl ([.ref b]) ++ List.replicate (18 - (lg_sl ([.ref b])).length) Slot.unset).toArray = ls at hls ⊢
  have hls : lv_has ls 18 [(0, .ref b)] := hls
  have hw : xi_w Z s ((List.range 17).map (xk_c Z)) [] := ⟨hz, rfl, fun i hi => by rw [List.getElem?_map, List.getElem?_range hi]; rfl, fun i o h => by
    have := (List.getElem?_eq_some_iff.mp h).1
    rw [w3] at this
    exact absurd this (by omega)⟩
  have h16 : (xi_as Z [])[16]? = some b := by rw [xi_as_c hz (by omega)]; exact hz16
  have K := xi_sound n (0 + 14) 199 0 _ [] _ 0 0 _ hev p l e s m #[Value.ref b] below meth c D (fun q => s.heap.size ≤ q) Z C0 [(0, .ref b)] [] [] [] s.heap [] ls hw rfl ⟨.ref b, [], rfl, ⟨b, rfl, h16⟩, rfl⟩ (fun k q h => by simp at h) ⟨fun i j p q h => by simp at h, fun k q h => by simp at h⟩ va_S.rf hls xi_up.refl
  intro T hT X
  have hroom : s.hasRoom e.platform (xi_room (0 + 14) c1 s1) = true := lx_hr (r' := room_1) (Nat.le_of_ble_eq_true rfl) (Nat.le_of_ble_eq_true rfl) (show c1 ≤ 313906 by omega) (show s1 ≤ 8160532 by omega) X.room
  obtain ⟨t, a1, b1⟩ := K T hT { X with room := hroom }
  exact ⟨t, a1, lx_fin (by omega) (by omega) b1⟩
