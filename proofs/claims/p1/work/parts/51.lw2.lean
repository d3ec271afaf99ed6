/-! the law's cases: one proof for all, over what a program reads off its bytes -/
def lx_is (pc : Nat) (ins : Jvm.ClassFile.Instr) (len : Nat) : Bool := decide (decode code pc = .ok (ins, len))
theorem lx_is_ok {pc : Nat} {ins : Jvm.ClassFile.Instr} {len : Nat} (h : lx_is pc ins len = true) : decode code pc = .ok (ins, len) := of_decide_eq_true h
def lx_l1 (pc k : Nat) : Bool := lx_is pc (.aload_n 0) 1 && (lx_is (pc + 1) (.iload_n 3) 1 && (lx_is (pc + 1 + 1) (.iconst ((k : Nat) : Int)) 1 && (lx_is (pc + 1 + 1 + 1) .iadd 1 && lx_is (pc + 1 + 1 + 1 + 1) .iaload 1)))
def lx_ld (pc : Nat) : Nat → Bool
  | 0 => true
  | n + 1 => lx_ld pc n && lx_l1 (pc + 5 * n) (n + 1)
def lx_xs (xs : Nat → Int32) : Nat → List Int32
  | 0 => []
  | n + 1 => lx_xs xs n ++ [xs (n + 1)]
theorem lx_xs_len (xs : Nat → Int32) : ∀ n, (lx_xs xs n).length = n
  | 0 => rfl
  | n + 1 => by
    show (lx_xs xs n ++ [xs (n + 1)]).length = n + 1
    rw [List.length_append, lx_xs_len xs n]
    rfl
theorem lx_sl (k : Nat) (xs : List Int32) : (lg_sl (cl_as k xs)).length = xs.length + 1 := by
  have h : ∀ ys : List Int32, (lg_sl (ys.map .int)).length = ys.length := by
    intro ys
    induction ys with
    | nil => rfl
    | cons y r ih => exact congrArg (· + 1) ih
  exact congrArg (· + 1) (h xs)
theorem lx_k : ∀ k : Nat, k ≤ 5 → Int32.ofInt ((k : Nat) : Int) = nI k
  | 0, _ => by decide +kernel
  | 1, _ => by decide +kernel
  | 2, _ => by decide +kernel
  | 3, _ => by decide +kernel
  | 4, _ => by decide +kernel
  | 5, _ => by decide +kernel
  | k + 6, h => by omega
section LAW2
variable {p : Program} {l : Launch} {e : Env} {R : Room} {s : State} {m : MethodId} {args : Array Value} {below : List Frame} {meth : Method} {c : Code} {Q : State → Prop} {D : va_G} {A : Nat → Prop} {H : Heap} {locs : List Loc} {cells slots pc : Nat} {ls : Array Slot} {b : Nat} {xs : Nat → Int32}
theorem lx_loads (hx : p.tables.exec = Jvm.exec) (hb : c.code = code) (hX : va_X b 6 xs s s.heap) (hbl : b < s.heap.size) (hbA : ¬ A b) (hS : va_S A s.heap H locs) (h0 : ls[0]? = some (.val (.ref b))) (h3 : ls[3]? = some (.val (.int 0))) : ∀ (n : Nat), n ≤ 5 → ∀ (pc : Nat) (rest : List Value), lx_ld pc n = true → W p l e R s m args below meth c H locs cells slots Q (F0 m (pc + 5 * n) ls (((lx_xs xs n).map .int).reverse ++ rest)) → W p l e R s m args below meth c H locs cells slots Q (F0 m pc ls rest)
  | 0, _, pc, rest, _, K => K
  | n + 1, hn, pc, rest, hck, K => by
    have hck : (lx_ld pc n && lx_l1 (pc + 5 * n) (n + 1)) = true := hck
    rw [Bool.and_eq_true] at hck
    obtain ⟨hc1, hc2⟩ := hck
    unfold lx_l1 at hc2
    simp only [Bool.and_eq_true] at hc2
    obtain ⟨d0, d1, d2, d3, d4⟩ := hc2
    refine lx_loads hx hb hX hbl hbA hS h0 h3 n (by omega) pc rest hc1 ?_
    have e1 : ((lx_xs xs (n + 1)).map Value.int).reverse ++ rest = .int (xs (n + 1)) :: (((lx_xs xs n).map Value.int).reverse ++ rest) := by
      show ((lx_xs xs n ++ [xs (n + 1)]).map Value.int).reverse ++ rest = _
      rw [List.map_append, List.reverse_append]
      rfl
    rw [e1, show pc + 5 * (n + 1) = pc + 5 * n + 1 + 1 + 1 + 1 + 1 by omega] at K
    generalize ((lx_xs xs n).map Value.int).reverse ++ rest = ST at K ⊢
    refine lv_aload_n hx hb (lx_is_ok d0) rfl h0 ?_
    refine lv_iload_n hx hb (lx_is_ok d1) rfl h3 ?_
    refine lv_iconst (v := nI (n + 1)) hx hb (lx_is_ok d2) (lx_k (n + 1) hn) ?_
    refine lv_iadd hx hb (lx_is_ok d3) ?_
    rw [Int32.zero_add]
    refine va_sld hx hb hX hbl hbA hS (vp_in_nI (by omega) (by decide)) (lx_is_ok d4) ?_
    rw [nI_clamp (Nat.lt_of_le_of_lt hn (by decide))]
    exact K
def lx_ck (pc n ic im : Nat) (off : Int) : Bool := lx_is pc (.aload_n 1) 1 && (lx_ld (pc + 1) n && (lx_is (pc + 1 + 5 * n) (.invokevirtual ic) 3 && (lx_is (pc + 1 + 5 * n + 3) (.aload_n 2) 1 && (lx_ld (pc + 1 + 5 * n + 3 + 1) n && (lx_is (pc + 1 + 5 * n + 3 + 1 + 5 * n) (.invokevirtual im) 3 && (lx_is (pc + 1 + 5 * n + 3 + 1 + 5 * n + 3) (.if_icmp .eq off) 3 && decide (((pc + 1 + 5 * n + 3 + 1 + 5 * n + 3 : Nat) : Int) + off = ((1852 : Nat) : Int))))))))
/-- the words of a method that the law calls -/
def lx_mk (o n j idx p1 p2 p3 : Nat) : Bool := Nat.beq (xt_mp j) n && (Nat.beq (xt_mo j) o && (Nat.ble (n + 1) (xt_ml j) && (Nat.ble (xt_ml j) 45 && (xi_at p1 (.methodLink R_law idx (xt_my j)) && (xi_at p2 (.instanceMethod (xt_my j)) && xi_at p3 (.selects (xt_my j).cls (xt_my j) (xt_my j)))))))
theorem lx_mk_ok {o n j idx p1 p2 p3 : Nat} (h : lx_mk o n j idx p1 p2 p3 = true) : xt_mp j = n ∧ xt_mo j = o ∧ n + 1 ≤ xt_ml j ∧ xt_ml j ≤ 45 ∧ Cond.methodLink R_law idx (xt_my j) ∈ xt_G ∧ Cond.instanceMethod (xt_my j) ∈ xt_G ∧ Cond.selects (xt_my j).cls (xt_my j) (xt_my j) ∈ xt_G := by
  unfold lx_mk at h
  simp only [Bool.and_eq_true] at h
  obtain ⟨h1, h2, h3, h4, h5, h6, h7⟩ := h
  exact ⟨Nat.eq_of_beq_eq_true h1, Nat.eq_of_beq_eq_true h2, Nat.le_of_ble_eq_true h3, Nat.le_of_ble_eq_true h4, xi_at_in h5, xi_at_in h6, xi_at_in h7⟩
/-- what holds at a case's begin: both objects fresh -/
def lx_H (p : Program) (s : State) (m : MethodId) (args : Array Value) (c : Code) (D : va_G) (A : Nat → Prop) (w : xi_W) (H : Heap) (locs : List Loc) (cells slots : Nat) (ls : Array Slot) (b : Nat) (xs : Nat → Int32) : Prop :=
  lx_K p s m args c D A ∧ va_X b 6 xs s s.heap ∧ b < s.heap.size ∧ ¬ A b ∧ ag_w (fw_w, [], 680) w ∧ cells ≤ 1000 ∧ slots ≤ 300000 ∧ ∃ (WS : va_W) (b0 b1 : Nat), lx_S s D A w WS H locs ∧ (xi_as WS)[0]? = some b0 ∧ (xi_as WS)[670]? = some b1 ∧ lv_has ls 4 [(3, .int 0), (2, .ref b1), (1, .ref b0), (0, .ref b)] ∧ (∃ FS, w[0]? = some (.inr (6, FS))) ∧ ∃ FS, w[670]? = some (.inr (7, FS))
theorem lx_case {w : xi_W} {n pc jc jm ic im C S p1 p2 p3 p4 p5 p6 : Nat} {off : Int} (H0 : lx_H p s m args c D A w H locs cells slots ls b xs)
    (tail : ∀ (H1 : Heap) (locs1 : List Loc) (c1 s1 : Nat), va_S A s.heap H1 locs1 → c1 ≤ 2000 → s1 ≤ 400000 → W p l e room_1 s m args below meth c H1 locs1 c1 s1 Q (F0 m 1852 ls []))
    (hck : lx_ck pc n ic im off = true) (hjc : lx_mk 6 n jc ic p1 p2 p3 = true) (hjm : lx_mk 7 n jm im p4 p5 p6 = true) (hn : n ≤ 5) (hC : C ≤ 100) (hS : S ≤ 100) (hcs : cl_ok C S jc jm w (lx_xs xs n)) :
    W p l e room_1 s m args below meth c H locs cells slots Q (F0 m pc ls []) := by
  obtain ⟨C0, hX, hbl, hbA, hag, hce, hsl, WS, b0, b1, S0, hb0, hb1, hl, ⟨F6, ho6⟩, ⟨F7, ho7⟩⟩ := H0
  have hx := C0.1
  have hb := C0.2.1
  unfold lx_ck at hck
  simp only [Bool.and_eq_true] at hck
  obtain ⟨d0, d1, d2, d3, d4, d5, d6, d7⟩ := hck
  obtain ⟨a1, a2, a3, a4, a5, a6, a7⟩ := lx_mk_ok hjc
  obtain ⟨g1, g2, g3, g4, g5, g6, g7⟩ := lx_mk_ok hjm
  obtain ⟨v, W1, W2, c1, s1, c2, s2, r1, r2, hcc, hss⟩ := hcs
  have hlen := lx_xs_len xs n
  have hRc : room_1.cells = 600000 := rfl
  have hRs : room_1.slots = 7302249 := rfl
  have hRf : room_1.frames = 2048 := rfl
  have hRl : room_1.locals = 84000 := rfl
  refine lv_aload_n hx hb (lx_is_ok d0) rfl (lv_at hl 2 rfl) ?_
  refine lx_loads hx hb hX hbl hbA S0.2.2.2 (lv_at hl 3 rfl) (lv_at hl 0 rfl) n hn (pc + 1) [.ref b0] d1 ?_
  refine lx_callZ (d := 21) (k := 0) (bb := b0) (rest := []) C0 S0 r1 ho6 a2.symm hb0 (hlen.trans a1.symm) (by rw [lx_sl, hlen]; exact a3) a5 a6 a7 (lx_is_ok d2) hl.1 (Nat.le_of_ble_eq_true rfl) ⟨by omega, by omega⟩ (by omega) (by omega) (fun WS1 H1 locs1 hup1 S1 => ?_)
  obtain ⟨F7b, ho7b⟩ := lx_xg_kp r1 670 _ ho7
  have hb1b := hup1 670 b1 hb1
  refine lv_aload_n hx hb (lx_is_ok d3) rfl (lv_at hl 1 rfl) ?_
  refine lx_loads hx hb hX hbl hbA S1.2.2.2 (lv_at hl 3 rfl) (lv_at hl 0 rfl) n hn (pc + 1 + 5 * n + 3 + 1) [.ref b1, .int v] d4 ?_
  refine lx_callZ (d := 21) (k := 670) (bb := b1) (rest := [.int v]) C0 S1 r2 ho7b g2.symm hb1b (hlen.trans g1.symm) (by rw [lx_sl, hlen]; exact g3) g5 g6 g7 (lx_is_ok d5) hl.1 (Nat.le_of_ble_eq_true rfl) ⟨by omega, by omega⟩ (by omega) (by omega) (fun WS2 H2 locs2 hup2 S2 => ?_)
  refine lv_icmp_eq (tgt := 1852) hx hb (lx_is_ok d6) (of_decide_eq_true d7) (fun _ => ?_) (fun q => absurd rfl q)
  exact tail H2 locs2 _ _ S2.2.2.2 (by omega) (by omega)
end LAW2
