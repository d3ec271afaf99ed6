/-! THE CLAIM OUT OF ONE WALK OF THE LAW'S BODY. Your part is whole_start (and what it stands on); all else here is the same for every law, but numbers. -/
def R_law : String := "DeltaNestsLaw"
def lw_P (b : Addr) (xs : List Int32) (args : Array Value) (s : State) : Prop := args = #[.ref b] ∧ s.IntsAt b xs ∧ xs.length ≤ 6 ∧ (Jvm.Cond.and given_1 narrow_1).before args s = true
def lw_Q (_ : Array Value) (s : State) (o : Outcome) (t : State) : Prop := o = .returned (some (.int 1)) ∧ Framed s o t [] 600000 7302249
def lw_Z (below : List Frame) (a : Array Value) (s : State) : State → Prop := fun t => ∃ o, t.status = .running ∧ Ended t below o ∧ lw_Q a s o t
/-- the law's own end, with 1 on the stack, nothing written that was there before, its room as the claim has it -/
theorem lw_ret {p : Program} {l : Launch} {e : Env} {s : State} {m : MethodId} {below : List Frame} {meth : Method} {c : Code} {b : Nat} (hx : p.tables.exec = Jvm.exec) (hb : c.code = code) (hr : meth.sig.returnType = ret) (hlocks : meth.locks = false) {pc : Nat} {H : Heap} {ls : Array Slot} (hdg : decode code pc = .ok (.ireturn, 1)) : W p l e room_1 s m #[Value.ref b] below meth c H [] 600000 7302249 (lw_Z below #[Value.ref b] s) (F0 m pc ls [.int 1]) := by
  intro T hT X
  obtain ⟨fs, hret, hrun, hended, hW, hframe⟩ := X.leave (v := some (.int 1)) (hlocks := hlocks) (fun h => by rw [hr] at h; cases h)
  have hmeth' : T.vm.method? m = some meth := X.method'
  refine ⟨T.setFrames fs, ?_, .returned (some (.int 1)), hrun, hended, rfl, ⟨_, rfl⟩, hW, hframe⟩
  jvm_step X.here [X.here.top, hx, hb, hdg, hmeth', hr, ret, narrow_b1]
  (try refine ⟨rfl, ?_⟩); (try refine ⟨rfl, ?_⟩)
  first | (intro acts; rw [hret _ acts rfl rfl rfl]) | rw [hret _ _ rfl rfl rfl]
  exact Steps.refl _
/-- what holds at the law's entry: the machine, the code, the tables' words (any of lw_tbl by 'hts w (by decide +kernel)'), the script of L ints xs at the cell b, what the Statement gives of the start (any of its parts by flat_of_before) -/
def lw_At (p : Program) (s : State) (m : MethodId) (meth : Method) (c : Code) (b L : Nat) (xs : Nat → Int32) : Prop :=
  p.tables.exec = Jvm.exec ∧ c.code = code ∧ meth.sig.returnType = ret ∧ c.maxLocals = 4 ∧ s.vm.findClass R_law = some m.cls ∧ (∀ w ∈ lw_tbl, w.before #[Value.ref b] s = true) ∧ va_X b L xs s s.heap ∧ b < s.heap.size ∧ meth.locks = false ∧ (Jvm.Cond.and given_1 narrow_1).before #[Value.ref b] s = true
section LAW
variable {p : Program} {l : Launch} {e : Env} {R : Room} {s : State} {m : MethodId} {args : Array Value} {below : List Frame} {meth : Method} {c : Code} {Q : State → Prop} {D : va_G} {A : Nat → Prop} {H : Heap} {locs : List Loc} {cells slots pc : Nat} {ls : Array Slot}
/-- what holds throughout the law -/
def lx_K (p : Program) (s : State) (m : MethodId) (args : Array Value) (c : Code) (D : va_G) (A : Nat → Prop) : Prop := p.tables.exec = Jvm.exec ∧ c.code = code ∧ c.maxLocals = 4 ∧ s.vm.findClass R_law = some m.cls ∧ (∀ w ∈ xt_G, w.before args s = true) ∧ va_K D xt_cl [] s ∧ xi_N s ∧ (∀ q, s.heap.size ≤ q → A q)
/-- the world between two of its instructions -/
def lx_S (s : State) (D : va_G) (A : Nat → Prop) (w : xi_W) (WS : va_W) (H : Heap) (locs : List Loc) : Prop := xi_w s w WS ∧ va_P D xt_cl WS H ∧ va_D A WS ∧ va_S A s.heap H locs
theorem lx_back {y : Array Value} {w : xi_W} {r1 : xi_R} {WS : va_W} {REST st0 : List Value} (C0 : lx_K p s m args c D A) (S0 : lx_S s D A w WS H locs)
    (hrun : va_Run p l e R s m args below meth c H locs cells slots r1.2.2.1 r1.2.2.2 (F0 m pc ls st0) REST (xi_B D WS (va_A WS H.size) r1 y) (va_A WS H.size))
    (kk : ∀ (VO : Option Value) (WS1 : va_W) (H1 : Heap) (locs1 : List Loc), xi_vo (xi_as WS1) r1.1 VO → xi_up (xi_as WS) (xi_as WS1) → lx_S s D A r1.2.1 WS1 H1 locs1 → W p l e R s m args below meth c H1 locs1 (cells + r1.2.2.1) (slots + r1.2.2.2) Q (F0 m (pc + 3) ls (VO.toList ++ REST))) :
    W p l e R s m args below meth c H locs cells slots Q (F0 m pc ls st0) := by
  obtain ⟨hw, hP, hD, hSS⟩ := S0
  have hfr : ∀ q, va_A WS H.size q → A q := by
    intro q hq
    rcases hq with ⟨k, E, hk⟩ | hq
    · exact hD.2 k _ hk
    · exact C0.2.2.2.2.2.2.2 q (Nat.le_trans hSS.1 hq)
  refine xi_call hrun (fun v st₀ t H1 L h0 h1 hvm hL hq => ?_)
  obtain ⟨⟨VO, WS1, ho, hv, hup1, hw1, hP1, hK1, hD1⟩, hF⟩ := hq
  cases ho
  rw [h1] at hP1
  have hS1 : va_S A s.heap H1 (locs ++ L) := by
    have hz : H.size ≤ H1.size := by have := hF.1; rw [h0, h1] at this; exact this
    refine ⟨Nat.le_trans hSS.1 hz, fun q h2 h3 => ?_, fun q h2 => ?_⟩
    · have h4 := hF.2 q (by rw [h0]; exact Nat.lt_of_lt_of_le h2 hSS.1) (fun z => h3 (hfr q z))
      rw [h0, h1] at h4
      rw [h4]
      exact hSS.2.1 q h2 h3
    · rcases List.mem_append.mp h2 with h2 | h2
      · exact hSS.2.2 q h2
      · exact hfr _ (hL q h2)
  exact kk v WS1 H1 _ hv hup1 ⟨hw1.moved hvm.symm, hP1, hD1.weaken (fun _ _ _ h => hfr _ h), hS1⟩
theorem lx_ints {as : List Nat} : ∀ (xs : List Int32), xi_s as (xs.map .int) (xs.map .int)
  | [] => rfl
  | x :: r => ⟨_, _, rfl, rfl, lx_ints r⟩
/-- a call of an object's method by the law: its ints, told by a run of the interpreter -/
theorem lx_callV {d j k bb idx : Nat} {o : Nat × List Value} {xs : List Int32} {rest : List Value} {w : xi_W} {r1 : xi_R} {WS : va_W} (C0 : lx_K p s m args c D A) (S0 : lx_S s D A w WS H locs)
    (hrun : xg d j 0 (lv_args 0 (cl_as k xs)) [] w 0 0 r1) (ho : w[k]? = some (.inr o)) (hoj : o.1 = xt_mo j) (hbb : (xi_as WS)[k]? = some bb)
    (hn : xs.length = xt_mp j) (hml : (lg_sl (cl_as k xs)).length ≤ xt_ml j) (hl1 : Cond.methodLink R_law idx (xt_my j) ∈ xt_G) (hl2 : Cond.instanceMethod (xt_my j) ∈ xt_G) (hl3 : Cond.selects (xt_my j).cls (xt_my j) (xt_my j) ∈ xt_G)
    (hd : decode code pc = .ok (.invokevirtual idx, 3)) (hls : ls.size = 4) (hcat : (rest.map fun v => v.category).sum ≤ 4) (hroom : cells + r1.2.2.1 ≤ R.cells ∧ slots + r1.2.2.2 ≤ R.slots) (hfr : d + 1 ≤ R.frames) (hlo : 8 + (xt_ml j + 11) + d * 64 ≤ R.locals)
    (kk : ∀ (VO : Option Value) (WS1 : va_W) (H1 : Heap) (locs1 : List Loc), xi_vo (xi_as WS1) r1.1 VO → xi_up (xi_as WS) (xi_as WS1) → lx_S s D A r1.2.1 WS1 H1 locs1 → W p l e R s m args below meth c H1 locs1 (cells + r1.2.2.1) (slots + r1.2.2.2) Q (F0 m (pc + 3) ls (VO.toList ++ rest))) :
    W p l e R s m args below meth c H locs cells slots Q (F0 m pc ls ((xs.map .int).reverse ++ .ref bb :: rest)) := by
  obtain ⟨hx, hb, hmx, hown, hts, hK, hN, hA⟩ := id C0
  obtain ⟨hw, hP, hD, hSS⟩ := id S0
  obtain ⟨n, hev⟩ := hrun
  obtain ⟨f1, f2, f3, f4, f5, f6, f7, f8⟩ := xf_m j
  have hAV : xi_s (xi_as WS) (cl_as k xs) (.ref bb :: xs.map .int) := ⟨_, _, rfl, ⟨bb, rfl, hbb⟩, lx_ints xs⟩
  obtain ⟨E, hE, hoE⟩ := xi_ob hw ho hbb
  obtain ⟨FS, rfl, hFS⟩ := hoE
  obtain ⟨rr, hrr, -⟩ := hP k _ hE
  have hcls : rr.1 = (xt_my j).cls := by
    obtain ⟨RC, RT, RN⟩ := rr
    have h6 := (xi_cls o.1 hrr).2.2.2.2.2.2.1
    rw [hoj] at h6
    exact h6.trans f6
  have hrecv := va_recv hK hP hrr hE
  rw [hcls] at hrecv
  refine lx_back (r1 := r1) C0 S0 (va_runV (As := xs.map .int) (C := (xt_my j).cls) (Ts := xt_G) ⟨hx, hb, hmx, hown, hts⟩ (xi_met (xi_sound n) hev hml l D _ WS H.size hAV) (cwV (xt_mp j) hts (xi_goodV hl1 hl2 hl3) rfl rfl rfl ⟨rfl, f2.1, f2.2, f5⟩ ⟨hfr, hlo⟩) ⟨xi_blind, hrecv, fun U hU hW => ⟨rfl, xi_pre hU hW hK hN hw hP hD⟩⟩ rfl (by rw [List.length_map]; exact hn) hls rfl (lv_room ?_) hd hroom) kk
  omega
/-- its answer an int -/
theorem lx_callZ {d j k bb idx : Nat} {o : Nat × List Value} {xs : List Int32} {rest : List Value} {w w1 : xi_W} {v : Int32} {c1 s1 : Nat} {WS : va_W} (C0 : lx_K p s m args c D A) (S0 : lx_S s D A w WS H locs)
    (hrun : xg d j 0 (lv_args 0 (cl_as k xs)) [] w 0 0 (some (.int v), w1, c1, s1)) (ho : w[k]? = some (.inr o)) (hoj : o.1 = xt_mo j) (hbb : (xi_as WS)[k]? = some bb)
    (hn : xs.length = xt_mp j) (hml : (lg_sl (cl_as k xs)).length ≤ xt_ml j) (hl1 : Cond.methodLink R_law idx (xt_my j) ∈ xt_G) (hl2 : Cond.instanceMethod (xt_my j) ∈ xt_G) (hl3 : Cond.selects (xt_my j).cls (xt_my j) (xt_my j) ∈ xt_G)
    (hd : decode code pc = .ok (.invokevirtual idx, 3)) (hls : ls.size = 4) (hcat : (rest.map fun v => v.category).sum ≤ 4) (hroom : cells + c1 ≤ R.cells ∧ slots + s1 ≤ R.slots) (hfr : d + 1 ≤ R.frames) (hlo : 8 + (xt_ml j + 11) + d * 64 ≤ R.locals)
    (kk : ∀ (WS1 : va_W) (H1 : Heap) (locs1 : List Loc), xi_up (xi_as WS) (xi_as WS1) → lx_S s D A w1 WS1 H1 locs1 → W p l e R s m args below meth c H1 locs1 (cells + c1) (slots + s1) Q (F0 m (pc + 3) ls (.int v :: rest))) :
    W p l e R s m args below meth c H locs cells slots Q (F0 m pc ls ((xs.map .int).reverse ++ .ref bb :: rest)) := by
  refine lx_callV (r1 := (some (.int v), w1, c1, s1)) C0 S0 hrun ho hoj hbb hn hml hl1 hl2 hl3 hd hls hcat hroom hfr hlo (fun VO WS1 H1 locs1 hvo hup S1 => ?_)
  obtain ⟨U, rfl, hU⟩ := hvo
  have hU : U = .int v := hU
  subst hU
  exact kk WS1 H1 locs1 hup S1
/-- a constructor called by the law -/
theorem lx_callI {d j k bb idx : Nat} {rest : List Value} {w w1 : xi_W} {c1 s1 : Nat} {WS : va_W} (C0 : lx_K p s m args c D A) (S0 : lx_S s D A w WS H locs)
    (hrun : xg d j 0 (lv_args 0 (cl_as k [])) [] w 0 0 (none, w1, c1, s1)) (hbb : (xi_as WS)[k]? = some bb)
    (hn : xt_mp j = 0) (hml : 1 ≤ xt_ml j) (hmr : xt_mr j = none) (hmi : xt_mi j = true) (hl1 : Cond.methodLink R_law idx (xt_my j) ∈ xt_G) (hl2 : Cond.instanceMethod (xt_my j) ∈ xt_G)
    (hd : decode code pc = .ok (.invokespecial idx, 3)) (hls : ls.size = 4) (hcat : (rest.map fun v => v.category).sum ≤ 4) (hroom : cells + c1 ≤ R.cells ∧ slots + s1 ≤ R.slots) (hfr : d + 1 ≤ R.frames) (hlo : 8 + (xt_ml j + 11) + d * 64 ≤ R.locals)
    (kk : ∀ (WS1 : va_W) (H1 : Heap) (locs1 : List Loc), xi_up (xi_as WS) (xi_as WS1) → lx_S s D A w1 WS1 H1 locs1 → W p l e R s m args below meth c H1 locs1 (cells + c1) (slots + s1) Q (F0 m (pc + 3) ls rest)) :
    W p l e R s m args below meth c H locs cells slots Q (F0 m pc ls (.ref bb :: rest)) := by
  obtain ⟨hx, hb, hmx, hown, hts, hK, hN, hA⟩ := id C0
  obtain ⟨hw, hP, hD, hSS⟩ := id S0
  obtain ⟨n, hev⟩ := hrun
  obtain ⟨f1, f2, f3, f4, f5, f6, f7, f8⟩ := xf_m j
  have hAV : xi_s (xi_as WS) (cl_as k []) [.ref bb] := ⟨_, _, rfl, ⟨bb, rfl, hbb⟩, rfl⟩
  have hM := xi_met (xi_sound n) hev (show (lg_sl (cl_as k [])).length ≤ xt_ml j from hml) l D _ WS H.size hAV
  rw [hmr] at hM
  refine lx_back (r1 := (none, w1, c1, s1)) C0 S0 (va_runI (As := []) (rest := rest) (Ts := xt_G) ⟨hx, hb, hmx, hown, hts⟩ hM (cwI (xt_mp j) hts (by rw [← hmr]; exact xi_good1 j) rfl rfl rfl (hts _ f4) (hts _ hl1) (hts _ hl2) (f7.mp hmi) ⟨f2.1, f2.2, f5⟩ ⟨hfr, hlo⟩) ⟨xi_blind, fun U hU hW => ⟨rfl, xi_pre hU hW hK hN hw hP hD⟩⟩ rfl hn.symm hls rfl (lv_room ?_) hd hroom) (fun VO WS1 H1 locs1 hvo hup S1 => ?_)
  · omega
  · have hvo : VO = none := hvo
    subst hvo
    exact kk WS1 H1 locs1 hup S1
/-- a new object of the law's own making -/
theorem lx_new {ci idx : Nat} {C : String} {T : u_T} {N : Nat} {w : xi_W} {WS : va_W} {rest : List Value} (C0 : lx_K p s m args c D A) (S0 : lx_S s D A w WS H locs) (hc : xt_cl[ci]? = some (C, T, N)) (hcl : Cond.classLink R_law idx C ∈ xt_G) (hins : Cond.instantiable C N ∈ xt_G) (hini : Cond.initialized C ∈ xt_G) (hcells : cells + 1 ≤ R.cells) (hslots : slots + N ≤ R.slots) (hd : decode code pc = .ok (.new idx, 3))
    (kk : ∀ (q : Nat) (H1 : Heap), lx_S s D A (w ++ [.inr (ci, xt_df ci)]) (WS ++ [(q, .inr (ci, xt_df ci))]) H1 locs → W p l e R s m args below meth c H1 locs (cells + 1) (slots + N) Q (F0 m (pc + 3) ls (.ref q :: rest))) :
    W p l e R s m args below meth c H locs cells slots Q (F0 m pc ls rest) := by
  obtain ⟨hx, hb, hmx, hown, hts, hK, hN, hA⟩ := id C0
  obtain ⟨hw, hP, hD, hSS⟩ := id S0
  obtain ⟨hin, hty, hnm, hdf, hcn, hnf, -, hself⟩ := xi_cls _ hc
  exact va_new (D := D) (ci := ci) (fs := xt_df ci) hx hb hts hin _ hty hown (hts _ hcl) (hts _ hins) (hts _ hini) hK hP hD hSS hA hc hdf hcells hslots hd (fun a H1 hP1 hD1 hS1 => kk a H1 ⟨hw.push ⟨_, rfl, hself _⟩, hP1, hD1, hS1⟩)
end LAW
/-- the tables' words, at the law's entry -/
theorem lx_N {args : Array Value} {s : State} (hts : ∀ w ∈ lw_tbl, w.before args s = true) : xi_N s := by
  refine ⟨fun q hq => ?_, va_AO.of (hts _ xf_oW), va_AO.of (hts _ xf_oT), va_Nw.of rfl (hts _ xf_cC)⟩
  refine va_Nw.of rfl (hts _ ?_)
  simp only [xt_NL, List.mem_cons, List.not_mem_nil, or_false] at hq
  rcases hq with rfl | rfl | rfl | rfl | rfl
  · exact List.mem_of_getElem? (i := 284) (by decide +kernel)
  · exact List.mem_of_getElem? (i := 210) (by decide +kernel)
  · exact List.mem_of_getElem? (i := 147) (by decide +kernel)
  · exact List.mem_of_getElem? (i := 204) (by decide +kernel)
  · exact List.mem_of_getElem? (i := 298) (by decide +kernel)
def lx_ip (ci : Nat) : Nat := [209, 146, 297, 277, 586, 203, 138, 1167].getD ci 0
def lx_ic (ci : Nat) : Bool := match xt_cl[ci]? with | some q => decide (lw_tbl[lx_ip ci]? = some (.instantiable q.1 q.2.2)) | none => true
theorem lx_ica : (List.range 8).all lx_ic = true := by decide +kernel
theorem lx_D {args : Array Value} {s : State} (hts : ∀ w ∈ lw_tbl, w.before args s = true) : ∃ D : va_G, va_K D xt_cl [] s := by
  have key : ∀ (ci : Nat) (q : vw_C), xt_cl[ci]? = some q → ∃ (cC : ClassId) (iS : Nat → Nat), u_Kn s q.1 q.2.1 q.2.2 cC iS := by
    intro ci q hq
    have hl : ci < 8 := (List.getElem?_eq_some_iff.mp hq).1
    have h1 := xi_all lx_ica hl
    unfold lx_ic at h1
    rw [hq] at h1
    have h2 := of_decide_eq_true h1
    obtain ⟨C, T, N⟩ := q
    exact u_known hts (fun w hw => xi_tbl ((xi_cls ci hq).1 w hw)) (hts _ (List.mem_of_getElem? h2))
  obtain ⟨c0, i0, -⟩ := key 0 _ rfl
  have key2 : ∀ ci : Nat, ∃ x : ClassId × (Nat → Nat), ∀ q : vw_C, xt_cl[ci]? = some q → u_Kn s q.1 q.2.1 q.2.2 x.1 x.2 := by
    intro ci
    cases h : xt_cl[ci]? with
    | none => exact ⟨(c0, i0), fun q hq => by cases hq⟩
    | some q =>
      obtain ⟨c1, i1, k1⟩ := key ci q h
      exact ⟨(c1, i1), fun q2 hq => by cases hq; exact k1⟩
  refine ⟨(fun ci => (Classical.choose (key2 ci)).1, fun ci => (Classical.choose (key2 ci)).2), fun ci q hq => Classical.choose_spec (key2 ci) q hq, fun k q h => by simp at h⟩
