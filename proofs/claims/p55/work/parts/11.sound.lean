/-! a frame: what the interpreter says is what the machine does -/
theorem xi_stp_mono {i d : Nat} {ins : Jvm.ClassFile.Instr} {pc : Nat} {l : xi_L} {st : List Value} {w : xi_W} {c s : Nat} {X : xi_F} (h : xi_stp i d ins pc l st w c s = some X) : c ≤ X.2.2.2.2.1 ∧ s ≤ X.2.2.2.2.2 := by
  have key : ∀ {a : Nat} {b : xi_L} {f : List Value} {g : xi_W} {c' s' : Nat}, some (a, b, f, g, c', s') = some X → c ≤ c' → s ≤ s' → c ≤ X.2.2.2.2.1 ∧ s ≤ X.2.2.2.2.2 := by
    intro a b f g c' s' q h1 h2
    cases q
    exact ⟨h1, h2⟩
  cases ins
  case ifCond cnd off =>
    cases cnd <;> simp only [xi_stp, xi_j1, Bool.cond_eq_ite] at h <;> (repeat' split at h) <;> first | (cases h; done) | exact key h (Nat.le_refl _) (Nat.le_refl _)
  case if_icmp cnd off =>
    cases cnd <;> simp only [xi_stp, xi_j2, Bool.cond_eq_ite] at h <;> (repeat' split at h) <;> first | (cases h; done) | exact key h (Nat.le_refl _) (Nat.le_refl _)
  case newarray t =>
    cases t <;> simp only [xi_stp, Bool.cond_eq_ite] at h <;> (repeat' split at h) <;> first | (cases h; done) | exact key h (Nat.le_add_right _ _) (Nat.le_add_right _ _)
  all_goals (simp only [xi_stp, xi_u1, xi_u1l, xi_b2, xi_b2l, xi_shl, xi_ld, Bool.cond_eq_ite] at h)
  all_goals first | (cases h; done) | skip
  all_goals (repeat' split at h)
  all_goals first | (cases h; done) | exact key h (Nat.le_refl _) (Nat.le_refl _) | exact key h (Nat.le_add_right _ _) (Nat.le_add_right _ _)
theorem xi_ev_mono : ∀ (n : Nat) {d i pc : Nat} {l : xi_L} {st : List Value} {w : xi_W} {c s : Nat} {res : xi_R}, xi_ev n d i pc l st w c s = some res → c ≤ res.2.2.1 ∧ s ≤ res.2.2.2
  | 0, _, _, _, _, _, _, _, _, _, h => by simp [xi_ev] at h
  | n + 1, d, i, pc, l, st, w, c, s, res, h => by
    unfold xi_ev at h
    split at h
    · cases h
    · split at h
      · cases h; exact ⟨Nat.le_refl _, Nat.le_refl _⟩
      · split at h
        · split at h
          · cases h
          · split at h
            · cases h
            · have := xi_ev_mono n h
              omega
        · split at h
          · cases h
          · rename_i hs
            have h1 := xi_stp_mono hs
            have h2 := xi_ev_mono n h
            dsimp only at h1
            omega
def xi_vo (as : List Nat) (v V : Option Value) : Prop := match v with
  | none => V = none
  | some v => ∃ U, V = some U ∧ xi_v as v U
theorem xi_vo_st {as : List Nat} {v V : Option Value} (h : xi_vo as v V) : xi_s as v.toList V.toList := by
  cases v with
  | none => rw [show V = none from h]; rfl
  | some v => obtain ⟨U, h1, h2⟩ := h; rw [h1]; exact ⟨U, [], rfl, h2, rfl⟩
section XEND
variable {Z : xi_Z} {p : Program} {l : Launch} {e : Env} {R : Room} {s : State} {m : MethodId} {args : Array Value} {below : List Frame} {meth : Method} {c : Code} {Q : State → Prop} {D : va_G} {A : Nat → Prop} {i d : Nat} {H : Heap} {locs : List Loc} {cells slots : Nat} {ls : Array Slot}
set_option maxHeartbeats 1000000 in
theorem xi_end_ok (C0 : xi_C Z p s m args meth c D A i) {ins : Jvm.ClassFile.Instr} {pc : Nat} {st : List Value} {v : Option Value} (h : xi_end i ins st = some v) (hd : ∃ len, decode (xt_mb i) pc = .ok (ins, len) ∧ (xi_sw ins = true ∨ len = xi_ln ins)) {as : List Nat} {ST : List Value} (hs : xi_s as st ST)
    {Qc : Array Value → State → Outcome → State → Prop} {free : Addr → Prop} (hq : ∀ VO, xi_vo as v VO → ∀ t : State, t.heap = H → s.WarmedH t.vm → Qc args s (.returned VO) t) (hf : ∀ q ∈ locs, free q.base) :
    W p l e R s m args below meth c H locs cells slots (MQ below Qc args s cells slots free) (F0 m pc ls ST) := by
  obtain ⟨hx, hb, hml, hown, hts, hK, hN, hA, hini, hret, hlk, hKS⟩ := C0
  cases ins with
  | return_ =>
    simp only [xi_end] at h
    split at h
    · rename_i hr
      cases h
      cases hs
      exact W.vret hx hb (hret.trans hr) (fun t h1 h2 => hq none rfl t h1 h2) hf (xi_dec hd rfl) (hlocks := hlk)
    · cases h
  | ireturn =>
    simp only [xi_end] at h
    split at h
    · rename_i hr
      cases h
      obtain ⟨S1, rfl, hs1⟩ := xi_s_i hs
      cases hs1
      exact W.iret hx hb (hret.trans hr) (fun t h1 h2 => hq _ ⟨_, rfl, rfl⟩ t h1 h2) hf (xi_dec hd rfl) (hlocks := hlk)
    · rename_i hr
      obtain ⟨h1, h2⟩ := xi_cond h
      cases h2
      obtain ⟨S1, rfl, hs1⟩ := xi_s_i hs
      cases hs1
      exact W.zret hx hb (hret.trans hr) (of_decide_eq_true h1) (fun t h1 h2 => hq _ ⟨_, rfl, rfl⟩ t h1 h2) hf (xi_dec hd rfl) (hlocks := hlk)
    · rename_i hr
      obtain ⟨h1, h2⟩ := xi_cond h
      cases h2
      obtain ⟨S1, rfl, hs1⟩ := xi_s_i hs
      cases hs1
      exact W.zret hx hb (hret.trans hr) (of_decide_eq_true h1) (fun t h1 h2 => hq _ ⟨_, rfl, rfl⟩ t h1 h2) hf (xi_dec hd rfl) (hlocks := hlk)
    · rename_i hr
      obtain ⟨h1, h2⟩ := xi_cond h
      cases h2
      obtain ⟨S1, rfl, hs1⟩ := xi_s_i hs
      cases hs1
      exact W.zret hx hb (hret.trans hr) (of_decide_eq_true h1) (fun t h1 h2 => hq _ ⟨_, rfl, rfl⟩ t h1 h2) hf (xi_dec hd rfl) (hlocks := hlk)
    · cases h
  | lreturn =>
    simp only [xi_end] at h
    split at h
    · rename_i hr
      cases h
      obtain ⟨S1, rfl, hs1⟩ := xi_s_l hs
      cases hs1
      exact W.lret hx hb (hret.trans hr) (fun t h1 h2 => hq _ ⟨_, rfl, rfl⟩ t h1 h2) hf (xi_dec hd rfl) (hlocks := hlk)
    · cases h
  | areturn =>
    simp only [xi_end] at h
    split at h
    · rename_i n hr
      cases h
      obtain ⟨S1, rfl, hs1⟩ := xi_s_n hs
      cases hs1
      exact W.aret hx hb (hret.trans hr) (Or.inl ⟨_, rfl⟩) (Or.inl rfl) (fun t h1 h2 => hq _ ⟨_, rfl, rfl⟩ t h1 h2) hf (xi_dec hd rfl) (hlocks := hlk)
    · rename_i a n hr
      cases h
      obtain ⟨aa, S1, rfl, ha, hs1⟩ := xi_s_r hs
      cases hs1
      exact W.aret hx hb (hret.trans hr) (Or.inl ⟨_, rfl⟩) (Or.inr ⟨_, rfl⟩) (fun t h1 h2 => hq _ ⟨_, rfl, aa, rfl, ha⟩ t h1 h2) hf (xi_dec hd rfl) (hlocks := hlk)
    · rename_i a n hr
      cases h
      obtain ⟨aa, S1, rfl, ha, hs1⟩ := xi_s_r hs
      cases hs1
      exact W.aret hx hb (hret.trans hr) (Or.inr ⟨_, rfl⟩) (Or.inr ⟨_, rfl⟩) (fun t h1 h2 => hq _ ⟨_, rfl, aa, rfl, ha⟩ t h1 h2) hf (xi_dec hd rfl) (hlocks := hlk)
    · cases h
  | _ => cases h
theorem xi_call {mc ms pc : Nat} {st0 rest : List Value} {Qa : State → Outcome → State → Prop} {free : Addr → Prop} (hr : va_Run p l e R s m args below meth c H locs cells slots mc ms (F0 m pc ls st0) rest Qa free)
    (kk : ∀ (v : Option Value) (st₀ t : State) (H1 : Heap) (L : List Loc), st₀.heap = H → t.heap = H1 → s.vm.Alike t.vm → (∀ q ∈ L, free q.base) → Qa st₀ (.returned v) t → W p l e R s m args below meth c H1 (locs ++ L) (cells + mc) (slots + ms) Q (F0 m (pc + 3) ls (v.toList ++ rest))) : W p l e R s m args below meth c H locs cells slots Q (F0 m pc ls st0) := by
  intro T hT X
  obtain ⟨v, st₀, t, T', L, h0, X', hL, e1, e2, hq, st⟩ := hr T hT X
  obtain ⟨t2, a1, b1⟩ := kk v st₀ t T'.heap L h0 e1.symm (by rw [← e2]; exact X'.warmed.alike) hL hq T' rfl X'
  exact ⟨t2, st t2 a1, b1⟩
end XEND
def xi_P (Z : xi_Z) (D : va_G) (w : xi_W) (WS : va_W) (hz : Nat) (U : State) : Prop := U.heap.size = hz ∧ va_P D xt_cl WS U.heap ∧ va_K D xt_cl [] U ∧ va_D (fun _ => True) WS ∧ xi_w Z U w WS ∧ xi_N U ∧ xi_KS Z (va_A WS hz) U U.heap
def xi_B (Z : xi_Z) (D : va_G) (WS0 : va_W) (A : Nat → Prop) (res : xi_R) : Array Value → State → Outcome → State → Prop := fun _ st o t => (∃ (VO : Option Value) (WS : va_W), o = .returned VO ∧ xi_vo (xi_as Z WS) res.1 VO ∧ xi_up (xi_as Z WS0) (xi_as Z WS) ∧ xi_w Z t res.2.1 WS ∧ va_P D xt_cl WS t.heap ∧ va_K D xt_cl [] t ∧ va_D A WS) ∧ va_F A st t
def xi_room (d mc ms : Nat) : Room := { frames := d, cells := mc, slots := ms, locals := d * 64 }
def xi_S (n : Nat) : Prop := ∀ (d i pc : Nat) (l0 : xi_L) (st : List Value) (w : xi_W) (cz sz : Nat) (res : xi_R), xi_ev n d i pc l0 st w cz sz = some res → ∀ (p : Program) (l : Launch) (e : Env) (s : State) (m : MethodId) (args : Array Value) (below : List Frame) (meth : Method) (c : Code) (D : va_G) (A : Nat → Prop) (Z : xi_Z), xi_C Z p s m args meth c D A i →
  ∀ (LL : xi_L) (ST : List Value) (WS WS0 : va_W) (H : Heap) (locs : List Loc) (ls : Array Slot), xi_w Z s w WS → xi_s (xi_as Z WS) st ST → xi_l (xi_as Z WS) l0 LL → va_P D xt_cl WS H → va_D A WS → va_S A s.heap H locs → lv_has ls (xt_ml i) LL → xi_up (xi_as Z WS0) (xi_as Z WS) →
  W p l e (xi_room d res.2.2.1 res.2.2.2) s m args below meth c H locs cz sz (MQ below (xi_B Z D WS0 A res) args s res.2.2.1 res.2.2.2 A) (F0 m pc ls ST)
theorem xi_met {Z : xi_Z} {n : Nat} (hS : xi_S n) {d j : Nat} {av : List Value} {w : xi_W} {res : xi_R} (h : xi_ev n d j 0 (lv_args 0 av) [] w 0 0 = some res) (hsl : (lg_sl av).length ≤ xt_ml j) (l : Launch) (D : va_G) (AV : List Value) (WS : va_W) (hz : Nat) (hav : xi_s (xi_as Z WS) av AV) :
    Met l (xt_my j) (Cond.code (xt_my j) (xt_mb j) (xt_ml j) (xt_mr j) :: xt_G) (xi_room d res.2.2.1 res.2.2.2) (va_Pc AV (xi_P Z D w WS hz)) (xi_B Z D WS (va_A WS hz) res) res.2.2.1 res.2.2.2 (va_A WS hz) := by
  obtain ⟨f1, f2, f3, f4, f5, f6, f7, f8⟩ := xf_m j
  refine Met.ofW (cc := xt_mb j) (maxL := xt_ml j) (ret := xt_mr j) f1 rfl ?_
  intro p e s m args below meth c s₁ B hml hv
  obtain ⟨rfl, hsz, hP, hK, hD0, hw, hN, hKS⟩ := hv
  subst hsz
  have hts := atoms_spec (ws := Cond.code (xt_my j) (xt_mb j) (xt_ml j) (xt_mr j) :: xt_G) B.pre
  have hown : s.vm.findClass (xt_my j).cls = some m.cls := findClass_of_methodNamed B.named
  have C0 : xi_C Z p s m AV.toArray meth c D (va_A WS s.heap.size) j := ⟨B.exec, B.bytes, hml, by rw [show xt_on (xt_mo j) = (xt_my j).cls from f6]; exact hown, fun w hw => hts w (List.mem_cons_of_mem _ hw), hK, hN, fun q h => Or.inr h, fun hi => by rw [(name_of_methodNamed B.named B.method).1]; exact f7.mp hi, B.returns, B.notSynchronized, hKS⟩
  have hl := lv_entry AV (n := xt_ml j) (by rw [xi_sl hav]; exact hsl)
  rw [lg_entry_eq]
  exact hS d j 0 _ _ _ _ _ _ h p l e s m _ below meth c D _ Z C0 (lv_args 0 AV) [] WS WS s.heap [] _ hw rfl (xi_l.args 0 hav) hP hD0.self va_S.rf hl xi_up.refl
theorem xi_blind {Z : xi_Z} {D : va_G} {w : xi_W} {WS : va_W} {hz : Nat} {AV : List Value} : FrameBlind (va_Pc AV (xi_P Z D w WS hz)) := by
  intro a U g mk q
  obtain ⟨q0, q1, q2, q3, q4, q5, q6, q7⟩ := q
  exact ⟨q0, q1, q2, va_K.moved (u := U) (U := U.calling g mk a) (Vm.Alike.refl U.vm) q3, q4, xi_w.moved (u := U) (U := U.calling g mk a) (Vm.Alike.refl U.vm) q5, ⟨fun q hq => va_Nw.same rfl (u := U) (U := U.calling g mk a) rfl (q6.1 q hq), va_AO.moved (u := U) (U := U.calling g mk a) (Vm.Alike.refl U.vm) q6.2.1, va_AO.moved (u := U) (U := U.calling g mk a) (Vm.Alike.refl U.vm) q6.2.2.1, va_Nw.same rfl (u := U) (U := U.calling g mk a) rfl q6.2.2.2.1, va_Nw.same rfl (u := U) (U := U.calling g mk a) rfl q6.2.2.2.2.1, xk_AO.moved (u := U) (U := U.calling g mk a) (Vm.Alike.refl U.vm) q6.2.2.2.2.2⟩, xi_KS.same (u := U) (U := U.calling g mk a) rfl q7⟩
theorem xi_pre {Z : xi_Z} {s U : State} {D : va_G} {A : Nat → Prop} {w : xi_W} {WS : va_W} {H : Heap} (hU : U.heap = H) (hW : s.WarmedH U.vm) (hK : va_K D xt_cl [] s) (hN : xi_N s) (hw : xi_w Z s w WS) (hP : va_P D xt_cl WS H) (hD : va_D A WS) (hks : xi_KS Z (va_A WS H.size) s H) : xi_P Z D w WS H.size U :=
  ⟨by rw [hU], by rw [hU]; exact hP, va_K.moved hW.alike hK, hD.weaken (fun _ _ _ _ => trivial), hw.moved hW.alike, ⟨fun q hq => va_Nw.warmM hW (hN.1 q hq), va_AO.moved hW.alike hN.2.1, va_AO.moved hW.alike hN.2.2.1, va_Nw.warmC hW hN.2.2.2.1, va_Nw.warmC hW hN.2.2.2.2.1, xk_AO.moved hW.alike hN.2.2.2.2.2⟩, by rw [hU]; exact hks.warm hW⟩
theorem xi_rm1_ok {j : Nat} {av rest : List Value} (h : xi_rm1 j av rest = true) : (rest.map fun v => v.category).sum ≤ 8 ∧ (lg_sl av).length ≤ xt_ml j ∧ xt_ml j ≤ 45 := by
  unfold xi_rm1 at h
  rw [Bool.and_eq_true, Bool.and_eq_true] at h
  exact ⟨Nat.le_of_ble_eq_true h.1, Nat.le_of_ble_eq_true h.2.1, Nat.le_of_ble_eq_true h.2.2⟩
theorem xi_inv_v {i k j : Nat} {st av rest : List Value} {w : xi_W} (h : xi_inv i (.invokevirtual k) st w = some (j, av, rest)) : ∃ ps b o, xt_mdp (xt_mo i) k = some (0, j, ps) ∧ w[b]? = some (.inr o) ∧ o.1 = xt_mo j ∧ av = .ref b :: (st.take (xt_mp j)).reverse ∧ st.drop (xt_mp j) = .ref b :: rest ∧ xi_rm1 j av rest = true := by
  simp only [xi_inv] at h
  split at h
  · rename_i j' ps hm
    split at h
    · rename_i b rest' hst
      split at h
      · rename_i o ho
        obtain ⟨h1, h2⟩ := xi_cond h
        rw [Bool.and_eq_true] at h1
        cases h2
        exact ⟨ps, b, o, hm, ho, Nat.eq_of_beq_eq_true h1.1, rfl, hst, h1.2⟩
      · cases h
    · cases h
  · cases h
theorem xi_inv_s {i k j : Nat} {st av rest : List Value} {w : xi_W} (h : xi_inv i (.invokestatic k) st w = some (j, av, rest)) : ∃ ps, xt_mdp (xt_mo i) k = some (1, j, ps) ∧ av = (st.take (xt_mp j)).reverse ∧ rest = st.drop (xt_mp j) ∧ xt_mp j ≤ st.length ∧ xi_rm1 j av rest = true := by
  simp only [xi_inv] at h
  split at h
  · rename_i j' ps hm
    obtain ⟨h1, h2⟩ := xi_cond h
    rw [Bool.and_eq_true] at h1
    cases h2
    exact ⟨ps, hm, rfl, rfl, Nat.le_of_ble_eq_true h1.2, h1.1⟩
  · cases h
theorem xi_inv_i {i k j : Nat} {st av rest : List Value} {w : xi_W} (h : xi_inv i (.invokespecial k) st w = some (j, av, rest)) : ∃ q ps b, xt_mdp (xt_mo i) k = some (q, j, ps) ∧ (q = 2 ∨ q = 3) ∧ av = .ref b :: (st.take (xt_mp j)).reverse ∧ st.drop (xt_mp j) = .ref b :: rest ∧ xi_rm1 j av rest = true := by
  simp only [xi_inv] at h
  split at h
  · rename_i q j' ps hm
    obtain ⟨h1, h2⟩ := xi_cond h
    rw [Bool.or_eq_true] at h1
    split at h2
    · rename_i b rest' hst
      obtain ⟨h3, h4⟩ := xi_cond h2
      cases h4
      exact ⟨q, ps, b, hm, h1.imp Nat.eq_of_beq_eq_true Nat.eq_of_beq_eq_true, rfl, hst, h3⟩
    · cases h2
  · cases h
theorem xi_goods {w : Cond} (h : w ∈ xt_G) : w ∈ xt_G ∧ ((w.onTables && w.keeps) = true ∨ ∃ ty, w = .arrayClass ty) := ⟨h, xi_good h⟩
theorem xi_good1 (j : Nat) : GoodIn xt_G (Cond.code (xt_my j) (xt_mb j) (xt_ml j) (xt_mr j) :: xt_G) := by
  intro w hw
  rcases List.mem_cons.mp hw with rfl | hw
  · exact xi_goods (xf_m j).2.2.1
  · exact xi_goods hw
theorem xi_goodV {own : String} {idx j : Nat} (h1 : Cond.methodLink own idx (xt_my j) ∈ xt_G) (h2 : Cond.instanceMethod (xt_my j) ∈ xt_G) (h3 : Cond.selects (xt_my j).cls (xt_my j) (xt_my j) ∈ xt_G) : GoodIn xt_G (wsV own idx (xt_my j).cls (xt_my j) (Cond.code (xt_my j) (xt_mb j) (xt_ml j) (xt_mr j) :: xt_G)) := by
  intro w hw
  unfold wsV at hw
  rcases List.mem_append.mp hw with hw | hw
  · simp only [List.mem_cons, List.not_mem_nil, or_false] at hw
    rcases hw with rfl | rfl | rfl | rfl
    · exact xi_goods h1
    · exact xi_goods h2
    · exact xi_goods h3
    · exact xi_goods (xf_m j).2.2.2.1
  · exact xi_good1 j w hw
theorem xi_goodS {own : String} {idx j : Nat} (h1 : Cond.methodLink own idx (xt_my j) ∈ xt_G) (h2 : Cond.static (xt_my j) ∈ xt_G) : GoodIn xt_G (va_wsS own idx (xt_my j) (Cond.code (xt_my j) (xt_mb j) (xt_ml j) (xt_mr j) :: xt_G)) := by
  intro w hw
  unfold va_wsS at hw
  rcases List.mem_append.mp hw with hw | hw
  · simp only [List.mem_cons, List.not_mem_nil, or_false] at hw
    rcases hw with rfl | rfl | rfl
    · exact xi_goods h1
    · exact xi_goods h2
    · exact xi_goods (xf_m j).2.2.2.1
  · exact xi_good1 j w hw
section XRUN
variable {Z : xi_Z} {p : Program} {l : Launch} {e : Env} {R : Room} {s : State} {m : MethodId} {args : Array Value} {below : List Frame} {meth : Method} {c : Code} {Q : State → Prop} {D : va_G} {A : Nat → Prop} {i d : Nat} {H : Heap} {locs : List Loc} {cells slots : Nat} {ls : Array Slot}
/-- behind a call: the frame goes on over the callee's world -/
theorem xi_back {n j pc : Nat} {av : List Value} {w : xi_W} {r1 res : xi_R} {WS WS0 : va_W} {l0 : xi_L} {LL : xi_L} {rest REST st0 : List Value} {y : Array Value} (hS : xi_S n) (C0 : xi_C Z p s m args meth c D A i) (hw : xi_w Z s w WS) (hP : va_P D xt_cl WS H) (hD : va_D A WS) (hSS : va_S A s.heap H locs) (hl : xi_l (xi_as Z WS) l0 LL) (hh : lv_has ls (xt_ml i) LL) (hr : xi_s (xi_as Z WS) rest REST) (hup : xi_up (xi_as Z WS0) (xi_as Z WS))
    (h : xi_ev n (d + 1) i (pc + 3) l0 (r1.1.toList ++ rest) r1.2.1 (cells + r1.2.2.1) (slots + r1.2.2.2) = some res)
    (hrun : va_Run p l e (xi_room (d + 1) res.2.2.1 res.2.2.2) s m args below meth c H locs cells slots r1.2.2.1 r1.2.2.2 (F0 m pc ls st0) REST (xi_B Z D WS (va_A WS H.size) r1 y) (va_A WS H.size)) :
    W p l e (xi_room (d + 1) res.2.2.1 res.2.2.2) s m args below meth c H locs cells slots (MQ below (xi_B Z D WS0 A res) args s res.2.2.1 res.2.2.2 A) (F0 m pc ls st0) := by
  have hfr : ∀ q, va_A WS H.size q → A q := by
    intro q hq
    rcases hq with ⟨k, E, hk⟩ | hq
    · exact hD.2 k _ hk
    · exact C0.2.2.2.2.2.2.2.1 q (Nat.le_trans hSS.1 hq)
  refine xi_call hrun (fun v st₀ t H1 L h0 h1 hvm hL hq => ?_)
  obtain ⟨⟨VO, WS1, ho, hv, hup1, hw1, hP1, hK1, hD1⟩, hF⟩ := hq
  cases ho
  rw [h1] at hP1
  have hS1 : va_S A s.heap H1 (locs ++ L) := by
    have hz : H.size ≤ H1.size := by have := hF.1; rw [h0, h1] at this; exact this
    refine ⟨Nat.le_trans hSS.1 hz, fun q h2 h3 => ?_, fun q h2 => ?_⟩
    · have h4 := hF.2 q (by rw [h0]; exact Nat.lt_of_lt_of_le h2 hSS.1) (fun z => h3 (hfr q z))
      rw [h0, h1] at h4
      rw [h4]
      exact hSS.2.1 q h2 h3
    · rcases List.mem_append.mp h2 with h2 | h2
      · exact hSS.2.2 q h2
      · exact hfr _ (hL q h2)
  exact hS (d + 1) i (pc + 3) l0 _ _ _ _ _ h p l e s m args below meth c D A Z C0 LL _ WS1 WS0 H1 _ ls (hw1.moved hvm.symm) ((xi_vo_st hv).app (hr.up hup1)) (hl.up hup1) hP1 (hD1.weaken (fun _ _ _ h => hfr _ h)) hS1 hh (hup.tr hup1)
end XRUN
set_option maxHeartbeats 2000000 in
/-- THE INTERPRETER IS RIGHT -/
theorem xi_sound : ∀ n, xi_S n
  | 0 => by
    intro d i pc l0 st w cz sz res h
    simp [xi_ev] at h
  | n + 1 => by
    have ih := xi_sound n
    intro d i pc l0 st w cz sz res h p l e s m args below meth c D A Z C0 LL ST WS WS0 H locs ls hw hs hl hP hD hSS hh hup
    have C1 := C0
    obtain ⟨hx, hb, hml, hown, hts, hK, hN, hA, hini, hret, hlk, hKS⟩ := C1
    have hfr : ∀ q, va_A WS H.size q → A q := by
      intro q hq
      rcases hq with ⟨k, E, hk⟩ | hq
      · exact hD.2 k _ hk
      · exact hA q (Nat.le_trans hSS.1 hq)
    have hks : xi_KS Z (va_A WS H.size) s H := (hKS.kept hSS.2.1).narrow hfr
    unfold xi_ev at h
    split at h
    · cases h
    · rename_i ins hins
      have hd : ∃ len, decode (xt_mb i) pc = .ok (ins, len) ∧ (xi_sw ins = true ∨ len = xi_ln ins) := (xf_m i).2.2.2.2.2.2.2 pc ins hins
      split at h
      · rename_i v hv
        cases h
        exact xi_end_ok C0 hv hd hs (fun VO hVO t ht hW => ⟨⟨VO, WS, rfl, hVO, hup, hw.moved hW.alike, by rw [ht]; exact hP, va_K.moved hW.alike hK, hD⟩, hSS.F ht⟩) hSS.2.2
      · split at h
        · rename_i j av rest hinv
          split at h
          · cases h
          · rename_i d
            split at h
            · cases h
            · rename_i v w' c' s' hcal
              have hmono := xi_ev_mono n h
              have hroom : cz + c' ≤ (xi_room (d + 1) res.2.2.1 res.2.2.2).cells ∧ sz + s' ≤ (xi_room (d + 1) res.2.2.1 res.2.2.2).slots := hmono
              obtain ⟨f1, f2, f3, f4, f5, f6, f7, f8⟩ := xf_m j
              have hini2 : (Cond.initialized (xt_my j).cls).before args s = true := hts _ f4
              have go : ∀ {AV REST : List Value}, xi_s (xi_as Z WS) av AV → xi_s (xi_as Z WS) rest REST → va_Run p l e (xi_room (d + 1) res.2.2.1 res.2.2.2) s m args below meth c H locs cz sz c' s' (F0 m pc ls ST) REST (xi_B Z D WS (va_A WS H.size) (v, w', c', s') AV.toArray) (va_A WS H.size) → W p l e (xi_room (d + 1) res.2.2.1 res.2.2.2) s m args below meth c H locs cz sz (MQ below (xi_B Z D WS0 A res) args s res.2.2.1 res.2.2.2 A) (F0 m pc ls ST) := by
                intro AV REST hav hr hrun
                exact xi_back (r1 := (v, w', c', s')) (j := j) (av := av) ih C0 hw hP hD hSS hl hh hr hup h hrun
              cases ins with
              | invokevirtual k =>
                obtain ⟨ps, b, o, hm, ho, hoj, hav, hst, hrm⟩ := xi_inv_v hinv
                obtain ⟨hr1, hr2, hr3⟩ := xi_rm1_ok hrm
                obtain ⟨hl1, hl2, hl3⟩ := xf_c0 hm
                have hT := hs.take (xt_mp j)
                have hDr := hs.drop (xt_mp j)
                rw [hst] at hDr
                obtain ⟨bb, REST, hST, hbb, hrest⟩ := xi_s_r hDr
                have hAV : xi_s (xi_as Z WS) av (.ref bb :: (ST.take (xt_mp j)).reverse) := by rw [hav]; exact ⟨_, _, rfl, ⟨bb, rfl, hbb⟩, hT.rev⟩
                have hlen : (ST.take (xt_mp j)).reverse.length = xt_mp j := by
                  have h5 : (ST.drop (xt_mp j)).length = REST.length + 1 := by rw [hST]; rfl
                  rw [List.length_drop] at h5
                  rw [List.length_reverse, List.length_take]
                  omega
                have hrecv : ∃ cell : Cell, H[bb]? = some cell ∧ cell.vm.isStatics = false ∧ s.vm.findClass (xt_my j).cls = some cell.cls := by
                  by_cases hge : 17 ≤ b
                  · obtain ⟨E, hE, hoE⟩ := xi_ob hw hge ho hbb
                    obtain ⟨FS, rfl, hFS⟩ := hoE
                    obtain ⟨rr, hrr, -⟩ := hP (b - 17) _ hE
                    have hcls : rr.1 = (xt_my j).cls := by
                      obtain ⟨RC, RT, RN⟩ := rr
                      have h6 := (xi_cls o.1 hrr).2.2.2.2.2.2.1
                      rw [hoj] at h6
                      exact h6.trans f6
                    have hrecv := va_recv hK hP hrr hE
                    rw [hcls] at hrecv
                    exact hrecv
                  · obtain ⟨e1, e2⟩ := xi_obc hw (Nat.lt_of_not_le hge) ho hbb
                    have h8 : b < 8 := by
                      unfold xk_c at e1
                      split at e1
                      · assumption
                      · split at e1 <;> cases e1
                    unfold xk_c at e1
                    rw [if_pos h8] at e1
                    have e1 := Sum.inr.inj e1
                    subst e1
                    have hcls : (xt_my j).cls = "java/lang/String" := by
                      have f6' : xt_on (xt_mo j) = (xt_my j).cls := f6
                      rw [← f6', ← hoj]
                      rfl
                    rw [hcls, e2]
                    have z := vk_recv (i := b) hKS.1 h8 hSS
                    exact z
                refine go hAV hrest (va_runV (As := (ST.take (xt_mp j)).reverse) (C := (xt_my j).cls) (Ts := xt_G) ⟨hx, hb, hml, hown, hts⟩ (xi_met ih hcal hr2 l D _ WS H.size hAV) (cwV (xt_mp j) hts (xi_goodV hl1 hl2 hl3) rfl rfl rfl ⟨rfl, f2.1, f2.2, f5⟩ ⟨Nat.le_refl _, ?_⟩) ⟨xi_blind, hrecv, fun U hU hW => ⟨rfl, xi_pre hU hW hK hN hw hP hD hks⟩⟩ rfl hlen hh.1 ?_ (lv_room ?_) (xi_dec hd rfl) hroom)
                · show 8 + (xt_ml j + 11) + d * 64 ≤ (d + 1) * 64
                  omega
                · rw [List.reverse_reverse, ← hST, List.take_append_drop]
                · rw [hrest.cats]; exact hr1
              | invokestatic k =>
                obtain ⟨ps, hm, hav, hst, hle, hrm⟩ := xi_inv_s hinv
                obtain ⟨hr1, hr2, hr3⟩ := xi_rm1_ok hrm
                obtain ⟨hl1, hl2⟩ := xf_c1 hm
                have hT := hs.take (xt_mp j)
                have hrest := hs.drop (xt_mp j)
                rw [← hst] at hrest
                have hAV : xi_s (xi_as Z WS) av (ST.take (xt_mp j)).reverse := by rw [hav]; exact hT.rev
                have hlen : (ST.take (xt_mp j)).reverse.length = xt_mp j := by
                  have h5 := hs.len
                  rw [List.length_reverse, List.length_take]
                  omega
                refine go hAV hrest (va_runS (As := (ST.take (xt_mp j)).reverse) (Ts := xt_G) ⟨hx, hb, hml, hown, hts⟩ (xi_met ih hcal hr2 l D _ WS H.size hAV) (va_cwS (xt_mp j) hts (xi_goodS hl1 hl2) rfl rfl rfl ⟨f2.1, f2.2, f5⟩ ⟨Nat.le_refl _, ?_⟩) ⟨xi_blind, fun U hU hW => ⟨rfl, xi_pre hU hW hK hN hw hP hD hks⟩⟩ rfl hlen hh.1 ?_ (lv_room ?_) (xi_dec hd rfl) hroom)
                · show 8 + (xt_ml j + 11) + d * 64 ≤ (d + 1) * 64
                  omega
                · rw [List.reverse_reverse, List.take_append_drop]
                · rw [hrest.cats]; exact hr1
              | invokespecial k =>
                obtain ⟨q, ps, b, hm, hq, hav, hst, hrm⟩ := xi_inv_i hinv
                obtain ⟨hr1, hr2, hr3⟩ := xi_rm1_ok hrm
                have hT := hs.take (xt_mp j)
                have hDr := hs.drop (xt_mp j)
                rw [hst] at hDr
                obtain ⟨bb, REST, hST, hbb, hrest⟩ := xi_s_r hDr
                have hAV : xi_s (xi_as Z WS) av (.ref bb :: (ST.take (xt_mp j)).reverse) := by rw [hav]; exact ⟨_, _, rfl, ⟨bb, rfl, hbb⟩, hT.rev⟩
                have hlen : (ST.take (xt_mp j)).reverse.length = xt_mp j := by
                  have h5 : (ST.drop (xt_mp j)).length = REST.length + 1 := by rw [hST]; rfl
                  rw [List.length_drop] at h5
                  rw [List.length_reverse, List.length_take]
                  omega
                rcases hq with rfl | rfl
                · obtain ⟨hl1, hl2, hl3, hl4⟩ := xf_c2 hm
                  have hM := xi_met ih hcal hr2 l D _ WS H.size hAV
                  rw [hl4] at hM
                  refine go hAV hrest (va_runI (As := (ST.take (xt_mp j)).reverse) (Ts := xt_G) ⟨hx, hb, hml, hown, hts⟩ hM (cwI (xt_mp j) hts (by rw [← hl4]; exact xi_good1 j) rfl rfl rfl hini2 (hts _ hl1) (hts _ hl2) (f7.mp hl3) ⟨f2.1, f2.2, f5⟩ ⟨Nat.le_refl _, ?_⟩) ⟨xi_blind, fun U hU hW => ⟨rfl, xi_pre hU hW hK hN hw hP hD hks⟩⟩ rfl hlen hh.1 ?_ (lv_room ?_) (xi_dec hd rfl) hroom)
                  · show 8 + (xt_ml j + 11) + d * 64 ≤ (d + 1) * 64
                    omega
                  · rw [List.reverse_reverse, ← hST, List.take_append_drop]
                  · rw [hrest.cats]; exact hr1
                · obtain ⟨hl1, hl2, hl3, hl4⟩ := xf_c3 hm
                  have hM := xi_met ih hcal hr2 l D _ WS H.size hAV
                  rw [hl4] at hM
                  have hnw := hN.1 _ hl1
                  refine go hAV hrest (va_runIN (As := (ST.take (xt_mp j)).reverse) (Ts := xt_G) ⟨hx, hb, hml, hown, hts⟩ hM ⟨va_cnB (xt_mp j) hts (by rw [← hl4]; exact xi_good1 j) rfl rfl rfl hnw hini2 ⟨f2.1, f2.2, f5⟩ ⟨Nat.le_refl _, ?_⟩, f7.mp hl3, hts _ hl2⟩ ⟨xi_blind, fun U hU hW => ⟨rfl, xi_pre hU hW hK hN hw hP hD hks⟩⟩ rfl hlen hh.1 ?_ (lv_room ?_) (xi_dec hd rfl) hroom)
                  · show 8 + (xt_ml j + 11) + d * 64 ≤ (d + 1) * 64
                    omega
                  · rw [List.reverse_reverse, ← hST, List.take_append_drop]
                  · rw [hrest.cats]; exact hr1
              | _ => cases hinv
        · split at h
          · cases h
          · rename_i pc' l' st' w' c' s' hstp
            have hmono := xi_ev_mono n h
            refine xi_stp_ok (d := d) (R := xi_room d res.2.2.1 res.2.2.2) C0 hstp hd (fun h => h) (fun h => by show 64 ≤ d * 64; omega) hmono.1 hmono.2 hw hs hl hP hD hSS hh ?_
            intro LL1 ST1 WS1 H1 locs1 ls1 hw1 hs1 hl1 hup1 hP1 hD1 hS1 hh1
            exact ih d i pc' l' st' w' c' s' res h p l e s m args below meth c D A Z C0 LL1 ST1 WS1 WS0 H1 locs1 ls1 hw1 hs1 hl1 hP1 hD1 hS1 hh1 (hup.tr hup1)
