/-! the law, from its entry to its end -/
theorem lx_p0 : decode code 0 = .ok (.new 7, 3) := by decide +kernel
theorem lx_p3 : decode code 3 = .ok (.dup, 1) := by decide +kernel
theorem lx_p4 : decode code 4 = .ok (.invokespecial 9, 3) := by decide +kernel
theorem lx_p7 : decode code 7 = .ok (.astore_n 1, 1) := by decide +kernel
theorem lx_p8 : decode code 8 = .ok (.new 10, 3) := by decide +kernel
theorem lx_p11 : decode code 11 = .ok (.dup, 1) := by decide +kernel
theorem lx_p12 : decode code 12 = .ok (.invokespecial 12, 3) := by decide +kernel
theorem lx_p15 : decode code 15 = .ok (.astore_n 2, 1) := by decide +kernel
theorem lx_p16 : decode code 16 = .ok (.iconst 0, 1) := by decide +kernel
theorem lx_p17 : decode code 17 = .ok (.istore_n 3, 1) := by decide +kernel
theorem lx_p18 : decode code 18 = .ok (.iload_n 3, 1) := by decide +kernel
theorem lx_p19 : decode code 19 = .ok (.aload_n 0, 1) := by decide +kernel
theorem lx_p20 : decode code 20 = .ok (.arraylength, 1) := by decide +kernel
theorem lx_p21 : decode code 21 = .ok (.bipush 6, 2) := by decide +kernel
theorem lx_p23 : decode code 23 = .ok (.isub, 1) := by decide +kernel
theorem lx_p24 : decode code 24 = .ok (.if_icmp .gt 1834, 3) := by decide +kernel
theorem lx_p27 : decode code 27 = .ok (.aload_n 0, 1) := by decide +kernel
theorem lx_p28 : decode code 28 = .ok (.iload_n 3, 1) := by decide +kernel
theorem lx_p29 : decode code 29 = .ok (.iaload, 1) := by decide +kernel
theorem lx_p30 : decode code 30 = .ok (.bipush 63, 2) := by decide +kernel
theorem lx_p32 : decode code 32 = .ok (.iand, 1) := by decide +kernel
theorem lx_p1852 : decode code 1852 = .ok (.iinc 3 6, 3) := by decide +kernel
theorem lx_p1855 : decode code 1855 = .ok (.goto (-1837), 3) := by decide +kernel
theorem lx_p1858 : decode code 1858 = .ok (.iconst 1, 1) := by decide +kernel
theorem lx_p1859 : decode code 1859 = .ok (.ireturn, 1) := by decide +kernel
theorem lx_p33 : decode code 33 = .ok (.tableswitch 1819 0 51 lx_offs, 223) := by decide +kernel
def lx_cl (ci i : Nat) : Bool := match fw_w i with | some (.inr q) => Nat.beq q.1 ci | _ => false
theorem lx_cl_ok {ci i : Nat} (h : lx_cl ci i = true) {w : xi_W} (hw : ag_w (fw_w, [], 680) w) : ∃ FS, w[i]? = some (.inr (ci, FS)) := by
  unfold lx_cl at h
  split at h
  · rename_i q hq
    obtain ⟨o, h1, h2⟩ := hw.2 i _ hq
    obtain ⟨FS, rfl, -⟩ := h2
    exact ⟨FS, by rw [h1, Nat.eq_of_beq_eq_true h]⟩
  · cases h
theorem lx_cl0 : lx_cl 6 0 = true := by decide +kernel
theorem lx_cl1 : lx_cl 7 670 = true := by decide +kernel
theorem lx_at_up {as as2 : List Nat} {i a : Nat} (h : xi_up as as2) (e : as[i]? = some a) : as2[i]? = some a := h i a e
theorem lx_m0 : Nat.beq (xt_mp 95) 0 = true ∧ Nat.ble 1 (xt_ml 95) = true ∧ Nat.ble (xt_ml 95) 45 = true ∧ xt_mr 95 = none ∧ xt_mi 95 = true ∧ xi_at 139 (.methodLink R_law 9 (xt_my 95)) = true ∧ xi_at 140 (.instanceMethod (xt_my 95)) = true := ⟨by decide +kernel, by decide +kernel, by decide +kernel, by decide +kernel, by decide +kernel, by decide +kernel, by decide +kernel⟩
theorem lx_m1 : Nat.beq (xt_mp 157) 0 = true ∧ Nat.ble 1 (xt_ml 157) = true ∧ Nat.ble (xt_ml 157) 45 = true ∧ xt_mr 157 = none ∧ xt_mi 157 = true ∧ xi_at 1168 (.methodLink R_law 12 (xt_my 157)) = true ∧ xi_at 1169 (.instanceMethod (xt_my 157)) = true := ⟨by decide +kernel, by decide +kernel, by decide +kernel, by decide +kernel, by decide +kernel, by decide +kernel, by decide +kernel⟩
theorem lx_cln6 : xt_cl[6]? = some ("DeltaNests", xt_F6, 10) := rfl
theorem lx_cln7 : xt_cl[7]? = some ("DeltaNestsModel", xt_F7, 25) := rfl
theorem lx_w6 : Cond.classLink R_law 7 "DeltaNests" ∈ xt_G ∧ Cond.instantiable "DeltaNests" 10 ∈ xt_G ∧ Cond.initialized "DeltaNests" ∈ xt_G := ⟨xi_at_in (p := 137) (by decide +kernel), xi_at_in (p := 138) (by decide +kernel), xi_at_in (p := 120) (by decide +kernel)⟩
theorem lx_w7 : Cond.classLink R_law 10 "DeltaNestsModel" ∈ xt_G ∧ Cond.instantiable "DeltaNestsModel" 25 ∈ xt_G ∧ Cond.initialized "DeltaNestsModel" ∈ xt_G := ⟨xi_at_in (p := 1166) (by decide +kernel), xi_at_in (p := 1167) (by decide +kernel), xi_at_in (p := 126) (by decide +kernel)⟩
theorem lx_room : room_1.cells = 600000 ∧ room_1.slots = 7302249 ∧ room_1.frames = 2048 ∧ room_1.locals = 84000 := ⟨rfl, rfl, rfl, rfl⟩
theorem lx_h0 : 21 + 1 ≤ room_1.frames ∧ 8 + (xt_ml 95 + 11) + 21 * 64 ≤ room_1.locals := by decide +kernel
theorem lx_h1 : 21 + 1 ≤ room_1.frames ∧ 8 + (xt_ml 157 + 11) + 21 * 64 ≤ room_1.locals := by decide +kernel
theorem lx_six : ∀ L : Nat, L ≤ 6 → ¬ (Int32.ofNat L - 6 < 0) → L = 6
  | 0, _, h => absurd (by decide +kernel) h
  | 1, _, h => absurd (by decide +kernel) h
  | 2, _, h => absurd (by decide +kernel) h
  | 3, _, h => absurd (by decide +kernel) h
  | 4, _, h => absurd (by decide +kernel) h
  | 5, _, h => absurd (by decide +kernel) h
  | 6, _, _ => rfl
  | L + 7, h, _ => by omega
/-- the law's end -/
theorem lx_out {p : Program} {l : Launch} {e : Env} {s : State} {m : MethodId} {below : List Frame} {meth : Method} {c : Code} {b : Nat} {D : va_G} {H : Heap} {locs : List Loc} {cells slots : Nat} {ls : Array Slot} (C0 : lx_K p s m #[Value.ref b] c D (fun q => s.heap.size ≤ q)) (hr : meth.sig.returnType = ret) (hlocks : meth.locks = false) (hS : va_S (fun q => s.heap.size ≤ q) s.heap H locs) (h1 : cells ≤ 2000) (h2 : slots ≤ 400000) : W p l e room_1 s m #[Value.ref b] below meth c H locs cells slots (lw_Z below #[Value.ref b] s) (F0 m 1858 ls []) := by
  have hx := C0.1
  have hb := C0.2.1
  refine lv_iconst (v := 1) hx hb lx_p1858 (by decide) ?_
  refine va_forget hS.2.2 ?_
  refine W.widen (k := 600000) (n := 7302249) (by omega) (by omega) ?_
  exact lw_ret hx hb hr hlocks lx_p1859
/-- the test at the loop's head -/
theorem lx_head {p : Program} {l : Launch} {e : Env} {R : Room} {s : State} {m : MethodId} {args : Array Value} {below : List Frame} {meth : Method} {c : Code} {Q : State → Prop} {A : Nat → Prop} {H : Heap} {locs : List Loc} {cells slots : Nat} {ls : Array Slot} {b L : Nat} {xs : Nat → Int32} {i : Int32} (hx : p.tables.exec = Jvm.exec) (hb : c.code = code) (hX : va_X b L xs s s.heap) (hbl : b < s.heap.size) (hbA : ¬ A b) (hS : va_S A s.heap H locs) (h0 : ls[0]? = some (.val (.ref b))) (h3 : ls[3]? = some (.val (.int i))) (kt : Int32.ofNat L - 6 < i → W p l e R s m args below meth c H locs cells slots Q (F0 m 1858 ls [])) (kf : ¬ Int32.ofNat L - 6 < i → W p l e R s m args below meth c H locs cells slots Q (F0 m 27 ls [])) : W p l e R s m args below meth c H locs cells slots Q (F0 m 18 ls []) := by
  refine lv_iload_n hx hb lx_p18 rfl h3 ?_
  refine lv_aload_n hx hb lx_p19 rfl h0 ?_
  refine va_slen hx hb hX hbl hbA hS lx_p20 ?_
  refine lv_bipush (v := 6) hx hb lx_p21 (by decide) ?_
  refine lv_isub hx hb lx_p23 ?_
  exact lv_icmp_gt (tgt := 1858) hx hb lx_p24 (by decide) kt kf
set_option maxHeartbeats 4000000 in
/-- from the loop's head, both objects fresh -/
theorem lx_loop {p : Program} {l : Launch} {e : Env} {s : State} {m : MethodId} {below : List Frame} {meth : Method} {c : Code} {b L : Nat} {xs : Nat → Int32} {D : va_G} {H : Heap} {locs : List Loc} {cells slots : Nat} {ls : Array Slot} {w : xi_W} {WS : va_W} {b0 b1 : Nat} (hL : L ≤ 6) (C0 : lx_K p s m #[Value.ref b] c D (fun q => s.heap.size ≤ q)) (hr : meth.sig.returnType = ret) (hlocks : meth.locks = false) (hX : va_X b L xs s s.heap) (hbl : b < s.heap.size) (hag : ag_w (fw_w, [], 680) w) (hce : cells ≤ 1000) (hsl : slots ≤ 300000) (S0 : lx_S s D (fun q => s.heap.size ≤ q) w WS H locs) (hb0 : (xi_as WS)[0]? = some b0) (hb1 : (xi_as WS)[670]? = some b1) (hl : lv_has ls 4 [(3, .int 0), (2, .ref b1), (1, .ref b0), (0, .ref b)]) : W p l e room_1 s m #[Value.ref b] below meth c H locs cells slots (lw_Z below #[Value.ref b] s) (F0 m 18 ls []) := by
  have hx := C0.1
  have hb := C0.2.1
  have hbA : ¬ (fun q : Nat => s.heap.size ≤ q) b := Nat.not_le.mpr hbl
  refine lx_head hx hb hX hbl hbA S0.2.2.2 (lv_at hl 3 rfl) (lv_at hl 0 rfl) (fun _ => lx_out C0 hr hlocks S0.2.2.2 (by omega) (by omega)) (fun h6 => ?_)
  have hL6 := lx_six L hL h6
  subst hL6
  refine lv_aload_n hx hb lx_p27 rfl (lv_at hl 3 rfl) ?_
  refine lv_iload_n hx hb lx_p28 rfl (lv_at hl 0 rfl) ?_
  refine va_sld hx hb hX hbl hbA S0.2.2.2 (i := 0) (show ¬ ((0 : Int32) < 0 ∨ (6 : Nat) ≤ (0 : Int32).toNatClampNeg) by decide +kernel) lx_p29 ?_
  refine lv_bipush (v := 63) hx hb lx_p30 (by decide) ?_
  refine lv_iand hx hb lx_p32 ?_
  obtain ⟨k, hk, ek⟩ := pk_andE (xs (0 : Int32).toNatClampNeg) (m := 63) 6 (by decide)
  rw [ek]
  have T : lx_T p l e s m #[Value.ref b] below meth c (lw_Z below #[Value.ref b] s) (fun q => s.heap.size ≤ q) ls := by
    intro H1 locs1 c1 s1 hS1 h1 h2
    refine lv_iinc (v := 6) (k := 0) (lv' := [(3, .int 6), (2, .ref b1), (1, .ref b0), (0, .ref b)]) hx hb lx_p1852 hl rfl (by decide) (by decide) rfl (fun ls2 hl2 => ?_)
    refine lv_goto (tgt := 18) hx hb lx_p1855 (by decide) ?_
    refine lx_head hx hb hX hbl hbA hS1 (lv_at hl2 3 rfl) (lv_at hl2 0 rfl) (fun _ => lx_out C0 hr hlocks hS1 h1 h2) (fun h => absurd (by decide +kernel) h)
  have ki : (nI k).toInt = (k : Int) := nI_toInt (Nat.lt_trans hk (by decide))
  by_cases hk51 : k ≤ 51
  · obtain ⟨off, tgt, h1, h2, K⟩ := lx_all ⟨C0, hX, hbl, hbA, hag, hce, hsl, WS, b0, b1, S0, hb0, hb1, hl, lx_cl_ok lx_cl0 hag, lx_cl_ok lx_cl1 hag⟩ T k hk51
    refine lv_tableIn (off := off) (tgt := tgt) hx hb lx_p33 (by rw [ki]; omega) (by rw [ki]; omega) ?_ h2 K
    rw [ki, show (((k : Int) - 0).toNat) = k by omega]
    exact h1
  · exact lv_tableOut (tgt := 1852) hx hb lx_p33 (Or.inr (by rw [ki]; omega)) (by decide) (T H locs cells slots S0.2.2.2 (by omega) (by omega))
set_option maxHeartbeats 4000000 in
/-- from the entry, for every script of at most 6 ints, the law comes to its end with true -/
theorem whole_start {p : Program} {e : Env} {s : State} {m : MethodId} {below : List Frame} {meth : Method} {c : Code} (l : Launch) (hflags : l.flags = flags0) {b L : Nat} {xs : Nat → Int32} (hL : L ≤ 6) (C0 : lw_At p s m meth c b L xs) : W p l e room_1 s m #[Value.ref b] below meth c s.heap [] 0 0 (lw_Z below #[Value.ref b] s) (entryFrame m ([Value.ref b] : List Value).toArray 4) := by
  obtain ⟨hx, hb, hr, hml, hown, hts, hX, hbl, hlocks, hgv⟩ := id C0
  obtain ⟨D, hK⟩ := lx_D hts
  obtain ⟨rc, rs, rf, rl⟩ := lx_room
  have CK : lx_K p s m #[Value.ref b] c D (fun q => s.heap.size ≤ q) := ⟨hx, hb, hml, hown, fun w hw => hts w (xi_tbl hw), hK, lx_N hts, fun _ h => h⟩
  have hl := lv_entry ([.ref b]) (n := 4) (Nat.le_of_ble_eq_true rfl)
  rw [lg_entry_eq]
  generalize (lg_sl ([.ref b]) ++ List.replicate (4 - (lg_sl ([.ref b])).length) Slot.unset).toArray = ls at hl ⊢
  have hl : lv_has ls 4 [(0, .ref b)] := hl
  have S0 : lx_S s D (fun q => s.heap.size ≤ q) [] [] s.heap [] := ⟨⟨rfl, fun i o h => by simp at h⟩, fun k q h => by simp at h, ⟨fun i j p q h => by simp at h, fun k q h => by simp at h⟩, va_S.rf⟩
  refine lx_new (ci := 6) (idx := 7) (N := 10) CK S0 lx_cln6 lx_w6.1 lx_w6.2.1 lx_w6.2.2 (by omega) (by omega) lx_p0 (fun q0 H1 S1 => ?_)
  refine lv_dup hx hb lx_p3 rfl ?_
  obtain ⟨W1, r1, g1⟩ := fw_class
  obtain ⟨m1, m2, m3, m4, m5, m6, m7⟩ := lx_m0
  have m3 := Nat.le_of_ble_eq_true m3
  refine lx_callI (d := 21) (j := 95) (k := 0) (bb := q0) (idx := 9) (rest := [.ref q0]) CK S1 r1 rfl (Nat.eq_of_beq_eq_true m1) (Nat.le_of_ble_eq_true m2) m4 m5 (xi_at_in m6) (xi_at_in m7) lx_p4 hl.1 (Nat.le_of_ble_eq_true rfl) ⟨Nat.le_of_ble_eq_true rfl, Nat.le_of_ble_eq_true rfl⟩ lx_h0.1 lx_h0.2 (fun WS1 H2 locs2 up1 S2 => ?_)
  have e0 : (xi_as WS1)[0]? = some q0 := up1 0 q0 rfl
  refine lv_astore_n (lv' := [(1, .ref q0), (0, .ref b)]) hx hb lx_p7 rfl hl (by decide) rfl (fun ls1 hl1 => ?_)
  refine lx_new (ci := 7) (idx := 10) (N := 25) CK S2 lx_cln7 lx_w7.1 lx_w7.2.1 lx_w7.2.2 (by omega) (by omega) lx_p8 (fun q1 H3 S3 => ?_)
  refine lv_dup hx hb lx_p11 rfl ?_
  obtain ⟨W2, r2, g2⟩ := fw_refe g1
  obtain ⟨n1, n2, n3, n4, n5, n6, n7⟩ := lx_m1
  have n3 := Nat.le_of_ble_eq_true n3
  have e0 : (xi_as (WS1 ++ [(q1, .inr (7, xt_df 7))]))[0]? = some q0 := xi_as_push 0 q0 e0
  have e1 : (xi_as (WS1 ++ [(q1, .inr (7, xt_df 7))]))[670]? = some q1 := by
    have z := xi_as_new S2.1 (q := q1) (E := .inr (7, xt_df 7))
    rw [show W1.length = 670 from g1.1.symm] at z
    exact z
  refine lx_callI (d := 21) (j := 157) (k := 670) (bb := q1) (idx := 12) (rest := [.ref q1]) CK S3 r2 e1 (Nat.eq_of_beq_eq_true n1) (Nat.le_of_ble_eq_true n2) n4 n5 (xi_at_in n6) (xi_at_in n7) lx_p12 hl1.1 (Nat.le_of_ble_eq_true rfl) ⟨Nat.le_of_ble_eq_true rfl, Nat.le_of_ble_eq_true rfl⟩ lx_h1.1 lx_h1.2 (fun WS2 H4 locs4 up2 S4 => ?_)
  have e0 := up2 0 q0 e0
  have e1 := up2 670 q1 e1
  refine lv_astore_n (lv' := [(2, .ref q1), (1, .ref q0), (0, .ref b)]) hx hb lx_p15 rfl hl1 (by decide) rfl (fun ls2 hl2 => ?_)
  refine lv_iconst (v := 0) hx hb lx_p16 (by decide) ?_
  refine lv_istore_n (lv' := [(3, .int 0), (2, .ref q1), (1, .ref q0), (0, .ref b)]) hx hb lx_p17 rfl hl2 (by decide) rfl (fun ls3 hl3 => ?_)
  exact lx_loop hL CK hr hlocks hX hbl g2 (by omega) (by omega) S4 e0 e1 hl3
