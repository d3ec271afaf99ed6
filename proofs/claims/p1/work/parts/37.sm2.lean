/-! what is known of methods of the reference, with its ground -/
def sm_ok (w : ab_W) : Bool := (sm_obj w).isSome && (match sm_arr w 671 98262 with | some u => sm_z u | none => false)
theorem sm_okw {w : ab_W} {W0 : xi_W} (hw : ag_w w W0) (h : sm_ok w = true) : ∃ FL F, rf_B W0 670 671 (7, FL) ∧ rf_w W0 671 F = W0 ∧ (∀ k, 205 ≤ k → k < 3372 → F k = 0) ∧ (∀ j, F j < 4294967296) := by
  unfold sm_ok at h
  rw [Bool.and_eq_true] at h
  obtain ⟨h1, h2⟩ := h
  cases ho : sm_obj w with
  | none => rw [ho] at h1; cases h1
  | some n =>
    obtain ⟨FL, a1, a2, a3, a4⟩ := sm_objw hw ho
    cases ha : sm_arr w 671 98262 with
    | none => rw [ha] at h2; cases h2
    | some u =>
      rw [ha] at h2
      obtain ⟨F, b1, b2, b3⟩ := sm_arrw hw ha
      obtain ⟨c1, c2⟩ := sm_B a1 a2 b1
      exact ⟨FL, F, c1, c2, fun k k1 k2 => sm_z0 h2 b2 b3 k1 k2, b2⟩
def sm_rng (v : ab_V) (lo hi : Int) : Bool := match v with
  | .inl (.int t) => decide (lo ≤ t.toInt) && decide (t.toInt ≤ hi)
  | .inr (a, b) => decide (lo ≤ a) && decide (b ≤ hi)
  | _ => false
theorem sm_rngw {v : ab_V} {V : Value} {lo hi : Nat} (hv : ag_v v V) (hh : hi < 2147483648) (h : sm_rng v lo hi = true) : ∃ t : Nat, V = .int (Int32.ofNat t) ∧ lo ≤ t ∧ t ≤ hi := by
  have key : ∀ t : Int32, (lo : Int) ≤ t.toInt → t.toInt ≤ (hi : Int) → ∃ q : Nat, Value.int t = .int (Int32.ofNat q) ∧ lo ≤ q ∧ q ≤ hi := by
    intro t h1 h2
    refine ⟨t.toInt.toNat, ?_, by omega, by omega⟩
    congr 1
    apply Int32.toInt_inj.mp
    rw [n_int (show t.toInt.toNat < 2147483648 by omega)]
    omega
  unfold sm_rng at h
  split at h
  · rename_i t
    rw [Bool.and_eq_true] at h
    rw [show V = .int t from hv]
    exact key t (of_decide_eq_true h.1) (of_decide_eq_true h.2)
  · rename_i a b
    rw [Bool.and_eq_true] at h
    obtain ⟨x, h1, h2, h3⟩ := hv
    rw [h1]
    have h4 := of_decide_eq_true h.1
    have h5 := of_decide_eq_true h.2
    exact key x (Int.le_trans h4 h2) (Int.le_trans h3 h5)
  · cases h
def sm_sep (x y : Int32) : Bool := Nat.ble (sm_n x + 57) (sm_n y) || (Nat.ble (sm_n y + 57) (sm_n x) || Nat.beq (sm_n x) (sm_n y))
def sm_joi (x : Int32) : Bool := Nat.ble (sm_n x + 57) 3201 || Nat.ble 3258 (sm_n x)
/-- a summary's ground -/
def sm_gr (j : Nat) (av : List ab_V) (w : ab_W) (v : Option ab_V) (w' : ab_W) : Prop := ∀ (d : Nat) (AV : List Value) (W0 : xi_W), 9 ≤ d → ag_s av AV → ag_w w W0 → ∃ (n : Nat) (res : xi_R), xi_ev n d j 0 (lv_args 0 AV) [] W0 0 0 = some res ∧ ag_vo v res.1 ∧ ag_w w' res.2.1 ∧ res.2.2 = (0, 0)
theorem sm_fin {j d : Nat} {AV : List Value} {W0 W1 : xi_W} {V : Option Value} {v : Option ab_V} {w' : ab_W} (h : xg d j 0 (lv_args 0 AV) [] W0 0 0 (V, W1, 0, 0)) (hv : ag_vo v V) (hw : ag_w w' W1) : ∃ (n : Nat) (res : xi_R), xi_ev n d j 0 (lv_args 0 AV) [] W0 0 0 = some res ∧ ag_vo v res.1 ∧ ag_w w' res.2.1 ∧ res.2.2 = (0, 0) := by
  obtain ⟨n, hn⟩ := h
  exact ⟨n, _, hn, hv, hw, rfl⟩
theorem sm_clear {w : ab_W} {x : Int32} (h : sm_ok w = true) (hx : sm_in x = true) : sm_gr 178 [.inl (.ref 670), .inl (.int x)] w none w := by
  intro d AV W0 hd hs hw
  obtain ⟨FL, F, B, e, z, _⟩ := sm_okw hw h
  obtain ⟨x1, x2, x3⟩ := sm_in_ok hx
  rw [ag_sx [.ref 670, .int x] AV hs]
  have r := rf_clearState B d F 0 0 (sm_n x) (by omega)
  rw [sm_clr z ⟨x1, x2⟩, e, x3] at r
  exact sm_fin r rfl hw
theorem sm_copyS {w : ab_W} {x y : Int32} (h : sm_ok w = true) (hx : sm_in x = true) (hy : sm_in y = true) (hxy : sm_sep x y = true) : sm_gr 179 [.inl (.ref 670), .inl (.int x), .inl (.int y)] w none w := by
  intro d AV W0 hd hs hw
  obtain ⟨FL, F, B, e, z, _⟩ := sm_okw hw h
  obtain ⟨x1, x2, x3⟩ := sm_in_ok hx
  obtain ⟨y1, y2, y3⟩ := sm_in_ok hy
  rw [ag_sx [.ref 670, .int x, .int y] AV hs]
  have hsep : sm_n x + 57 ≤ sm_n y ∨ sm_n y + 57 ≤ sm_n x ∨ sm_n x = sm_n y := by
    unfold sm_sep at hxy
    rw [Bool.or_eq_true, Bool.or_eq_true] at hxy
    rcases hxy with g | g | g
    · exact Or.inl (Nat.le_of_ble_eq_true g)
    · exact Or.inr (Or.inl (Nat.le_of_ble_eq_true g))
    · exact Or.inr (Or.inr (Nat.eq_of_beq_eq_true g))
  have r := rf_copyState B d F 0 0 (sm_n x) (sm_n y) (by omega) (by omega) hsep
  rw [sm_cpy z ⟨x1, x2⟩ ⟨y1, y2⟩, e, x3, y3] at r
  exact sm_fin r rfl hw
theorem sm_alike {w : ab_W} {x y : Int32} (h : sm_ok w = true) (hx : sm_in x = true) (hy : sm_in y = true) : sm_gr 180 [.inl (.ref 670), .inl (.int x), .inl (.int y)] w (some (.inl (.int 1))) w := by
  intro d AV W0 hd hs hw
  obtain ⟨FL, F, B, e, z, hF⟩ := sm_okw hw h
  obtain ⟨x1, x2, x3⟩ := sm_in_ok hx
  obtain ⟨y1, y2, y3⟩ := sm_in_ok hy
  rw [ag_sx [.ref 670, .int x, .int y] AV hs]
  have r := rf_areAlike B d 0 0 (sm_n x) (sm_n y) (by omega) (by omega) F (fun q _ => hF _) (fun q _ => hF _)
  rw [show rf_al F (sm_n x) (sm_n y) 57 0 = 1 from (rf_al_iff F _ _ 57 0).mpr (fun q _ hq => by rw [z _ (by omega) (by omega), z _ (by omega) (by omega)]), e, x3, y3] at r
  exact sm_fin r ⟨_, rfl, rfl⟩ hw
theorem sm_merge {w : ab_W} {x y : Int32} (h : sm_ok w = true) (hx : sm_in x = true) (hy : sm_in y = true) (jx : sm_joi x = true) (jy : sm_joi y = true) : sm_gr 183 [.inl (.ref 670), .inl (.int x), .inl (.int y)] w none w := by
  intro d AV W0 hd hs hw
  obtain ⟨FL, F, B, e, z, hF⟩ := sm_okw hw h
  obtain ⟨x1, x2, x3⟩ := sm_in_ok hx
  obtain ⟨y1, y2, y3⟩ := sm_in_ok hy
  rw [ag_sx [.ref 670, .int x, .int y] AV hs]
  have jo : ∀ v : Int32, sm_joi v = true → sm_n v + 57 ≤ 3201 ∨ 3258 ≤ sm_n v := fun v hv => by
    unfold sm_joi at hv
    rw [Bool.or_eq_true] at hv
    rcases hv with g | g
    · exact Or.inl (Nat.le_of_ble_eq_true g)
    · exact Or.inr (Nat.le_of_ble_eq_true g)
  obtain ⟨d, rfl⟩ : ∃ k, d = k + 2 := ⟨d - 2, by omega⟩
  have r := rf_merge B d 0 0 (sm_n x) (sm_n y) (by omega) (by omega) (jo x jx) (jo y jy) F (by rw [z _ (by omega) (by omega), z _ (by omega) (by omega)]; omega) (fun t ht => by rw [z _ (by omega) (by omega)] at ht; omega) (fun t ht => by rw [z _ (by omega) (by omega)] at ht; omega) (fun t ht => by rw [z _ (by omega) (by omega)]; omega) (fun t ht => by rw [z _ (by omega) (by omega)]; omega)
  rw [sm_mer z ⟨x1, x2⟩ ⟨y1, y2⟩ (jo x jx) (jo y jy), e, x3, y3] at r
  exact sm_fin r rfl hw
theorem sm_known {w : ab_W} {x : Int32} {v : ab_V} (h : sm_ok w = true) (hx : sm_in x = true) (hv : sm_rng v 0 255 = true) : sm_gr 169 [.inl (.ref 670), .inl (.int x), v] w (some (.inl (.int 0))) w := by
  intro d AV W0 hd hs hw
  obtain ⟨FL, F, B, e, z, hF⟩ := sm_okw hw h
  obtain ⟨x1, x2, x3⟩ := sm_in_ok hx
  obtain ⟨v1, R1, rfl, a1, v2, R2, rfl, a2, v3, R3, rfl, a3, rfl⟩ := hs
  obtain ⟨t, rfl, t1, t2⟩ := sm_rngw (lo := 0) (hi := 255) a3 (by omega) hv
  have a1 : v1 = .ref 670 := a1
  have a2 : v2 = .int x := a2
  subst a1
  subst a2
  obtain ⟨d, rfl⟩ : ∃ k, d = k + 1 := ⟨d - 1, by omega⟩
  have r := rf_isKnown B d F 0 0 (sm_n x) t (by omega) (by omega) (by rw [z _ (by omega) (by omega)]; omega)
  rw [z _ (by omega) (by omega), e, x3, Nat.zero_div, Nat.zero_mod] at r
  exact sm_fin r ⟨_, rfl, rfl⟩ hw
theorem rf_kpv (X : Nat) (hX : 3372 ≤ X) : ∀ (m k : Nat) (F : Nat → Nat) (j : Nat), k + m ≤ 3163 → rf_kp X m k F j = if X + k ≤ j ∧ j < X + k + m then F (6 + (j - X)) else F j
  | 0, k, F, j, _ => by
    unfold rf_kp
    rw [if_neg (by omega)]
  | m + 1, k, F, j, h => by
    unfold rf_kp
    rw [rf_kpv X hX m (k + 1) _ j (by omega)]
    by_cases e : j = X + k
    · subst e
      rw [if_neg (by omega), if_pos (by omega), xn_ue]
      exact congrArg F (by omega)
    · by_cases g : X + (k + 1) ≤ j ∧ j < X + (k + 1) + m
      · rw [if_pos g, if_pos (by omega), xn_un _ _ (by omega)]
      · rw [if_neg g, if_neg (by omega), xn_un _ _ e]
def sm_a (w : ab_W) (u : List (Nat × ab_V)) : ab_W := ab_s w 671 (.inl (.inl (.int, 98262, .inl (.int 0), u)))
/-- the int at an index, if it is told -/
def sm_i (u : List (Nat × ab_V)) (k : Nat) : Option Int32 := match ab_rd (.inl (.int 0)) u k with
  | .inl (.int x) => some x
  | _ => none
theorem sm_iw {u : List (Nat × ab_V)} {k : Nat} {x : Int32} {F : Nat → Nat} (h : sm_i u k = some x) (hF : ∀ j, F j < 4294967296) (hu : ∀ j, ag_v (ab_rd (.inl (.int 0)) u j) (.int (Int32.ofNat (F j)))) : F k = sm_n x := by
  unfold sm_i at h
  split at h
  · rename_i y he
    have e := Option.some.inj h
    subst e
    have h2 := hu k
    rw [he] at h2
    have h3 : Int32.ofNat (F k) = y := Value.int.inj h2
    rw [← sm_of y] at h3
    exact (n_eq (hF k) (sm_lt y)).mp h3
  · cases h
theorem sm_keep {w : ab_W} {u : List (Nat × ab_V)} {n s2 f4 : Int32} (ho : sm_obj w = some n) (ha : sm_arr w 671 98262 = some u) (h2 : sm_i u 2 = some s2) (h4 : sm_i u 4 = some f4) (l2 : Nat.blt (sm_n s2) 30 = true) (l4 : Nat.blt (sm_n f4) 30 = true) :
    sm_gr 264 [.inl (.ref 670)] w none (sm_a w ((2, .inl (.int (Int32.ofNat (sm_n s2 + 1)))) :: ab_cpy u u 6 (3372 + 3163 * ((sm_n f4 + sm_n s2) % 30)) 3163)) := by
  intro d AV W0 hd hs hw
  obtain ⟨FL, a1, a2, a3, a4⟩ := sm_objw hw ho
  obtain ⟨F, b1, b2, b3⟩ := sm_arrw hw ha
  obtain ⟨B, e⟩ := sm_B a1 a2 b1
  have e2 := sm_iw h2 b2 b3
  have e4 := sm_iw h4 b2 b3
  have l2 := xi_blt l2
  have l4 := xi_blt l4
  rw [ag_sx [.ref 670] AV hs]
  obtain ⟨d, rfl⟩ : ∃ k, d = k + 1 := ⟨d - 1, by omega⟩
  have r := rf_keep B d F 0 0 (by omega) (by omega)
  rw [e] at r
  refine sm_fin r rfl (sm_set hw 671 98262 (fun k => ?_))
  unfold rf_kep
  rw [e4, e2]
  have hX : 3372 ≤ 3372 + 3163 * ((sm_n f4 + sm_n s2) % 30) := by omega
  by_cases e3 : k = 2
  · subst e3
    rw [xn_ue, rf_kpv _ hX 3163 0 F 2 (by omega), if_neg (by omega), e2]
    rfl
  · rw [xn_un _ _ e3, rf_kpv _ hX 3163 0 F k (by omega)]
    have hb : Nat.beq 2 k = false := ag_beqF.mpr (fun e => e3 e.symm)
    unfold ab_rd
    rw [hb, cond_false]
    rw [ag_rdcpy]
    by_cases g : 3372 + 3163 * ((sm_n f4 + sm_n s2) % 30) ≤ k ∧ k < 3372 + 3163 * ((sm_n f4 + sm_n s2) % 30) + 3163
    · rw [if_pos g, if_pos (by omega)]
      exact b3 _
    · rw [if_neg g, if_neg (by omega)]
      exact b3 _
theorem sm_aside {w : ab_W} {u v : List (Nat × ab_V)} {n : Int32} (ho : sm_obj w = some n) (ha : sm_arr w 671 98262 = some u) (hv : sm_arr w 679 3163 = some v) :
    sm_gr 293 [.inl (.ref 670)] w none (ab_s w 679 (.inl (.inl (.int, 3163, .inl (.int 0), ab_cpy u v 6 0 3163)))) := by
  intro d AV W0 hd hs hw
  obtain ⟨FL, a1, a2, a3, a4⟩ := sm_objw hw ho
  obtain ⟨F, b1, b2, b3⟩ := sm_arrw hw ha
  obtain ⟨H, c1, c2, c3⟩ := sm_arrw hw hv
  rw [ag_sx [.ref 670] AV hs]
  refine sm_fin (cp_putAside d 0 0 W0 FL a1 a2 a3 F H b1 c1) rfl (sm_set hw 679 3163 (fun k => ?_))
  rw [ag_rdcpy, cp_v]
  by_cases g : 0 ≤ k ∧ k < 0 + 3163
  · rw [if_pos g, if_pos (by omega)]; exact b3 _
  · rw [if_neg g, if_neg (by omega)]; exact c3 _
theorem sm_bring {w : ab_W} {u v : List (Nat × ab_V)} {n : Int32} (ho : sm_obj w = some n) (ha : sm_arr w 671 98262 = some u) (hv : sm_arr w 679 3163 = some v) :
    sm_gr 294 [.inl (.ref 670)] w none (sm_a w (ab_cpy v u 0 6 3163)) := by
  intro d AV W0 hd hs hw
  obtain ⟨FL, a1, a2, a3, a4⟩ := sm_objw hw ho
  obtain ⟨F, b1, b2, b3⟩ := sm_arrw hw ha
  obtain ⟨H, c1, c2, c3⟩ := sm_arrw hw hv
  rw [ag_sx [.ref 670] AV hs]
  refine sm_fin (cp_bringBack d 0 0 W0 FL a1 a2 a3 H F c1 b1) rfl (sm_set hw 671 98262 (fun k => ?_))
  rw [ag_rdcpy, cp_v]
  by_cases g : 6 ≤ k ∧ k < 6 + 3163
  · rw [if_pos g, if_pos (by omega)]; exact c3 _
  · rw [if_neg g, if_neg (by omega)]; exact b3 _
theorem sm_copyA {w : ab_W} {u v : List (Nat × ab_V)} {a b : Nat} (hab : Nat.beq a b = false) (ha : sm_arr w a 98262 = some u) (hv : sm_arr w b 98262 = some v) :
    sm_gr 158 [.inl (.ref a), .inl (.ref b)] w none (ab_s w b (.inl (.inl (.int, 98262, .inl (.int 0), ab_cpy u v 0 0 98262)))) := by
  intro d AV W0 hd hs hw
  obtain ⟨F, b1, b2, b3⟩ := sm_arrw hw ha
  obtain ⟨H, c1, c2, c3⟩ := sm_arrw hw hv
  rw [ag_sx [.ref a, .ref b] AV hs]
  refine sm_fin (cp_copy d 0 0 W0 a b (ag_beqF.mp hab) F H b1 c1) rfl (sm_set hw b 98262 (fun k => ?_))
  rw [ag_rdcpy, cp_v]
  by_cases g : 0 ≤ k ∧ k < 0 + 98262
  · rw [if_pos g, if_pos (by omega)]; exact b3 _
  · rw [if_neg g, if_neg (by omega)]; exact c3 _
/-- nothing is in flight, nothing made, nothing acked -/
def sm_q (u : List (Nat × ab_V)) : Bool := u.all (fun q => Nat.blt q.1 11 || Nat.ble 36 q.1)
theorem sm_qr {d : ab_V} : ∀ {u : List (Nat × ab_V)} {k : Nat}, sm_q u = true → 11 ≤ k → k < 36 → ab_rd d u k = d
  | [], _, _, _, _ => rfl
  | q :: r, k, h, h1, h2 => by
    unfold sm_q at h
    rw [List.all_cons, Bool.and_eq_true] at h
    have e : Nat.beq q.1 k = false := by
      rw [ag_beqF]
      intro e
      have h3 := h.1
      rw [Bool.or_eq_true] at h3
      rcases h3 with h3 | h3
      · have := xi_blt h3; omega
      · have := Nat.le_of_ble_eq_true h3; omega
    unfold ab_rd
    rw [e, cond_false]
    exact sm_qr (u := r) h.2 h1 h2
theorem sm_tick {w : ab_W} {u : List (Nat × ab_V)} {n t1 c6 : Int32} (ho : sm_obj w = some n) (ha : sm_arr w 671 98262 = some u) (hq : sm_q u = true) (h1 : sm_i u 1 = some t1) (h6 : sm_i u 6 = some c6) (l1 : decide (t1 = -1) = true) (l6 : Nat.blt (sm_n c6) 1000000 = true) :
    sm_gr 262 [.inl (.ref 670)] w none (sm_a w ((6, .inl (.int (Int32.ofNat (sm_n c6 + 1)))) :: u)) := by
  intro d AV W0 hd hs hw
  obtain ⟨FL, a1, a2, a3, a4⟩ := sm_objw hw ho
  obtain ⟨F, b1, b2, b3⟩ := sm_arrw hw ha
  obtain ⟨B, e⟩ := sm_B a1 a2 b1
  have e1 := sm_iw h1 b2 b3
  have e6 := sm_iw h6 b2 b3
  have l6 := xi_blt l6
  have l1 := of_decide_eq_true l1
  subst l1
  have e1 : F 1 = 4294967295 := e1
  have z : ∀ k, 11 ≤ k → k < 36 → F k = 0 := fun k k1 k2 => by
    have h := b3 k
    rw [sm_qr hq k1 k2] at h
    exact (n_eq (b2 k) (by omega)).mp (Value.int.inj h)
  have hl : 24 ≤ FL.length := by
    rcases Nat.lt_or_ge 24 FL.length with g | g
    · omega
    · rw [List.getElem?_eq_none g] at a3; cases a3
  have g0 : ∀ k, k ≠ 6 → rf_t0 F k = F k := fun k hk => xn_un _ _ hk
  have g6 : rf_t0 F 6 = F 6 + 1 := xn_ue _ _ _
  have hk : rf_tik F 0 := by
    refine ⟨⟨?_, fun h => ?_, ?_, fun h => ?_⟩, ?_, fun r hr => ?_, fun r q hr hq => ?_⟩
    · rw [g0 11 (by omega), z 11 (by omega) (by omega)]; omega
    · rw [g0 11 (by omega), z 11 (by omega) (by omega)] at h; omega
    · rw [g6, e6]; omega
    · rw [g0 11 (by omega), z 11 (by omega) (by omega)] at h; omega
    · show rf_t0 F 1 = _
      rw [g0 1 (by omega)]; exact e1
    · show rf_t0 F (12 + r) < _
      rw [g0 _ (by omega), z _ (by omega) (by omega)]; omega
    · show rf_t0 F (20 + 4 * r + q) < _
      rw [g0 _ (by omega), z _ (by omega) (by omega)]; omega
  rw [ag_sx [.ref 670] AV hs]
  obtain ⟨d, rfl⟩ : ∃ k, d = k + 4 := ⟨d - 4, by omega⟩
  have r := rf_tick B hl d F 0 0 (sm_n n) 0 hk
  have eo : rf_o W0 670 (7, FL) (sm_n n) = W0 := by
    unfold rf_o rf_oo
    have : FL.set 23 (.int (Int32.ofNat (sm_n n))) = FL := by
      apply List.ext_getElem?
      intro k
      by_cases g : 23 = k
      · subst g
        rw [List.getElem?_set_self (by omega), a4, sm_of]
      · rw [List.getElem?_set_ne g]
    rw [this]
    exact set_same a1
  rw [show rf_tn 0 (rf_t0 F) (sm_n n) = sm_n n from rfl, eo, e] at r
  refine sm_fin r rfl (sm_set hw 671 98262 (fun k => ?_))
  show ag_v _ (.int (Int32.ofNat (rf_t0 F k)))
  by_cases g : k = 6
  · subst g
    rw [g6, e6]
    rfl
  · rw [g0 k g]
    have hb : Nat.beq 6 k = false := ag_beqF.mpr (fun e => g e.symm)
    unfold ab_rd
    rw [hb, cond_false]
    exact b3 k
