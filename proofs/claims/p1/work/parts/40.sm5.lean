/-! all that is known, in one -/
def cw_any (v : ab_V) : Bool := match v with
  | .inl (.int _) => true
  | .inr _ => true
  | _ => false
theorem cw_anyw {v : ab_V} {V : Value} (hv : ag_v v V) (h : cw_any v = true) : ∃ t : Nat, V = .int (Int32.ofNat t) ∧ t < 4294967296 := by
  unfold cw_any at h
  split at h
  · rename_i x
    exact ⟨sm_n x, by rw [sm_of]; exact hv, sm_lt x⟩
  · obtain ⟨x, h1, _⟩ := hv
    exact ⟨sm_n x, by rw [sm_of]; exact h1, sm_lt x⟩
  · cases h
abbrev sm_A : Type := List ab_V → ab_W → Option (Option (Option ab_V × ab_W))
def sm_y (v : Option ab_V) (w : ab_W) : Option (Option (Option ab_V × ab_W)) := some (some (v, w))
theorem sm_yc {b : Bool} {v v' : Option ab_V} {w w' : ab_W} (h : cond b (sm_y v w) none = some (some (v', w'))) : b = true ∧ v' = v ∧ w' = w := by
  cases b with
  | false => cases h
  | true =>
    have e : (v, w) = (v', w') := Option.some.inj (Option.some.inj h)
    cases e
    exact ⟨rfl, rfl, rfl⟩
def S178 : sm_A := fun av w => match av with
  | [.inl (.ref o), .inl (.int x)] => cond (Nat.beq o 670 && (sm_in x && sm_ok w)) (sm_y (none) (w)) none
  | _ => none
theorem S178_ok {av : List ab_V} {w : ab_W} {v : Option ab_V} {w2 : ab_W} (h : S178 av w = some (some (v, w2))) : sm_gr 178 av w v w2 := by
  unfold S178 at h
  split at h
  · obtain ⟨hc, rfl, rfl⟩ := sm_yc h
    simp only [Bool.and_eq_true] at hc
    obtain ⟨h1, h2, h3⟩ := hc
    have e := Nat.eq_of_beq_eq_true h1
    subst e
    exact sm_clear h3 h2
  · cases h
def S179 : sm_A := fun av w => match av with
  | [.inl (.ref o), .inl (.int x), .inl (.int y)] => cond (Nat.beq o 670 && (sm_in x && (sm_in y && (sm_sep x y && sm_ok w)))) (sm_y (none) (w)) none
  | _ => none
theorem S179_ok {av : List ab_V} {w : ab_W} {v : Option ab_V} {w2 : ab_W} (h : S179 av w = some (some (v, w2))) : sm_gr 179 av w v w2 := by
  unfold S179 at h
  split at h
  · obtain ⟨hc, rfl, rfl⟩ := sm_yc h
    simp only [Bool.and_eq_true] at hc
    obtain ⟨h1, h2, h3, h4, h5⟩ := hc
    have e := Nat.eq_of_beq_eq_true h1
    subst e
    exact sm_copyS h5 h2 h3 h4
  · cases h
def S180 : sm_A := fun av w => match av with
  | [.inl (.ref o), .inl (.int x), .inl (.int y)] => cond (Nat.beq o 670 && (sm_in x && (sm_in y && sm_ok w))) (sm_y (some (.inl (.int 1))) (w)) none
  | _ => none
theorem S180_ok {av : List ab_V} {w : ab_W} {v : Option ab_V} {w2 : ab_W} (h : S180 av w = some (some (v, w2))) : sm_gr 180 av w v w2 := by
  unfold S180 at h
  split at h
  · obtain ⟨hc, rfl, rfl⟩ := sm_yc h
    simp only [Bool.and_eq_true] at hc
    obtain ⟨h1, h2, h3, h4⟩ := hc
    have e := Nat.eq_of_beq_eq_true h1
    subst e
    exact sm_alike h4 h2 h3
  · cases h
def S183 : sm_A := fun av w => match av with
  | [.inl (.ref o), .inl (.int x), .inl (.int y)] => cond (Nat.beq o 670 && (sm_in x && (sm_in y && (sm_joi x && (sm_joi y && sm_ok w))))) (sm_y (none) (w)) none
  | _ => none
theorem S183_ok {av : List ab_V} {w : ab_W} {v : Option ab_V} {w2 : ab_W} (h : S183 av w = some (some (v, w2))) : sm_gr 183 av w v w2 := by
  unfold S183 at h
  split at h
  · obtain ⟨hc, rfl, rfl⟩ := sm_yc h
    simp only [Bool.and_eq_true] at hc
    obtain ⟨h1, h2, h3, h4, h5, h6⟩ := hc
    have e := Nat.eq_of_beq_eq_true h1
    subst e
    exact sm_merge h6 h2 h3 h4 h5
  · cases h
def S169 : sm_A := fun av w => match av with
  | [.inl (.ref o), .inl (.int x), t] => cond (Nat.beq o 670 && (sm_in x && (sm_rng t 0 255 && sm_ok w))) (sm_y (some (.inl (.int 0))) (w)) none
  | _ => none
theorem S169_ok {av : List ab_V} {w : ab_W} {v : Option ab_V} {w2 : ab_W} (h : S169 av w = some (some (v, w2))) : sm_gr 169 av w v w2 := by
  unfold S169 at h
  split at h
  · obtain ⟨hc, rfl, rfl⟩ := sm_yc h
    simp only [Bool.and_eq_true] at hc
    obtain ⟨h1, h2, h3, h4⟩ := hc
    have e := Nat.eq_of_beq_eq_true h1
    subst e
    exact sm_known h4 h2 h3
  · cases h
def S264 : sm_A := fun av w => match av with
  | [.inl (.ref o)] => (match sm_obj w, sm_arr w 671 98262 with
    | some _, some u => (match sm_i u 2, sm_i u 4 with
      | some s2, some f4 => cond (Nat.beq o 670 && (Nat.blt (sm_n s2) 30 && Nat.blt (sm_n f4) 30)) (sm_y none (sm_a w ((2, .inl (.int (Int32.ofNat (sm_n s2 + 1)))) :: ab_cpy u u 6 (3372 + 3163 * ((sm_n f4 + sm_n s2) % 30)) 3163))) none
      | _, _ => none)
    | _, _ => none)
  | _ => none
theorem S264_ok {av : List ab_V} {w : ab_W} {v : Option ab_V} {w2 : ab_W} (h : S264 av w = some (some (v, w2))) : sm_gr 264 av w v w2 := by
  unfold S264 at h
  split at h
  · split at h
    · rename_i n u ho ha
      split at h
      · rename_i s2 f4 h2 h4
        obtain ⟨hc, rfl, rfl⟩ := sm_yc h
        simp only [Bool.and_eq_true] at hc
        obtain ⟨h1, l2, l4⟩ := hc
        have e := Nat.eq_of_beq_eq_true h1
        subst e
        exact sm_keep ho ha h2 h4 l2 l4
      · cases h
    · cases h
  · cases h
def S262 : sm_A := fun av w => match av with
  | [.inl (.ref o)] => (match sm_obj w, sm_arr w 671 98262 with
    | some _, some u => (match sm_i u 1, sm_i u 6 with
      | some t1, some c6 => cond (Nat.beq o 670 && (sm_q u && (decide (t1 = -1) && Nat.blt (sm_n c6) 1000000))) (sm_y none (sm_a w ((6, .inl (.int (Int32.ofNat (sm_n c6 + 1)))) :: u))) none
      | _, _ => none)
    | _, _ => none)
  | _ => none
theorem S262_ok {av : List ab_V} {w : ab_W} {v : Option ab_V} {w2 : ab_W} (h : S262 av w = some (some (v, w2))) : sm_gr 262 av w v w2 := by
  unfold S262 at h
  split at h
  · split at h
    · rename_i n u ho ha
      split at h
      · rename_i t1 c6 h1 h6
        obtain ⟨hc, rfl, rfl⟩ := sm_yc h
        simp only [Bool.and_eq_true] at hc
        obtain ⟨h0, lq, l1, l6⟩ := hc
        have e := Nat.eq_of_beq_eq_true h0
        subst e
        exact sm_tick ho ha lq h1 h6 l1 l6
      · cases h
    · cases h
  · cases h
def S293 : sm_A := fun av w => match av with
  | [.inl (.ref o)] => (match sm_obj w, sm_arr w 671 98262, sm_arr w 679 3163 with
    | some _, some u, some t => cond (Nat.beq o 670) (sm_y none (ab_s w 679 (.inl (.inl (.int, 3163, .inl (.int 0), ab_cpy u t 6 0 3163))))) none
    | _, _, _ => none)
  | _ => none
theorem S293_ok {av : List ab_V} {w : ab_W} {v : Option ab_V} {w2 : ab_W} (h : S293 av w = some (some (v, w2))) : sm_gr 293 av w v w2 := by
  unfold S293 at h
  split at h
  · split at h
    · rename_i n u t ho ha ht
      obtain ⟨hc, rfl, rfl⟩ := sm_yc h
      have e := Nat.eq_of_beq_eq_true hc
      subst e
      exact sm_aside ho ha ht
    · cases h
  · cases h
def S294 : sm_A := fun av w => match av with
  | [.inl (.ref o)] => (match sm_obj w, sm_arr w 671 98262, sm_arr w 679 3163 with
    | some _, some u, some t => cond (Nat.beq o 670) (sm_y none (sm_a w (ab_cpy t u 0 6 3163))) none
    | _, _, _ => none)
  | _ => none
theorem S294_ok {av : List ab_V} {w : ab_W} {v : Option ab_V} {w2 : ab_W} (h : S294 av w = some (some (v, w2))) : sm_gr 294 av w v w2 := by
  unfold S294 at h
  split at h
  · split at h
    · rename_i n u t ho ha ht
      obtain ⟨hc, rfl, rfl⟩ := sm_yc h
      have e := Nat.eq_of_beq_eq_true hc
      subst e
      exact sm_bring ho ha ht
    · cases h
  · cases h
def S158 : sm_A := fun av w => match av with
  | [.inl (.ref o), .inl (.ref p)] => (match sm_arr w o 98262, sm_arr w p 98262 with
    | some u, some t => cond (!Nat.beq o p) (sm_y none (ab_s w p (.inl (.inl (.int, 98262, .inl (.int 0), ab_cpy u t 0 0 98262))))) none
    | _, _ => none)
  | _ => none
theorem S158_ok {av : List ab_V} {w : ab_W} {v : Option ab_V} {w2 : ab_W} (h : S158 av w = some (some (v, w2))) : sm_gr 158 av w v w2 := by
  unfold S158 at h
  split at h
  · split at h
    · rename_i u t ha ht
      obtain ⟨hc, rfl, rfl⟩ := sm_yc h
      exact sm_copyA (by simpa using hc) ha ht
    · cases h
  · cases h
def S16 : sm_A := fun av w => match av with
  | [.inl (.ref o), v0, v1, v2] => (match cw w (o - 1) with
    | some _ => cond (sm_rng v0 0 54 && (cw_any v1 && (cw_any v2 && (Nat.beq (o - 1 + 1) o)))) (sm_y (some (.inl (.int 0))) w) none
    | none => none)
  | _ => none
theorem S16_ok {av : List ab_V} {w : ab_W} {v : Option ab_V} {w2 : ab_W} (h : S16 av w = some (some (v, w2))) : sm_gr 16 av w v w2 := by
  unfold S16 at h
  split at h
  · split at h
    · rename_i r hcw
      obtain ⟨hc, rfl, rfl⟩ := sm_yc h
      simp only [Bool.and_eq_true] at hc
      obtain ⟨c0, c1, c2, ce⟩ := hc
      intro d AV W0 hd hs hw
      obtain ⟨R, B, e, hk, hl, wk⟩ := cw_ok hw hcw
      have ce := Nat.eq_of_beq_eq_true ce
      obtain ⟨u, R0, rfl, a, u0, R1, rfl, a0, u1, R2, rfl, a1, u2, R3, rfl, a2, rfl⟩ := hs
      have a : u = .ref _ := a
      subst a
      obtain ⟨t0, rfl, t0a, t0b⟩ := sm_rngw (lo := 0) (hi := 54) a0 (by omega) c0
      obtain ⟨t1, rfl, t1b⟩ := cw_anyw a1 c1
      obtain ⟨t2, rfl, t2b⟩ := cw_anyw a2 c2
      obtain ⟨d, rfl⟩ : ∃ q, d = q + 2 := ⟨d - 2, by omega⟩
      have q := cz_many B d 0 0 (cw_F r) (cw_cz r) t0 t1 t2 (by omega) t1b t2b
      rw [e, show sI (_ - 1) 1 = _ from ce] at q
      exact sm_fin q ⟨_, rfl, rfl⟩ hw
    · cases h
  · cases h
def S20 : sm_A := fun av w => match av with
  | [.inl (.ref o), v0] => (match cw w (o - 1) with
    | some _ => cond (sm_rng v0 0 54 && (Nat.beq (o - 1 + 1) o)) (sm_y (some (.inl (.int 0))) w) none
    | none => none)
  | _ => none
theorem S20_ok {av : List ab_V} {w : ab_W} {v : Option ab_V} {w2 : ab_W} (h : S20 av w = some (some (v, w2))) : sm_gr 20 av w v w2 := by
  unfold S20 at h
  split at h
  · split at h
    · rename_i r hcw
      obtain ⟨hc, rfl, rfl⟩ := sm_yc h
      simp only [Bool.and_eq_true] at hc
      obtain ⟨c0, ce⟩ := hc
      intro d AV W0 hd hs hw
      obtain ⟨R, B, e, hk, hl, wk⟩ := cw_ok hw hcw
      have ce := Nat.eq_of_beq_eq_true ce
      obtain ⟨u, R0, rfl, a, u0, R1, rfl, a0, rfl⟩ := hs
      have a : u = .ref _ := a
      subst a
      obtain ⟨t0, rfl, t0a, t0b⟩ := sm_rngw (lo := 0) (hi := 54) a0 (by omega) c0
      obtain ⟨d, rfl⟩ : ∃ q, d = q + 2 := ⟨d - 2, by omega⟩
      have q := cz_keyBits B d 0 0 (cw_F r) (cw_cz r) t0 (by omega)
      rw [e, show sI (_ - 1) 1 = _ from ce] at q
      exact sm_fin q ⟨_, rfl, rfl⟩ hw
    · cases h
  · cases h
def S21 : sm_A := fun av w => match av with
  | [.inl (.ref o), v0] => (match cw w (o - 1) with
    | some _ => cond (sm_rng v0 0 54 && (Nat.beq (o - 1 + 1) o)) (sm_y (some (.inl (.int 0))) w) none
    | none => none)
  | _ => none
theorem S21_ok {av : List ab_V} {w : ab_W} {v : Option ab_V} {w2 : ab_W} (h : S21 av w = some (some (v, w2))) : sm_gr 21 av w v w2 := by
  unfold S21 at h
  split at h
  · split at h
    · rename_i r hcw
      obtain ⟨hc, rfl, rfl⟩ := sm_yc h
      simp only [Bool.and_eq_true] at hc
      obtain ⟨c0, ce⟩ := hc
      intro d AV W0 hd hs hw
      obtain ⟨R, B, e, hk, hl, wk⟩ := cw_ok hw hcw
      have ce := Nat.eq_of_beq_eq_true ce
      obtain ⟨u, R0, rfl, a, u0, R1, rfl, a0, rfl⟩ := hs
      have a : u = .ref _ := a
      subst a
      obtain ⟨t0, rfl, t0a, t0b⟩ := sm_rngw (lo := 0) (hi := 54) a0 (by omega) c0
      obtain ⟨d, rfl⟩ : ∃ q, d = q + 2 := ⟨d - 2, by omega⟩
      have q := cz_digestOf B d 0 0 (cw_F r) (cw_cz r) t0 (by omega)
      rw [e, show sI (_ - 1) 1 = _ from ce] at q
      exact sm_fin q ⟨_, rfl, rfl⟩ hw
    · cases h
  · cases h
def S19 : sm_A := fun av w => match av with
  | [.inl (.ref o), v0, v1] => (match cw w (o - 1) with
    | some _ => cond (sm_rng v0 0 54 && (cw_any v1 && (Nat.beq (o - 1 + 1) o))) (sm_y (some (.inl (.int 0))) w) none
    | none => none)
  | _ => none
theorem S19_ok {av : List ab_V} {w : ab_W} {v : Option ab_V} {w2 : ab_W} (h : S19 av w = some (some (v, w2))) : sm_gr 19 av w v w2 := by
  unfold S19 at h
  split at h
  · split at h
    · rename_i r hcw
      obtain ⟨hc, rfl, rfl⟩ := sm_yc h
      simp only [Bool.and_eq_true] at hc
      obtain ⟨c0, c1, ce⟩ := hc
      intro d AV W0 hd hs hw
      obtain ⟨R, B, e, hk, hl, wk⟩ := cw_ok hw hcw
      have ce := Nat.eq_of_beq_eq_true ce
      obtain ⟨u, R0, rfl, a, u0, R1, rfl, a0, u1, R2, rfl, a1, rfl⟩ := hs
      have a : u = .ref _ := a
      subst a
      obtain ⟨t0, rfl, t0a, t0b⟩ := sm_rngw (lo := 0) (hi := 54) a0 (by omega) c0
      obtain ⟨t1, rfl, t1b⟩ := cw_anyw a1 c1
      obtain ⟨d, rfl⟩ : ∃ q, d = q + 2 := ⟨d - 2, by omega⟩
      have q := cz_total B d 0 0 (cw_F r) (cw_cz r) t0 t1 (by omega) t1b
      rw [e, show sI (_ - 1) 1 = _ from ce] at q
      exact sm_fin q ⟨_, rfl, rfl⟩ hw
    · cases h
  · cases h
def S17 : sm_A := fun av w => match av with
  | [.inl (.ref o), v0, v1, v2, v3] => (match cw w (o - 1) with
    | some _ => cond (sm_rng v0 0 54 && (cw_any v1 && (cw_any v2 && (cw_any v3 && (Nat.beq (o - 1 + 1) o))))) (sm_y (some (.inl (.int (-1)))) w) none
    | none => none)
  | _ => none
theorem S17_ok {av : List ab_V} {w : ab_W} {v : Option ab_V} {w2 : ab_W} (h : S17 av w = some (some (v, w2))) : sm_gr 17 av w v w2 := by
  unfold S17 at h
  split at h
  · split at h
    · rename_i r hcw
      obtain ⟨hc, rfl, rfl⟩ := sm_yc h
      simp only [Bool.and_eq_true] at hc
      obtain ⟨c0, c1, c2, c3, ce⟩ := hc
      intro d AV W0 hd hs hw
      obtain ⟨R, B, e, hk, hl, wk⟩ := cw_ok hw hcw
      have ce := Nat.eq_of_beq_eq_true ce
      obtain ⟨u, R0, rfl, a, u0, R1, rfl, a0, u1, R2, rfl, a1, u2, R3, rfl, a2, u3, R4, rfl, a3, rfl⟩ := hs
      have a : u = .ref _ := a
      subst a
      obtain ⟨t0, rfl, t0a, t0b⟩ := sm_rngw (lo := 0) (hi := 54) a0 (by omega) c0
      obtain ⟨t1, rfl, t1b⟩ := cw_anyw a1 c1
      obtain ⟨t2, rfl, t2b⟩ := cw_anyw a2 c2
      obtain ⟨t3, rfl, t3b⟩ := cw_anyw a3 c3
      obtain ⟨d, rfl⟩ : ∃ q, d = q + 2 := ⟨d - 2, by omega⟩
      have q := cz_nth B d 0 0 (cw_F r) (cw_cz r) t0 t1 t2 (Int32.ofNat t3) (by omega) t1b t2b
      rw [e, show sI (_ - 1) 1 = _ from ce] at q
      exact sm_fin q ⟨_, rfl, rfl⟩ hw
    · cases h
  · cases h
def S5 : sm_A := fun av w => match av with
  | [.inl (.ref o), v0, v1] => (match cw w (o - 1) with
    | some _ => cond (sm_rng v0 0 54 && (sm_rng v1 0 54 && (Nat.beq (o - 1 + 1) o))) (sm_y (none) w) none
    | none => none)
  | _ => none
theorem S5_ok {av : List ab_V} {w : ab_W} {v : Option ab_V} {w2 : ab_W} (h : S5 av w = some (some (v, w2))) : sm_gr 5 av w v w2 := by
  unfold S5 at h
  split at h
  · split at h
    · rename_i r hcw
      obtain ⟨hc, rfl, rfl⟩ := sm_yc h
      simp only [Bool.and_eq_true] at hc
      obtain ⟨c0, c1, ce⟩ := hc
      intro d AV W0 hd hs hw
      obtain ⟨R, B, e, hk, hl, wk⟩ := cw_ok hw hcw
      have ce := Nat.eq_of_beq_eq_true ce
      obtain ⟨u, R0, rfl, a, u0, R1, rfl, a0, u1, R2, rfl, a1, rfl⟩ := hs
      have a : u = .ref _ := a
      subst a
      obtain ⟨t0, rfl, t0a, t0b⟩ := sm_rngw (lo := 0) (hi := 54) a0 (by omega) c0
      obtain ⟨t1, rfl, t1a, t1b⟩ := sm_rngw (lo := 0) (hi := 54) a1 (by omega) c1
      obtain ⟨d, rfl⟩ : ∃ q, d = q + 0 := ⟨d - 0, by omega⟩
      have q := cz_merge B d 0 0 (cw_F r) (cw_cz r) t0 t1 (by omega) (by omega)
      rw [e, show sI (_ - 1) 1 = _ from ce] at q
      exact sm_fin q rfl hw
    · cases h
  · cases h
def S11 : sm_A := fun av w => match av with
  | [.inl (.ref o), v0, v1, v2] => (match cw w (o - 1) with
    | some _ => cond (sm_rng v0 0 54 && (sm_rng v1 0 3 && (sm_rng v2 1 63 && (Nat.beq (o - 1 + 1) o)))) (sm_y (some (.inl (.int 0))) w) none
    | none => none)
  | _ => none
theorem S11_ok {av : List ab_V} {w : ab_W} {v : Option ab_V} {w2 : ab_W} (h : S11 av w = some (some (v, w2))) : sm_gr 11 av w v w2 := by
  unfold S11 at h
  split at h
  · split at h
    · rename_i r hcw
      obtain ⟨hc, rfl, rfl⟩ := sm_yc h
      simp only [Bool.and_eq_true] at hc
      obtain ⟨c0, c1, c2, ce⟩ := hc
      intro d AV W0 hd hs hw
      obtain ⟨R, B, e, hk, hl, wk⟩ := cw_ok hw hcw
      have ce := Nat.eq_of_beq_eq_true ce
      obtain ⟨u, R0, rfl, a, u0, R1, rfl, a0, u1, R2, rfl, a1, u2, R3, rfl, a2, rfl⟩ := hs
      have a : u = .ref _ := a
      subst a
      obtain ⟨t0, rfl, t0a, t0b⟩ := sm_rngw (lo := 0) (hi := 54) a0 (by omega) c0
      obtain ⟨t1, rfl, t1a, t1b⟩ := sm_rngw (lo := 0) (hi := 3) a1 (by omega) c1
      obtain ⟨t2, rfl, t2a, t2b⟩ := sm_rngw (lo := 1) (hi := 63) a2 (by omega) c2
      obtain ⟨d, rfl⟩ : ∃ q, d = q + 0 := ⟨d - 0, by omega⟩
      have q := cz_isKnown B d 0 0 (cw_F r) (cw_cz r) t0 t1 t2 (by omega) (by omega) (by omega) (by omega)
      rw [e, show sI (_ - 1) 1 = _ from ce] at q
      exact sm_fin q ⟨_, rfl, rfl⟩ hw
    · cases h
  · cases h
def S78 : sm_A := fun av w => match av with
  | [.inl (.ref k), .inl (.ref p)] => (match cw w k with
    | some [x0, x1, x2, x3, x4, x5] => cond (Nat.beq p 338 && (decide (x0 = 0) && Nat.blt (sm_n x2) 1000000)) (sm_y (some (.inl (.int 0))) (ab_s w k (.inr (5, (cw_fl k ++ [Value.int x0, Value.int x1, Value.int (Int32.ofNat (sm_n x2 + 1)), Value.int x3, Value.int x4, Value.int x5]).map Sum.inl)))) none
    | _ => none)
  | _ => none
theorem ag_sy : ∀ (l : List Value), ag_s (l.map Sum.inl) l
  | [] => rfl
  | a :: r => ⟨a, r, rfl, rfl, ag_sy r⟩
theorem S78_ok {av : List ab_V} {w : ab_W} {v : Option ab_V} {w2 : ab_W} (h : S78 av w = some (some (v, w2))) : sm_gr 78 av w v w2 := by
  unfold S78 at h
  split at h
  · rename_i k p
    split at h
    · rename_i x0 x1 x2 x3 x4 x5 hcw
      obtain ⟨hc, rfl, rfl⟩ := sm_yc h
      simp only [Bool.and_eq_true] at hc
      obtain ⟨c1, c2, c3⟩ := hc
      have c1 := Nat.eq_of_beq_eq_true c1
      have c2 := of_decide_eq_true c2
      have c3 := xi_blt c3
      subst c1
      subst c2
      intro d AV W0 hd hs hw
      obtain ⟨R, B, e, hk, hl, wk⟩ := cw_ok hw hcw
      rw [ag_sx [.ref k, .ref 338] AV hs]
      obtain ⟨d, rfl⟩ : ∃ q, d = q + 5 := ⟨d - 5, by omega⟩
      have f8 : cw_F [0, x1, x2, x3, x4, x5] 8 = 0 := rfl
      have f40 : cw_F [0, x1, x2, x3, x4, x5] 40 = sm_n x2 := rfl
      have fz : ∀ q, q % 16 ≠ 8 → cw_F [0, x1, x2, x3, x4, x5] q = 0 := fun q hq => if_neg hq
      have g8 : cn_t0 (cw_F [0, x1, x2, x3, x4, x5]) 8 = 0 := f8
      have gz : ∀ q, q % 16 ≠ 8 → cn_t0 (cw_F [0, x1, x2, x3, x4, x5]) q = 0 := fun q hq => by
        unfold cn_t0
        rw [xn_un _ _ (by omega)]
        exact fz q hq
      have n0 : ¬ (0 < cn_t0 (cw_F [0, x1, x2, x3, x4, x5]) 8 ∧ cn_t0 (cw_F [0, x1, x2, x3, x4, x5]) (16 * 2 + 6) ≤ cn_t0 (cw_F [0, x1, x2, x3, x4, x5]) 40) := fun h => by
        rw [g8] at h; omega
      have tl : cn_tic (cw_F [0, x1, x2, x3, x4, x5]) = cn_t0 (cw_F [0, x1, x2, x3, x4, x5]) := by
        unfold cn_tic cn_tl
        rw [if_neg n0]
      have tn : cn_tn 24 (cn_t0 (cw_F [0, x1, x2, x3, x4, x5])) 0 = 0 := by
        unfold cn_tn
        rw [if_neg n0]
      have hti : cn_tik (cw_F [0, x1, x2, x3, x4, x5]) := by
        refine ⟨?_, ?_⟩
        · unfold cn_tlk
          refine ⟨by rw [g8]; omega, fun h => by rw [g8] at h; omega, ?_, fun h => absurd h n0⟩
          show sm_n x2 + 1 < 2147483648
          omega
        · rw [tl]
          exact ⟨fun r hr => by rw [gz _ (by omega)]; omega, fun r q hr hq => by rw [gz _ (by omega), gz _ (by omega)]; omega⟩
      have q := cn_tick B d (cw_F [0, x1, x2, x3, x4, x5]) 0 0 hti
      rw [tl, tn, e] at q
      refine sm_fin q ⟨_, rfl, rfl⟩ ?_
      have hp := cn_p2 B (cw_F [0, x1, x2, x3, x4, x5]) (sm_n x2 + 1)
      have hp2 : cn_w W0 (sI k) (cn_t0 (cw_F [0, x1, x2, x3, x4, x5])) = W0.set k (.inr (5, cw_fl k ++ [.int 0, .int x1, .int (Int32.ofNat (sm_n x2 + 1)), .int x3, .int x4, .int x5])) := by
        rw [e] at hp
        rw [show cn_t0 (cw_F [0, x1, x2, x3, x4, x5]) = xn_u (cw_F [0, x1, x2, x3, x4, x5]) (16 * 2 + 8) (sm_n x2 + 1) from rfl, ← hp]
        have hl2 : (cn_Wl (sI k) (cw_F [0, x1, x2, x3, x4, x5])).set 8 (.int (Int32.ofNat (sm_n x2 + 1))) = cw_fl k ++ [.int 0, .int x1, .int (Int32.ofNat (sm_n x2 + 1)), .int x3, .int x4, .int x5] := by
          show [Value.ref (k + 1), Value.ref (k + 5), Value.ref (k + 6), Value.ref (k + 7), Value.ref (k + 8), Value.ref (k + 9), Value.int (Int32.ofNat (sm_n 0)), Value.int (Int32.ofNat (sm_n x1)), Value.int (Int32.ofNat (sm_n x2 + 1)), Value.int (Int32.ofNat (sm_n x3)), Value.int (Int32.ofNat (sm_n x4)), Value.int (Int32.ofNat (sm_n x5))] = _
          rw [sm_of, sm_of, sm_of, sm_of, sm_of]
          rfl
        rw [hl2]
        rfl
      rw [hp2]
      exact hw.set k ⟨_, rfl, ag_sy _⟩
    · cases h
  · cases h
/-- all that is known -/
def sm_S : ab_S := fun j av w => cond (Nat.beq j 178) (S178 av w) (cond (Nat.beq j 179) (S179 av w) (cond (Nat.beq j 180) (S180 av w) (cond (Nat.beq j 183) (S183 av w) (cond (Nat.beq j 169) (S169 av w) (cond (Nat.beq j 264) (S264 av w) (cond (Nat.beq j 262) (S262 av w) (cond (Nat.beq j 293) (S293 av w) (cond (Nat.beq j 294) (S294 av w) (cond (Nat.beq j 158) (S158 av w) (cond (Nat.beq j 16) (S16 av w) (cond (Nat.beq j 20) (S20 av w) (cond (Nat.beq j 21) (S21 av w) (cond (Nat.beq j 19) (S19 av w) (cond (Nat.beq j 17) (S17 av w) (cond (Nat.beq j 5) (S5 av w) (cond (Nat.beq j 11) (S11 av w) (cond (Nat.beq j 78) (S78 av w) (none))))))))))))))))))
theorem sm_Sok : ag_Sok sm_S := by
  intro j av w v w2 h
  have go : sm_gr j av w v w2 := by
    unfold sm_S at h
    by_cases e178 : Nat.beq j 178 = true
    · rw [e178, cond_true] at h
      have e := Nat.eq_of_beq_eq_true e178
      subst e
      exact S178_ok h
    rw [show Nat.beq j 178 = false from Bool.eq_false_iff.mpr e178, cond_false] at h
    by_cases e179 : Nat.beq j 179 = true
    · rw [e179, cond_true] at h
      have e := Nat.eq_of_beq_eq_true e179
      subst e
      exact S179_ok h
    rw [show Nat.beq j 179 = false from Bool.eq_false_iff.mpr e179, cond_false] at h
    by_cases e180 : Nat.beq j 180 = true
    · rw [e180, cond_true] at h
      have e := Nat.eq_of_beq_eq_true e180
      subst e
      exact S180_ok h
    rw [show Nat.beq j 180 = false from Bool.eq_false_iff.mpr e180, cond_false] at h
    by_cases e183 : Nat.beq j 183 = true
    · rw [e183, cond_true] at h
      have e := Nat.eq_of_beq_eq_true e183
      subst e
      exact S183_ok h
    rw [show Nat.beq j 183 = false from Bool.eq_false_iff.mpr e183, cond_false] at h
    by_cases e169 : Nat.beq j 169 = true
    · rw [e169, cond_true] at h
      have e := Nat.eq_of_beq_eq_true e169
      subst e
      exact S169_ok h
    rw [show Nat.beq j 169 = false from Bool.eq_false_iff.mpr e169, cond_false] at h
    by_cases e264 : Nat.beq j 264 = true
    · rw [e264, cond_true] at h
      have e := Nat.eq_of_beq_eq_true e264
      subst e
      exact S264_ok h
    rw [show Nat.beq j 264 = false from Bool.eq_false_iff.mpr e264, cond_false] at h
    by_cases e262 : Nat.beq j 262 = true
    · rw [e262, cond_true] at h
      have e := Nat.eq_of_beq_eq_true e262
      subst e
      exact S262_ok h
    rw [show Nat.beq j 262 = false from Bool.eq_false_iff.mpr e262, cond_false] at h
    by_cases e293 : Nat.beq j 293 = true
    · rw [e293, cond_true] at h
      have e := Nat.eq_of_beq_eq_true e293
      subst e
      exact S293_ok h
    rw [show Nat.beq j 293 = false from Bool.eq_false_iff.mpr e293, cond_false] at h
    by_cases e294 : Nat.beq j 294 = true
    · rw [e294, cond_true] at h
      have e := Nat.eq_of_beq_eq_true e294
      subst e
      exact S294_ok h
    rw [show Nat.beq j 294 = false from Bool.eq_false_iff.mpr e294, cond_false] at h
    by_cases e158 : Nat.beq j 158 = true
    · rw [e158, cond_true] at h
      have e := Nat.eq_of_beq_eq_true e158
      subst e
      exact S158_ok h
    rw [show Nat.beq j 158 = false from Bool.eq_false_iff.mpr e158, cond_false] at h
    by_cases e16 : Nat.beq j 16 = true
    · rw [e16, cond_true] at h
      have e := Nat.eq_of_beq_eq_true e16
      subst e
      exact S16_ok h
    rw [show Nat.beq j 16 = false from Bool.eq_false_iff.mpr e16, cond_false] at h
    by_cases e20 : Nat.beq j 20 = true
    · rw [e20, cond_true] at h
      have e := Nat.eq_of_beq_eq_true e20
      subst e
      exact S20_ok h
    rw [show Nat.beq j 20 = false from Bool.eq_false_iff.mpr e20, cond_false] at h
    by_cases e21 : Nat.beq j 21 = true
    · rw [e21, cond_true] at h
      have e := Nat.eq_of_beq_eq_true e21
      subst e
      exact S21_ok h
    rw [show Nat.beq j 21 = false from Bool.eq_false_iff.mpr e21, cond_false] at h
    by_cases e19 : Nat.beq j 19 = true
    · rw [e19, cond_true] at h
      have e := Nat.eq_of_beq_eq_true e19
      subst e
      exact S19_ok h
    rw [show Nat.beq j 19 = false from Bool.eq_false_iff.mpr e19, cond_false] at h
    by_cases e17 : Nat.beq j 17 = true
    · rw [e17, cond_true] at h
      have e := Nat.eq_of_beq_eq_true e17
      subst e
      exact S17_ok h
    rw [show Nat.beq j 17 = false from Bool.eq_false_iff.mpr e17, cond_false] at h
    by_cases e5 : Nat.beq j 5 = true
    · rw [e5, cond_true] at h
      have e := Nat.eq_of_beq_eq_true e5
      subst e
      exact S5_ok h
    rw [show Nat.beq j 5 = false from Bool.eq_false_iff.mpr e5, cond_false] at h
    by_cases e11 : Nat.beq j 11 = true
    · rw [e11, cond_true] at h
      have e := Nat.eq_of_beq_eq_true e11
      subst e
      exact S11_ok h
    rw [show Nat.beq j 11 = false from Bool.eq_false_iff.mpr e11, cond_false] at h
    by_cases e78 : Nat.beq j 78 = true
    · rw [e78, cond_true] at h
      have e := Nat.eq_of_beq_eq_true e78
      subst e
      exact S78_ok h
    rw [show Nat.beq j 78 = false from Bool.eq_false_iff.mpr e78, cond_false] at h
    cases h
  intro d AV W0 hd hs hw
  exact go d AV W0 hd hs hw
