/-! the class as it stands in the memory: now at 23, trial at 33, steps at 43, their worlds from 45 on -/
def cmx (nn : Nat) (f : Nat → Int32) (q dl tx sy T N fi m mm : Nat) (G : Nat → Nat) (GS : Nat → Nat → Nat) (W : xi_W) : Prop :=
  rl_ok nn f q dl tx sy T W ∧ (∃ lf lp : Int32, W[17]? = some (.inr (6, [.ref 18, .int lf, .int lp, .ref 23, .ref 33, .ref 43, .ref 355, .ref 360, .ref 370, .ref 682]))) ∧
  W[43]? = some (.inr (3, [.ref 44, .int (Int32.ofNat fi), .int (Int32.ofNat m)])) ∧ (∃ WF : Nat → Option Nat, W[44]? = some (.inl (.object "DeltaNests$World", 31, .inr (.inr WF))) ∧ ∀ i, i < 31 → WF i = some (45 + 10 * i)) ∧
  (fi < 31 ∧ m ≤ mm ∧ mm ≤ 31 ∧ m ≤ 30) ∧ (∃ F, kw W 23 F ∧ RL (G 0 + 1) N G F) ∧ (∃ F, kw W 33 F) ∧
  (∀ i, i < 31 → ∃ F, kw W (45 + 10 * i) F ∧ ∀ k, k < mm → (fi + k) % 31 = i → RL (GS k 0 + 1) N (GS k) F) ∧ G 5 = dl ∧ (∀ k, k < mm → GS k 5 = dl) ∧ q < 2
theorem wb23 : wb 23 := by unfold wb; omega
theorem wb33 : wb 33 := by unfold wb; omega
theorem wbS {i : Nat} (h : i < 31) : wb (45 + 10 * i) := by unfold wb; omega
/-- what a method of now writes into -/
theorem cmx.now {nn : Nat} {f : Nat → Int32} {q dl tx sy T N N' fi m mm : Nat} {G G' : Nat → Nat} {GS : Nat → Nat → Nat} {W W' : xi_W} {F' : Nat → Nat} (h : cmx nn f q dl tx sy T N fi m mm G GS W) (hf : fr (kr 23) W W') (hw : kw W' 23 F') (hs : rus W') (hr : RL (G' 0 + 1) N' G' F') (hd : G' 5 = dl) (hN : N ≤ N') : cmx nn f q dl tx sy T N' fi m mm G' GS W' := by
  obtain ⟨h1, ⟨lf, lp, h2⟩, h3, ⟨WF, h4, h5⟩, h6, h7, ⟨F3, h8⟩, h9, h10, h11, h12⟩ := h
  have k : ∀ i, kr 23 i → (23 ≤ i ∧ i < 33) ∨ i = 358 ∨ i = 359 := fun i hi => by unfold kr kin rin at hi; omega
  refine ⟨h1.kr wb23 hf hs, ⟨lf, lp, hf.at h2 (fun z => by have := k _ z; omega)⟩, hf.at h3 (fun z => by have := k _ z; omega), ⟨WF, hf.at h4 (fun z => by have := k _ z; omega), h5⟩, h6, ⟨F', hw, hr⟩, ⟨F3, h8.keep wb33 h1.1 hf (fun i z1 z2 z => by have := k _ z; omega)⟩, fun i hi => ?_, hd, h11, h12⟩
  obtain ⟨Fi, a1, a2⟩ := h9 i hi
  exact ⟨Fi, a1.keep (wbS hi) h1.1 hf (fun j z1 z2 z => by have := k _ z; omega), fun k hk e => (a2 k hk e).mono hN⟩
/-- what a method of trial writes into -/
theorem cmx.trial {nn : Nat} {f : Nat → Int32} {q dl tx sy T N fi m mm : Nat} {G : Nat → Nat} {GS : Nat → Nat → Nat} {W W' : xi_W} {F' : Nat → Nat} (h : cmx nn f q dl tx sy T N fi m mm G GS W) (hf : fr (kr 33) W W') (hw : kw W' 33 F') (hs : rus W') : cmx nn f q dl tx sy T N fi m mm G GS W' := by
  obtain ⟨h1, ⟨lf, lp, h2⟩, h3, ⟨WF, h4, h5⟩, h6, ⟨F0, h7, h7b⟩, h8, h9, h10, h11, h12⟩ := h
  have k : ∀ i, kr 33 i → (33 ≤ i ∧ i < 43) ∨ i = 358 ∨ i = 359 := fun i hi => by unfold kr kin rin at hi; omega
  refine ⟨h1.kr wb33 hf hs, ⟨lf, lp, hf.at h2 (fun z => by have := k _ z; omega)⟩, hf.at h3 (fun z => by have := k _ z; omega), ⟨WF, hf.at h4 (fun z => by have := k _ z; omega), h5⟩, h6, ⟨F0, h7.keep wb23 h1.1 hf (fun i z1 z2 z => by have := k _ z; omega), h7b⟩, ⟨F', hw⟩, fun i hi => ?_, h10, h11, h12⟩
  obtain ⟨Fi, a1, a2⟩ := h9 i hi
  exact ⟨Fi, a1.keep (wbS hi) h1.1 hf (fun j z1 z2 z => by have := k _ z; omega), a2⟩
theorem cmx.less {nn : Nat} {f : Nat → Int32} {q dl tx sy T N fi m mm mm' : Nat} {G : Nat → Nat} {GS : Nat → Nat → Nat} {W : xi_W} (h : cmx nn f q dl tx sy T N fi m mm G GS W) (h1 : m ≤ mm') (h2 : mm' ≤ mm) : cmx nn f q dl tx sy T N fi m mm' G GS W := by
  obtain ⟨a1, a2, a3, a4, a5, a6, a7, a8, a9, a10, a11⟩ := h
  exact ⟨a1, a2, a3, a4, ⟨a5.1, h1, by omega, a5.2.2.2⟩, a6, a7, fun i hi => by
    obtain ⟨F, b1, b2⟩ := a8 i hi
    exact ⟨F, b1, fun k hk e => b2 k (by omega) e⟩, a9, fun k hk => a10 k (by omega), a11⟩
theorem cmx.ext {nn : Nat} {f : Nat → Int32} {q dl tx sy T N fi m mm : Nat} {G : Nat → Nat} {GS GS' : Nat → Nat → Nat} {W : xi_W} (h : cmx nn f q dl tx sy T N fi m mm G GS W) (e : ∀ k, k < mm → GS' k = GS k) : cmx nn f q dl tx sy T N fi m mm G GS' W := by
  obtain ⟨a1, a2, a3, a4, a5, a6, a7, a8, a9, a10, a11⟩ := h
  exact ⟨a1, a2, a3, a4, a5, a6, a7, fun i hi => by
    obtain ⟨F, b1, b2⟩ := a8 i hi
    exact ⟨F, b1, fun k hk y => by rw [e k hk]; exact b2 k hk y⟩, a9, fun k hk => by rw [e k hk]; exact a10 k hk, a11⟩
theorem cmx.mono {nn : Nat} {f : Nat → Int32} {q dl tx sy T N N' fi m mm : Nat} {G : Nat → Nat} {GS : Nat → Nat → Nat} {W : xi_W} (h : cmx nn f q dl tx sy T N fi m mm G GS W) (hN : N ≤ N') : cmx nn f q dl tx sy T N' fi m mm G GS W := by
  obtain ⟨a1, a2, a3, a4, a5, ⟨F0, a6, a6b⟩, a7, a8, a9, a10, a11⟩ := h
  exact ⟨a1, a2, a3, a4, a5, ⟨F0, a6, a6b.mono hN⟩, a7, fun i hi => by
    obtain ⟨F, b1, b2⟩ := a8 i hi
    exact ⟨F, b1, fun k hk y => (b2 k hk y).mono hN⟩, a9, a10, a11⟩
theorem xs_oln {d i pc a n : Nat} {C : String} {f : Nat → Option Nat} {l : xi_L} {st : List Value} {w : xi_W} {c s : Nat} {r : xi_R → Prop} (hw : w[a]? = some (.inl (.object C, n, .inr (.inr f)))) (hc : xt_cd i pc = some .arraylength) (h : xr d i (pc + 1) l (.int (Int32.ofNat n) :: st) w c s r) : xr d i pc l (.ref a :: st) w c s r :=
  xr_stp hc rfl rfl (by simp only [xi_stp, hw]) h
theorem st_slot (d c s S A fi m k : Nat) (W : xi_W) (WF : Nat → Option Nat) (hS : W[S]? = some (.inr (3, [.ref A, .int (Int32.ofNat fi), .int (Int32.ofNat m)]))) (hA : W[A]? = some (.inl (.object "DeltaNests$World", 31, .inr (.inr WF)))) (h1 : fi < 31) (h2 : k < 100) (r : xi_R → Prop) (K : r (some (.int (Int32.ofNat ((fi + k) % 31))), W, c, s)) : xr d 61 0 [(0, .ref S), (1, .int (Int32.ofNat k))] [] W c s r := by
  refine xr_stp rfl rfl rfl rfl ?_
  refine xr_getfield hS rfl rfl rfl rfl ?_
  refine xr_stp rfl rfl rfl rfl ?_
  refine xs_add rfl ?_
  refine xr_stp rfl rfl rfl rfl ?_
  refine xr_getfield hS rfl rfl rfl rfl ?_
  refine xs_oln hA rfl ?_
  refine xs_mod (by omega) (by omega) (by omega) rfl ?_
  exact xr_ret rfl rfl K
/-- 'stage': the world now lies in the place behind those that are kept -/
theorem st_stage (d c s nn q dl tx sy T N fi m mm : Nat) (f : Nat → Int32) (W0 : xi_W) (G : Nat → Nat) (GS : Nat → Nat → Nat) (h : cmx nn f q dl tx sy T N fi m m G GS W0) (r : xi_R → Prop) (K : ∀ W', cmx nn f q dl tx sy T N fi m (m + 1) G (fun k => if k = m then G else GS k) W' → fr (fun i => 45 ≤ i ∧ i < 355) W0 W' → r (none, W', c, s)) : xr (d + 3) 62 0 [(0, .ref 43), (1, .ref 23)] [] W0 c s r := by
  obtain ⟨h1, ⟨lf, lp, h2⟩, hS, ⟨WF, hA, hWF⟩, h6, ⟨F0, h7, h7b⟩, ⟨F3, h8⟩, h9, h10, h11, h12⟩ := h
  have hl := h1.1
  have hR := h1.2.2.2.2.2.2
  have hi : (fi + m) % 31 < 31 := Nat.mod_lt _ (by omega)
  obtain ⟨Fm, hm, _⟩ := h9 _ hi
  refine xr_stp rfl rfl rfl rfl ?_
  refine xr_getfield hS rfl rfl rfl rfl ?_
  refine xr_stp rfl rfl rfl rfl ?_
  refine xr_stp rfl rfl rfl rfl ?_
  refine xr_getfield hS rfl rfl rfl rfl ?_
  refine xr_vcps hS rfl rfl rfl rfl rfl rfl (fun r1 K2 => st_slot _ _ _ 43 44 fi _ m W0 WF hS hA (by omega) (by omega) r1 (K2 _ _ _ _ ?_))
  refine xs_rld hA (by omega) (by omega) (by omega) rfl ?_
  rw [show WF ((fi + m) % 31) = some (45 + 10 * ((fi + m) % 31)) from hWF _ (by omega)]
  change xr _ _ _ _ (.ref (45 + 10 * ((fi + m) % 31)) :: _) _ _ _ _
  refine xr_stp rfl rfl rfl rfl ?_
  refine xr_vcps (hm.w (wbS hi) hl hR) rfl rfl rfl rfl rfl rfl (fun r1 K2 => kl_copy _ _ _ (45 + 10 * ((fi + m) % 31)) 23 W0 Fm F0 _ hm h7 (wbS hi) wb23 (by omega) hl hR r1 (fun W1 F1 hw1 hf1 hag => K2 _ _ _ _ ?_))
  have k : ∀ j, kin (45 + 10 * ((fi + m) % 31)) j → 45 + 10 * ((fi + m) % 31) ≤ j ∧ j < 45 + 10 * ((fi + m) % 31) + 10 := fun j z => ⟨z.1, z.2.1⟩
  refine xr_ret rfl rfl (K W1 ⟨h1.keep hf1 (fun j z => by have := k _ z; omega) (h1.2.2.2.2.2.1.keep hf1 (fun z => by have := k _ z; omega) (fun z => by have := k _ z; omega)), ⟨lf, lp, hf1.at h2 (fun z => by have := k _ z; omega)⟩, hf1.at hS (fun z => by have := k _ z; omega), ⟨WF, hf1.at hA (fun z => by have := k _ z; omega), hWF⟩, ⟨h6.1, by omega, by omega, h6.2.2.2⟩, ⟨F0, h7.keep wb23 hl hf1 (fun i z1 z2 z => by have := k _ z; omega), h7b⟩, ⟨F3, h8.keep wb33 hl hf1 (fun i z1 z2 z => by have := k _ z; omega)⟩, fun i hi2 => ?_, h10, fun k hk => ?_, h12⟩ (hf1.weak (fun i _ z => by have := k _ z; omega)))
  · by_cases e : i = (fi + m) % 31
    · refine ⟨F1, by rw [e]; exact hw1, fun j hj ej => ?_⟩
      have : j = m := by omega
      show RL ((if j = m then G else GS j) 0 + 1) N (if j = m then G else GS j) F1
      rw [if_pos this]
      exact h7b.ag hag
    · obtain ⟨Fi, a1, a2⟩ := h9 i hi2
      refine ⟨Fi, a1.keep (wbS hi2) hl hf1 (fun j z1 z2 z => by have := k _ z; omega), fun j hj ej => ?_⟩
      have : j ≠ m := fun y => by rw [y] at ej; omega
      show RL ((if j = m then G else GS j) 0 + 1) N (if j = m then G else GS j) Fi
      rw [if_neg this]
      exact a2 j (by omega) ej
  · show (if k = m then G else GS k) 5 = dl
    by_cases e : k = m
    · rw [if_pos e]; exact h10
    · rw [if_neg e]; exact h11 k (by omega)
theorem frS {W W' : xi_W} (h : fr (· = 43) W W') : ∀ {i : Nat} {o : xi_O}, W[i]? = some o → i ≠ 43 → W'[i]? = some o := fun h1 h2 => h.at h1 h2
theorem cmx.steps {nn : Nat} {f : Nat → Int32} {q dl tx sy T N fi m mm fi' m' mm' : Nat} {G : Nat → Nat} {GS GS' : Nat → Nat → Nat} {W W' : xi_W} (h : cmx nn f q dl tx sy T N fi m mm G GS W) (hf : fr (· = 43) W W') (hS : W'[43]? = some (.inr (3, [.ref 44, .int (Int32.ofNat fi'), .int (Int32.ofNat m')]))) (h1 : fi' < 31 ∧ m' ≤ mm' ∧ mm' ≤ 31 ∧ m' ≤ 30) (e : ∀ k, k < mm' → ∃ k', k' < mm ∧ (fi' + k) % 31 = (fi + k') % 31 ∧ GS' k = GS k') : cmx nn f q dl tx sy T N fi' m' mm' G GS' W' := by
  obtain ⟨a1, ⟨lf, lp, a2⟩, a3, ⟨WF, a4, a4b⟩, a5, ⟨F0, a6, a6b⟩, ⟨F3, a7⟩, a8, a9, a10, a11⟩ := h
  refine ⟨a1.keep hf (fun i z => by have : i = 43 := z; omega) (a1.2.2.2.2.2.1.keep hf (by omega) (by omega)), ⟨lf, lp, hf.at a2 (by omega)⟩, hS, ⟨WF, hf.at a4 (by omega), a4b⟩, h1, ⟨F0, a6.keep wb23 a1.1 hf (fun i z1 z2 (z : i = 43) => by omega), a6b⟩, ⟨F3, a7.keep wb33 a1.1 hf (fun i z1 z2 (z : i = 43) => by omega)⟩, fun i hi => ?_, a9, fun k hk => ?_, a11⟩
  · obtain ⟨F, b1, b2⟩ := a8 i hi
    refine ⟨F, b1.keep (wbS hi) a1.1 hf (fun j z1 z2 (z : j = 43) => by omega), fun k hk y => ?_⟩
    obtain ⟨k', c1, c2, c3⟩ := e k hk
    rw [c3]
    exact b2 k' c1 (by omega)
  · obtain ⟨k', c1, c2, c3⟩ := e k hk
    rw [c3]
    exact a10 k' c1
/-- 'commit' -/
theorem st_commit (d c s nn q dl tx sy T N fi m : Nat) (f : Nat → Int32) (W0 : xi_W) (G : Nat → Nat) (GS : Nat → Nat → Nat) (h : cmx nn f q dl tx sy T N fi m (m + 1) G GS W0) (r : xi_R → Prop) (K : ∀ W' fi', cmx nn f q dl tx sy T N fi' (min (m + 1) 30) (min (m + 1) 30) G (fun k => GS (k + (m + 1 - min (m + 1) 30))) W' → fr (fun i => i = 43) W0 W' → r (none, W', c, s)) : xr (d + 1) 63 0 [(0, .ref 43)] [] W0 c s r := by
  have h0 := h
  obtain ⟨h1, _, hS, ⟨WF, hA, hWF⟩, h6, _⟩ := h
  have hF : fr (· = 43) W0 W0 := fr.rf
  refine xr_stp rfl rfl rfl rfl ?_
  refine xr_getfield hS rfl rfl rfl rfl ?_
  refine xr_stp (st' := .int (Int32.ofNat 30) :: _) rfl rfl rfl rfl ?_
  refine xr_j2 rfl rfl rfl rfl rfl (fun h6_ => ?_) (fun h6_ => ?_)
  · have e6 := nt_ge (by omega) (by omega) h6_
    refine xr_stp rfl rfl rfl rfl ?_
    refine xr_stp rfl rfl rfl rfl ?_
    refine xr_stp (st' := .int (Int32.ofNat 1) :: _) rfl rfl rfl rfl ?_
    refine xr_vcps hS rfl rfl rfl rfl rfl rfl (fun r1 K2 => st_slot _ _ _ 43 44 fi _ 1 W0 WF hS hA (by omega) (by omega) r1 (K2 _ _ _ _ ?_))
    refine xr_putk hS (by omega) rfl rfl rfl rfl rfl rfl (fun W hS hf1 => ?_)
    have hA := hf1.at hA (by omega)
    have hF := hF.tr2 hf1 (fun _ e => Or.inl e)
    have hS2 : W[43]? = some (.inr (3, [.ref 44, .int (Int32.ofNat ((fi + 1) % 31)), .int (Int32.ofNat (min (m + 1) 30))])) := by
      rw [show min (m + 1) 30 = m by omega]
      exact hS
    exact xr_ret rfl rfl (K W ((fi + 1) % 31) (h0.steps hF hS2 ⟨Nat.mod_lt _ (by omega), by omega, by omega, by omega⟩ (fun k hk => ⟨k + 1, by omega, by omega, by rw [show m + 1 - min (m + 1) 30 = 1 by omega]⟩)) hF)
  · have e6 := nf_ge (by omega) (by omega) h6_
    refine xr_stp rfl rfl rfl rfl ?_
    refine xr_stp rfl rfl rfl rfl ?_
    refine xr_getfield hS rfl rfl rfl rfl ?_
    refine xr_stp (st' := .int (Int32.ofNat 1) :: _) rfl rfl rfl rfl ?_
    refine xs_add rfl ?_
    refine xr_putk hS (by omega) rfl rfl rfl rfl rfl rfl (fun W hS hf1 => ?_)
    have hA := hf1.at hA (by omega)
    have hF := hF.tr2 hf1 (fun _ e => Or.inl e)
    refine xr_stp rfl rfl rfl rfl ?_
    have hS2 : W[43]? = some (.inr (3, [.ref 44, .int (Int32.ofNat fi), .int (Int32.ofNat (min (m + 1) 30))])) := by
      rw [show min (m + 1) 30 = m + 1 by omega]
      exact hS
    exact xr_ret rfl rfl (K W fi (h0.steps hF hS2 ⟨h6.1, by omega, by omega, by omega⟩ (fun k hk => ⟨k, by omega, rfl, by rw [show m + 1 - min (m + 1) 30 = 0 by omega, Nat.add_zero]⟩)) hF)
