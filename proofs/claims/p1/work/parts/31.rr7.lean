/-! both sides: a message or an answer is lost or in flight -/
theorem rf_tk_iff (F : Nat → Nat) (i : Nat) : ∀ (m k t : Nat), rf_tk F i m k t = 0 ↔ t = 0 ∧ ∀ l, k ≤ l → l < k + m → F (61 + 6 * l + 5) ≠ i
  | 0, k, t => by
    unfold rf_tk
    exact ⟨fun h => ⟨h, fun l h1 h2 => by omega⟩, fun h => h.1⟩
  | m + 1, k, t => by
    unfold rf_tk
    rw [rf_tk_iff F i m (k + 1) _]
    by_cases h0 : t = 0
    · rw [if_pos h0]
      by_cases h1 : F (61 + 6 * k + 5) = i
      · rw [if_pos h1]
        exact ⟨fun h => absurd h.1 (by omega), fun h => absurd h1 (h.2 k (Nat.le_refl _) (by omega))⟩
      · rw [if_neg h1]
        constructor
        · rintro ⟨_, h⟩
          refine ⟨h0, fun l h2 h3 => ?_⟩
          rcases Nat.lt_or_ge k l with e | e
          · exact h l (by omega) (by omega)
          · have : l = k := by omega
            subst this; exact h1
        · rintro ⟨_, h⟩
          exact ⟨rfl, fun l h2 h3 => h l (by omega) (by omega)⟩
    · rw [if_neg h0]
      exact ⟨fun h => absurd h.1 (by omega), fun h => absurd h.1 h0⟩
theorem rf_spt (F : Nat → Nat) : ∀ (m i : Nat), rf_tk F (i + m) (F 11) 0 0 = 0 → rf_tk F (rf_sp F (m + 1) i) (F 11) 0 0 = 0
  | 0, i, h => by
    unfold rf_sp
    rw [if_pos (show rf_tk F i (F 11) 0 0 = 0 from h)]
    exact h
  | m + 1, i, h => by
    unfold rf_sp
    split
    · rename_i h1; exact h1
    · exact rf_spt F m (i + 1) (by rw [show i + 1 + m = i + (m + 1) by omega]; exact h)
theorem rf_n27 (F : Nat → Nat) : rf_n2 F 7 = (F 7 * 773 + 641) % 31139 := by
  unfold rf_n2 rf_n1; rw [xn_ue, xn_un _ _ (by omega)]
theorem rf_n3o (F : Nat → Nat) {j : Nat} (h : j ≠ 7) (h2 : j ≠ 8) (h3 : j ≠ 9) : rf_n3 F j = F j := by
  unfold rf_n3; rw [xn_un _ _ h3, rf_n2o F h h2]
theorem rf_n37 (F : Nat → Nat) : rf_n3 F 7 = (F 7 * 773 + 641) % 31139 := by
  unfold rf_n3; rw [xn_un _ _ (by omega), rf_n27]
theorem cn_q256 (F : Nat → Nat) : cn_q2 F 56 = (F 56 * 773 + 641) % 31139 := by
  unfold cn_q2 cn_q1; rw [xn_ue, xn_un _ _ (by omega)]
theorem cn_q3o (F : Nat → Nat) {j : Nat} (h : j ≠ 56) (h2 : j ≠ 72) (h3 : j ≠ 88) : cn_q3 F j = F j := by
  unfold cn_q3; rw [xn_un _ _ h3, cn_q2o F h h2]
theorem cn_q356 (F : Nat → Nat) : cn_q3 F 56 = (F 56 * 773 + 641) % 31139 := by
  unfold cn_q3; rw [xn_un _ _ (by omega), cn_q256]
theorem rf_f2v (F : Nat → Nat) (p q e u v : Nat) : rf_f2 F p q e u v 11 = F 11 + 1 ∧ rf_f2 F p q e u v (61 + 6 * F 11 + 0) = p ∧ rf_f2 F p q e u v (61 + 6 * F 11 + 1) = q ∧ rf_f2 F p q e u v (61 + 6 * F 11 + 2) = F 6 + F 5 ∧ rf_f2 F p q e u v (61 + 6 * F 11 + 3) = e ∧ rf_f2 F p q e u v (61 + 6 * F 11 + 4) = u ∧ rf_f2 F p q e u v (61 + 6 * F 11 + 5) = v ∧ (∀ j, j ≠ 11 → (j < 61 + 6 * F 11 ∨ 61 + 6 * F 11 + 6 ≤ j) → rf_f2 F p q e u v j = F j) := by
  refine ⟨?_, ?_, ?_, ?_, ?_, ?_, ?_, fun j h1 h2 => ?_⟩
  · unfold rf_f2 rf_fl
    rw [xn_ue, xn_un _ _ (by omega), xn_un _ _ (by omega), xn_un _ _ (by omega), xn_un _ _ (by omega), xn_un _ _ (by omega), xn_un _ _ (by omega)]
  · unfold rf_f2 rf_fl
    rw [xn_un _ _ (by omega), xn_un _ _ (by omega), xn_un _ _ (by omega), xn_un _ _ (by omega), xn_un _ _ (by omega), xn_un _ _ (by omega), xn_ue]
  · unfold rf_f2 rf_fl
    rw [xn_un _ _ (by omega), xn_un _ _ (by omega), xn_un _ _ (by omega), xn_un _ _ (by omega), xn_un _ _ (by omega), xn_ue]
  · unfold rf_f2 rf_fl
    rw [xn_un _ _ (by omega), xn_un _ _ (by omega), xn_un _ _ (by omega), xn_un _ _ (by omega), xn_ue]
  · unfold rf_f2 rf_fl
    rw [xn_un _ _ (by omega), xn_un _ _ (by omega), xn_un _ _ (by omega), xn_ue]
  · unfold rf_f2 rf_fl
    rw [xn_un _ _ (by omega), xn_un _ _ (by omega), xn_ue]
  · unfold rf_f2 rf_fl
    rw [xn_un _ _ (by omega), xn_ue]
  · unfold rf_f2 rf_fl
    rw [xn_un _ _ h1, xn_un _ _ (by omega), xn_un _ _ (by omega), xn_un _ _ (by omega), xn_un _ _ (by omega), xn_un _ _ (by omega), xn_un _ _ (by omega)]
theorem cn_rmv (F : Nat → Nat) : cn_rm F 8 = F 8 + 1 ∧ (∀ s, s < 4 → cn_rm F (16 * ((28 + F 8) * 4 + s) + 0) = F (16 * (52 * 4 + s) + 0) ∧ cn_rm F (16 * ((28 + F 8) * 4 + s) + 1) = F (16 * (52 * 4 + s) + 1)) ∧ (∀ j, j ≠ 8 → (1 < j % 16 ∨ j / 16 < (28 + F 8) * 4 ∨ (28 + F 8) * 4 + 4 ≤ j / 16) → cn_rm F j = F j) := by
  refine ⟨?_, fun s hs => ?_, fun j h1 h2 => ?_⟩
  · unfold cn_rm
    rw [xn_ue, cn_mvo _ _ _ _ (by omega)]
  · have := cn_mvg F 52 (28 + F 8) 1 (28 + F 8) s (by omega) (by omega) hs
    rw [Nat.sub_self, Nat.add_zero] at this
    unfold cn_rm
    rw [xn_un _ _ (by omega), xn_un _ _ (by omega)]
    exact this
  · unfold cn_rm
    rw [xn_un _ _ h1]
    exact cn_mvn _ _ _ _ (by omega)
theorem cn_flv (F : Nat → Nat) (p q e u : Nat) : cn_fl F p q e u 8 = F 8 + 1 ∧ cn_fl F p q e u (16 * (F 8 * 5) + 6) = p ∧ cn_fl F p q e u (16 * (F 8 * 5 + 1) + 6) = q ∧ cn_fl F p q e u (16 * (F 8 * 5 + 2) + 6) = F 40 + 2 ∧ cn_fl F p q e u (16 * (F 8 * 5 + 3) + 6) = e ∧ cn_fl F p q e u (16 * (F 8 * 5 + 4) + 6) = u ∧
    (∀ s, s < 4 → cn_fl F p q e u (16 * ((28 + F 8) * 4 + s) + 0) = F (16 * (52 * 4 + s) + 0) ∧ cn_fl F p q e u (16 * ((28 + F 8) * 4 + s) + 1) = F (16 * (52 * 4 + s) + 1)) ∧
    (∀ j, j ≠ 8 → (j % 16 ≠ 6 ∨ j / 16 < 5 * F 8) → (1 < j % 16 ∨ j / 16 < (28 + F 8) * 4) → cn_fl F p q e u j = F j) := by
  obtain ⟨r1, r2, r3⟩ := cn_rmv F
  have e40 : cn_f2 F p q 40 = F 40 := by
    unfold cn_f2
    rw [xn_un _ _ (by omega), xn_un _ _ (by omega)]
    exact r3 40 (by omega) (by omega)
  refine ⟨?_, ?_, ?_, ?_, ?_, ?_, fun s hs => ⟨?_, ?_⟩, fun j h1 h2 h3 => ?_⟩
  · unfold cn_fl cn_f2
    rw [xn_un _ _ (by omega), xn_un _ _ (by omega), xn_un _ _ (by omega), xn_un _ _ (by omega), xn_un _ _ (by omega)]
    exact r1
  · unfold cn_fl cn_f2
    rw [xn_un _ _ (by omega), xn_un _ _ (by omega), xn_un _ _ (by omega), xn_un _ _ (by omega), xn_ue]
  · unfold cn_fl cn_f2
    rw [xn_un _ _ (by omega), xn_un _ _ (by omega), xn_un _ _ (by omega), xn_ue]
  · unfold cn_fl
    rw [xn_un _ _ (by omega), xn_un _ _ (by omega), xn_ue, e40]
  · unfold cn_fl
    rw [xn_un _ _ (by omega), xn_ue]
  · unfold cn_fl
    rw [xn_ue]
  · unfold cn_fl cn_f2
    rw [xn_un _ _ (by omega), xn_un _ _ (by omega), xn_un _ _ (by omega), xn_un _ _ (by omega), xn_un _ _ (by omega)]
    exact (r2 s hs).1
  · unfold cn_fl cn_f2
    rw [xn_un _ _ (by omega), xn_un _ _ (by omega), xn_un _ _ (by omega), xn_un _ _ (by omega), xn_un _ _ (by omega)]
    exact (r2 s hs).2
  · unfold cn_fl cn_f2
    rw [xn_un _ _ (by omega), xn_un _ _ (by omega), xn_un _ _ (by omega), xn_un _ _ (by omega), xn_un _ _ (by omega)]
    exact r3 j h1 (by omega)
theorem rl_last {t lo bd : Nat} {N F G : Nat → Nat} (h : rl t lo bd N F G) : (0 < G 8 → F (61 + 6 * (F 11 - 1) + 2) ≤ F 6 + F 5) ∧ (0 < G 8 → G (16 * ((G 8 - 1) * 5 + 2) + 6) ≤ G 40 + 2) := by
  obtain ⟨b1, b2, ⟨s1, s2, s3, s4, s5, s6, s7, s8, s9, s10⟩, b4, b5, b6, b7, b8, b9, b10, b11⟩ := h
  constructor
  · intro h0
    have := (b10 (G 8 - 1) (by omega)).2.2.2.1
    rw [s8, this.1, s3, s2]
    omega
  · intro h0
    exact (b10 (G 8 - 1) (by omega)).2.2.2.1.2.2
/-- lost -/
theorem rl_lost {t lo bd t' a b : Nat} {N F G H K : Nat → Nat} (h : rl t lo bd N F G) (ht : t ≤ t') (ht' : t' ≤ 24) (hH : ∀ j, j < 3201 → H j = F j) (hK : ∀ j, (1 < j % 16 ∨ j / 16 < 208 ∨ 212 ≤ j / 16) → K j = G j) : rl t' lo bd N (rf_wd (rf_n3 H) 3 a b) (cn_wr (cn_q3 K) 3 a b) := by
  have s := h.2.2.1
  have h10 : rf_n3 H 10 ≤ 25 := by rw [rf_n3o H (by omega) (by omega) (by omega), hH 10 (by omega)]; exact s.2.2.2.2.2.1
  have e7 : rf_wd (rf_n3 H) 3 a b 7 = (F 7 * 773 + 641) % 31139 := by rw [rf_wdo _ 3 a b 7 h10 (by omega) (by omega), rf_n37, hH 7 (by omega)]
  refine rl_frame h ht ht' (Nat.le_refl _) (Nat.le_refl _) (fun k hk => ?_) ?_ ?_ (rf_wdt _ 3 a b h10) (cn_wrt _ 3 a b) (fun j h1 h2 h3 h4 h5 h6 => ?_)
  · rw [rf_wdo _ 3 a b k h10 (by omega) (by omega), rf_n3o H (by omega) (by omega) (by omega), hH k (by omega)]
  · rw [e7, cn_wro _ 3 a b (by omega) (by omega), cn_q356, hK 56 (by omega), s.2.2.2.1]
  · rw [e7]; exact Nat.mod_lt _ (by omega)
  · rw [cn_wro _ 3 a b h1 h5, cn_q3o K h2 h3 h4]
    exact hK j (by omega)
/-- SENT -/
theorem rl_send {t lo bd : Nat} {N F G : Nat → Nat} {r q : Nat} (h : rl t lo bd N F G) (ht : t + 1 ≤ 24) (hbd : bd < 500000) (hlo : lo ≤ G 40 + 2) (hr : r < 4) (hq : q < 4) (hrq : r ≠ q) :
    rf_spkk F r q t ∧ cn_pok (cn_co G r q) ∧ rl (t + 1) lo bd N (rf_spk F r q t) (cn_po (cn_co G r q) r q 0 (cn_co G r q (16 * r + 4))) := by
  have h' := h
  obtain ⟨m1, m2, m3, m4⟩ := rl_msg h hbd hr hq
  obtain ⟨l1, l2⟩ := rl_last h
  obtain ⟨b1, b2, ⟨s1, s2, s3, s4, s5, s6, s7, s8, s9, s10⟩, b4, b5, b6, b7, b8, b9, b10, b11⟩ := h
  have hS : rr_S N := Nat.le_trans b1 b2
  obtain ⟨c1, c2, c3, c4, c5⟩ := b4 r hr
  have k8 : cn_co G r q 8 = G 8 := m4 8 (by omega)
  have k24 : cn_co G r q 24 = G 24 := m4 24 (by omega)
  have k40 : cn_co G r q 40 = G 40 := m4 40 (by omega)
  have k56 : cn_co G r q 56 = G 56 := m4 56 (by omega)
  have kr : cn_co G r q (16 * r + 4) = G (16 * r + 4) := m4 _ (by omega)
  have st : ∀ k, k < G 8 → F (61 + 6 * k + 5) = 4294967295 ∨ F (61 + 6 * k + 5) < t := fun k hk => by
    rcases (b10 k hk).2.2.2.2.2.2 with p | p
    · exact Or.inl p.2.1
    · exact Or.inr p.2.1
  have n2 : ∀ j, j ≠ 7 → j ≠ 8 → j < 3201 → rf_n2 (rf_msg F r q) j = F j := fun j h1 h2 h3 => by rw [rf_n2o _ h1 h2, m3 j h3]
  have hfree : rf_tk (rf_n2 (rf_msg F r q)) t (rf_n2 (rf_msg F r q) 11) 0 0 = 0 := by
    rw [rf_tk_iff]
    refine ⟨rfl, fun l h1 h2 => ?_⟩
    rw [n2 11 (by omega) (by omega) (by omega)] at h2
    rw [n2 _ (by omega) (by omega) (by omega)]
    have := st l (by omega)
    omega
  have hsn : rf_snk (rf_msg F r q) t := by
    refine ⟨by rw [m3 1 (by omega)]; exact s1, by rw [m3 7 (by omega)]; omega, by rw [m3 10 (by omega)]; exact s6, by rw [m3 11 (by omega)]; omega, by rw [m3 6 (by omega), m3 5 (by omega)]; omega, fun h0 => ?_, by omega, fun k hk => ?_, hfree⟩
    · rw [m3 11 (by omega)] at h0 ⊢
      rw [m3 _ (by omega), m3 6 (by omega), m3 5 (by omega)]
      exact l1 (by omega)
    · rw [m3 11 (by omega)] at hk
      rw [m3 _ (by omega)]
      have := st k (by omega)
      omega
  refine ⟨⟨m1, hsn, m3 _ (by omega)⟩, ⟨by rw [k56]; omega, by rw [k24]; exact s7, by rw [k8]; omega, by rw [k40]; omega, fun h0 => ?_⟩, ?_⟩
  · rw [k8] at h0 ⊢
    rw [m4 _ (by omega), k40]
    exact l2 h0
  · unfold rf_spk rf_sM cn_po
    rw [k56, m3 7 (by omega), ← s4, kr, c1]
    by_cases e : F 7 % 10 < 3
    · rw [if_pos e, if_pos e]
      exact rl_lost h' (by omega) ht m3 m4
    · rw [if_neg e, if_neg e]
      have hsp : rf_sp (rf_n2 (rf_msg F r q)) (t + 1) 0 ≤ t := by
        have := rf_sple (rf_n2 (rf_msg F r q)) t 0 (by rw [Nat.zero_add]; exact hfree)
        omega
      have hsf := rf_spt (rf_n2 (rf_msg F r q)) t 0 (by rw [Nat.zero_add]; exact hfree)
      rw [rf_tk_iff] at hsf
      have hsf2 : ∀ l, l < G 8 → F (61 + 6 * l + 5) ≠ rf_sp (rf_n2 (rf_msg F r q)) (t + 1) 0 := fun l hl => by
        have := hsf.2 l (by omega) (by rw [n2 11 (by omega) (by omega) (by omega)]; omega)
        rw [n2 _ (by omega) (by omega) (by omega)] at this
        exact this
      generalize hsv : rf_sp (rf_n2 (rf_msg F r q)) (t + 1) 0 = v at hsp hsf2 ⊢
      have hc : ∀ j, j ≠ 7 → j ≠ 8 → j < 3201 → (j < 205 + 57 * (28 + v) ∨ 205 + 57 * (28 + v) + 57 ≤ j) → rf_c (rf_n2 (rf_msg F r q)) 3258 (205 + 57 * (28 + v)) 0 j = F j := fun j h1 h2 h3 h4 => by
        rw [rf_cfar _ _ _ h4]; exact n2 j h1 h2 h3
      obtain ⟨w1, w2, w3, w4, w5, w6, w7, w8⟩ := rf_f2v (rf_c (rf_n2 (rf_msg F r q)) 3258 (205 + 57 * (28 + v)) 0) r q 0 (G (16 * r + 4)) v
      have c11 : rf_c (rf_n2 (rf_msg F r q)) 3258 (205 + 57 * (28 + v)) 0 11 = G 8 := by rw [hc 11 (by omega) (by omega) (by omega) (by omega)]; exact s8
      rw [c11] at w1 w2 w3 w4 w5 w6 w7 w8
      rw [hc 6 (by omega) (by omega) (by omega) (by omega), hc 5 (by omega) (by omega) (by omega) (by omega)] at w4
      obtain ⟨x1, x2, x3, x4, x5, x6, x7, x8⟩ := cn_flv (cn_q2 (cn_co G r q)) r q 0 (G (16 * r + 4))
      have q8 : cn_q2 (cn_co G r q) 8 = G 8 := by rw [cn_q2o _ (by omega) (by omega)]; exact k8
      have q40 : cn_q2 (cn_co G r q) 40 = G 40 := by rw [cn_q2o _ (by omega) (by omega)]; exact k40
      rw [q8] at x1 x2 x3 x4 x5 x6 x7 x8
      rw [q40] at x4
      have xg : ∀ j, j ≠ 8 → j ≠ 56 → j ≠ 72 → (j % 16 ≠ 6 ∨ j / 16 < 5 * G 8) → (1 < j % 16 ∨ j / 16 < (28 + G 8) * 4) → cn_fl (cn_q2 (cn_co G r q)) r q 0 (G (16 * r + 4)) j = G j := fun j h1 h2 h3 h4 h5 => by
        rw [x8 j h1 h4 h5, cn_q2o _ h2 h3]; exact m4 j (by omega)
      have e7 : rf_f2 (rf_c (rf_n2 (rf_msg F r q)) 3258 (205 + 57 * (28 + v)) 0) r q 0 (G (16 * r + 4)) v 7 = (F 7 * 773 + 641) % 31139 := by
        rw [w8 7 (by omega) (by omega), rf_cfar _ _ _ (by omega), rf_n27, m3 7 (by omega)]
      refine rl_app h' (by omega) ht (by omega) (fun k hk => ?_) ?_ ?_ ?_ ?_ w1 x1 (fun i hi h3 k hk => ?_) (fun j h1 h2 h3 h4 h5 h6 h7 h8 => ?_) ?_ (fun i hi => ?_)
      · rw [w8 k (by omega) (by omega)]; exact hc k (by omega) (by omega) (by omega) (by omega)
      · rw [e7, x8 56 (by omega) (by omega) (by omega), cn_q256, k56, s4]
      · rw [e7]; exact Nat.mod_lt _ (by omega)
      · rw [w8 10 (by omega) (by omega), hc 10 (by omega) (by omega) (by omega) (by omega)]; exact s6
      · rw [xg 24 (by omega) (by omega) (by omega) (by omega) (by omega)]; exact s7
      · have hne := hsf2 i hi
        rcases (b10 i hi).2.2.2.2.2.2 with p | p
        · omega
        · have := p.2.1
          rw [w8 _ (by omega) (by omega)]
          exact hc _ (by omega) (by omega) (by omega) (by omega)
      · exact xg j h1 h3 h4 h7 (by omega)
      · unfold rl_f
        rw [w2, w3, w4, w5, w6, w7, x2, x3, x4, x5, x6]
        have e40 : cn_fl (cn_q2 (cn_co G r q)) r q 0 (G (16 * r + 4)) 40 = G 40 := xg 40 (by omega) (by omega) (by omega) (by omega) (by omega)
        have er4 : cn_fl (cn_q2 (cn_co G r q)) r q 0 (G (16 * r + 4)) (16 * r + 4) = G (16 * r + 4) := xg _ (by omega) (by omega) (by omega) (by omega) (by omega)
        refine ⟨⟨rfl, hr⟩, ⟨rfl, hq⟩, hrq, ⟨by omega, by omega, by omega⟩, rfl, rfl, Or.inr ⟨rfl, by omega, by rw [er4]; exact Nat.le_refl _, ?_⟩⟩
        have hC : rr_C (cn_co G r q) := fun u hu => by rw [m4 _ (by omega)]; exact b7 u hu
        refine rr_frame m2 (fun k hk => ?_) (fun s hs => ?_) (fun u _ _ => ?_) (fun _ _ => Nat.le_refl _) (by have := rr_c24 hS hC m2; omega)
        · rw [w8 _ (by omega) (by omega)]
          unfold rf_c
          rw [if_pos (by omega), Nat.add_sub_cancel_left]
          exact rf_n2o _ (by omega) (by omega)
        · obtain ⟨y1, y2⟩ := x7 s hs
          rw [y1, y2, cn_q2o _ (by omega) (by omega), cn_q2o _ (by omega) (by omega)]
          exact ⟨rfl, rfl⟩
        · rw [x8 _ (by omega) (by omega) (by omega), cn_q2o _ (by omega) (by omega)]
      · rw [x4]
        exact (b10 i hi).2.2.2.1.2.2
/-- an answer is sent -/
theorem rl_ans {t lo bd : Nat} {N F G K : Nat → Nat} {r q u : Nat} (h : rl t lo bd N F G) (h8 : G 8 < t) (hlo : lo ≤ G 40 + 2) (hr : r < 4) (hq : q < 4) (hrq : r ≠ q) (hu : u ≤ G (16 * q + 4)) (hK : ∀ j, (1 < j % 16 ∨ j / 16 < 208) → K j = G j) :
    rf_sAk F ∧ cn_pok K ∧ rl t lo bd N (rf_sA F r q u) (cn_po K r q 1 u) := by
  have h' := h
  obtain ⟨l1, l2⟩ := rl_last h
  obtain ⟨b1, b2, ⟨s1, s2, s3, s4, s5, s6, s7, s8, s9, s10⟩, b4, b5, b6, b7, b8, b9, b10, b11⟩ := h
  have k8 : K 8 = G 8 := hK 8 (by omega)
  have k24 : K 24 = G 24 := hK 24 (by omega)
  have k40 : K 40 = G 40 := hK 40 (by omega)
  have k56 : K 56 = G 56 := hK 56 (by omega)
  refine ⟨⟨s1, by omega, s6, by omega, by omega, fun h0 => l1 (by omega)⟩, ⟨by rw [k56]; omega, by rw [k24]; exact s7, by rw [k8]; omega, by rw [k40]; omega, fun h0 => ?_⟩, ?_⟩
  · rw [k8] at h0 ⊢
    rw [hK _ (by omega), k40]
    exact l2 h0
  · unfold rf_sA cn_po
    rw [k56, ← s4]
    by_cases e : F 7 % 10 < 3
    · rw [if_pos e, if_pos e]
      have h10 : rf_n3 F 10 ≤ 25 := by rw [rf_n3o F (by omega) (by omega) (by omega)]; exact s6
      have e7 : rf_wd (rf_n3 F) 3 q r 7 = (F 7 * 773 + 641) % 31139 := by rw [rf_wdo _ 3 q r 7 h10 (by omega) (by omega), rf_n37]
      refine rl_frame h' (Nat.le_refl _) b2 (Nat.le_refl _) (Nat.le_refl _) (fun k hk => ?_) ?_ ?_ (rf_wdt _ 3 q r h10) (cn_wrt _ 3 q r) (fun j h1 h2 h3 h4 h5 h6 => ?_)
      · rw [rf_wdo _ 3 q r k h10 (by omega) (by omega), rf_n3o F (by omega) (by omega) (by omega)]
      · rw [e7, cn_wro _ 3 q r (by omega) (by omega), cn_q356, k56, s4]
      · rw [e7]; exact Nat.mod_lt _ (by omega)
      · rw [cn_wro _ 3 q r h1 h5, cn_q3o K h2 h3 h4]
        exact hK j h6
    · rw [if_neg e, if_neg e]
      obtain ⟨w1, w2, w3, w4, w5, w6, w7, w8⟩ := rf_f2v (rf_n2 F) r q 1 u 4294967295
      have n2 : ∀ j, j ≠ 7 → j ≠ 8 → rf_n2 F j = F j := fun j h1 h2 => rf_n2o F h1 h2
      rw [show rf_n2 F 11 = G 8 by rw [n2 11 (by omega) (by omega)]; exact s8] at w1 w2 w3 w4 w5 w6 w7 w8
      rw [n2 6 (by omega) (by omega), n2 5 (by omega) (by omega)] at w4
      obtain ⟨x1, x2, x3, x4, x5, x6, x7, x8⟩ := cn_flv (cn_q2 K) r q 1 u
      have q8 : cn_q2 K 8 = G 8 := by rw [cn_q2o _ (by omega) (by omega)]; exact k8
      have q40 : cn_q2 K 40 = G 40 := by rw [cn_q2o _ (by omega) (by omega)]; exact k40
      rw [q8] at x1 x2 x3 x4 x5 x6 x7 x8
      rw [q40] at x4
      have xg : ∀ j, j ≠ 8 → j ≠ 56 → j ≠ 72 → (j % 16 ≠ 6 ∨ j / 16 < 5 * G 8) → (1 < j % 16 ∨ j / 16 < (28 + G 8) * 4) → cn_fl (cn_q2 K) r q 1 u j = G j := fun j h1 h2 h3 h4 h5 => by
        rw [x8 j h1 h4 h5, cn_q2o _ h2 h3]; exact hK j (by omega)
      have e7 : rf_f2 (rf_n2 F) r q 1 u 4294967295 7 = (F 7 * 773 + 641) % 31139 := by
        rw [w8 7 (by omega) (by omega), rf_n27]
      refine rl_app h' (Nat.le_refl _) b2 h8 (fun k hk => ?_) ?_ ?_ ?_ ?_ w1 x1 (fun i hi h3 k hk => ?_) (fun j h1 h2 h3 h4 h5 h6 h7 h8 => ?_) ?_ (fun i hi => ?_)
      · rw [w8 k (by omega) (by omega)]; exact n2 k (by omega) (by omega)
      · rw [e7, x8 56 (by omega) (by omega) (by omega), cn_q256, k56, s4]
      · rw [e7]; exact Nat.mod_lt _ (by omega)
      · rw [w8 10 (by omega) (by omega), n2 10 (by omega) (by omega)]; exact s6
      · rw [xg 24 (by omega) (by omega) (by omega) (by omega) (by omega)]; exact s7
      · rw [w8 _ (by omega) (by omega)]; exact n2 _ (by omega) (by omega)
      · exact xg j h1 h3 h4 h7 (by omega)
      · unfold rl_f
        rw [w2, w3, w4, w5, w6, w7, x2, x3, x4, x5, x6]
        have e40 : cn_fl (cn_q2 K) r q 1 u 40 = G 40 := xg 40 (by omega) (by omega) (by omega) (by omega) (by omega)
        have er4 : cn_fl (cn_q2 K) r q 1 u (16 * q + 4) = G (16 * q + 4) := xg _ (by omega) (by omega) (by omega) (by omega) (by omega)
        exact ⟨⟨rfl, hr⟩, ⟨rfl, hq⟩, hrq, ⟨by omega, by omega, by omega⟩, rfl, rfl, Or.inl ⟨rfl, rfl, by rw [er4]; exact hu⟩⟩
      · rw [x4]
        exact (b10 i hi).2.2.2.1.2.2
