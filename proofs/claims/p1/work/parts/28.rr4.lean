/-! both sides: the relation of all numbers; what a new delta does to it -/
def rl_f (t lo : Nat) (N F G : Nat → Nat) (i : Nat) : Prop :=
  (F (61 + 6 * i + 0) = G (16 * (i * 5) + 6) ∧ G (16 * (i * 5) + 6) < 4) ∧ (F (61 + 6 * i + 1) = G (16 * (i * 5 + 1) + 6) ∧ G (16 * (i * 5 + 1) + 6) < 4) ∧ G (16 * (i * 5) + 6) ≠ G (16 * (i * 5 + 1) + 6) ∧
  (F (61 + 6 * i + 2) = G (16 * (i * 5 + 2) + 6) ∧ lo ≤ G (16 * (i * 5 + 2) + 6) ∧ G (16 * (i * 5 + 2) + 6) ≤ G 40 + 2) ∧ F (61 + 6 * i + 3) = G (16 * (i * 5 + 3) + 6) ∧ F (61 + 6 * i + 4) = G (16 * (i * 5 + 4) + 6) ∧
  ((G (16 * (i * 5 + 3) + 6) = 1 ∧ F (61 + 6 * i + 5) = 4294967295 ∧ G (16 * (i * 5 + 4) + 6) ≤ G (16 * G (16 * (i * 5 + 1) + 6) + 4)) ∨
   (G (16 * (i * 5 + 3) + 6) = 0 ∧ F (61 + 6 * i + 5) < t ∧ G (16 * (i * 5 + 4) + 6) ≤ G (16 * G (16 * (i * 5) + 6) + 4) ∧ rr N G (28 + i) F (205 + 57 * (28 + F (61 + 6 * i + 5)))))
def rl_s (t : Nat) (F G : Nat → Nat) : Prop := F 1 = 4294967295 ∧ F 5 = 2 ∧ F 6 = G 40 ∧ F 7 = G 56 ∧ F 7 < 31139 ∧ F 10 ≤ 25 ∧ G 24 ≤ 25 ∧ F 11 = G 8 ∧ G 8 ≤ t ∧ G 40 ≤ t
def rl_m (bd : Nat) (F G : Nat → Nat) (r : Nat) : Prop := F (12 + r) = G (16 * r + 4) ∧ F (16 + r) = G (16 * r + 5) ∧ G (16 * r + 5) ≤ G (16 * r + 4) ∧ G (16 * r + 4) ≤ G (16 * r + 5) + 6 ∧ G (16 * r + 4) ≤ bd
/-- the reference's numbers F and the class's G tell the same, t draws done; what is in flight comes at lo or later; bd bounds the deltas -/
def rl (t lo bd : Nat) (N F G : Nat → Nat) : Prop :=
  N 0 + N 1 + N 2 + N 3 ≤ t ∧ t ≤ 24 ∧ rl_s t F G ∧ (∀ r, r < 4 → rl_m bd F G r) ∧
  (∀ r q, r < 4 → q < 4 → F (20 + 4 * r + q) = G (16 * (r * 4 + q) + 3) ∧ G (16 * (r * 4 + q) + 3) ≤ G (16 * r + 4)) ∧
  (∀ r, r < 4 → ∃ q, q < 4 ∧ q ≠ r ∧ G (16 * (r * 4 + q) + 3) ≤ G (16 * r + 5)) ∧
  rr_C G ∧ (∀ x, x < 28 → rr N G x F (205 + 57 * x)) ∧ (∀ r, r < 4 → G (16 * (r * 4 + r) + 0) = 2 ^ N r - 1) ∧
  (∀ i, i < G 8 → rl_f t lo N F G i) ∧ (∀ i j, i < j → j < G 8 → G (16 * (i * 5 + 2) + 6) ≤ G (16 * (j * 5 + 2) + 6))
theorem rf_ltq (F : Nat → Nat) (r q : Nat) (hq : q ≠ r) : ∀ (m k v : Nat), k ≤ q → q < k + m → rf_lt F r m k v ≤ F (20 + 4 * r + q)
  | 0, k, v, h1, h2 => by omega
  | m + 1, k, v, h1, h2 => by
    unfold rf_lt
    rcases Nat.lt_or_ge k q with e | e
    · exact rf_ltq F r q hq m (k + 1) _ (by omega) (by omega)
    · have e2 : k = q := by omega
      subst e2
      refine Nat.le_trans (rf_ltb F r m (k + 1) _) ?_
      rw [if_neg hq]
      split <;> omega
/-- 'takeDelta' told by what changes -/
theorem rf_tdv {F : Nat → Nat} {r x : Nat} (hr : r < 4) (hx : 1801 ≤ x) (h1 : F (16 + r) ≤ F (12 + r)) (h2 : F (12 + r) ≤ F (16 + r) + 6) (hq : ∃ q, q < 4 ∧ q ≠ r ∧ F (20 + 4 * r + q) ≤ F (16 + r)) :
    rf_td F r x (12 + r) = F (12 + r) + 1 ∧ rf_td F r x (16 + r) = max (F (16 + r)) (F (12 + r) + 1 - 6) ∧
    (∀ k, k < 57 → rf_td F r x (205 + 57 * (4 + r * 6 + F (12 + r) % 6) + k) = F (x + k)) ∧
    (∀ j, j ≠ 12 + r → j ≠ 16 + r → (j < 205 + 57 * (4 + r * 6 + F (12 + r) % 6) ∨ 205 + 57 * (4 + r * 6 + F (12 + r) % 6) + 57 ≤ j) → rf_td F r x j = F j) := by
  obtain ⟨q, hq4, hqr, hqa⟩ := hq
  have hm6 : F (12 + r) % 6 < 6 := Nat.mod_lt _ (by omega)
  have core : ∀ H : Nat → Nat, H (12 + r) = F (12 + r) → F (16 + r) ≤ H (16 + r) → H (20 + 4 * r + q) = F (20 + 4 * r + q) → rf_t2 H r x = rf_c (rf_t1 H r) x (205 + 57 * (4 + r * 6 + F (12 + r) % 6)) 0 := by
    intro H a1 a2 a3
    have e1 : rf_t1 H r (12 + r) = F (12 + r) + 1 := by unfold rf_t1; rw [xn_ue, a1]
    have e2 : rf_dl r (rf_t1 H r (12 + r)) = 205 + 57 * (4 + r * 6 + F (12 + r) % 6) := by
      rw [e1]; unfold rf_dl; rw [Nat.add_sub_cancel]; omega
    unfold rf_t2
    rw [e2]
    unfold rf_da
    rw [if_pos]
    refine Nat.le_trans (rf_ltq _ r q hqr 4 0 _ (by omega) (by omega)) ?_
    rw [rf_cfar _ _ _ (by omega), rf_cfar _ _ _ (by omega)]
    unfold rf_t1
    rw [xn_un _ _ (by omega), xn_un _ _ (by omega), a3]
    omega
  have main : ∀ H : Nat → Nat, H (12 + r) = F (12 + r) → (∀ j, j ≠ 16 + r → H j = F j) → F (16 + r) ≤ H (16 + r) → H (16 + r) = max (F (16 + r)) (F (12 + r) + 1 - 6) → rf_td F r x = rf_t2 H r x → 
      rf_td F r x (12 + r) = F (12 + r) + 1 ∧ rf_td F r x (16 + r) = max (F (16 + r)) (F (12 + r) + 1 - 6) ∧
      (∀ k, k < 57 → rf_td F r x (205 + 57 * (4 + r * 6 + F (12 + r) % 6) + k) = F (x + k)) ∧
      (∀ j, j ≠ 12 + r → j ≠ 16 + r → (j < 205 + 57 * (4 + r * 6 + F (12 + r) % 6) ∨ 205 + 57 * (4 + r * 6 + F (12 + r) % 6) + 57 ≤ j) → rf_td F r x j = F j) := by
    intro H a1 a2 a3 a4 a5
    rw [a5, core H a1 a3 (a2 _ (by omega))]
    refine ⟨?_, ?_, fun k hk => ?_, fun j h1 h2 hj => ?_⟩
    · rw [rf_cfar _ _ _ (by omega)]; unfold rf_t1; rw [xn_ue, a1]
    · rw [rf_cfar _ _ _ (by omega)]; unfold rf_t1; rw [xn_un _ _ (by omega)]; exact a4
    · unfold rf_c
      rw [if_pos (by omega), Nat.add_sub_cancel_left]
      unfold rf_t1
      rw [xn_un _ _ (by omega), a2 _ (by omega)]
    · rw [rf_cfar _ _ _ (by omega)]; unfold rf_t1; rw [xn_un _ _ h1, a2 _ h2]
  by_cases h6 : F (12 + r) - F (16 + r) = 6
  · refine main (xn_u F (16 + r) (F (16 + r) + 1)) (xn_un _ _ (by omega)) (fun j hj => xn_un _ _ hj) (by rw [xn_ue]; omega) (by rw [xn_ue]; omega) ?_
    unfold rf_td
    rw [if_pos h6]
  · refine main F rfl (fun _ _ => rfl) (Nat.le_refl _) (by omega) ?_
    unfold rf_td
    rw [if_neg h6]
theorem cn_ndo (G : Nat → Nat) (r : Nat) {j : Nat} (h : j ≠ 16 * r + 4) (h2 : j ≠ 16 * r + 5) : cn_nd G r j = G j := by
  unfold cn_nd cn_n1; rw [xn_un _ _ h2, xn_un _ _ h]
theorem cn_nd5 (G : Nat → Nat) (r : Nat) : cn_nd G r (16 * r + 5) = max (G (16 * r + 5)) (G (16 * r + 4) + 1 - 6) := by
  unfold cn_nd cn_n1; rw [xn_ue, xn_un _ _ (by omega), xn_ue]
theorem cn_nrv (G : Nat → Nat) (r : Nat) : cn_nr G r = 4 + r * 6 + G (16 * r + 4) % 6 := by
  unfold cn_nr; rw [cn_nd4, Nat.add_sub_cancel]
/-- the state of a replica and a new delta of it -/
theorem rl_new {t lo bd t' : Nat} {N F G N' F' G' : Nat → Nat} {r nr : Nat} (h : rl t lo bd N F G) (hr : r < 4) (hnr : 4 ≤ nr ∧ nr < 28) (ht : t ≤ t') (ht' : t' ≤ 24) (hN : ∀ s, s < 4 → N s ≤ N' s) (hNo : ∀ s, s ≠ r → N' s = N s) (hNS : N' 0 + N' 1 + N' 2 + N' 3 ≤ t')
    (fF : ∀ k, k < 3169 → k ≠ 12 + r → k ≠ 16 + r → k ≠ 10 → ¬ (36 ≤ k ∧ k < 61) → (k < 205 + 57 * r ∨ 205 + 57 * r + 57 ≤ k) → (k < 205 + 57 * nr ∨ 205 + 57 * nr + 57 ≤ k) → F' k = F k) (f10 : F' 10 ≤ 25) (g24 : G' 24 ≤ 25)
    (fG : ∀ j, j ≠ 24 → j % 16 ≠ 7 → j % 16 ≠ 2 → j ≠ 16 * r + 4 → j ≠ 16 * r + 5 → (1 < j % 16 ∨ j / 16 < r * 4 ∨ r * 4 + 4 ≤ j / 16) → (1 < j % 16 ∨ j / 16 < nr * 4 ∨ nr * 4 + 4 ≤ j / 16) → (1 < j % 16 ∨ j / 16 < 208) → G' j = G j)
    (hc : ∀ u, u < 256 → u % 64 ≤ N (u / 64) → G' (16 * u + 2) = G (16 * u + 2)) (hC : rr_C G')
    (m12 : F' (12 + r) = G (16 * r + 4) + 1) (m4 : G' (16 * r + 4) = G (16 * r + 4) + 1) (m16 : F' (16 + r) = G' (16 * r + 5)) (m5 : G' (16 * r + 5) = max (G (16 * r + 5)) (G (16 * r + 4) + 1 - 6))
    (row1 : rr N' G' r F' (205 + 57 * r)) (row2 : rr N' G' nr F' (205 + 57 * nr)) (own : G' (16 * (r * 4 + r) + 0) = 2 ^ N' r - 1) : rl t' lo (bd + 1) N' F' G' := by
  obtain ⟨b1, b2, ⟨s1, s2, s3, s4, s5, s6, s7, s8, s9, s10⟩, b4, b5, b6, b7, b8, b9, b10, b11⟩ := h
  have hS : rr_S N := Nat.le_trans b1 b2
  have e8 : G' 8 = G 8 := fG 8 (by omega) (by omega) (by omega) (by omega) (by omega) (by omega) (by omega) (by omega)
  have e40 : G' 40 = G 40 := fG 40 (by omega) (by omega) (by omega) (by omega) (by omega) (by omega) (by omega) (by omega)
  have e56 : G' 56 = G 56 := fG 56 (by omega) (by omega) (by omega) (by omega) (by omega) (by omega) (by omega) (by omega)
  have e6 : ∀ j, G' (16 * j + 6) = G (16 * j + 6) := fun j => fG _ (by omega) (by omega) (by omega) (by omega) (by omega) (by omega) (by omega) (by omega)
  have e3 : ∀ j, G' (16 * j + 3) = G (16 * j + 3) := fun j => fG _ (by omega) (by omega) (by omega) (by omega) (by omega) (by omega) (by omega) (by omega)
  have e4 : ∀ s, G (16 * s + 4) ≤ G' (16 * s + 4) := fun s => by
    by_cases e : s = r
    · subst e; omega
    · rw [fG (16 * s + 4) (by omega) (by omega) (by omega) (by omega) (by omega) (by omega) (by omega) (by omega)]
      exact Nat.le_refl _
  have e5 : ∀ s, s ≠ r → G' (16 * s + 4) = G (16 * s + 4) ∧ G' (16 * s + 5) = G (16 * s + 5) := fun s hs => ⟨fG _ (by omega) (by omega) (by omega) (by omega) (by omega) (by omega) (by omega) (by omega), fG _ (by omega) (by omega) (by omega) (by omega) (by omega) (by omega) (by omega) (by omega)⟩
  have rowF : ∀ x X, (∀ k, k < 57 → F' (X + k) = F (X + k)) → x < 52 → x ≠ r → x ≠ nr → rr N G x F X → rr N' G' x F' X := fun x X hF hx hxr hxn hrr =>
    rr_frame hrr hF (fun s hs => ⟨fG _ (by omega) (by omega) (by omega) (by omega) (by omega) (by omega) (by omega) (by omega), fG _ (by omega) (by omega) (by omega) (by omega) (by omega) (by omega) (by omega) (by omega)⟩) (fun u hu ua => hc u hu (rr_kN hrr hu (rr_ak hrr hu ua))) hN (by have := rr_c24 hS b7 hrr; omega)
  refine ⟨hNS, ht', ⟨?_, ?_, ?_, ?_, ?_, f10, g24, ?_, by omega, by omega⟩, fun s hs => ?_, fun s q hs hq => ?_, fun s hs => ?_, hC, fun x hx => ?_, fun s hs => ?_, fun i hi => ?_, fun i j hij hj => ?_⟩
  · rw [fF 1 (by omega) (by omega) (by omega) (by omega) (by omega) (by omega) (by omega)]; exact s1
  · rw [fF 5 (by omega) (by omega) (by omega) (by omega) (by omega) (by omega) (by omega)]; exact s2
  · rw [fF 6 (by omega) (by omega) (by omega) (by omega) (by omega) (by omega) (by omega), e40]; exact s3
  · rw [fF 7 (by omega) (by omega) (by omega) (by omega) (by omega) (by omega) (by omega), e56]; exact s4
  · rw [fF 7 (by omega) (by omega) (by omega) (by omega) (by omega) (by omega) (by omega)]; exact s5
  · rw [fF 11 (by omega) (by omega) (by omega) (by omega) (by omega) (by omega) (by omega), e8]; exact s8
  · obtain ⟨c1, c2, c3, c4, c5⟩ := b4 s hs
    by_cases e : s = r
    · subst e
      exact ⟨by omega, m16, by omega, by omega, by omega⟩
    · obtain ⟨d1, d2⟩ := e5 s e
      refine ⟨?_, ?_, by omega, by omega, by omega⟩
      · rw [fF (12 + s) (by omega) (by omega) (by omega) (by omega) (by omega) (by omega) (by omega), d1]; exact c1
      · rw [fF (16 + s) (by omega) (by omega) (by omega) (by omega) (by omega) (by omega) (by omega), d2]; exact c2
  · obtain ⟨c1, c2⟩ := b5 s q hs hq
    have := e4 s
    refine ⟨?_, by rw [e3]; omega⟩
    rw [fF (20 + 4 * s + q) (by omega) (by omega) (by omega) (by omega) (by omega) (by omega) (by omega), e3]; exact c1
  · obtain ⟨q, q1, q2, q3⟩ := b6 s hs
    refine ⟨q, q1, q2, ?_⟩
    rw [e3]
    by_cases e : s = r
    · subst e; omega
    · rw [(e5 s e).2]; exact q3
  · by_cases e : x = r
    · subst e; exact row1
    · by_cases e2 : x = nr
      · subst e2; exact row2
      · exact rowF x _ (fun k hk => fF _ (by omega) (by omega) (by omega) (by omega) (by omega) (by omega) (by omega)) (by omega) e e2 (b8 x hx)
  · by_cases e : s = r
    · subst e; exact own
    · rw [fG _ (by omega) (by omega) (by omega) (by omega) (by omega) (by omega) (by omega) (by omega), hNo s e]; exact b9 s hs
  · rw [e8] at hi
    obtain ⟨⟨f1, f2⟩, ⟨f3, f4⟩, f5, ⟨f6, f7, f8⟩, f9, f11, f12⟩ := b10 i hi
    have hF : ∀ k, k < 6 → F' (61 + 6 * i + k) = F (61 + 6 * i + k) := fun k hk => fF _ (by omega) (by omega) (by omega) (by omega) (by omega) (by omega) (by omega)
    unfold rl_f
    rw [hF 0 (by omega), hF 1 (by omega), hF 2 (by omega), hF 3 (by omega), hF 4 (by omega), hF 5 (by omega), e6, e6, e6, e6, e6, e40]
    refine ⟨⟨f1, f2⟩, ⟨f3, f4⟩, f5, ⟨f6, f7, f8⟩, f9, f11, ?_⟩
    rcases f12 with ⟨p1, p2, p3⟩ | ⟨p1, p2, p3, p4⟩
    · exact Or.inl ⟨p1, p2, Nat.le_trans p3 (e4 _)⟩
    · exact Or.inr ⟨p1, by omega, Nat.le_trans p3 (e4 _), rowF (28 + i) _ (fun k hk => fF _ (by omega) (by omega) (by omega) (by omega) (by omega) (by omega) (by omega)) (by omega) (by omega) (by omega) p4⟩
  · rw [e8] at hj
    rw [e6, e6]; exact b11 i j hij hj
