/-! the script: its clauses -/
def sx (nn : Nat) (f : Nat → Int32) (k : Nat) : Nat := lw_pk nn f (56 + k)
def sw (nn : Nat) (f : Nat → Int32) (k : Nat) : Nat := sx nn f k % 5
def sa (nn : Nat) (f : Nat → Int32) (k : Nat) : Nat := sx nn f k / 2 % 4
def sb (nn : Nat) (f : Nat → Int32) (k : Nat) : Nat := sx nn f k / 8 % 4
def sf (nn : Nat) (f : Nat → Int32) (k : Nat) : Nat := sx nn f k / 16 % 3
theorem swb (nn : Nat) (f : Nat → Int32) (k : Nat) : sw nn f k < 5 ∧ sa nn f k < 4 ∧ sb nn f k < 4 ∧ sf nn f k < 3 := by unfold sw sa sb sf; omega
def sl (nn : Nat) (f : Nat → Int32) (k : Nat) : Nat := xt_sl.getD (sw nn f k + 2) 0
def sof (nn : Nat) (f : Nat → Int32) : Nat → Nat
  | 0 => 0
  | k + 1 => sof nn f k + sl nn f k
theorem slb : ∀ w, w < 5 → 6 ≤ xt_sl.getD (w + 2) 0 ∧ xt_sl.getD (w + 2) 0 ≤ 22 := by decide +kernel
theorem sofb (nn : Nat) (f : Nat → Int32) : ∀ k, sof nn f k ≤ 22 * k
  | 0 => Nat.le_refl _
  | k + 1 => by
    have := sofb nn f k
    have := (slb _ (swb nn f k).1).2
    unfold sof sl
    omega
theorem sofm (nn : Nat) (f : Nat → Int32) : ∀ m k, sof nn f k ≤ sof nn f (k + m)
  | 0, k => Nat.le_refl _
  | m + 1, k => Nat.le_trans (sofm nn f m k) (Nat.le_add_right _ _)
/-- where a clause has digits by the row -/
def cmk (w j : Nat) : Bool := if w = 0 then Nat.beq j 4 || (Nat.beq j 9 || Nat.beq j 14) else if w = 1 then Nat.beq j 6 || (Nat.beq j 11 || Nat.beq j 16) else if w = 2 then Nat.beq j 6 || Nat.beq j 11 else if w = 3 then Nat.beq j 5 || Nat.beq j 10 else false
def cch (w a b g j : Nat) : Nat := if w = 0 then (if j = 4 then 48 + g else if j = 9 then 48 + b else if j = 14 then 48 + a else kb 2 j) else if w = 1 then (if j = 6 then 48 + g else if j = 11 then 48 + b else if j = 16 then 48 + a else kb 3 j) else if w = 2 then (if j = 6 then 48 + b else if j = 11 then 48 + a else kb 4 j) else if w = 3 then (if j = 5 then 48 + b else if j = 10 then 48 + a else kb 5 j) else kb 6 j
def sch (nn : Nat) (f : Nat → Int32) (k j : Nat) : Nat := cch (sw nn f k) (sa nn f k) (sb nn f k) (sf nn f k) j
/-- a text begins with so many clauses -/
def TOK (nn : Nat) (f : Nat → Int32) (k : Nat) (t : Nat → Nat) : Prop := ∀ i, i < k → ∀ j, j < sl nn f i → t (sof nn f i + j) = sch nn f i j
/-- what a clause's parts are -/
def cpt (w a b g p : Nat) : Nat := if p = 0 then w + 2 else if w = 0 then (if p = 1 then g else if p = 2 then b else if p = 3 then a else 50) else if w = 1 then (if p = 1 then g else if p = 2 then b else a) else if w = 4 then 2 else if p = 1 then b else a
def cpm (w : Nat) : Nat := if w = 0 then 4 else if w = 1 then 3 else if w = 4 then 1 else 2
def CLK (nn : Nat) (f : Nat → Int32) (k : Nat) (C : Nat → Nat) : Prop := ∀ i, i < k → ∀ p, p ≤ cpm (sw nn f i) → C (i * 5 + p) = cpt (sw nn f i) (sa nn f i) (sb nn f i) (sf nn f i) p
/-- the first word of a clause -/
def cwl (w : Nat) : Nat := if w = 0 then 3 else if w = 1 then 5 else if w = 2 then 5 else if w = 3 then 4 else 3
def HDk (nn : Nat) (f : Nat → Int32) (k : Nat) : Nat := if k < 8 then sof nn f k + cwl (sw nn f k) else sof nn f 8
def HDt (nn : Nat) (f : Nat → Int32) (k : Nat) : Nat := if k < 8 then sw nn f k + 2 else 39
theorem cch_b : ∀ w, w < 5 → ∀ j, j < xt_sl.getD (w + 2) 0 → kb (w + 2) j < 128 ∧ ¬ (65 ≤ kb (w + 2) j ∧ kb (w + 2) j ≤ 73) := by decide +kernel
theorem cch_u {w a b g j : Nat} (hw : w < 5) (hm : cmk w j = false) : cch w a b g j = kb (w + 2) j := by
  have nb : ∀ {x y : Nat}, Nat.beq x y = false → x ≠ y := fun h e => by rw [e, Nat.beq_refl] at h; cases h
  have e : w = 0 ∨ w = 1 ∨ w = 2 ∨ w = 3 ∨ w = 4 := by omega
  unfold cmk at hm
  unfold cch
  rcases e with rfl | rfl | rfl | rfl | rfl
  · rw [if_pos rfl, Bool.or_eq_false_iff, Bool.or_eq_false_iff] at hm
    rw [if_pos rfl, if_neg (nb hm.1), if_neg (nb hm.2.1), if_neg (nb hm.2.2)]
  · rw [if_neg (by decide), if_pos rfl, Bool.or_eq_false_iff, Bool.or_eq_false_iff] at hm
    rw [if_neg (by decide), if_pos rfl, if_neg (nb hm.1), if_neg (nb hm.2.1), if_neg (nb hm.2.2)]
  · rw [if_neg (by decide), if_neg (by decide), if_pos rfl, Bool.or_eq_false_iff] at hm
    rw [if_neg (by decide), if_neg (by decide), if_pos rfl, if_neg (nb hm.1), if_neg (nb hm.2)]
  · rw [if_neg (by decide), if_neg (by decide), if_neg (by decide), if_pos rfl, Bool.or_eq_false_iff] at hm
    rw [if_neg (by decide), if_neg (by decide), if_neg (by decide), if_pos rfl, if_neg (nb hm.1), if_neg (nb hm.2)]
  · rw [if_neg (by decide), if_neg (by decide), if_neg (by decide), if_neg (by decide)]
theorem cch_lt {w a b g j : Nat} (hw : w < 5) (ha : a < 4) (hb : b < 4) (hg : g < 3) (hj : j < xt_sl.getD (w + 2) 0) : cch w a b g j < 128 := by
  have k := (cch_b w hw j hj).1
  have e : w = 0 ∨ w = 1 ∨ w = 2 ∨ w = 3 ∨ w = 4 := by omega
  unfold cch
  rcases e with rfl | rfl | rfl | rfl | rfl
  · rw [if_pos rfl]
    split; omega; split; omega; split; omega; exact k
  · rw [if_neg (by decide), if_pos rfl]
    split; omega; split; omega; split; omega; exact k
  · rw [if_neg (by decide), if_neg (by decide), if_pos rfl]
    split; omega; split; omega; exact k
  · rw [if_neg (by decide), if_neg (by decide), if_neg (by decide), if_pos rfl]
    split; omega; split; omega; exact k
  · rw [if_neg (by decide), if_neg (by decide), if_neg (by decide), if_neg (by decide)]
    exact k
theorem TOK.lt {nn : Nat} {f : Nat → Int32} : ∀ {k : Nat} {t : Nat → Nat}, TOK nn f k t → ∀ j, j < sof nn f k → t j < 128
  | 0, t, h, j, hj => absurd hj (Nat.not_lt_zero _)
  | k + 1, t, h, j, hj => by
    by_cases e : j < sof nn f k
    · exact TOK.lt (fun i hi => h i (by omega)) j e
    · have hj2 : j < sof nn f k + sl nn f k := hj
      have h1 := h k (by omega) (j - sof nn f k) (by omega)
      rw [show sof nn f k + (j - sof nn f k) = j by omega] at h1
      rw [h1]
      have q := swb nn f k
      exact cch_lt q.1 q.2.1 q.2.2.1 q.2.2.2 (show j - sof nn f k < sl nn f k by omega)
theorem TOK.E {nn : Nat} {f : Nat → Int32} {k : Nat} {t : Nat → Nat} (h : TOK nn f k t) {i : Nat} (hi : i < k) {w : Nat} (ew : sw nn f i = w) : tkE t (sof nn f i) (w + 2) (xt_sl.getD (w + 2) 0) (cmk w) := fun j hj hm => by
  subst ew
  rw [h i hi j hj]
  exact cch_u (swb nn f i).1 hm
theorem TOK.m {nn : Nat} {f : Nat → Int32} {k : Nat} {t : Nat → Nat} (h : TOK nn f k t) {i : Nat} (hi : i < k) {w : Nat} (ew : sw nn f i = w) (j x : Nat) (hj : j < xt_sl.getD (w + 2) 0) (e : cch w (sa nn f i) (sb nn f i) (sf nn f i) j = 48 + x) : t (sof nn f i + j) = 48 + x := by
  subst ew
  rw [h i hi j hj]
  exact e
/-- a clause's first word is read -/
theorem HD_ad {nn : Nat} {f : Nat → Int32} {t : Nat → Nat} (h : TOK nn f 8 t) (nu i : Nat) (hi : i ≤ 8) : adR t (sof nn f 8) (sof nn f i) nu (sof nn f i) (HDk nn f i) (HDt nn f i) nu := by
  have h300 : sof nn f 8 ≤ 300 := by have := sofb nn f 8; omega
  unfold HDk HDt
  by_cases e : i < 8
  · rw [if_pos e, if_pos e]
    have hn : sof nn f i + xt_sl.getD (sw nn f i + 2) 0 ≤ sof nn f 8 := by
      have := sofm nn f (8 - (i + 1)) (i + 1)
      rw [show i + 1 + (8 - (i + 1)) = 8 by omega] at this
      exact this
    obtain ⟨w, ew⟩ : ∃ w, sw nn f i = w := ⟨_, rfl⟩
    have q := (swb nn f i).1
    rw [ew] at hn q ⊢
    have hE := h.E e ew
    have e5 : w = 0 ∨ w = 1 ∨ w = 2 ∨ w = 3 ∨ w = 4 := by omega
    rcases e5 with rfl | rfl | rfl | rfl | rfl
    · exact ytW hE h300 h.lt hn nu 0 0 3 2 (by decide +kernel)
    · exact ytW hE h300 h.lt hn nu 0 0 5 3 (by decide +kernel)
    · exact ytW hE h300 h.lt hn nu 0 0 5 4 (by decide +kernel)
    · exact ytW hE h300 h.lt hn nu 0 0 4 5 (by decide +kernel)
    · exact ytW hE h300 h.lt hn nu 0 0 3 6 (by decide +kernel)
  · rw [if_neg e, if_neg e]
    obtain rfl : i = 8 := by omega
    exact adR_e t (sof nn f 8) nu h300
theorem cpm_4 (w : Nat) : cpm w ≤ 4 := by
  unfold cpm
  split; omega; split; omega; split <;> omega
theorem cl_rd0 (d c s : Nat) (W0 : xi_W) (nn : Nat) (f : Nat → Int32) (t : Nat → Nat) (h : TOK nn f 8 t) (i : Nat) (hi : i < 8) (ew : sw nn f i = 0) (st nu pa lw : Nat) (C B : Nat → Nat) (hS : RDS t (sof nn f 8) st (HDk nn f i) (HDt nn f i) nu 0 4294967295 i pa lw C B [] W0) (hC : CLK nn f i C) (r : xi_R → Prop) (K : ∀ W' st nu pa C', CLK nn f (i + 1) C' → RDS t (sof nn f 8) st (HDk nn f (i + 1)) (HDt nn f (i + 1)) nu 0 4294967295 (i + 1) pa lw C' B [] W' → fr rdp W0 W' → r (some (.int (Int32.ofNat 1)), W', c, s)) : xr (d + 10) 31 0 [(0, .ref 18)] [] W0 c s r := by
  have h300 : sof nn f 8 ≤ 300 := by have := sofb nn f 8; omega
  obtain ⟨q1, q2, q3, q4⟩ := swb nn f i
  have hn : sof nn f i + xt_sl.getD (0 + 2) 0 ≤ sof nn f 8 := by
    have := sofm nn f (8 - (i + 1)) (i + 1)
    rw [show i + 1 + (8 - (i + 1)) = 8 by omega] at this
    have e2 : sof nn f (i + 1) = sof nn f i + xt_sl.getD (sw nn f i + 2) 0 := rfl
    rw [ew] at e2
    omega
  have hE := h.E hi ew
  have a0 : adR t (sof nn f 8) (sof nn f i + 3) nu (sof nn f i + 4) (sof nn f i + 5) 38 (sf nn f i) := ytD hE h300 h.lt hn nu 3 4 (sf nn f i) (h.m hi ew 4 (sf nn f i) (by decide +kernel) rfl) (by omega) (by decide +kernel)
  have a1 : adR t (sof nn f 8) (sof nn f i + 5) (sf nn f i) (sof nn f i + 6) (sof nn f i + 8) 7 (sf nn f i) := ytW hE h300 h.lt hn (sf nn f i) 5 6 2 7 (by decide +kernel)
  have a2 : adR t (sof nn f 8) (sof nn f i + 8) (sf nn f i) (sof nn f i + 9) (sof nn f i + 10) 38 (sb nn f i) := ytD hE h300 h.lt hn (sf nn f i) 8 9 (sb nn f i) (h.m hi ew 9 (sb nn f i) (by decide +kernel) rfl) (by omega) (by decide +kernel)
  have a3 : adR t (sof nn f 8) (sof nn f i + 10) (sb nn f i) (sof nn f i + 11) (sof nn f i + 13) 8 (sb nn f i) := ytW hE h300 h.lt hn (sb nn f i) 10 11 2 8 (by decide +kernel)
  have a4 : adR t (sof nn f 8) (sof nn f i + 13) (sb nn f i) (sof nn f i + 14) (sof nn f i + 15) 38 (sa nn f i) := ytD hE h300 h.lt hn (sb nn f i) 13 14 (sa nn f i) (h.m hi ew 14 (sa nn f i) (by decide +kernel) rfl) (by omega) (by decide +kernel)
  have a5 : adR t (sof nn f 8) (sof nn f i + 15) (sa nn f i) (sof nn f i + 16) (sof nn f i + 18) 9 (sa nn f i) := ytW hE h300 h.lt hn (sa nn f i) 15 16 2 9 (by decide +kernel)
  have a6 : adR t (sof nn f 8) (sof nn f i + 18) (sa nn f i) (sof nn f i + 19) (sof nn f i + 21) 38 50 := ytM hE h300 h.lt hn (sa nn f i) 18 19 50 (by decide +kernel)
  have a7 : adR t (sof nn f 8) (sof nn f i + 21) 50 (sof nn f i + 21) (sof nn f i + 22) 35 50 := ytS hE h300 h.lt hn 50 21 21 10 (by decide +kernel)
  have aZ := HD_ad h 50 (i + 1) (by omega)
  have e2 : sof nn f (i + 1) = sof nn f i + 22 := by
    show sof nn f i + xt_sl.getD (sw nn f i + 2) 0 = _
    rw [ew]
    rfl
  rw [e2] at aZ
  unfold HDk HDt at hS
  rw [if_pos hi, if_pos hi, ew] at hS
  refine rc_act d c s W0 t (sof nn f 8) _ _ _ _ _ _ _ _ _ _ _ _ hS (by omega) (by omega) (by omega) a0 (pa_set (by omega) (by omega) (by omega) (by omega) (by omega) a1 a2 a3 a4 a5 a6 a7) aZ r (fun W' h1 hf => K W' _ _ _ _ ?_ h1 hf)
  intro j hj p hp
  by_cases e : j = i
  · subst e
    rw [ew] at hp ⊢
    have hp : p ≤ 4 := hp
    have e5 : p = 0 ∨ p = 1 ∨ p = 2 ∨ p = 3 ∨ p = 4 := by omega
    rcases e5 with rfl | rfl | rfl | rfl | rfl
    all_goals (unfold xn_u; repeat (first | rfl | (rw [if_neg (by omega)]) | (rw [if_pos (by omega)])))
  · rw [xn_un _ _ (by have : cpm (sw nn f j) ≤ 4 := cpm_4 _; omega), xn_un _ _ (by have : cpm (sw nn f j) ≤ 4 := cpm_4 _; omega), xn_un _ _ (by have : cpm (sw nn f j) ≤ 4 := cpm_4 _; omega), xn_un _ _ (by have : cpm (sw nn f j) ≤ 4 := cpm_4 _; omega), xn_un _ _ (by have : cpm (sw nn f j) ≤ 4 := cpm_4 _; omega)]
    exact hC j (by omega) p hp
theorem cl_rd1 (d c s : Nat) (W0 : xi_W) (nn : Nat) (f : Nat → Int32) (t : Nat → Nat) (h : TOK nn f 8 t) (i : Nat) (hi : i < 8) (ew : sw nn f i = 1) (st nu pa lw : Nat) (C B : Nat → Nat) (hS : RDS t (sof nn f 8) st (HDk nn f i) (HDt nn f i) nu 0 4294967295 i pa lw C B [] W0) (hC : CLK nn f i C) (r : xi_R → Prop) (K : ∀ W' st nu pa C', CLK nn f (i + 1) C' → RDS t (sof nn f 8) st (HDk nn f (i + 1)) (HDt nn f (i + 1)) nu 0 4294967295 (i + 1) pa lw C' B [] W' → fr rdp W0 W' → r (some (.int (Int32.ofNat 1)), W', c, s)) : xr (d + 10) 31 0 [(0, .ref 18)] [] W0 c s r := by
  have h300 : sof nn f 8 ≤ 300 := by have := sofb nn f 8; omega
  obtain ⟨q1, q2, q3, q4⟩ := swb nn f i
  have hn : sof nn f i + xt_sl.getD (1 + 2) 0 ≤ sof nn f 8 := by
    have := sofm nn f (8 - (i + 1)) (i + 1)
    rw [show i + 1 + (8 - (i + 1)) = 8 by omega] at this
    have e2 : sof nn f (i + 1) = sof nn f i + xt_sl.getD (sw nn f i + 2) 0 := rfl
    rw [ew] at e2
    omega
  have hE := h.E hi ew
  have a0 : adR t (sof nn f 8) (sof nn f i + 5) nu (sof nn f i + 6) (sof nn f i + 7) 38 (sf nn f i) := ytD hE h300 h.lt hn nu 5 6 (sf nn f i) (h.m hi ew 6 (sf nn f i) (by decide +kernel) rfl) (by omega) (by decide +kernel)
  have a1 : adR t (sof nn f 8) (sof nn f i + 7) (sf nn f i) (sof nn f i + 8) (sof nn f i + 10) 7 (sf nn f i) := ytW hE h300 h.lt hn (sf nn f i) 7 8 2 7 (by decide +kernel)
  have a2 : adR t (sof nn f 8) (sof nn f i + 10) (sf nn f i) (sof nn f i + 11) (sof nn f i + 12) 38 (sb nn f i) := ytD hE h300 h.lt hn (sf nn f i) 10 11 (sb nn f i) (h.m hi ew 11 (sb nn f i) (by decide +kernel) rfl) (by omega) (by decide +kernel)
  have a3 : adR t (sof nn f 8) (sof nn f i + 12) (sb nn f i) (sof nn f i + 13) (sof nn f i + 15) 8 (sb nn f i) := ytW hE h300 h.lt hn (sb nn f i) 12 13 2 8 (by decide +kernel)
  have a4 : adR t (sof nn f 8) (sof nn f i + 15) (sb nn f i) (sof nn f i + 16) (sof nn f i + 17) 38 (sa nn f i) := ytD hE h300 h.lt hn (sb nn f i) 15 16 (sa nn f i) (h.m hi ew 16 (sa nn f i) (by decide +kernel) rfl) (by omega) (by decide +kernel)
  have a5 : adR t (sof nn f 8) (sof nn f i + 17) (sa nn f i) (sof nn f i + 17) (sof nn f i + 18) 35 (sa nn f i) := ytS hE h300 h.lt hn (sa nn f i) 17 17 10 (by decide +kernel)
  have aZ := HD_ad h (sa nn f i) (i + 1) (by omega)
  have e2 : sof nn f (i + 1) = sof nn f i + 18 := by
    show sof nn f i + xt_sl.getD (sw nn f i + 2) 0 = _
    rw [ew]
    rfl
  rw [e2] at aZ
  unfold HDk HDt at hS
  rw [if_pos hi, if_pos hi, ew] at hS
  refine rc_act d c s W0 t (sof nn f 8) _ _ _ _ _ _ _ _ _ _ _ _ hS (by omega) (by omega) (by omega) a0 (pa_clr (by omega) (by omega) (by omega) (by omega) a1 a2 a3 a4 a5) aZ r (fun W' h1 hf => K W' _ _ _ _ ?_ h1 hf)
  intro j hj p hp
  by_cases e : j = i
  · subst e
    rw [ew] at hp ⊢
    have hp : p ≤ 3 := hp
    have e5 : p = 0 ∨ p = 1 ∨ p = 2 ∨ p = 3 := by omega
    rcases e5 with rfl | rfl | rfl | rfl
    all_goals (unfold xn_u; repeat (first | rfl | (rw [if_neg (by omega)]) | (rw [if_pos (by omega)])))
  · rw [xn_un _ _ (by have : cpm (sw nn f j) ≤ 4 := cpm_4 _; omega), xn_un _ _ (by have : cpm (sw nn f j) ≤ 4 := cpm_4 _; omega), xn_un _ _ (by have : cpm (sw nn f j) ≤ 4 := cpm_4 _; omega), xn_un _ _ (by have : cpm (sw nn f j) ≤ 4 := cpm_4 _; omega)]
    exact hC j (by omega) p hp
theorem cl_rd2 (d c s : Nat) (W0 : xi_W) (nn : Nat) (f : Nat → Int32) (t : Nat → Nat) (h : TOK nn f 8 t) (i : Nat) (hi : i < 8) (ew : sw nn f i = 2) (st nu pa lw : Nat) (C B : Nat → Nat) (hS : RDS t (sof nn f 8) st (HDk nn f i) (HDt nn f i) nu 0 4294967295 i pa lw C B [] W0) (hC : CLK nn f i C) (r : xi_R → Prop) (K : ∀ W' st nu pa C', CLK nn f (i + 1) C' → RDS t (sof nn f 8) st (HDk nn f (i + 1)) (HDt nn f (i + 1)) nu 0 4294967295 (i + 1) pa lw C' B [] W' → fr rdp W0 W' → r (some (.int (Int32.ofNat 1)), W', c, s)) : xr (d + 10) 31 0 [(0, .ref 18)] [] W0 c s r := by
  have h300 : sof nn f 8 ≤ 300 := by have := sofb nn f 8; omega
  obtain ⟨q1, q2, q3, q4⟩ := swb nn f i
  have hn : sof nn f i + xt_sl.getD (2 + 2) 0 ≤ sof nn f 8 := by
    have := sofm nn f (8 - (i + 1)) (i + 1)
    rw [show i + 1 + (8 - (i + 1)) = 8 by omega] at this
    have e2 : sof nn f (i + 1) = sof nn f i + xt_sl.getD (sw nn f i + 2) 0 := rfl
    rw [ew] at e2
    omega
  have hE := h.E hi ew
  have a0 : adR t (sof nn f 8) (sof nn f i + 5) nu (sof nn f i + 6) (sof nn f i + 7) 38 (sb nn f i) := ytD hE h300 h.lt hn nu 5 6 (sb nn f i) (h.m hi ew 6 (sb nn f i) (by decide +kernel) rfl) (by omega) (by decide +kernel)
  have a1 : adR t (sof nn f 8) (sof nn f i + 7) (sb nn f i) (sof nn f i + 8) (sof nn f i + 10) 8 (sb nn f i) := ytW hE h300 h.lt hn (sb nn f i) 7 8 2 8 (by decide +kernel)
  have a2 : adR t (sof nn f 8) (sof nn f i + 10) (sb nn f i) (sof nn f i + 11) (sof nn f i + 12) 38 (sa nn f i) := ytD hE h300 h.lt hn (sb nn f i) 10 11 (sa nn f i) (h.m hi ew 11 (sa nn f i) (by decide +kernel) rfl) (by omega) (by decide +kernel)
  have a3 : adR t (sof nn f 8) (sof nn f i + 12) (sa nn f i) (sof nn f i + 12) (sof nn f i + 13) 35 (sa nn f i) := ytS hE h300 h.lt hn (sa nn f i) 12 12 10 (by decide +kernel)
  have aZ := HD_ad h (sa nn f i) (i + 1) (by omega)
  have e2 : sof nn f (i + 1) = sof nn f i + 13 := by
    show sof nn f i + xt_sl.getD (sw nn f i + 2) 0 = _
    rw [ew]
    rfl
  rw [e2] at aZ
  unfold HDk HDt at hS
  rw [if_pos hi, if_pos hi, ew] at hS
  refine rc_act d c s W0 t (sof nn f 8) _ _ _ _ _ _ _ _ _ _ _ _ hS (by omega) (by omega) (by omega) a0 (pa_rst (by omega) (by omega) (by omega) a1 a2 a3) aZ r (fun W' h1 hf => K W' _ _ _ _ ?_ h1 hf)
  intro j hj p hp
  by_cases e : j = i
  · subst e
    rw [ew] at hp ⊢
    have hp : p ≤ 2 := hp
    have e5 : p = 0 ∨ p = 1 ∨ p = 2 := by omega
    rcases e5 with rfl | rfl | rfl
    all_goals (unfold xn_u; repeat (first | rfl | (rw [if_neg (by omega)]) | (rw [if_pos (by omega)])))
  · rw [xn_un _ _ (by have : cpm (sw nn f j) ≤ 4 := cpm_4 _; omega), xn_un _ _ (by have : cpm (sw nn f j) ≤ 4 := cpm_4 _; omega), xn_un _ _ (by have : cpm (sw nn f j) ≤ 4 := cpm_4 _; omega)]
    exact hC j (by omega) p hp
theorem cl_rd3 (d c s : Nat) (W0 : xi_W) (nn : Nat) (f : Nat → Int32) (t : Nat → Nat) (h : TOK nn f 8 t) (i : Nat) (hi : i < 8) (ew : sw nn f i = 3) (st nu pa lw : Nat) (C B : Nat → Nat) (hS : RDS t (sof nn f 8) st (HDk nn f i) (HDt nn f i) nu 0 4294967295 i pa lw C B [] W0) (hC : CLK nn f i C) (r : xi_R → Prop) (K : ∀ W' st nu pa C', CLK nn f (i + 1) C' → RDS t (sof nn f 8) st (HDk nn f (i + 1)) (HDt nn f (i + 1)) nu 0 4294967295 (i + 1) pa lw C' B [] W' → fr rdp W0 W' → r (some (.int (Int32.ofNat 1)), W', c, s)) : xr (d + 10) 31 0 [(0, .ref 18)] [] W0 c s r := by
  have h300 : sof nn f 8 ≤ 300 := by have := sofb nn f 8; omega
  obtain ⟨q1, q2, q3, q4⟩ := swb nn f i
  have hn : sof nn f i + xt_sl.getD (3 + 2) 0 ≤ sof nn f 8 := by
    have := sofm nn f (8 - (i + 1)) (i + 1)
    rw [show i + 1 + (8 - (i + 1)) = 8 by omega] at this
    have e2 : sof nn f (i + 1) = sof nn f i + xt_sl.getD (sw nn f i + 2) 0 := rfl
    rw [ew] at e2
    omega
  have hE := h.E hi ew
  have a0 : adR t (sof nn f 8) (sof nn f i + 4) nu (sof nn f i + 5) (sof nn f i + 6) 38 (sb nn f i) := ytD hE h300 h.lt hn nu 4 5 (sb nn f i) (h.m hi ew 5 (sb nn f i) (by decide +kernel) rfl) (by omega) (by decide +kernel)
  have a1 : adR t (sof nn f 8) (sof nn f i + 6) (sb nn f i) (sof nn f i + 7) (sof nn f i + 9) 9 (sb nn f i) := ytW hE h300 h.lt hn (sb nn f i) 6 7 2 9 (by decide +kernel)
  have a2 : adR t (sof nn f 8) (sof nn f i + 9) (sb nn f i) (sof nn f i + 10) (sof nn f i + 11) 38 (sa nn f i) := ytD hE h300 h.lt hn (sb nn f i) 9 10 (sa nn f i) (h.m hi ew 10 (sa nn f i) (by decide +kernel) rfl) (by omega) (by decide +kernel)
  have a3 : adR t (sof nn f 8) (sof nn f i + 11) (sa nn f i) (sof nn f i + 11) (sof nn f i + 12) 35 (sa nn f i) := ytS hE h300 h.lt hn (sa nn f i) 11 11 10 (by decide +kernel)
  have aZ := HD_ad h (sa nn f i) (i + 1) (by omega)
  have e2 : sof nn f (i + 1) = sof nn f i + 12 := by
    show sof nn f i + xt_sl.getD (sw nn f i + 2) 0 = _
    rw [ew]
    rfl
  rw [e2] at aZ
  unfold HDk HDt at hS
  rw [if_pos hi, if_pos hi, ew] at hS
  refine rc_act d c s W0 t (sof nn f 8) _ _ _ _ _ _ _ _ _ _ _ _ hS (by omega) (by omega) (by omega) a0 (pa_snd (by omega) (by omega) (by omega) a1 a2 a3) aZ r (fun W' h1 hf => K W' _ _ _ _ ?_ h1 hf)
  intro j hj p hp
  by_cases e : j = i
  · subst e
    rw [ew] at hp ⊢
    have hp : p ≤ 2 := hp
    have e5 : p = 0 ∨ p = 1 ∨ p = 2 := by omega
    rcases e5 with rfl | rfl | rfl
    all_goals (unfold xn_u; repeat (first | rfl | (rw [if_neg (by omega)]) | (rw [if_pos (by omega)])))
  · rw [xn_un _ _ (by have : cpm (sw nn f j) ≤ 4 := cpm_4 _; omega), xn_un _ _ (by have : cpm (sw nn f j) ≤ 4 := cpm_4 _; omega), xn_un _ _ (by have : cpm (sw nn f j) ≤ 4 := cpm_4 _; omega)]
    exact hC j (by omega) p hp
theorem cl_rd4 (d c s : Nat) (W0 : xi_W) (nn : Nat) (f : Nat → Int32) (t : Nat → Nat) (h : TOK nn f 8 t) (i : Nat) (hi : i < 8) (ew : sw nn f i = 4) (st nu pa lw : Nat) (C B : Nat → Nat) (hS : RDS t (sof nn f 8) st (HDk nn f i) (HDt nn f i) nu 0 4294967295 i pa lw C B [] W0) (hC : CLK nn f i C) (r : xi_R → Prop) (K : ∀ W' st nu pa C', CLK nn f (i + 1) C' → RDS t (sof nn f 8) st (HDk nn f (i + 1)) (HDt nn f (i + 1)) nu 0 4294967295 (i + 1) pa lw C' B [] W' → fr rdp W0 W' → r (some (.int (Int32.ofNat 1)), W', c, s)) : xr (d + 10) 31 0 [(0, .ref 18)] [] W0 c s r := by
  have h300 : sof nn f 8 ≤ 300 := by have := sofb nn f 8; omega
  obtain ⟨q1, q2, q3, q4⟩ := swb nn f i
  have hn : sof nn f i + xt_sl.getD (4 + 2) 0 ≤ sof nn f 8 := by
    have := sofm nn f (8 - (i + 1)) (i + 1)
    rw [show i + 1 + (8 - (i + 1)) = 8 by omega] at this
    have e2 : sof nn f (i + 1) = sof nn f i + xt_sl.getD (sw nn f i + 2) 0 := rfl
    rw [ew] at e2
    omega
  have hE := h.E hi ew
  have a0 : adR t (sof nn f 8) (sof nn f i + 3) nu (sof nn f i + 4) (sof nn f i + 5) 38 2 := ytN hE h300 h.lt hn nu 3 4 2 (by decide +kernel) (by decide +kernel)
  have a1 : adR t (sof nn f 8) (sof nn f i + 5) 2 (sof nn f i + 5) (sof nn f i + 6) 35 2 := ytS hE h300 h.lt hn 2 5 5 10 (by decide +kernel)
  have aZ := HD_ad h 2 (i + 1) (by omega)
  have e2 : sof nn f (i + 1) = sof nn f i + 6 := by
    show sof nn f i + xt_sl.getD (sw nn f i + 2) 0 = _
    rw [ew]
    rfl
  rw [e2] at aZ
  unfold HDk HDt at hS
  rw [if_pos hi, if_pos hi, ew] at hS
  refine rc_act d c s W0 t (sof nn f 8) _ _ _ _ _ _ _ _ _ _ _ _ hS (by omega) (by omega) (by omega) a0 (pa_day (by omega) (by omega) (by omega) a1) aZ r (fun W' h1 hf => K W' _ _ _ _ ?_ h1 hf)
  intro j hj p hp
  by_cases e : j = i
  · subst e
    rw [ew] at hp ⊢
    have hp : p ≤ 1 := hp
    have e5 : p = 0 ∨ p = 1 := by omega
    rcases e5 with rfl | rfl
    all_goals (unfold xn_u; repeat (first | rfl | (rw [if_neg (by omega)]) | (rw [if_pos (by omega)])))
  · rw [xn_un _ _ (by have : cpm (sw nn f j) ≤ 4 := cpm_4 _; omega), xn_un _ _ (by have : cpm (sw nn f j) ≤ 4 := cpm_4 _; omega)]
    exact hC j (by omega) p hp
