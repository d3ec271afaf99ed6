/-! tokens of a text that agrees with a constant but where a mask says so -/
def lb (c : Nat) : Bool := (Nat.ble 97 c && Nat.ble c 122) || (Nat.ble 65 c && Nat.ble c 90)
def gb (c : Nat) : Bool := Nat.ble 48 c && Nat.ble c 57
theorem lb_i {c : Nat} (h : lb c = true) : isl c := by
  unfold lb at h
  rw [Bool.or_eq_true, Bool.and_eq_true, Bool.and_eq_true, Nat.ble_eq, Nat.ble_eq, Nat.ble_eq, Nat.ble_eq] at h
  exact h
theorem lb_n {c : Nat} (h : lb c = false) : ¬ isl c := fun z => by
  have : lb c = true := by
    unfold lb
    rw [Bool.or_eq_true, Bool.and_eq_true, Bool.and_eq_true, Nat.ble_eq, Nat.ble_eq, Nat.ble_eq, Nat.ble_eq]
    exact z
  rw [this] at h
  cases h
theorem gb_i {c : Nat} (h : gb c = true) : isg c := by
  unfold gb at h
  rw [Bool.and_eq_true, Nat.ble_eq, Nat.ble_eq] at h
  exact h
theorem gb_n {c : Nat} (h : gb c = false) : ¬ isg c := fun z => by
  have : gb c = true := by
    unfold gb
    rw [Bool.and_eq_true, Nat.ble_eq, Nat.ble_eq]
    exact z
  rw [this] at h
  cases h
def tkE (tp : Nat → Nat) (b k len : Nat) (mk : Nat → Bool) : Prop := ∀ j, j < len → mk j = false → tp (b + j) = kb k j
/-- a place before a token: there, or behind a blank -/
def bl (k : Nat) (mk : Nat → Bool) (p e : Nat) : Bool := Nat.beq p e || (Nat.beq (p + 1) e && (!mk p && Nat.beq (kb k p) 32))
theorem bl_i {tp : Nat → Nat} {b k len p e : Nat} {mk : Nat → Bool} (h : tkE tp b k len mk) (he : e < len) (hb : bl k mk p e = true) : b + p = b + e ∨ (b + p + 1 = b + e ∧ tp (b + p) = 32) := by
  unfold bl at hb
  rw [Bool.or_eq_true, Bool.and_eq_true, Bool.and_eq_true] at hb
  rcases hb with h1 | ⟨h1, h2, h3⟩
  · exact Or.inl (by rw [Nat.eq_of_beq_eq_true h1])
  · have e1 := Nat.eq_of_beq_eq_true h1
    refine Or.inr ⟨by omega, ?_⟩
    rw [h p (by omega) (by cases z : mk p with | false => rfl | true => rw [z] at h2; cases h2), Nat.eq_of_beq_eq_true h3]
def wck (k len : Nat) (mk : Nat → Bool) (p e kk w : Nat) : Bool := Nat.blt (e + kk) len && (Nat.blt 0 kk && ((List.range kk).all (fun j => lb (kb k (e + j)) && !mk (e + j)) && (!lb (kb k (e + kk)) && (!mk (e + kk) && (bl k mk p e && Nat.beq (wbf (fun m => kb k (e + m)) 0 kk 123 0 0 0) w)))))
theorem all_i {n : Nat} {f : Nat → Bool} (h : (List.range n).all f = true) : ∀ j, j < n → f j = true := fun j hj => List.all_eq_true.mp h j (List.mem_range.mpr hj)
theorem nt_i {b : Bool} (h : (!b) = true) : b = false := by cases b with | false => rfl | true => cases h
theorem ytW {tp : Nat → Nat} {b k len n : Nat} {mk : Nat → Bool} (h : tkE tp b k len mk) (h2 : n ≤ 300) (hb : ∀ j, j < n → tp j < 128) (hn : b + len ≤ n) (nu p e kk w : Nat) (hc : wck k len mk p e kk w = true) : adR tp n (b + p) nu (b + e) (b + (e + kk)) w nu := by
  unfold wck at hc
  rw [Bool.and_eq_true, Bool.and_eq_true, Bool.and_eq_true, Bool.and_eq_true, Bool.and_eq_true, Bool.and_eq_true] at hc
  obtain ⟨c1, c2, c3, c4, c5, c6, c7⟩ := hc
  have c1 := Nat.blt_eq.mp c1
  have c2 := Nat.blt_eq.mp c2
  have c3 := all_i c3
  have u : ∀ j, j < kk → mk (e + j) = false ∧ isl (kb k (e + j)) := fun j hj => by
    have := c3 j hj
    rw [Bool.and_eq_true] at this
    exact ⟨nt_i this.2, lb_i this.1⟩
  have hw : wbf tp (b + e) kk 123 0 0 0 = w := by
    rw [wbf_c (g := fun m => kb k (e + m)) (fun m hm => by rw [Nat.add_assoc]; exact h _ (by omega) (u m hm).1)]
    exact Nat.eq_of_beq_eq_true c7
  have := adR_w tp n (b + p) nu (b + e) h2 hb (by omega) (bl_i h (by omega) c6) kk w (by omega) c2 (fun j h1 h3 => by
    have := u (j - (b + e)) (by omega)
    rw [show j = b + (e + (j - (b + e))) by omega, h _ (by omega) this.1]
    exact this.2) (by rw [Nat.add_assoc, h _ (by omega) (nt_i c5)]; exact lb_n (nt_i c4)) hw
  rw [Nat.add_assoc] at this
  exact this
def sck (k len : Nat) (mk : Nat → Bool) (p e x : Nat) : Bool := Nat.blt e len && (!mk e && (Nat.blt 1 x && (Nat.blt x 11 && (Nat.beq (kb 1 x) (kb k e) && ((List.range x).all (fun j => !Nat.beq (kb 1 j) (kb k e)) && (!lb (kb k e) && (!gb (kb k e) && (!Nat.beq (kb k e) 32 && (!Nat.beq (kb k e) 10 && bl k mk p e)))))))))
theorem nb_i {a b : Nat} (h : (!Nat.beq a b) = true) : a ≠ b := fun e => by
  rw [e, Nat.beq_refl] at h
  cases h
theorem ytS {tp : Nat → Nat} {b k len n : Nat} {mk : Nat → Bool} (h : tkE tp b k len mk) (h2 : n ≤ 300) (hb : ∀ j, j < n → tp j < 128) (hn : b + len ≤ n) (nu p e x : Nat) (hc : sck k len mk p e x = true) : adR tp n (b + p) nu (b + e) (b + (e + 1)) (25 + x) nu := by
  unfold sck at hc
  iterate 10 rw [Bool.and_eq_true] at hc
  obtain ⟨c1, c2, c3, c4, c5, c6, c7, c8, c9, c10, c11⟩ := hc
  have c1 := Nat.blt_eq.mp c1
  have e1 := h e c1 (nt_i c2)
  exact adR_s tp n (b + p) nu (b + e) h2 hb (by omega) (bl_i h c1 c11) x (Nat.blt_eq.mp c3) (Nat.blt_eq.mp c4) (by rw [e1]; exact Nat.eq_of_beq_eq_true c5) (fun j hj => by rw [e1]; exact nb_i (all_i c6 j hj)) (by rw [e1]; exact lb_n (nt_i c7)) (by rw [e1]; exact gb_n (nt_i c8)) (by rw [e1]; exact nb_i c9) (by rw [e1]; exact nb_i c10)
/-- a digit that is masked -/
def dck (k len : Nat) (mk : Nat → Bool) (p e : Nat) : Bool := Nat.blt (e + 1) len && (!mk (e + 1) && (!gb (kb k (e + 1)) && bl k mk p e))
theorem ytD {tp : Nat → Nat} {b k len n : Nat} {mk : Nat → Bool} (h : tkE tp b k len mk) (h2 : n ≤ 300) (hb : ∀ j, j < n → tp j < 128) (hn : b + len ≤ n) (nu p e x : Nat) (hx : tp (b + e) = 48 + x) (hx9 : x ≤ 9) (hc : dck k len mk p e = true) : adR tp n (b + p) nu (b + e) (b + (e + 1)) 38 x := by
  unfold dck at hc
  iterate 3 rw [Bool.and_eq_true] at hc
  obtain ⟨c1, c2, c3, c4⟩ := hc
  have c1 := Nat.blt_eq.mp c1
  have := adR_d tp n (b + p) nu (b + e) h2 hb (by omega) (bl_i h (by omega) c4) (by omega) (by unfold isg; omega) (by rw [Nat.add_assoc, h _ c1 (nt_i c2)]; exact gb_n (nt_i c3))
  rw [hx, Nat.add_sub_cancel_left] at this
  exact this
/-- a digit of the constant -/
def nck (k len : Nat) (mk : Nat → Bool) (p e x : Nat) : Bool := !mk e && (Nat.beq (kb k e) (48 + x) && Nat.ble x 9)
theorem ytN {tp : Nat → Nat} {b k len n : Nat} {mk : Nat → Bool} (h : tkE tp b k len mk) (h2 : n ≤ 300) (hb : ∀ j, j < n → tp j < 128) (hn : b + len ≤ n) (nu p e x : Nat) (hq : nck k len mk p e x = true) (hc : dck k len mk p e = true) : adR tp n (b + p) nu (b + e) (b + (e + 1)) 38 x := by
  unfold nck at hq
  iterate 2 rw [Bool.and_eq_true] at hq
  obtain ⟨c1, c2, c3⟩ := hq
  have hc2 := hc
  unfold dck at hc2
  rw [Bool.and_eq_true] at hc2
  have c4 := Nat.blt_eq.mp hc2.1
  exact ytD h h2 hb hn nu p e x (by rw [h e (by omega) (nt_i c1)]; exact Nat.eq_of_beq_eq_true c2) (Nat.ble_eq.mp c3) hc
/-- two digits of the constant -/
def mck (k len : Nat) (mk : Nat → Bool) (p e x : Nat) : Bool := Nat.blt (e + 2) len && (!mk e && (!mk (e + 1) && (!mk (e + 2) && (gb (kb k e) && (gb (kb k (e + 1)) && (!gb (kb k (e + 2)) && (bl k mk p e && Nat.beq (10 * (kb k e - 48) + (kb k (e + 1) - 48)) x)))))))
theorem ytM {tp : Nat → Nat} {b k len n : Nat} {mk : Nat → Bool} (h : tkE tp b k len mk) (h2 : n ≤ 300) (hb : ∀ j, j < n → tp j < 128) (hn : b + len ≤ n) (nu p e x : Nat) (hc : mck k len mk p e x = true) : adR tp n (b + p) nu (b + e) (b + (e + 2)) 38 x := by
  unfold mck at hc
  iterate 8 rw [Bool.and_eq_true] at hc
  obtain ⟨c1, c2, c3, c4, c5, c6, c7, c8, c9⟩ := hc
  have c1 := Nat.blt_eq.mp c1
  have e0 := h e (by omega) (nt_i c2)
  have e1 := h (e + 1) (by omega) (nt_i c3)
  have e2 := h (e + 2) c1 (nt_i c4)
  have := adR_d2 tp n (b + p) nu (b + e) h2 hb (by omega) (bl_i h (by omega) c8) (by omega) (by rw [e0]; exact gb_i c5) (by rw [Nat.add_assoc, e1]; exact gb_i c6) (by rw [Nat.add_assoc, e2]; exact gb_n (nt_i c7))
  rw [e0, Nat.add_assoc b e 1, e1, Nat.eq_of_beq_eq_true c9] at this
  exact this
def tmk (j : Nat) : Bool := Nat.ble 65 (kb 7 j) && Nat.ble (kb 7 j) 73
/-- the law's text with its digits -/
def tch (nn : Nat) (f : Nat → Int32) (j : Nat) : Nat := if tmk j = true then 48 + lw_dg nn f (kb 7 j - 65) else kb 7 j
theorem TX_all (tp : Nat → Nat) (h : tkE tp 0 7 77 tmk) (hb : ∀ j, j < 77 → tp j < 128) (nn : Nat) (f : Nat → Int32) (hd : ∀ e, e < 77 → tmk e = true → tp (0 + e) = 48 + lw_dg nn f (kb 7 e - 65)) (nu : Nat) : adR tp 77 0 nu 0 5 0 nu ∧ adR tp 77 5 nu 6 7 38 (lw_dg nn f 0) ∧ PR 35 9 [(1, .int (Int32.ofNat 0))] tp 77 0 7 38 (lw_dg nn f 0) 34 35 (lw_dg nn f 3) [(38, lw_dg nn f 0), (41, 4), (38, lw_dg nn f 1), (32, 0), (30, 0), (41, 3), (38, lw_dg nn f 2), (31, 0), (38, 4), (32, 0), (29, 0), (38, 1), (17, 0), (38, lw_dg nn f 3), (32, 0), (30, 0)] ∧ adR tp 77 34 (lw_dg nn f 3) 34 40 1 (lw_dg nn f 3) ∧ adR tp 77 40 (lw_dg nn f 3) 41 47 24 (lw_dg nn f 3) ∧ PR 35 9 [(1, .int (Int32.ofNat 0))] tp 77 1 47 24 (lw_dg nn f 3) 77 35 (lw_dg nn f 7) [(41, 5), (38, lw_dg nn f 4), (31, 0), (41, 1), (30, 0), (41, 2), (38, lw_dg nn f 5), (32, 0), (30, 0), (38, 0), (18, 0), (38, lw_dg nn f 6), (32, 0), (29, 0), (38, lw_dg nn f 7), (30, 0)] ∧ adR tp 77 77 (lw_dg nn f 7) 77 77 39 (lw_dg nn f 7) := by
  have h2 : 77 ≤ 300 := by omega
  have hn : 0 + 77 ≤ 77 := by omega
  have a0 : adR tp 77 0 nu 0 5 0 nu := ytW h h2 hb hn nu 0 0 5 0 (by decide +kernel)
  have a1 : adR tp 77 5 nu 6 7 38 (lw_dg nn f 0) := ytD h h2 hb hn nu 5 6 (lw_dg nn f 0) (by have z := hd 6 (by omega) (by decide +kernel); rw [show kb 7 6 - 65 = 0 by decide +kernel] at z; exact z) (by have := lw_dgb nn f 0; omega) (by decide +kernel)
  have a2 : adR tp 77 7 (lw_dg nn f 0) 7 8 30 (lw_dg nn f 0) := ytS h h2 hb hn (lw_dg nn f 0) 7 7 5 (by decide +kernel)
  have a3 : adR tp 77 8 (lw_dg nn f 0) 8 12 23 (lw_dg nn f 0) := ytW h h2 hb hn (lw_dg nn f 0) 8 8 4 23 (by decide +kernel)
  have a4 : adR tp 77 12 (lw_dg nn f 0) 12 13 32 (lw_dg nn f 0) := ytS h h2 hb hn (lw_dg nn f 0) 12 12 7 (by decide +kernel)
  have a5 : adR tp 77 13 (lw_dg nn f 0) 13 14 38 (lw_dg nn f 1) := ytD h h2 hb hn (lw_dg nn f 0) 13 13 (lw_dg nn f 1) (by have z := hd 13 (by omega) (by decide +kernel); rw [show kb 7 13 - 65 = 1 by decide +kernel] at z; exact z) (by have := lw_dgb nn f 1; omega) (by decide +kernel)
  have a6 : adR tp 77 14 (lw_dg nn f 1) 14 15 29 (lw_dg nn f 1) := ytS h h2 hb hn (lw_dg nn f 1) 14 14 4 (by decide +kernel)
  have a7 : adR tp 77 15 (lw_dg nn f 1) 15 21 22 (lw_dg nn f 1) := ytW h h2 hb hn (lw_dg nn f 1) 15 15 6 22 (by decide +kernel)
  have a8 : adR tp 77 21 (lw_dg nn f 1) 21 22 31 (lw_dg nn f 1) := ytS h h2 hb hn (lw_dg nn f 1) 21 21 6 (by decide +kernel)
  have a9 : adR tp 77 22 (lw_dg nn f 1) 22 23 38 (lw_dg nn f 2) := ytD h h2 hb hn (lw_dg nn f 1) 22 22 (lw_dg nn f 2) (by have z := hd 22 (by omega) (by decide +kernel); rw [show kb 7 22 - 65 = 2 by decide +kernel] at z; exact z) (by have := lw_dgb nn f 2; omega) (by decide +kernel)
  have a10 : adR tp 77 23 (lw_dg nn f 2) 23 24 32 (lw_dg nn f 2) := ytS h h2 hb hn (lw_dg nn f 2) 23 23 7 (by decide +kernel)
  have a11 : adR tp 77 24 (lw_dg nn f 2) 24 25 38 4 := ytN h h2 hb hn (lw_dg nn f 2) 24 24 4 (by decide +kernel) (by decide +kernel)
  have a12 : adR tp 77 25 4 25 26 30 4 := ytS h h2 hb hn 4 25 25 5 (by decide +kernel)
  have a13 : adR tp 77 26 4 26 29 17 4 := ytW h h2 hb hn 4 26 26 3 17 (by decide +kernel)
  have a14 : adR tp 77 29 4 30 31 38 1 := ytN h h2 hb hn 4 29 30 1 (by decide +kernel) (by decide +kernel)
  have a15 : adR tp 77 31 1 31 32 32 1 := ytS h h2 hb hn 1 31 31 7 (by decide +kernel)
  have a16 : adR tp 77 32 1 32 33 38 (lw_dg nn f 3) := ytD h h2 hb hn 1 32 32 (lw_dg nn f 3) (by have z := hd 32 (by omega) (by decide +kernel); rw [show kb 7 32 - 65 = 3 by decide +kernel] at z; exact z) (by have := lw_dgb nn f 3; omega) (by decide +kernel)
  have a17 : adR tp 77 33 (lw_dg nn f 3) 33 34 35 (lw_dg nn f 3) := ytS h h2 hb hn (lw_dg nn f 3) 33 33 10 (by decide +kernel)
  have a18 : adR tp 77 34 (lw_dg nn f 3) 34 40 1 (lw_dg nn f 3) := ytW h h2 hb hn (lw_dg nn f 3) 34 34 6 1 (by decide +kernel)
  have a19 : adR tp 77 40 (lw_dg nn f 3) 41 47 24 (lw_dg nn f 3) := ytW h h2 hb hn (lw_dg nn f 3) 40 41 6 24 (by decide +kernel)
  have a20 : adR tp 77 47 (lw_dg nn f 3) 47 48 31 (lw_dg nn f 3) := ytS h h2 hb hn (lw_dg nn f 3) 47 47 6 (by decide +kernel)
  have a21 : adR tp 77 48 (lw_dg nn f 3) 48 49 38 (lw_dg nn f 4) := ytD h h2 hb hn (lw_dg nn f 3) 48 48 (lw_dg nn f 4) (by have z := hd 48 (by omega) (by decide +kernel); rw [show kb 7 48 - 65 = 4 by decide +kernel] at z; exact z) (by have := lw_dgb nn f 4; omega) (by decide +kernel)
  have a22 : adR tp 77 49 (lw_dg nn f 4) 49 50 30 (lw_dg nn f 4) := ytS h h2 hb hn (lw_dg nn f 4) 49 49 5 (by decide +kernel)
  have a23 : adR tp 77 50 (lw_dg nn f 4) 50 56 20 (lw_dg nn f 4) := ytW h h2 hb hn (lw_dg nn f 4) 50 50 6 20 (by decide +kernel)
  have a24 : adR tp 77 56 (lw_dg nn f 4) 56 57 30 (lw_dg nn f 4) := ytS h h2 hb hn (lw_dg nn f 4) 56 56 5 (by decide +kernel)
  have a25 : adR tp 77 57 (lw_dg nn f 4) 57 62 21 (lw_dg nn f 4) := ytW h h2 hb hn (lw_dg nn f 4) 57 57 5 21 (by decide +kernel)
  have a26 : adR tp 77 62 (lw_dg nn f 4) 62 63 32 (lw_dg nn f 4) := ytS h h2 hb hn (lw_dg nn f 4) 62 62 7 (by decide +kernel)
  have a27 : adR tp 77 63 (lw_dg nn f 4) 63 64 38 (lw_dg nn f 5) := ytD h h2 hb hn (lw_dg nn f 4) 63 63 (lw_dg nn f 5) (by have z := hd 63 (by omega) (by decide +kernel); rw [show kb 7 63 - 65 = 5 by decide +kernel] at z; exact z) (by have := lw_dgb nn f 5; omega) (by decide +kernel)
  have a28 : adR tp 77 64 (lw_dg nn f 5) 64 65 29 (lw_dg nn f 5) := ytS h h2 hb hn (lw_dg nn f 5) 64 64 4 (by decide +kernel)
  have a29 : adR tp 77 65 (lw_dg nn f 5) 65 70 18 (lw_dg nn f 5) := ytW h h2 hb hn (lw_dg nn f 5) 65 65 5 18 (by decide +kernel)
  have a30 : adR tp 77 70 (lw_dg nn f 5) 71 72 38 0 := ytN h h2 hb hn (lw_dg nn f 5) 70 71 0 (by decide +kernel) (by decide +kernel)
  have a31 : adR tp 77 72 0 72 73 32 0 := ytS h h2 hb hn 0 72 72 7 (by decide +kernel)
  have a32 : adR tp 77 73 0 73 74 38 (lw_dg nn f 6) := ytD h h2 hb hn 0 73 73 (lw_dg nn f 6) (by have z := hd 73 (by omega) (by decide +kernel); rw [show kb 7 73 - 65 = 6 by decide +kernel] at z; exact z) (by have := lw_dgb nn f 6; omega) (by decide +kernel)
  have a33 : adR tp 77 74 (lw_dg nn f 6) 74 75 30 (lw_dg nn f 6) := ytS h h2 hb hn (lw_dg nn f 6) 74 74 5 (by decide +kernel)
  have a34 : adR tp 77 75 (lw_dg nn f 6) 75 76 38 (lw_dg nn f 7) := ytD h h2 hb hn (lw_dg nn f 6) 75 75 (lw_dg nn f 7) (by have z := hd 75 (by omega) (by decide +kernel); rw [show kb 7 75 - 65 = 7 by decide +kernel] at z; exact z) (by have := lw_dgb nn f 7; omega) (by decide +kernel)
  have a35 : adR tp 77 76 (lw_dg nn f 7) 76 77 35 (lw_dg nn f 7) := ytS h h2 hb hn (lw_dg nn f 7) 76 76 10 (by decide +kernel)
  refine ⟨a0, a1, ?_, a18, a19, ?_, adR_e tp 77 _ h2⟩
  · exact PR35 0 (PR36 0 ((ro_num (lw := 0) 0 a2 (by have := lw_dgb nn f 0; omega)).up) (PL36_e 0 0 (by omega) (by omega) (by omega) (by omega))) (PL35_s 0 0 (by omega) (by omega) a3 (PR36 0 ((ro_nam (lw := 0) 0 a4 (by omega) (by omega) (by omega) (by omega)).up) (PL36_s 0 0 (by omega) (by omega) a5 ((ro_num (lw := 0) 0 a6 (by have := lw_dgb nn f 1; omega)).up) (PL36_e 0 1 (by omega) (by omega) (by omega) (by omega)))) (PL35_s 0 1 (by omega) (by omega) a7 (PR36 0 ((ro_nam (lw := 0) 0 a8 (by omega) (by omega) (by omega) (by omega)).up) (PL36_s 0 0 (by omega) (by omega) a9 ((ro_num (lw := 0) 0 a10 (by have := lw_dgb nn f 2; omega)).up) (PL36_s 0 1 (by omega) (by omega) a11 ((ro_num (lw := 0) 0 a12 (by omega)).up) (PL36_e 0 2 (by omega) (by omega) (by omega) (by omega))))) (PL35_s 0 2 (by omega) (by omega) a13 (PR36 0 (ro_fun (lw := 0) 0 a14 (by omega) (by omega) (ro_num (lw := 0) 1 a15 (by omega))) (PL36_s 0 0 (by omega) (by omega) a16 ((ro_num (lw := 0) 0 a17 (by have := lw_dgb nn f 3; omega)).up) (PL36_e 0 1 (by omega) (by omega) (by omega) (by omega)))) (PL35_e 0 3 (by omega) (by omega) (by omega) (by omega)))))
  · exact PR35 0 (PR36 0 ((ro_nam (lw := 1) 0 a20 (by omega) (by omega) (by omega) (by omega)).up) (PL36_s 0 0 (by omega) (by omega) a21 ((ro_num (lw := 1) 0 a22 (by have := lw_dgb nn f 4; omega)).up) (PL36_e 0 1 (by omega) (by omega) (by omega) (by omega)))) (PL35_s 0 0 (by omega) (by omega) a23 (PR36 0 ((ro_nam (lw := 1) 0 a24 (by omega) (by omega) (by omega) (by omega)).up) (PL36_e 0 0 (by omega) (by omega) (by omega) (by omega))) (PL35_s 0 1 (by omega) (by omega) a25 (PR36 0 ((ro_nam (lw := 1) 0 a26 (by omega) (by omega) (by omega) (by omega)).up) (PL36_s 0 0 (by omega) (by omega) a27 ((ro_num (lw := 1) 0 a28 (by have := lw_dgb nn f 5; omega)).up) (PL36_e 0 1 (by omega) (by omega) (by omega) (by omega)))) (PL35_s 0 2 (by omega) (by omega) a29 (PR36 0 (ro_fun (lw := 1) 0 a30 (by omega) (by omega) (ro_num (lw := 1) 1 a31 (by omega))) (PL36_s 0 0 (by omega) (by omega) a32 ((ro_num (lw := 1) 0 a33 (by have := lw_dgb nn f 6; omega)).up) (PL36_e 0 1 (by omega) (by omega) (by omega) (by omega)))) (PL35_s 0 3 (by omega) (by omega) a34 (PR36 0 ((ro_num (lw := 1) 0 a35 (by have := lw_dgb nn f 7; omega)).up) (PL36_e 0 0 (by omega) (by omega) (by omega) (by omega))) (PL35_e 0 4 (by omega) (by omega) (by omega) (by omega))))))
