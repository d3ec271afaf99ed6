/-! the law itself: its 44 steps -/
theorem mOp (d c s : Nat) (nn q dl T N n lo A : Nat) (f : Nat → Int32) (G : Nat → Nat) (AA : Nat → Nat → Nat) (r : xi_R → Prop) (k Gr x op a b g : Nat) (W0 : xi_W) (WS : Nat → Option Nat) (hn : n < 150) (hk : k < 44) (hq : q < 2) (gG : 696 ≤ Gr) (nG : Gr ≠ 697) (hN : N + 900 < 80000) (hnn : nn < 2147483648) (hx : x < 2147483648) (ha : a < 4) (hb : b < 2) (hg : g < 3) (hY : CY nn f q dl 1 0 T N n lo G AA W0) (hmw : mw 697 n lo AA k WS W0) (hA : W0[A]? = some (lw_a 1804 G)) (gA : 696 ≤ A) (nA : A ≠ 697) (nGA : Gr ≠ A) (hG : mG k G) (hGr : W0[Gr]? = some (lw_a 1804 G)) (hS : W0[16]? = some (lw_s nn f)) (K : (∀ (n' A' : Nat) G' AA' WS' (N' : Nat) W' c' s', lo ≤ n' → n' ≤ n + 3 → N ≤ N' → N' ≤ N + 600 → c' ≤ c + 730 → s' ≤ s + 10400 → CY nn f q dl 1 0 T N' n' (max lo (n' - 30)) G' AA' W' → mw 697 n' lo AA' (k + 1) WS' W' → W'[A']? = some (lw_a 1804 G') → 696 ≤ A' → A' ≠ 697 → mG (k + 1) G' → W'[16]? = some (lw_s nn f) → fr (fun i => mP i ∨ i = Gr) W0 W' → xr (d + 14) 199 633 [(0, .ref 16), (1, .ref 17), (2, .ref 687), (3, .int (Int32.ofNat q)), (4, .ref A'), (5, .ref 697), (6, .int (Int32.ofNat n')), (7, .int (Int32.ofNat lo)), (8, .int (Int32.ofNat k))] [] W' c' s' r)) (hop : op < 23) (h40 : op < 7 ∨ op = 20 → G 4 ≤ 40) (hkG : ∀ i, lo ≤ i → i < n → WS i ≠ some Gr) (hw0 : WS n = none ∨ WS n = some A) : xr (d + 14) 199 230 [(0, .ref 16), (1, .ref 17), (2, .ref 687), (3, .int (Int32.ofNat q)), (4, .ref A), (5, .ref 697), (6, .int (Int32.ofNat n)), (7, .int (Int32.ofNat lo)), (8, .int (Int32.ofNat k)), (9, .int (Int32.ofNat x)), (10, .int (Int32.ofNat op)), (11, .int (Int32.ofNat a)), (12, .int (Int32.ofNat b)), (13, .int (Int32.ofNat g)), (14, .ref Gr)] [] W0 c s r := by
  by_cases e1 : op < 7
  · exact mSet d c s nn q dl T N n lo A f G AA r k Gr x op a b g W0 WS hn hk hq gG nG hN hnn hx ha hb hg hY hmw hA gA nA nGA hG hGr hS K e1 (h40 (Or.inl e1)) hkG
  by_cases e2 : op = 7
  · exact mClr7 d c s nn q dl T N n lo A f G AA r k Gr x op a b g W0 WS hn hk hq gG nG hN hnn hx ha hb hg hY hmw hA gA nA nGA hG hGr hS K e2 hkG
  by_cases e3 : op = 8
  · exact mClr8 d c s nn q dl T N n lo A f G AA r k Gr x op a b g W0 WS hn hk hq gG nG hN hnn hx ha hb hg hY hmw hA gA nA nGA hG hGr hS K e3 hkG
  by_cases e4 : op < 15
  · exact mSnd d c s nn q dl T N n lo A f G AA r k Gr x op a b g W0 WS hn hk hq gG nG hN hnn hx ha hb hg hY hmw hA gA nA nGA hG hGr hS K (by omega) e4 hkG
  by_cases e5 : op < 20
  · exact mDay d c s nn q dl T N n lo A f G AA r k Gr x op a b g W0 WS hn hk hq gG nG hN hnn hx ha hb hg hY hmw hA gA nA nGA hG hGr hS K (by omega) e5
  by_cases e6 : op = 20
  · exact mYrs d c s nn q dl T N n lo A f G AA r k Gr x op a b g W0 WS hn hk hq gG nG hN hnn hx ha hb hg hY hmw hA gA nA nGA hG hGr hS K e6 (h40 (Or.inr e6)) hkG
  · exact mUnd d c s nn q dl T N n lo A f G AA r k Gr x op a b g W0 WS hn hk hq gG nG hN hnn hx ha hb hg hY hmw hA gA nA nGA hG hGr hS K (by omega) hop hw0
theorem mStep (d c s : Nat) (nn q dl T N n lo A : Nat) (f : Nat → Int32) (G : Nat → Nat) (AA : Nat → Nat → Nat) (r : xi_R → Prop) (k : Nat) (W0 : xi_W) (WS : Nat → Option Nat) (hn : n < 150) (hk : k < 44) (hq : q < 2) (hN : N + 900 < 70000) (hnn : nn < 2147483648) (hY : CY nn f q dl 1 0 T N n lo G AA W0) (hmw : mw 697 n lo AA k WS W0) (hw0 : WS n = none ∨ WS n = some A) (hA : W0[A]? = some (lw_a 1804 G)) (gA : 696 ≤ A) (nA : A ≠ 697) (hG : mG k G) (hS : W0[16]? = some (lw_s nn f)) (K : (∀ (n' A' : Nat) G' AA' WS' (N' : Nat) W' c' s' (lo' : Nat), n' ≤ n + 3 → N' ≤ N + 600 → c' ≤ c + 770 → s' ≤ s + 14800 → CY nn f q dl 1 0 T N' n' lo' G' AA' W' → mw 697 n' lo' AA' (k + 1) WS' W' → (WS' n' = none ∨ WS' n' = some A') → W'[A']? = some (lw_a 1804 G') → 696 ≤ A' → A' ≠ 697 → mG (k + 1) G' → W'[16]? = some (lw_s nn f) → fr mP W0 W' → xr (d + 14) 199 132 [(0, .ref 16), (1, .ref 17), (2, .ref 687), (3, .int (Int32.ofNat q)), (4, .ref A'), (5, .ref 697), (6, .int (Int32.ofNat n')), (7, .int (Int32.ofNat lo')), (8, .int (Int32.ofNat ((k + 1))))] [] W' c' s' r)) : xr (d + 14) 199 132 [(0, .ref 16), (1, .ref 17), (2, .ref 687), (3, .int (Int32.ofNat q)), (4, .ref A), (5, .ref 697), (6, .int (Int32.ofNat n)), (7, .int (Int32.ofNat lo)), (8, .int (Int32.ofNat k))] [] W0 c s r := by
  obtain ⟨hlo, hnl, fi, hc⟩ := id hY
  obtain ⟨F, hw, hr⟩ := hc.w
  have J := hr.j
  refine xr_stp rfl rfl rfl rfl ?_
  refine xr_stp (st' := .int (Int32.ofNat 44) :: _) rfl rfl rfl rfl ?_
  refine xr_j2 rfl rfl rfl rfl rfl (fun h136 => ?_) (fun h136 => ?_)
  · have z136 := nt_ge (by omega) (by omega) h136
    exact (by omega)
  · refine xr_stp rfl rfl rfl rfl ?_
    refine xr_stp (st' := .int (Int32.ofNat 11) :: _) rfl rfl rfl rfl ?_
    refine xr_stp rfl rfl rfl rfl ?_
    refine xs_add rfl ?_
    refine xr_cps rfl rfl rfl (fun r1 K2 => lw_pick _ _ _ 16 nn W0 f hS hnn (11 + k) (by omega) r1 (K2 _ _ _ _ ?_))
    refine xr_stp rfl rfl rfl rfl ?_
    obtain ⟨x, ex⟩ : ∃ x, x = lw_pk nn f (11 + k) := ⟨_, rfl⟩
    have hx : x < 2147483648 := by rw [ex]; exact lw_pkb nn f (11 + k)
    have key : ∀ op0, op0 < 23 → xr (d + 14) 199 165 [(0, .ref 16), (1, .ref 17), (2, .ref 687), (3, .int (Int32.ofNat q)), (4, .ref A), (5, .ref 697), (6, .int (Int32.ofNat n)), (7, .int (Int32.ofNat lo)), (8, .int (Int32.ofNat k)), (9, .int (Int32.ofNat x))] [.int (Int32.ofNat op0)] W0 c s r := fun op0 hop0 => by
      refine xr_stp rfl rfl rfl rfl ?_
      refine xr_stp rfl rfl rfl rfl ?_
      refine xr_stp (st' := .int (Int32.ofNat 2) :: _) rfl rfl rfl rfl ?_
      refine xs_div (by omega) (by omega) (by omega) rfl ?_
      refine xr_stp (st' := .int (Int32.ofNat 4) :: _) rfl rfl rfl rfl ?_
      refine xs_mod (by omega) (by omega) (by omega) rfl ?_
      refine xr_stp rfl rfl rfl rfl ?_
      refine xr_stp rfl rfl rfl rfl ?_
      refine xr_stp (st' := .int (Int32.ofNat 3) :: _) rfl rfl rfl rfl ?_
      refine xs_shr (by omega) (by omega) rfl ?_
      refine xr_stp (st' := .int (Int32.ofNat 2) :: _) rfl rfl rfl rfl ?_
      refine xs_mod (by omega) (by omega) (by omega) rfl ?_
      refine xr_stp rfl rfl rfl rfl ?_
      refine xr_stp rfl rfl rfl rfl ?_
      refine xr_stp (st' := .int (Int32.ofNat 4) :: _) rfl rfl rfl rfl ?_
      refine xs_shr (by omega) (by omega) rfl ?_
      refine xr_stp (st' := .int (Int32.ofNat 3) :: _) rfl rfl rfl rfl ?_
      refine xs_mod (by omega) (by omega) (by omega) rfl ?_
      refine xr_stp rfl rfl rfl rfl ?_
      refine xr_stp rfl rfl rfl rfl ?_
      refine xs_clo hA (by omega) rfl rfl rfl rfl (fun Gr W1 eG hGr hf1 => ?_)
      have lA := (List.getElem?_eq_some_iff.mp hA).1
      have lB := (List.getElem?_eq_some_iff.mp hmw.1).1
      have gG : 696 ≤ Gr := by omega
      have nG : Gr ≠ 697 := by omega
      have nGA : Gr ≠ A := by omega
      have hY1 := hY.keep hf1 (fun i _ z => z.elim)
      have hmw1 := hmw.keep (by omega) hf1 (fun i _ _ z => z)
      have hkG : ∀ i, lo ≤ i → i < n → WS i ≠ some Gr := fun i h1 h2 z => by
        obtain ⟨R, e1, e2, e3, e4, e5⟩ := hmw.2 i h1 h2
        rw [e1] at z
        have z : R = Gr := Option.some.inj z
        have := (List.getElem?_eq_some_iff.mp e4).1
        omega
      have key2 : (∀ (n' A' : Nat) G' AA' WS' (N' : Nat) W' c' s', lo ≤ n' → n' ≤ n + 3 → N ≤ N' → N' ≤ N + 600 → c' ≤ c + 1 + 730 → s' ≤ s + 1804 + 10400 → CY nn f q dl 1 0 T N' n' (max lo (n' - 30)) G' AA' W' → mw 697 n' lo AA' (k + 1) WS' W' → W'[A']? = some (lw_a 1804 G') → 696 ≤ A' → A' ≠ 697 → mG (k + 1) G' → W'[16]? = some (lw_s nn f) → fr (fun i => mP i ∨ i = Gr) W1 W' → xr (d + 14) 199 633 [(0, .ref 16), (1, .ref 17), (2, .ref 687), (3, .int (Int32.ofNat q)), (4, .ref A'), (5, .ref 697), (6, .int (Int32.ofNat n')), (7, .int (Int32.ofNat lo)), (8, .int (Int32.ofNat k))] [] W' c' s' r) := by
        intro n' A' G' AA' WS' N' W2 c2 s2 o1 o2 o3 o4 o5 o6 hY2 hmw2 hA2 gA2 nA2 hG2 hS2 hf2
        have hlo2 : lo ≤ n' := o1
        refine mTail d _ _ nn q dl T N' n' lo A' f G' AA' r k WS' (by omega) hlo2 hk (by omega) hnn W2 hS2 hY2 hmw2 hA2 gA2 nA2 hG2 (fun W3 c3 s3 p1_ p2_ hY3 hmw3 hw3 hA3 hS3 hf3 => ?_)
        have f12 : fr mP W0 W2 := (hf1.weak (P2 := mP) (fun i _ z => z.elim)).tr2 hf2 (fun i z => by have z : mP i ∨ i = Gr := z; rcases z with z | z; exact Or.inl z; exact Or.inr (by omega))
        exact K n' A' G' AA' _ N' W3 c3 s3 _ o2 o4 (by omega) (by omega) hY3 hmw3 hw3 hA3 gA2 nA2 hG2 hS3 (f12.tr hf3)
      refine xs_chk hGr (by omega) rfl rfl rfl ?_
      have hw1 := hf1.at hA (fun z => z)
      refine xr_stp rfl rfl rfl rfl ?_
      refine xr_stp rfl rfl rfl rfl ?_
      refine xr_stp (st' := .int (Int32.ofNat 4) :: _) rfl rfl rfl rfl ?_
      refine xs_ald hw1 (by omega) (by omega) (by omega) rfl ?_
      refine xr_stp (st' := .long (Int64.ofNat 40) :: _) rfl rfl rfl rfl ?_
      refine xs_lc (by exact J.b63 _) (by omega) rfl ?_
      refine xr_j1 rfl rfl rfl rfl rfl (fun h209 => ?_) (fun h209 => ?_)
      · have z209 := lt_le h209
        refine xr_loc [(0, .ref 16), (1, .ref 17), (2, .ref 687), (3, .int (Int32.ofNat q)), (4, .ref A), (5, .ref 697), (6, .int (Int32.ofNat n)), (7, .int (Int32.ofNat lo)), (8, .int (Int32.ofNat k)), (9, .int (Int32.ofNat x)), (10, .int (Int32.ofNat op0)), (11, .int (Int32.ofNat (x / 2 % 4))), (12, .int (Int32.ofNat (x / 2 ^ 3 % 2))), (13, .int (Int32.ofNat (x / 2 ^ 4 % 3))), (14, .ref Gr)] ⟨rfl, rfl, rfl, rfl, rfl, rfl, rfl, rfl, rfl, rfl, rfl, rfl, rfl, rfl, rfl, trivial⟩ rfl ?_
        refine mOp d (c + 1) (s + 1804) nn q dl T N n lo A f G AA r k Gr x op0 _ _ _ W1 WS hn hk hq gG nG (by omega) hnn hx (by omega) (by omega) (by omega) hY1 hmw1 (hf1.at hA (fun z => z)) gA nA nGA hG hGr (hf1.at hS (fun z => z)) ?_ (by omega) (fun _ => by omega) hkG hw0
        exact key2
      · have z209 := lf_le h209
        refine xr_stp rfl rfl rfl rfl ?_
        refine xr_stp (st' := .int (Int32.ofNat 7) :: _) rfl rfl rfl rfl ?_
        refine xr_j2 rfl rfl rfl rfl rfl (fun h216 => ?_) (fun h216 => ?_)
        · have z216 := nt_lt (by omega) (by omega) h216
          refine xr_stp (st' := .int (Int32.ofNat 9) :: _) rfl rfl rfl rfl ?_
          refine xr_stp rfl rfl rfl rfl ?_
          refine xr_loc [(0, .ref 16), (1, .ref 17), (2, .ref 687), (3, .int (Int32.ofNat q)), (4, .ref A), (5, .ref 697), (6, .int (Int32.ofNat n)), (7, .int (Int32.ofNat lo)), (8, .int (Int32.ofNat k)), (9, .int (Int32.ofNat x)), (10, .int (Int32.ofNat 9)), (11, .int (Int32.ofNat (x / 2 % 4))), (12, .int (Int32.ofNat (x / 2 ^ 3 % 2))), (13, .int (Int32.ofNat (x / 2 ^ 4 % 3))), (14, .ref Gr)] ⟨rfl, rfl, rfl, rfl, rfl, rfl, rfl, rfl, rfl, rfl, rfl, rfl, rfl, rfl, rfl, trivial⟩ rfl ?_
          refine mOp d (c + 1) (s + 1804) nn q dl T N n lo A f G AA r k Gr x 9 _ _ _ W1 WS hn hk hq gG nG (by omega) hnn hx (by omega) (by omega) (by omega) hY1 hmw1 (hf1.at hA (fun z => z)) gA nA nGA hG hGr (hf1.at hS (fun z => z)) ?_ (by omega) (fun z => by omega) hkG hw0
          exact key2
        · have z216 := nf_lt (by omega) (by omega) h216
          refine xr_stp rfl rfl rfl rfl ?_
          refine xr_stp (st' := .int (Int32.ofNat 20) :: _) rfl rfl rfl rfl ?_
          refine xr_j2 rfl rfl rfl rfl rfl (fun h223 => ?_) (fun h223 => ?_)
          · have z223 := nt_ne h223
            refine xr_loc [(0, .ref 16), (1, .ref 17), (2, .ref 687), (3, .int (Int32.ofNat q)), (4, .ref A), (5, .ref 697), (6, .int (Int32.ofNat n)), (7, .int (Int32.ofNat lo)), (8, .int (Int32.ofNat k)), (9, .int (Int32.ofNat x)), (10, .int (Int32.ofNat op0)), (11, .int (Int32.ofNat (x / 2 % 4))), (12, .int (Int32.ofNat (x / 2 ^ 3 % 2))), (13, .int (Int32.ofNat (x / 2 ^ 4 % 3))), (14, .ref Gr)] ⟨rfl, rfl, rfl, rfl, rfl, rfl, rfl, rfl, rfl, rfl, rfl, rfl, rfl, rfl, rfl, trivial⟩ rfl ?_
            refine mOp d (c + 1) (s + 1804) nn q dl T N n lo A f G AA r k Gr x op0 _ _ _ W1 WS hn hk hq gG nG (by omega) hnn hx (by omega) (by omega) (by omega) hY1 hmw1 (hf1.at hA (fun z => z)) gA nA nGA hG hGr (hf1.at hS (fun z => z)) ?_ (by omega) (fun z => by omega) hkG hw0
            exact key2
          · have z223 := nf_ne (by omega) (by omega) h223
            refine xr_stp (st' := .int (Int32.ofNat 9) :: _) rfl rfl rfl rfl ?_
            refine xr_stp rfl rfl rfl rfl ?_
            refine xr_loc [(0, .ref 16), (1, .ref 17), (2, .ref 687), (3, .int (Int32.ofNat q)), (4, .ref A), (5, .ref 697), (6, .int (Int32.ofNat n)), (7, .int (Int32.ofNat lo)), (8, .int (Int32.ofNat k)), (9, .int (Int32.ofNat x)), (10, .int (Int32.ofNat 9)), (11, .int (Int32.ofNat (x / 2 % 4))), (12, .int (Int32.ofNat (x / 2 ^ 3 % 2))), (13, .int (Int32.ofNat (x / 2 ^ 4 % 3))), (14, .ref Gr)] ⟨rfl, rfl, rfl, rfl, rfl, rfl, rfl, rfl, rfl, rfl, rfl, rfl, rfl, rfl, rfl, trivial⟩ rfl ?_
            refine mOp d (c + 1) (s + 1804) nn q dl T N n lo A f G AA r k Gr x 9 _ _ _ W1 WS hn hk hq gG nG (by omega) hnn hx (by omega) (by omega) (by omega) hY1 hmw1 (hf1.at hA (fun z => z)) gA nA nGA hG hGr (hf1.at hS (fun z => z)) ?_ (by omega) (fun z => by omega) hkG hw0
            exact key2
    refine xr_loc [(0, .ref 16), (1, .ref 17), (2, .ref 687), (3, .int (Int32.ofNat q)), (4, .ref A), (5, .ref 697), (6, .int (Int32.ofNat n)), (7, .int (Int32.ofNat lo)), (8, .int (Int32.ofNat k)), (9, .int (Int32.ofNat x))] ⟨rfl, rfl, rfl, rfl, rfl, rfl, rfl, rfl, rfl, (by rw [ex]; rfl), trivial⟩ rfl ?_
    refine xr_stp rfl rfl rfl rfl ?_
    refine xr_stp (st' := .int (Int32.ofNat 3) :: _) rfl rfl rfl rfl ?_
    refine xr_j2 rfl rfl rfl rfl rfl (fun h153 => ?_) (fun h153 => ?_)
    · have z153 := nt_ge (by omega) (by omega) h153
      refine xr_stp rfl rfl rfl rfl ?_
      refine xr_stp (st' := .int (Int32.ofNat 23) :: _) rfl rfl rfl rfl ?_
      refine xs_mod (by omega) (by omega) (by omega) rfl ?_
      exact key _ (by omega)
    · have z153 := nf_ge (by omega) (by omega) h153
      refine xr_stp (st' := .int (Int32.ofNat 0) :: _) rfl rfl rfl rfl ?_
      refine xr_stp rfl rfl rfl rfl ?_
      exact key _ (by omega)
theorem mL (d nn q dl T : Nat) (f : Nat → Int32) (r : xi_R → Prop) (hq : q < 2) (hnn : nn < 2147483648) : ∀ (m k n lo A N : Nat) (G : Nat → Nat) (AA : Nat → Nat → Nat) (WS : Nat → Option Nat) (W0 : xi_W) (c s : Nat), k + m = 44 → n ≤ 3 * k → N ≤ 600 * k + 100 → CY nn f q dl 1 0 T N n lo G AA W0 → mw 697 n lo AA k WS W0 → (WS n = none ∨ WS n = some A) → W0[A]? = some (lw_a 1804 G) → 696 ≤ A → A ≠ 697 → mG k G → W0[16]? = some (lw_s nn f) → (∀ (n' A' : Nat) G' AA' WS' (N' : Nat) W' c' s' (lo' : Nat), n' ≤ 132 → N' ≤ 27000 → c' ≤ c + 770 * m → s' ≤ s + 14800 * m → CY nn f q dl 1 0 T N' n' lo' G' AA' W' → mw 697 n' lo' AA' 44 WS' W' → W'[A']? = some (lw_a 1804 G') → 696 ≤ A' → A' ≠ 697 → mG 44 G' → W'[16]? = some (lw_s nn f) → fr mP W0 W' → xr (d + 14) 199 684 [(0, .ref 16), (1, .ref 17), (2, .ref 687), (3, .int (Int32.ofNat q)), (4, .ref A'), (5, .ref 697), (6, .int (Int32.ofNat n')), (7, .int (Int32.ofNat lo'))] [] W' c' s' r) → xr (d + 14) 199 132 [(0, .ref 16), (1, .ref 17), (2, .ref 687), (3, .int (Int32.ofNat q)), (4, .ref A), (5, .ref 697), (6, .int (Int32.ofNat n)), (7, .int (Int32.ofNat lo)), (8, .int (Int32.ofNat k))] [] W0 c s r
  | 0, k, n, lo, A, N, G, AA, WS, W0, c, s, hk, hn, hN, hY, hmw, hw0, hA, gA, nA, hG, hS, K => by
    obtain rfl : k = 44 := by omega
    refine xr_stp rfl rfl rfl rfl ?_
    refine xr_stp (st' := .int (Int32.ofNat 44) :: _) rfl rfl rfl rfl ?_
    refine xr_j2 rfl rfl rfl rfl rfl (fun h136 => ?_) (fun h136 => ?_)
    · refine xr_loc [(0, .ref 16), (1, .ref 17), (2, .ref 687), (3, .int (Int32.ofNat q)), (4, .ref A), (5, .ref 697), (6, .int (Int32.ofNat n)), (7, .int (Int32.ofNat lo))] ⟨rfl, rfl, rfl, rfl, rfl, rfl, rfl, rfl, trivial⟩ rfl ?_
      exact K n A G AA WS N W0 c s lo (by omega) (by omega) (by omega) (by omega) hY hmw hA gA nA hG hS fr.rf
    · have z136 := nf_ge (by omega) (by omega) h136
      exact (by omega)
  | m + 1, k, n, lo, A, N, G, AA, WS, W0, c, s, hk, hn, hN, hY, hmw, hw0, hA, gA, nA, hG, hS, K => by
    refine mStep d c s nn q dl T N n lo A f G AA r k W0 WS (by omega) (by omega) hq (by omega) hnn hY hmw hw0 hA gA nA hG hS (fun n2 A2 G2 AA2 WS2 N2 W2 c2 s2 lo2 o1 o2 o3 o4 hY2 hmw2 hw2 hA2 gA2 nA2 hG2 hS2 hf2 => ?_)
    exact mL d nn q dl T f r hq hnn m (k + 1) n2 lo2 A2 N2 G2 AA2 WS2 W2 c2 s2 (by omega) (by omega) (by omega) hY2 hmw2 hw2 hA2 gA2 nA2 hG2 hS2 (fun n3 A3 G3 AA3 WS3 N3 W3 c3 s3 lo3 p1_ p2_ p3_ p4_ p5_ p6_ p7_ p8_ p9_ pa_ pb_ pc_ => K n3 A3 G3 AA3 WS3 N3 W3 c3 s3 lo3 p1_ p2_ (by omega) (by omega) p5_ p6_ p7_ p8_ p9_ pa_ pb_ (hf2.tr pc_))
