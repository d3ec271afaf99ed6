/-! the law's 52 cases -/
section LAW3
variable {p : Program} {l : Launch} {e : Env} {s : State} {m : MethodId} {args : Array Value} {below : List Frame} {meth : Method} {c : Code} {Q : State → Prop} {D : va_G} {A : Nat → Prop} {w : xi_W} {H : Heap} {locs : List Loc} {cells slots : Nat} {ls : Array Slot} {b : Nat} {xs : Nat → Int32}
/-- behind a case: what is owed at the loop's own step -/
def lx_T (p : Program) (l : Launch) (e : Env) (s : State) (m : MethodId) (args : Array Value) (below : List Frame) (meth : Method) (c : Code) (Q : State → Prop) (A : Nat → Prop) (ls : Array Slot) : Prop := ∀ (H1 : Heap) (locs1 : List Loc) (c1 s1 : Nat), va_S A s.heap H1 locs1 → c1 ≤ 2000 → s1 ≤ 400000 → W p l e room_1 s m args below meth c H1 locs1 c1 s1 Q (F0 m 1852 ls [])
set_option maxRecDepth 100000 in
theorem lx_d0 : lx_ck 256 5 13 17 1538 = true := by decide +kernel
set_option maxRecDepth 100000 in
theorem lx_e0 : (lx_mk 6 5 96 13 366 367 368 && lx_mk 7 5 188 17 1253 1254 1255) = true := by decide +kernel
theorem lx_c0 (H0 : lx_H p s m args c D A w H locs cells slots ls b xs) (T : lx_T p l e s m args below meth c Q A ls) : W p l e room_1 s m args below meth c H locs cells slots Q (F0 m 256 ls []) :=
  lx_case (C := 0) (S := 0) (n := 5) H0 T lx_d0 ((Bool.and_eq_true _ _).mp lx_e0).1 ((Bool.and_eq_true _ _).mp lx_e0).2 (Nat.le_of_ble_eq_true rfl) (Nat.le_of_ble_eq_true rfl) (Nat.le_of_ble_eq_true rfl) (cs_feed H0.2.2.2.2.1 (xs 1) (xs 2) (xs 3) (xs 4) (xs 5))
set_option maxRecDepth 100000 in
theorem lx_d1 : lx_ck 319 1 18 22 1515 = true := by decide +kernel
set_option maxRecDepth 100000 in
theorem lx_e1 : (lx_mk 6 1 97 18 374 375 376 && lx_mk 7 1 189 22 1261 1262 1263) = true := by decide +kernel
theorem lx_c1 (H0 : lx_H p s m args c D A w H locs cells slots ls b xs) (T : lx_T p l e s m args below meth c Q A ls) : W p l e room_1 s m args below meth c H locs cells slots Q (F0 m 319 ls []) :=
  lx_case (C := 0) (S := 0) (n := 1) H0 T lx_d1 ((Bool.and_eq_true _ _).mp lx_e1).1 ((Bool.and_eq_true _ _).mp lx_e1).2 (Nat.le_of_ble_eq_true rfl) (Nat.le_of_ble_eq_true rfl) (Nat.le_of_ble_eq_true rfl) (cs_end H0.2.2.2.2.1 (xs 1))
set_option maxRecDepth 100000 in
theorem lx_d2 : lx_ck 342 0 23 27 1502 = true := by decide +kernel
set_option maxRecDepth 100000 in
theorem lx_e2 : (lx_mk 6 0 98 23 378 379 380 && lx_mk 7 0 228 27 1268 1269 1270) = true := by decide +kernel
theorem lx_c2 (H0 : lx_H p s m args c D A w H locs cells slots ls b xs) (T : lx_T p l e s m args below meth c Q A ls) : W p l e room_1 s m args below meth c H locs cells slots Q (F0 m 342 ls []) :=
  lx_case (C := 4) (S := 8) (n := 0) H0 T lx_d2 ((Bool.and_eq_true _ _).mp lx_e2).1 ((Bool.and_eq_true _ _).mp lx_e2).2 (Nat.le_of_ble_eq_true rfl) (Nat.le_of_ble_eq_true rfl) (Nat.le_of_ble_eq_true rfl) (cs_text H0.2.2.2.2.1 )
set_option maxRecDepth 100000 in
theorem lx_d3 : lx_ck 355 1 28 31 1479 = true := by decide +kernel
set_option maxRecDepth 100000 in
theorem lx_e3 : (lx_mk 6 1 99 28 625 626 627 && lx_mk 7 1 229 31 1420 1421 1422) = true := by decide +kernel
theorem lx_c3 (H0 : lx_H p s m args c D A w H locs cells slots ls b xs) (T : lx_T p l e s m args below meth c Q A ls) : W p l e room_1 s m args below meth c H locs cells slots Q (F0 m 355 ls []) :=
  lx_case (C := 0) (S := 0) (n := 1) H0 T lx_d3 ((Bool.and_eq_true _ _).mp lx_e3).1 ((Bool.and_eq_true _ _).mp lx_e3).2 (Nat.le_of_ble_eq_true rfl) (Nat.le_of_ble_eq_true rfl) (Nat.le_of_ble_eq_true rfl) (cs_fault H0.2.2.2.2.1 (xs 1))
set_option maxRecDepth 100000 in
theorem lx_d4 : lx_ck 378 1 32 36 1456 = true := by decide +kernel
set_option maxRecDepth 100000 in
theorem lx_e4 : (lx_mk 6 1 100 32 629 630 631 && lx_mk 7 1 230 36 1424 1425 1426) = true := by decide +kernel
theorem lx_c4 (H0 : lx_H p s m args c D A w H locs cells slots ls b xs) (T : lx_T p l e s m args below meth c Q A ls) : W p l e room_1 s m args below meth c H locs cells slots Q (F0 m 378 ls []) :=
  lx_case (C := 0) (S := 0) (n := 1) H0 T lx_d4 ((Bool.and_eq_true _ _).mp lx_e4).1 ((Bool.and_eq_true _ _).mp lx_e4).2 (Nat.le_of_ble_eq_true rfl) (Nat.le_of_ble_eq_true rfl) (Nat.le_of_ble_eq_true rfl) (cs_by H0.2.2.2.2.1 (xs 1))
set_option maxRecDepth 100000 in
theorem lx_d5 : lx_ck 401 1 37 40 1433 = true := by decide +kernel
set_option maxRecDepth 100000 in
theorem lx_e5 : (lx_mk 6 1 101 37 637 638 639 && lx_mk 7 1 266 40 1435 1436 1437) = true := by decide +kernel
theorem lx_c5 (H0 : lx_H p s m args c D A w H locs cells slots ls b xs) (T : lx_T p l e s m args below meth c Q A ls) : W p l e room_1 s m args below meth c H locs cells slots Q (F0 m 401 ls []) :=
  lx_case (C := 0) (S := 0) (n := 1) H0 T lx_d5 ((Bool.and_eq_true _ _).mp lx_e5).1 ((Bool.and_eq_true _ _).mp lx_e5).2 (Nat.le_of_ble_eq_true rfl) (Nat.le_of_ble_eq_true rfl) (Nat.le_of_ble_eq_true rfl) (cs_delay H0.2.2.2.2.1 (xs 1))
set_option maxRecDepth 100000 in
theorem lx_d6 : lx_ck 424 4 41 45 1380 = true := by decide +kernel
set_option maxRecDepth 100000 in
theorem lx_e6 : (lx_mk 6 4 102 41 641 642 643 && lx_mk 7 4 267 45 1439 1440 1441) = true := by decide +kernel
theorem lx_c6 (H0 : lx_H p s m args c D A w H locs cells slots ls b xs) (T : lx_T p l e s m args below meth c Q A ls) : W p l e room_1 s m args below meth c H locs cells slots Q (F0 m 424 ls []) :=
  lx_case (C := 0) (S := 0) (n := 4) H0 T lx_d6 ((Bool.and_eq_true _ _).mp lx_e6).1 ((Bool.and_eq_true _ _).mp lx_e6).2 (Nat.le_of_ble_eq_true rfl) (Nat.le_of_ble_eq_true rfl) (Nat.le_of_ble_eq_true rfl) (cs_set H0.2.2.2.2.1 (xs 1) (xs 2) (xs 3) (xs 4))
set_option maxRecDepth 100000 in
theorem lx_d7 : lx_ck 477 3 46 50 1337 = true := by decide +kernel
set_option maxRecDepth 100000 in
theorem lx_e7 : (lx_mk 6 3 103 46 739 740 741 && lx_mk 7 3 268 50 1544 1545 1546) = true := by decide +kernel
theorem lx_c7 (H0 : lx_H p s m args c D A w H locs cells slots ls b xs) (T : lx_T p l e s m args below meth c Q A ls) : W p l e room_1 s m args below meth c H locs cells slots Q (F0 m 477 ls []) :=
  lx_case (C := 0) (S := 0) (n := 3) H0 T lx_d7 ((Bool.and_eq_true _ _).mp lx_e7).1 ((Bool.and_eq_true _ _).mp lx_e7).2 (Nat.le_of_ble_eq_true rfl) (Nat.le_of_ble_eq_true rfl) (Nat.le_of_ble_eq_true rfl) (cs_clear H0.2.2.2.2.1 (xs 1) (xs 2) (xs 3))
set_option maxRecDepth 100000 in
theorem lx_d8 : lx_ck 520 2 51 55 1304 = true := by decide +kernel
set_option maxRecDepth 100000 in
theorem lx_e8 : (lx_mk 6 2 104 51 751 752 753 && lx_mk 7 2 269 55 1556 1557 1558) = true := by decide +kernel
theorem lx_c8 (H0 : lx_H p s m args c D A w H locs cells slots ls b xs) (T : lx_T p l e s m args below meth c Q A ls) : W p l e room_1 s m args below meth c H locs cells slots Q (F0 m 520 ls []) :=
  lx_case (C := 0) (S := 0) (n := 2) H0 T lx_d8 ((Bool.and_eq_true _ _).mp lx_e8).1 ((Bool.and_eq_true _ _).mp lx_e8).2 (Nat.le_of_ble_eq_true rfl) (Nat.le_of_ble_eq_true rfl) (Nat.le_of_ble_eq_true rfl) (cs_reset H0.2.2.2.2.1 (xs 1) (xs 2))
set_option maxRecDepth 100000 in
theorem lx_d9 : lx_ck 553 2 56 59 1271 = true := by decide +kernel
set_option maxRecDepth 100000 in
theorem lx_e9 : (lx_mk 6 2 105 56 755 756 757 && lx_mk 7 2 270 59 1560 1561 1562) = true := by decide +kernel
theorem lx_c9 (H0 : lx_H p s m args c D A w H locs cells slots ls b xs) (T : lx_T p l e s m args below meth c Q A ls) : W p l e room_1 s m args below meth c H locs cells slots Q (F0 m 553 ls []) :=
  lx_case (C := 0) (S := 0) (n := 2) H0 T lx_d9 ((Bool.and_eq_true _ _).mp lx_e9).1 ((Bool.and_eq_true _ _).mp lx_e9).2 (Nat.le_of_ble_eq_true rfl) (Nat.le_of_ble_eq_true rfl) (Nat.le_of_ble_eq_true rfl) (cs_send H0.2.2.2.2.1 (xs 1) (xs 2))
set_option maxRecDepth 100000 in
theorem lx_d10 : lx_ck 586 1 60 63 1248 = true := by decide +kernel
set_option maxRecDepth 100000 in
theorem lx_e10 : (lx_mk 6 1 106 60 845 846 847 && lx_mk 7 1 272 63 1650 1651 1652) = true := by decide +kernel
theorem lx_c10 (H0 : lx_H p s m args c D A w H locs cells slots ls b xs) (T : lx_T p l e s m args below meth c Q A ls) : W p l e room_1 s m args below meth c H locs cells slots Q (F0 m 586 ls []) :=
  lx_case (C := 0) (S := 0) (n := 1) H0 T lx_d10 ((Bool.and_eq_true _ _).mp lx_e10).1 ((Bool.and_eq_true _ _).mp lx_e10).2 (Nat.le_of_ble_eq_true rfl) (Nat.le_of_ble_eq_true rfl) (Nat.le_of_ble_eq_true rfl) (cs_day H0.2.2.2.2.1 (xs 1))
set_option maxRecDepth 100000 in
theorem lx_d11 : lx_ck 609 1 64 67 1225 = true := by decide +kernel
set_option maxRecDepth 100000 in
theorem lx_e11 : (lx_mk 6 1 107 64 876 877 878 && lx_mk 7 1 274 67 1674 1675 1676) = true := by decide +kernel
theorem lx_c11 (H0 : lx_H p s m args c D A w H locs cells slots ls b xs) (T : lx_T p l e s m args below meth c Q A ls) : W p l e room_1 s m args below meth c H locs cells slots Q (F0 m 609 ls []) :=
  lx_case (C := 0) (S := 0) (n := 1) H0 T lx_d11 ((Bool.and_eq_true _ _).mp lx_e11).1 ((Bool.and_eq_true _ _).mp lx_e11).2 (Nat.le_of_ble_eq_true rfl) (Nat.le_of_ble_eq_true rfl) (Nat.le_of_ble_eq_true rfl) (cs_played H0.2.2.2.2.1 (xs 1))
set_option maxRecDepth 100000 in
theorem lx_d12 : lx_ck 632 2 68 71 1192 = true := by decide +kernel
set_option maxRecDepth 100000 in
theorem lx_e12 : (lx_mk 6 2 108 68 892 893 894 && lx_mk 7 2 276 71 1686 1687 1688) = true := by decide +kernel
theorem lx_c12 (H0 : lx_H p s m args c D A w H locs cells slots ls b xs) (T : lx_T p l e s m args below meth c Q A ls) : W p l e room_1 s m args below meth c H locs cells slots Q (F0 m 632 ls []) :=
  lx_case (C := 0) (S := 0) (n := 2) H0 T lx_d12 ((Bool.and_eq_true _ _).mp lx_e12).1 ((Bool.and_eq_true _ _).mp lx_e12).2 (Nat.le_of_ble_eq_true rfl) (Nat.le_of_ble_eq_true rfl) (Nat.le_of_ble_eq_true rfl) (cs_years H0.2.2.2.2.1 (xs 1) (xs 2))
set_option maxRecDepth 100000 in
theorem lx_d13 : lx_ck 665 0 72 75 1179 = true := by decide +kernel
set_option maxRecDepth 100000 in
theorem lx_e13 : (lx_mk 6 0 109 72 903 904 905 && lx_mk 7 0 265 75 1428 1429 1430) = true := by decide +kernel
theorem lx_c13 (H0 : lx_H p s m args c D A w H locs cells slots ls b xs) (T : lx_T p l e s m args below meth c Q A ls) : W p l e room_1 s m args below meth c H locs cells slots Q (F0 m 665 ls []) :=
  lx_case (C := 0) (S := 0) (n := 0) H0 T lx_d13 ((Bool.and_eq_true _ _).mp lx_e13).1 ((Bool.and_eq_true _ _).mp lx_e13).2 (Nat.le_of_ble_eq_true rfl) (Nat.le_of_ble_eq_true rfl) (Nat.le_of_ble_eq_true rfl) (cs_undo H0.2.2.2.2.1 )
set_option maxRecDepth 100000 in
theorem lx_d14 : lx_ck 678 4 76 79 1126 = true := by decide +kernel
set_option maxRecDepth 100000 in
theorem lx_e14 : (lx_mk 6 4 110 76 911 912 913 && lx_mk 7 4 278 79 1694 1695 1696) = true := by decide +kernel
theorem lx_c14 (H0 : lx_H p s m args c D A w H locs cells slots ls b xs) (T : lx_T p l e s m args below meth c Q A ls) : W p l e room_1 s m args below meth c H locs cells slots Q (F0 m 678 ls []) :=
  lx_case (C := 0) (S := 0) (n := 4) H0 T lx_d14 ((Bool.and_eq_true _ _).mp lx_e14).1 ((Bool.and_eq_true _ _).mp lx_e14).2 (Nat.le_of_ble_eq_true rfl) (Nat.le_of_ble_eq_true rfl) (Nat.le_of_ble_eq_true rfl) (cs_values H0.2.2.2.2.1 (xs 1) (xs 2) (xs 3) (xs 4))
set_option maxRecDepth 100000 in
theorem lx_d15 : lx_ck 731 3 80 83 1083 = true := by decide +kernel
set_option maxRecDepth 100000 in
theorem lx_e15 : (lx_mk 6 3 111 80 924 925 926 && lx_mk 7 3 279 83 1705 1706 1707) = true := by decide +kernel
theorem lx_c15 (H0 : lx_H p s m args c D A w H locs cells slots ls b xs) (T : lx_T p l e s m args below meth c Q A ls) : W p l e room_1 s m args below meth c H locs cells slots Q (F0 m 731 ls []) :=
  lx_case (C := 0) (S := 0) (n := 3) H0 T lx_d15 ((Bool.and_eq_true _ _).mp lx_e15).1 ((Bool.and_eq_true _ _).mp lx_e15).2 (Nat.le_of_ble_eq_true rfl) (Nat.le_of_ble_eq_true rfl) (Nat.le_of_ble_eq_true rfl) (cs_entry H0.2.2.2.2.1 (xs 1) (xs 2) (xs 3))
set_option maxRecDepth 100000 in
theorem lx_d16 : lx_ck 774 2 84 87 1050 = true := by decide +kernel
set_option maxRecDepth 100000 in
theorem lx_e16 : (lx_mk 6 2 112 84 931 932 933 && lx_mk 7 2 280 87 1709 1710 1711) = true := by decide +kernel
theorem lx_c16 (H0 : lx_H p s m args c D A w H locs cells slots ls b xs) (T : lx_T p l e s m args below meth c Q A ls) : W p l e room_1 s m args below meth c H locs cells slots Q (F0 m 774 ls []) :=
  lx_case (C := 0) (S := 0) (n := 2) H0 T lx_d16 ((Bool.and_eq_true _ _).mp lx_e16).1 ((Bool.and_eq_true _ _).mp lx_e16).2 (Nat.le_of_ble_eq_true rfl) (Nat.le_of_ble_eq_true rfl) (Nat.le_of_ble_eq_true rfl) (cs_context H0.2.2.2.2.1 (xs 1) (xs 2))
set_option maxRecDepth 100000 in
theorem lx_d17 : lx_ck 807 4 88 91 997 = true := by decide +kernel
set_option maxRecDepth 100000 in
theorem lx_e17 : (lx_mk 6 4 113 88 936 937 938 && lx_mk 7 4 282 91 1713 1714 1715) = true := by decide +kernel
theorem lx_c17 (H0 : lx_H p s m args c D A w H locs cells slots ls b xs) (T : lx_T p l e s m args below meth c Q A ls) : W p l e room_1 s m args below meth c H locs cells slots Q (F0 m 807 ls []) :=
  lx_case (C := 0) (S := 0) (n := 4) H0 T lx_d17 ((Bool.and_eq_true _ _).mp lx_e17).1 ((Bool.and_eq_true _ _).mp lx_e17).2 (Nat.le_of_ble_eq_true rfl) (Nat.le_of_ble_eq_true rfl) (Nat.le_of_ble_eq_true rfl) (cs_cloud H0.2.2.2.2.1 (xs 1) (xs 2) (xs 3) (xs 4))
set_option maxRecDepth 100000 in
theorem lx_d18 : lx_ck 860 3 92 96 954 = true := by decide +kernel
set_option maxRecDepth 100000 in
theorem lx_e18 : (lx_mk 6 3 114 92 959 960 961 && lx_mk 7 3 283 96 1721 1722 1723) = true := by decide +kernel
theorem lx_c18 (H0 : lx_H p s m args c D A w H locs cells slots ls b xs) (T : lx_T p l e s m args below meth c Q A ls) : W p l e room_1 s m args below meth c H locs cells slots Q (F0 m 860 ls []) :=
  lx_case (C := 0) (S := 0) (n := 3) H0 T lx_d18 ((Bool.and_eq_true _ _).mp lx_e18).1 ((Bool.and_eq_true _ _).mp lx_e18).2 (Nat.le_of_ble_eq_true rfl) (Nat.le_of_ble_eq_true rfl) (Nat.le_of_ble_eq_true rfl) (cs_knows H0.2.2.2.2.1 (xs 1) (xs 2) (xs 3))
set_option maxRecDepth 100000 in
theorem lx_d19 : lx_ck 903 3 97 100 911 = true := by decide +kernel
set_option maxRecDepth 100000 in
theorem lx_e19 : (lx_mk 6 3 115 97 964 965 966 && lx_mk 7 3 284 100 1725 1726 1727) = true := by decide +kernel
theorem lx_c19 (H0 : lx_H p s m args c D A w H locs cells slots ls b xs) (T : lx_T p l e s m args below meth c Q A ls) : W p l e room_1 s m args below meth c H locs cells slots Q (F0 m 903 ls []) :=
  lx_case (C := 0) (S := 0) (n := 3) H0 T lx_d19 ((Bool.and_eq_true _ _).mp lx_e19).1 ((Bool.and_eq_true _ _).mp lx_e19).2 (Nat.le_of_ble_eq_true rfl) (Nat.le_of_ble_eq_true rfl) (Nat.le_of_ble_eq_true rfl) (cs_delta H0.2.2.2.2.1 (xs 1) (xs 2) (xs 3))
set_option maxRecDepth 100000 in
theorem lx_d20 : lx_ck 946 2 101 104 878 = true := by decide +kernel
set_option maxRecDepth 100000 in
theorem lx_e20 : (lx_mk 6 2 116 101 970 971 972 && lx_mk 7 2 286 104 1737 1738 1739) = true := by decide +kernel
theorem lx_c20 (H0 : lx_H p s m args c D A w H locs cells slots ls b xs) (T : lx_T p l e s m args below meth c Q A ls) : W p l e room_1 s m args below meth c H locs cells slots Q (F0 m 946 ls []) :=
  lx_case (C := 0) (S := 0) (n := 2) H0 T lx_d20 ((Bool.and_eq_true _ _).mp lx_e20).1 ((Bool.and_eq_true _ _).mp lx_e20).2 (Nat.le_of_ble_eq_true rfl) (Nat.le_of_ble_eq_true rfl) (Nat.le_of_ble_eq_true rfl) (cs_of H0.2.2.2.2.1 (xs 1) (xs 2))
set_option maxRecDepth 100000 in
theorem lx_d21 : lx_ck 979 2 105 108 845 = true := by decide +kernel
set_option maxRecDepth 100000 in
theorem lx_e21 : (lx_mk 6 2 117 105 978 979 980 && lx_mk 7 2 287 108 1745 1746 1747) = true := by decide +kernel
theorem lx_c21 (H0 : lx_H p s m args c D A w H locs cells slots ls b xs) (T : lx_T p l e s m args below meth c Q A ls) : W p l e room_1 s m args below meth c H locs cells slots Q (F0 m 979 ls []) :=
  lx_case (C := 0) (S := 0) (n := 2) H0 T lx_d21 ((Bool.and_eq_true _ _).mp lx_e21).1 ((Bool.and_eq_true _ _).mp lx_e21).2 (Nat.le_of_ble_eq_true rfl) (Nat.le_of_ble_eq_true rfl) (Nat.le_of_ble_eq_true rfl) (cs_acked H0.2.2.2.2.1 (xs 1) (xs 2))
set_option maxRecDepth 100000 in
theorem lx_d22 : lx_ck 1012 2 109 112 812 = true := by decide +kernel
set_option maxRecDepth 100000 in
theorem lx_e22 : (lx_mk 6 2 118 109 982 983 984 && lx_mk 7 2 288 112 1749 1750 1751) = true := by decide +kernel
theorem lx_c22 (H0 : lx_H p s m args c D A w H locs cells slots ls b xs) (T : lx_T p l e s m args below meth c Q A ls) : W p l e room_1 s m args below meth c H locs cells slots Q (F0 m 1012 ls []) :=
  lx_case (C := 0) (S := 0) (n := 2) H0 T lx_d22 ((Bool.and_eq_true _ _).mp lx_e22).1 ((Bool.and_eq_true _ _).mp lx_e22).2 (Nat.le_of_ble_eq_true rfl) (Nat.le_of_ble_eq_true rfl) (Nat.le_of_ble_eq_true rfl) (cs_flight H0.2.2.2.2.1 (xs 1) (xs 2))
set_option maxRecDepth 100000 in
theorem lx_d23 : lx_ck 1045 1 113 116 789 = true := by decide +kernel
set_option maxRecDepth 100000 in
theorem lx_e23 : (lx_mk 6 1 119 113 986 987 988 && lx_mk 7 1 289 116 1753 1754 1755) = true := by decide +kernel
theorem lx_c23 (H0 : lx_H p s m args c D A w H locs cells slots ls b xs) (T : lx_T p l e s m args below meth c Q A ls) : W p l e room_1 s m args below meth c H locs cells slots Q (F0 m 1045 ls []) :=
  lx_case (C := 0) (S := 0) (n := 1) H0 T lx_d23 ((Bool.and_eq_true _ _).mp lx_e23).1 ((Bool.and_eq_true _ _).mp lx_e23).2 (Nat.le_of_ble_eq_true rfl) (Nat.le_of_ble_eq_true rfl) (Nat.le_of_ble_eq_true rfl) (cs_is H0.2.2.2.2.1 (xs 1))
set_option maxRecDepth 100000 in
theorem lx_d24 : lx_ck 1068 2 117 120 756 = true := by decide +kernel
set_option maxRecDepth 100000 in
theorem lx_e24 : (lx_mk 6 2 120 117 990 991 992 && lx_mk 7 2 291 120 1757 1758 1759) = true := by decide +kernel
theorem lx_c24 (H0 : lx_H p s m args c D A w H locs cells slots ls b xs) (T : lx_T p l e s m args below meth c Q A ls) : W p l e room_1 s m args below meth c H locs cells slots Q (F0 m 1068 ls []) :=
  lx_case (C := 0) (S := 0) (n := 2) H0 T lx_d24 ((Bool.and_eq_true _ _).mp lx_e24).1 ((Bool.and_eq_true _ _).mp lx_e24).2 (Nat.le_of_ble_eq_true rfl) (Nat.le_of_ble_eq_true rfl) (Nat.le_of_ble_eq_true rfl) (cs_book H0.2.2.2.2.1 (xs 1) (xs 2))
set_option maxRecDepth 100000 in
theorem lx_d25 : lx_ck 1101 2 121 124 723 = true := by decide +kernel
set_option maxRecDepth 100000 in
theorem lx_e25 : (lx_mk 6 2 121 121 994 995 996 && lx_mk 7 2 295 124 1769 1770 1771) = true := by decide +kernel
theorem lx_c25 (H0 : lx_H p s m args c D A w H locs cells slots ls b xs) (T : lx_T p l e s m args below meth c Q A ls) : W p l e room_1 s m args below meth c H locs cells slots Q (F0 m 1101 ls []) :=
  lx_case (C := 0) (S := 0) (n := 2) H0 T lx_d25 ((Bool.and_eq_true _ _).mp lx_e25).1 ((Bool.and_eq_true _ _).mp lx_e25).2 (Nat.le_of_ble_eq_true rfl) (Nat.le_of_ble_eq_true rfl) (Nat.le_of_ble_eq_true rfl) (cs_foretold H0.2.2.2.2.1 (xs 1) (xs 2))
set_option maxRecDepth 100000 in
theorem lx_d26 : lx_ck 1134 2 125 128 690 = true := by decide +kernel
set_option maxRecDepth 100000 in
theorem lx_e26 : (lx_mk 6 2 122 125 1004 1005 1006 && lx_mk 7 2 296 128 1781 1782 1783) = true := by decide +kernel
theorem lx_c26 (H0 : lx_H p s m args c D A w H locs cells slots ls b xs) (T : lx_T p l e s m args below meth c Q A ls) : W p l e room_1 s m args below meth c H locs cells slots Q (F0 m 1134 ls []) :=
  lx_case (C := 0) (S := 0) (n := 2) H0 T lx_d26 ((Bool.and_eq_true _ _).mp lx_e26).1 ((Bool.and_eq_true _ _).mp lx_e26).2 (Nat.le_of_ble_eq_true rfl) (Nat.le_of_ble_eq_true rfl) (Nat.le_of_ble_eq_true rfl) (cs_need H0.2.2.2.2.1 (xs 1) (xs 2))
set_option maxRecDepth 100000 in
theorem lx_d27 : lx_ck 1167 3 129 132 647 = true := by decide +kernel
set_option maxRecDepth 100000 in
theorem lx_e27 : (lx_mk 6 3 123 129 1010 1011 1012 && lx_mk 7 3 297 132 1785 1786 1787) = true := by decide +kernel
theorem lx_c27 (H0 : lx_H p s m args c D A w H locs cells slots ls b xs) (T : lx_T p l e s m args below meth c Q A ls) : W p l e room_1 s m args below meth c H locs cells slots Q (F0 m 1167 ls []) :=
  lx_case (C := 0) (S := 0) (n := 3) H0 T lx_d27 ((Bool.and_eq_true _ _).mp lx_e27).1 ((Bool.and_eq_true _ _).mp lx_e27).2 (Nat.le_of_ble_eq_true rfl) (Nat.le_of_ble_eq_true rfl) (Nat.le_of_ble_eq_true rfl) (cs_would H0.2.2.2.2.1 (xs 1) (xs 2) (xs 3))
set_option maxRecDepth 100000 in
theorem lx_d28 : lx_ck 1210 1 133 136 624 = true := by decide +kernel
set_option maxRecDepth 100000 in
theorem lx_e28 : (lx_mk 6 1 124 133 1014 1015 1016 && lx_mk 7 1 298 136 1789 1790 1791) = true := by decide +kernel
theorem lx_c28 (H0 : lx_H p s m args c D A w H locs cells slots ls b xs) (T : lx_T p l e s m args below meth c Q A ls) : W p l e room_1 s m args below meth c H locs cells slots Q (F0 m 1210 ls []) :=
  lx_case (C := 0) (S := 0) (n := 1) H0 T lx_d28 ((Bool.and_eq_true _ _).mp lx_e28).1 ((Bool.and_eq_true _ _).mp lx_e28).2 (Nat.le_of_ble_eq_true rfl) (Nat.le_of_ble_eq_true rfl) (Nat.le_of_ble_eq_true rfl) (cs_digest H0.2.2.2.2.1 (xs 1))
set_option maxRecDepth 100000 in
theorem lx_d29 : lx_ck 1233 2 137 141 591 = true := by decide +kernel
set_option maxRecDepth 100000 in
theorem lx_e29 : (lx_mk 6 2 125 137 1018 1019 1020 && lx_mk 7 2 299 141 1793 1794 1795) = true := by decide +kernel
theorem lx_c29 (H0 : lx_H p s m args c D A w H locs cells slots ls b xs) (T : lx_T p l e s m args below meth c Q A ls) : W p l e room_1 s m args below meth c H locs cells slots Q (F0 m 1233 ls []) :=
  lx_case (C := 0) (S := 0) (n := 2) H0 T lx_d29 ((Bool.and_eq_true _ _).mp lx_e29).1 ((Bool.and_eq_true _ _).mp lx_e29).2 (Nat.le_of_ble_eq_true rfl) (Nat.le_of_ble_eq_true rfl) (Nat.le_of_ble_eq_true rfl) (cs_same H0.2.2.2.2.1 (xs 1) (xs 2))
set_option maxRecDepth 100000 in
theorem lx_d30 : lx_ck 1266 2 142 145 558 = true := by decide +kernel
set_option maxRecDepth 100000 in
theorem lx_e30 : (lx_mk 6 2 126 142 1023 1024 1025 && lx_mk 7 2 300 145 1797 1798 1799) = true := by decide +kernel
theorem lx_c30 (H0 : lx_H p s m args c D A w H locs cells slots ls b xs) (T : lx_T p l e s m args below meth c Q A ls) : W p l e room_1 s m args below meth c H locs cells slots Q (F0 m 1266 ls []) :=
  lx_case (C := 0) (S := 0) (n := 2) H0 T lx_d30 ((Bool.and_eq_true _ _).mp lx_e30).1 ((Bool.and_eq_true _ _).mp lx_e30).2 (Nat.le_of_ble_eq_true rfl) (Nat.le_of_ble_eq_true rfl) (Nat.le_of_ble_eq_true rfl) (cs_below H0.2.2.2.2.1 (xs 1) (xs 2))
set_option maxRecDepth 100000 in
theorem lx_d31 : lx_ck 1299 3 146 149 515 = true := by decide +kernel
set_option maxRecDepth 100000 in
theorem lx_e31 : (lx_mk 6 3 127 146 1033 1034 1035 && lx_mk 7 3 301 149 1801 1802 1803) = true := by decide +kernel
theorem lx_c31 (H0 : lx_H p s m args c D A w H locs cells slots ls b xs) (T : lx_T p l e s m args below meth c Q A ls) : W p l e room_1 s m args below meth c H locs cells slots Q (F0 m 1299 ls []) :=
  lx_case (C := 0) (S := 0) (n := 3) H0 T lx_d31 ((Bool.and_eq_true _ _).mp lx_e31).1 ((Bool.and_eq_true _ _).mp lx_e31).2 (Nat.le_of_ble_eq_true rfl) (Nat.le_of_ble_eq_true rfl) (Nat.le_of_ble_eq_true rfl) (cs_join H0.2.2.2.2.1 (xs 1) (xs 2) (xs 3))
set_option maxRecDepth 100000 in
theorem lx_d32 : lx_ck 1342 1 150 153 492 = true := by decide +kernel
set_option maxRecDepth 100000 in
theorem lx_e32 : (lx_mk 6 1 128 150 1041 1042 1043 && lx_mk 7 1 303 153 1805 1806 1807) = true := by decide +kernel
theorem lx_c32 (H0 : lx_H p s m args c D A w H locs cells slots ls b xs) (T : lx_T p l e s m args below meth c Q A ls) : W p l e room_1 s m args below meth c H locs cells slots Q (F0 m 1342 ls []) :=
  lx_case (C := 0) (S := 0) (n := 1) H0 T lx_d32 ((Bool.and_eq_true _ _).mp lx_e32).1 ((Bool.and_eq_true _ _).mp lx_e32).2 (Nat.le_of_ble_eq_true rfl) (Nat.le_of_ble_eq_true rfl) (Nat.le_of_ble_eq_true rfl) (cs_all H0.2.2.2.2.1 (xs 1))
set_option maxRecDepth 100000 in
theorem lx_d33 : lx_ck 1365 1 154 157 469 = true := by decide +kernel
set_option maxRecDepth 100000 in
theorem lx_e33 : (lx_mk 6 1 129 154 1050 1051 1052 && lx_mk 7 1 304 157 1813 1814 1815) = true := by decide +kernel
theorem lx_c33 (H0 : lx_H p s m args c D A w H locs cells slots ls b xs) (T : lx_T p l e s m args below meth c Q A ls) : W p l e room_1 s m args below meth c H locs cells slots Q (F0 m 1365 ls []) :=
  lx_case (C := 0) (S := 0) (n := 1) H0 T lx_d33 ((Bool.and_eq_true _ _).mp lx_e33).1 ((Bool.and_eq_true _ _).mp lx_e33).2 (Nat.le_of_ble_eq_true rfl) (Nat.le_of_ble_eq_true rfl) (Nat.le_of_ble_eq_true rfl) (cs_parts H0.2.2.2.2.1 (xs 1))
set_option maxRecDepth 100000 in
theorem lx_d34 : lx_ck 1388 2 158 161 436 = true := by decide +kernel
set_option maxRecDepth 100000 in
theorem lx_e34 : (lx_mk 6 2 130 158 1054 1055 1056 && lx_mk 7 2 306 161 1817 1818 1819) = true := by decide +kernel
theorem lx_c34 (H0 : lx_H p s m args c D A w H locs cells slots ls b xs) (T : lx_T p l e s m args below meth c Q A ls) : W p l e room_1 s m args below meth c H locs cells slots Q (F0 m 1388 ls []) :=
  lx_case (C := 0) (S := 0) (n := 2) H0 T lx_d34 ((Bool.and_eq_true _ _).mp lx_e34).1 ((Bool.and_eq_true _ _).mp lx_e34).2 (Nat.le_of_ble_eq_true rfl) (Nat.le_of_ble_eq_true rfl) (Nat.le_of_ble_eq_true rfl) (cs_unlike H0.2.2.2.2.1 (xs 1) (xs 2))
set_option maxRecDepth 100000 in
theorem lx_d35 : lx_ck 1421 2 162 165 403 = true := by decide +kernel
set_option maxRecDepth 100000 in
theorem lx_e35 : (lx_mk 6 2 131 162 1062 1063 1064 && lx_mk 7 2 307 165 1829 1830 1831) = true := by decide +kernel
theorem lx_c35 (H0 : lx_H p s m args c D A w H locs cells slots ls b xs) (T : lx_T p l e s m args below meth c Q A ls) : W p l e room_1 s m args below meth c H locs cells slots Q (F0 m 1421 ls []) :=
  lx_case (C := 0) (S := 0) (n := 2) H0 T lx_d35 ((Bool.and_eq_true _ _).mp lx_e35).1 ((Bool.and_eq_true _ _).mp lx_e35).2 (Nat.le_of_ble_eq_true rfl) (Nat.le_of_ble_eq_true rfl) (Nat.le_of_ble_eq_true rfl) (cs_spared H0.2.2.2.2.1 (xs 1) (xs 2))
set_option maxRecDepth 100000 in
theorem lx_d36 : lx_ck 1454 3 166 169 360 = true := by decide +kernel
set_option maxRecDepth 100000 in
theorem lx_e36 : (lx_mk 6 3 132 166 1067 1068 1069 && lx_mk 7 3 308 169 1833 1834 1835) = true := by decide +kernel
theorem lx_c36 (H0 : lx_H p s m args c D A w H locs cells slots ls b xs) (T : lx_T p l e s m args below meth c Q A ls) : W p l e room_1 s m args below meth c H locs cells slots Q (F0 m 1454 ls []) :=
  lx_case (C := 0) (S := 0) (n := 3) H0 T lx_d36 ((Bool.and_eq_true _ _).mp lx_e36).1 ((Bool.and_eq_true _ _).mp lx_e36).2 (Nat.le_of_ble_eq_true rfl) (Nat.le_of_ble_eq_true rfl) (Nat.le_of_ble_eq_true rfl) (cs_winner H0.2.2.2.2.1 (xs 1) (xs 2) (xs 3))
set_option maxRecDepth 100000 in
theorem lx_d37 : lx_ck 1497 1 170 173 337 = true := by decide +kernel
set_option maxRecDepth 100000 in
theorem lx_e37 : (lx_mk 6 1 133 170 1075 1076 1077 && lx_mk 7 1 309 173 1837 1838 1839) = true := by decide +kernel
theorem lx_c37 (H0 : lx_H p s m args c D A w H locs cells slots ls b xs) (T : lx_T p l e s m args below meth c Q A ls) : W p l e room_1 s m args below meth c H locs cells slots Q (F0 m 1497 ls []) :=
  lx_case (C := 0) (S := 0) (n := 1) H0 T lx_d37 ((Bool.and_eq_true _ _).mp lx_e37).1 ((Bool.and_eq_true _ _).mp lx_e37).2 (Nat.le_of_ble_eq_true rfl) (Nat.le_of_ble_eq_true rfl) (Nat.le_of_ble_eq_true rfl) (cs_torn H0.2.2.2.2.1 (xs 1))
set_option maxRecDepth 100000 in
theorem lx_d38 : lx_ck 1520 2 174 177 304 = true := by decide +kernel
set_option maxRecDepth 100000 in
theorem lx_e38 : (lx_mk 6 2 134 174 1079 1080 1081 && lx_mk 7 2 310 177 1841 1842 1843) = true := by decide +kernel
theorem lx_c38 (H0 : lx_H p s m args c D A w H locs cells slots ls b xs) (T : lx_T p l e s m args below meth c Q A ls) : W p l e room_1 s m args below meth c H locs cells slots Q (F0 m 1520 ls []) :=
  lx_case (C := 0) (S := 0) (n := 2) H0 T lx_d38 ((Bool.and_eq_true _ _).mp lx_e38).1 ((Bool.and_eq_true _ _).mp lx_e38).2 (Nat.le_of_ble_eq_true rfl) (Nat.le_of_ble_eq_true rfl) (Nat.le_of_ble_eq_true rfl) (cs_fields H0.2.2.2.2.1 (xs 1) (xs 2))
set_option maxRecDepth 100000 in
theorem lx_d39 : lx_ck 1553 2 178 181 271 = true := by decide +kernel
set_option maxRecDepth 100000 in
theorem lx_e39 : (lx_mk 6 2 135 178 1083 1084 1085 && lx_mk 7 2 311 181 1845 1846 1847) = true := by decide +kernel
theorem lx_c39 (H0 : lx_H p s m args c D A w H locs cells slots ls b xs) (T : lx_T p l e s m args below meth c Q A ls) : W p l e room_1 s m args below meth c H locs cells slots Q (F0 m 1553 ls []) :=
  lx_case (C := 0) (S := 0) (n := 2) H0 T lx_d39 ((Bool.and_eq_true _ _).mp lx_e39).1 ((Bool.and_eq_true _ _).mp lx_e39).2 (Nat.le_of_ble_eq_true rfl) (Nat.le_of_ble_eq_true rfl) (Nat.le_of_ble_eq_true rfl) (cs_sum H0.2.2.2.2.1 (xs 1) (xs 2))
set_option maxRecDepth 100000 in
theorem lx_d40 : lx_ck 1586 2 182 185 238 = true := by decide +kernel
set_option maxRecDepth 100000 in
theorem lx_e40 : (lx_mk 6 2 136 182 1091 1092 1093 && lx_mk 7 2 312 185 1849 1850 1851) = true := by decide +kernel
theorem lx_c40 (H0 : lx_H p s m args c D A w H locs cells slots ls b xs) (T : lx_T p l e s m args below meth c Q A ls) : W p l e room_1 s m args below meth c H locs cells slots Q (F0 m 1586 ls []) :=
  lx_case (C := 0) (S := 0) (n := 2) H0 T lx_d40 ((Bool.and_eq_true _ _).mp lx_e40).1 ((Bool.and_eq_true _ _).mp lx_e40).2 (Nat.le_of_ble_eq_true rfl) (Nat.le_of_ble_eq_true rfl) (Nat.le_of_ble_eq_true rfl) (cs_share H0.2.2.2.2.1 (xs 1) (xs 2))
set_option maxRecDepth 100000 in
theorem lx_d41 : lx_ck 1619 1 186 189 215 = true := by decide +kernel
set_option maxRecDepth 100000 in
theorem lx_e41 : (lx_mk 6 1 137 186 1099 1100 1101 && lx_mk 7 1 313 189 1853 1854 1855) = true := by decide +kernel
theorem lx_c41 (H0 : lx_H p s m args c D A w H locs cells slots ls b xs) (T : lx_T p l e s m args below meth c Q A ls) : W p l e room_1 s m args below meth c H locs cells slots Q (F0 m 1619 ls []) :=
  lx_case (C := 0) (S := 0) (n := 1) H0 T lx_d41 ((Bool.and_eq_true _ _).mp lx_e41).1 ((Bool.and_eq_true _ _).mp lx_e41).2 (Nat.le_of_ble_eq_true rfl) (Nat.le_of_ble_eq_true rfl) (Nat.le_of_ble_eq_true rfl) (cs_behind H0.2.2.2.2.1 (xs 1))
set_option maxRecDepth 100000 in
theorem lx_d42 : lx_ck 1642 0 190 193 202 = true := by decide +kernel
set_option maxRecDepth 100000 in
theorem lx_e42 : (lx_mk 6 0 138 190 1103 1104 1105 && lx_mk 7 0 314 193 1857 1858 1859) = true := by decide +kernel
theorem lx_c42 (H0 : lx_H p s m args c D A w H locs cells slots ls b xs) (T : lx_T p l e s m args below meth c Q A ls) : W p l e room_1 s m args below meth c H locs cells slots Q (F0 m 1642 ls []) :=
  lx_case (C := 0) (S := 0) (n := 0) H0 T lx_d42 ((Bool.and_eq_true _ _).mp lx_e42).1 ((Bool.and_eq_true _ _).mp lx_e42).2 (Nat.le_of_ble_eq_true rfl) (Nat.le_of_ble_eq_true rfl) (Nat.le_of_ble_eq_true rfl) (cs_freshest H0.2.2.2.2.1 )
set_option maxRecDepth 100000 in
theorem lx_d43 : lx_ck 1655 0 194 198 189 = true := by decide +kernel
set_option maxRecDepth 100000 in
theorem lx_e43 : (lx_mk 6 0 139 194 1107 1108 1109 && lx_mk 7 0 316 198 1861 1862 1863) = true := by decide +kernel
theorem lx_c43 (H0 : lx_H p s m args c D A w H locs cells slots ls b xs) (T : lx_T p l e s m args below meth c Q A ls) : W p l e room_1 s m args below meth c H locs cells slots Q (F0 m 1655 ls []) :=
  lx_case (C := 0) (S := 0) (n := 0) H0 T lx_d43 ((Bool.and_eq_true _ _).mp lx_e43).1 ((Bool.and_eq_true _ _).mp lx_e43).2 (Nat.le_of_ble_eq_true rfl) (Nat.le_of_ble_eq_true rfl) (Nat.le_of_ble_eq_true rfl) (cs_quiet H0.2.2.2.2.1 )
set_option maxRecDepth 100000 in
theorem lx_d44 : lx_ck 1668 0 199 202 176 = true := by decide +kernel
set_option maxRecDepth 100000 in
theorem lx_e44 : (lx_mk 6 0 140 199 1115 1116 1117 && lx_mk 7 0 317 202 1869 1870 1871) = true := by decide +kernel
theorem lx_c44 (H0 : lx_H p s m args c D A w H locs cells slots ls b xs) (T : lx_T p l e s m args below meth c Q A ls) : W p l e room_1 s m args below meth c H locs cells slots Q (F0 m 1668 ls []) :=
  lx_case (C := 0) (S := 0) (n := 0) H0 T lx_d44 ((Bool.and_eq_true _ _).mp lx_e44).1 ((Bool.and_eq_true _ _).mp lx_e44).2 (Nat.le_of_ble_eq_true rfl) (Nat.le_of_ble_eq_true rfl) (Nat.le_of_ble_eq_true rfl) (cs_till H0.2.2.2.2.1 )
set_option maxRecDepth 100000 in
theorem lx_d45 : lx_ck 1681 2 203 206 143 = true := by decide +kernel
set_option maxRecDepth 100000 in
theorem lx_e45 : (lx_mk 6 2 141 203 1119 1120 1121 && lx_mk 7 2 318 206 1873 1874 1875) = true := by decide +kernel
theorem lx_c45 (H0 : lx_H p s m args c D A w H locs cells slots ls b xs) (T : lx_T p l e s m args below meth c Q A ls) : W p l e room_1 s m args below meth c H locs cells slots Q (F0 m 1681 ls []) :=
  lx_case (C := 0) (S := 0) (n := 2) H0 T lx_d45 ((Bool.and_eq_true _ _).mp lx_e45).1 ((Bool.and_eq_true _ _).mp lx_e45).2 (Nat.le_of_ble_eq_true rfl) (Nat.le_of_ble_eq_true rfl) (Nat.le_of_ble_eq_true rfl) (cs_speaks H0.2.2.2.2.1 (xs 1) (xs 2))
set_option maxRecDepth 100000 in
theorem lx_d46 : lx_ck 1714 4 207 210 90 = true := by decide +kernel
set_option maxRecDepth 100000 in
theorem lx_e46 : (lx_mk 6 4 142 207 1124 1125 1126 && lx_mk 7 4 319 210 1877 1878 1879) = true := by decide +kernel
theorem lx_c46 (H0 : lx_H p s m args c D A w H locs cells slots ls b xs) (T : lx_T p l e s m args below meth c Q A ls) : W p l e room_1 s m args below meth c H locs cells slots Q (F0 m 1714 ls []) :=
  lx_case (C := 0) (S := 0) (n := 4) H0 T lx_d46 ((Bool.and_eq_true _ _).mp lx_e46).1 ((Bool.and_eq_true _ _).mp lx_e46).2 (Nat.le_of_ble_eq_true rfl) (Nat.le_of_ble_eq_true rfl) (Nat.le_of_ble_eq_true rfl) (cs_said H0.2.2.2.2.1 (xs 1) (xs 2) (xs 3) (xs 4))
set_option maxRecDepth 100000 in
theorem lx_d47 : lx_ck 1767 0 211 214 77 = true := by decide +kernel
set_option maxRecDepth 100000 in
theorem lx_e47 : (lx_mk 6 0 143 211 1132 1133 1134 && lx_mk 7 0 320 214 1881 1882 1883) = true := by decide +kernel
theorem lx_c47 (H0 : lx_H p s m args c D A w H locs cells slots ls b xs) (T : lx_T p l e s m args below meth c Q A ls) : W p l e room_1 s m args below meth c H locs cells slots Q (F0 m 1767 ls []) :=
  lx_case (C := 0) (S := 0) (n := 0) H0 T lx_d47 ((Bool.and_eq_true _ _).mp lx_e47).1 ((Bool.and_eq_true _ _).mp lx_e47).2 (Nat.le_of_ble_eq_true rfl) (Nat.le_of_ble_eq_true rfl) (Nat.le_of_ble_eq_true rfl) (cs_whose H0.2.2.2.2.1 )
set_option maxRecDepth 100000 in
theorem lx_d48 : lx_ck 1780 1 215 218 54 = true := by decide +kernel
set_option maxRecDepth 100000 in
theorem lx_e48 : (lx_mk 6 1 144 215 1141 1142 1143 && lx_mk 7 1 292 218 1765 1766 1767) = true := by decide +kernel
theorem lx_c48 (H0 : lx_H p s m args c D A w H locs cells slots ls b xs) (T : lx_T p l e s m args below meth c Q A ls) : W p l e room_1 s m args below meth c H locs cells slots Q (F0 m 1780 ls []) :=
  lx_case (C := 0) (S := 0) (n := 1) H0 T lx_d48 ((Bool.and_eq_true _ _).mp lx_e48).1 ((Bool.and_eq_true _ _).mp lx_e48).2 (Nat.le_of_ble_eq_true rfl) (Nat.le_of_ble_eq_true rfl) (Nat.le_of_ble_eq_true rfl) (cs_ledger H0.2.2.2.2.1 (xs 1))
set_option maxRecDepth 100000 in
theorem lx_d49 : lx_ck 1803 0 219 222 41 = true := by decide +kernel
set_option maxRecDepth 100000 in
theorem lx_e49 : (lx_mk 6 0 145 219 1145 1146 1147 && lx_mk 7 0 321 222 1885 1886 1887) = true := by decide +kernel
theorem lx_c49 (H0 : lx_H p s m args c D A w H locs cells slots ls b xs) (T : lx_T p l e s m args below meth c Q A ls) : W p l e room_1 s m args below meth c H locs cells slots Q (F0 m 1803 ls []) :=
  lx_case (C := 0) (S := 0) (n := 0) H0 T lx_d49 ((Bool.and_eq_true _ _).mp lx_e49).1 ((Bool.and_eq_true _ _).mp lx_e49).2 (Nat.le_of_ble_eq_true rfl) (Nat.le_of_ble_eq_true rfl) (Nat.le_of_ble_eq_true rfl) (cs_image H0.2.2.2.2.1 )
set_option maxRecDepth 100000 in
theorem lx_d50 : lx_ck 1816 0 223 226 28 = true := by decide +kernel
set_option maxRecDepth 100000 in
theorem lx_e50 : (lx_mk 6 0 146 223 1158 1159 1160 && lx_mk 7 0 322 226 1889 1890 1891) = true := by decide +kernel
theorem lx_c50 (H0 : lx_H p s m args c D A w H locs cells slots ls b xs) (T : lx_T p l e s m args below meth c Q A ls) : W p l e room_1 s m args below meth c H locs cells slots Q (F0 m 1816 ls []) :=
  lx_case (C := 0) (S := 0) (n := 0) H0 T lx_d50 ((Bool.and_eq_true _ _).mp lx_e50).1 ((Bool.and_eq_true _ _).mp lx_e50).2 (Nat.le_of_ble_eq_true rfl) (Nat.le_of_ble_eq_true rfl) (Nat.le_of_ble_eq_true rfl) (cs_back H0.2.2.2.2.1 )
set_option maxRecDepth 100000 in
theorem lx_d51 : lx_ck 1829 1 227 230 5 = true := by decide +kernel
set_option maxRecDepth 100000 in
theorem lx_e51 : (lx_mk 6 1 147 227 1162 1163 1164 && lx_mk 7 1 323 230 1893 1894 1895) = true := by decide +kernel
theorem lx_c51 (H0 : lx_H p s m args c D A w H locs cells slots ls b xs) (T : lx_T p l e s m args below meth c Q A ls) : W p l e room_1 s m args below meth c H locs cells slots Q (F0 m 1829 ls []) :=
  lx_case (C := 0) (S := 0) (n := 1) H0 T lx_d51 ((Bool.and_eq_true _ _).mp lx_e51).1 ((Bool.and_eq_true _ _).mp lx_e51).2 (Nat.le_of_ble_eq_true rfl) (Nat.le_of_ble_eq_true rfl) (Nat.le_of_ble_eq_true rfl) (cs_about H0.2.2.2.2.1 (xs 1))
end LAW3
section LAW4
variable {p : Program} {l : Launch} {e : Env} {s : State} {m : MethodId} {args : Array Value} {below : List Frame} {meth : Method} {c : Code} {Q : State → Prop} {D : va_G} {A : Nat → Prop} {w : xi_W} {H : Heap} {locs : List Loc} {cells slots : Nat} {ls : Array Slot} {b : Nat} {xs : Nat → Int32}
def lx_offs : Array Int := #[223, 286, 309, 322, 345, 368, 391, 444, 487, 520, 553, 576, 599, 632, 645, 698, 741, 774, 827, 870, 913, 946, 979, 1012, 1035, 1068, 1101, 1134, 1177, 1200, 1233, 1266, 1309, 1332, 1355, 1388, 1421, 1464, 1487, 1520, 1553, 1586, 1609, 1622, 1635, 1648, 1681, 1734, 1747, 1770, 1783, 1796]
theorem lx_all (H0 : lx_H p s m args c D A w H locs cells slots ls b xs) (T : lx_T p l e s m args below meth c Q A ls) : ∀ (k : Nat), k ≤ 51 → ∃ (off : Int) (tgt : Nat), lx_offs[k]? = some off ∧ ((33 : Nat) : Int) + off = (tgt : Int) ∧ W p l e room_1 s m args below meth c H locs cells slots Q (F0 m tgt ls [])
  | 0, _ => ⟨223, 256, rfl, rfl, lx_c0 H0 T⟩
  | 1, _ => ⟨286, 319, rfl, rfl, lx_c1 H0 T⟩
  | 2, _ => ⟨309, 342, rfl, rfl, lx_c2 H0 T⟩
  | 3, _ => ⟨322, 355, rfl, rfl, lx_c3 H0 T⟩
  | 4, _ => ⟨345, 378, rfl, rfl, lx_c4 H0 T⟩
  | 5, _ => ⟨368, 401, rfl, rfl, lx_c5 H0 T⟩
  | 6, _ => ⟨391, 424, rfl, rfl, lx_c6 H0 T⟩
  | 7, _ => ⟨444, 477, rfl, rfl, lx_c7 H0 T⟩
  | 8, _ => ⟨487, 520, rfl, rfl, lx_c8 H0 T⟩
  | 9, _ => ⟨520, 553, rfl, rfl, lx_c9 H0 T⟩
  | 10, _ => ⟨553, 586, rfl, rfl, lx_c10 H0 T⟩
  | 11, _ => ⟨576, 609, rfl, rfl, lx_c11 H0 T⟩
  | 12, _ => ⟨599, 632, rfl, rfl, lx_c12 H0 T⟩
  | 13, _ => ⟨632, 665, rfl, rfl, lx_c13 H0 T⟩
  | 14, _ => ⟨645, 678, rfl, rfl, lx_c14 H0 T⟩
  | 15, _ => ⟨698, 731, rfl, rfl, lx_c15 H0 T⟩
  | 16, _ => ⟨741, 774, rfl, rfl, lx_c16 H0 T⟩
  | 17, _ => ⟨774, 807, rfl, rfl, lx_c17 H0 T⟩
  | 18, _ => ⟨827, 860, rfl, rfl, lx_c18 H0 T⟩
  | 19, _ => ⟨870, 903, rfl, rfl, lx_c19 H0 T⟩
  | 20, _ => ⟨913, 946, rfl, rfl, lx_c20 H0 T⟩
  | 21, _ => ⟨946, 979, rfl, rfl, lx_c21 H0 T⟩
  | 22, _ => ⟨979, 1012, rfl, rfl, lx_c22 H0 T⟩
  | 23, _ => ⟨1012, 1045, rfl, rfl, lx_c23 H0 T⟩
  | 24, _ => ⟨1035, 1068, rfl, rfl, lx_c24 H0 T⟩
  | 25, _ => ⟨1068, 1101, rfl, rfl, lx_c25 H0 T⟩
  | 26, _ => ⟨1101, 1134, rfl, rfl, lx_c26 H0 T⟩
  | 27, _ => ⟨1134, 1167, rfl, rfl, lx_c27 H0 T⟩
  | 28, _ => ⟨1177, 1210, rfl, rfl, lx_c28 H0 T⟩
  | 29, _ => ⟨1200, 1233, rfl, rfl, lx_c29 H0 T⟩
  | 30, _ => ⟨1233, 1266, rfl, rfl, lx_c30 H0 T⟩
  | 31, _ => ⟨1266, 1299, rfl, rfl, lx_c31 H0 T⟩
  | 32, _ => ⟨1309, 1342, rfl, rfl, lx_c32 H0 T⟩
  | 33, _ => ⟨1332, 1365, rfl, rfl, lx_c33 H0 T⟩
  | 34, _ => ⟨1355, 1388, rfl, rfl, lx_c34 H0 T⟩
  | 35, _ => ⟨1388, 1421, rfl, rfl, lx_c35 H0 T⟩
  | 36, _ => ⟨1421, 1454, rfl, rfl, lx_c36 H0 T⟩
  | 37, _ => ⟨1464, 1497, rfl, rfl, lx_c37 H0 T⟩
  | 38, _ => ⟨1487, 1520, rfl, rfl, lx_c38 H0 T⟩
  | 39, _ => ⟨1520, 1553, rfl, rfl, lx_c39 H0 T⟩
  | 40, _ => ⟨1553, 1586, rfl, rfl, lx_c40 H0 T⟩
  | 41, _ => ⟨1586, 1619, rfl, rfl, lx_c41 H0 T⟩
  | 42, _ => ⟨1609, 1642, rfl, rfl, lx_c42 H0 T⟩
  | 43, _ => ⟨1622, 1655, rfl, rfl, lx_c43 H0 T⟩
  | 44, _ => ⟨1635, 1668, rfl, rfl, lx_c44 H0 T⟩
  | 45, _ => ⟨1648, 1681, rfl, rfl, lx_c45 H0 T⟩
  | 46, _ => ⟨1681, 1714, rfl, rfl, lx_c46 H0 T⟩
  | 47, _ => ⟨1734, 1767, rfl, rfl, lx_c47 H0 T⟩
  | 48, _ => ⟨1747, 1780, rfl, rfl, lx_c48 H0 T⟩
  | 49, _ => ⟨1770, 1803, rfl, rfl, lx_c49 H0 T⟩
  | 50, _ => ⟨1783, 1816, rfl, rfl, lx_c50 H0 T⟩
  | 51, _ => ⟨1796, 1829, rfl, rfl, lx_c51 H0 T⟩
  | k + 52, h => by omega
end LAW4
