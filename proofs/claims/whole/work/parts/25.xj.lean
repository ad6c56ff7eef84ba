/-! ===== x-rows, printed by wip/whole/gen/genx.py: L_law ===== -/
theorem d209_0 : decode (mB 209) 0 = .ok (.new 7, 3) := by decide +kernel
theorem x209_0 {d : Nat} {L : Lc} {st : List Value} {h : Hp} : ex (d) 209 0 L st h = ex d 209 3 L (.ref h.2.2.1 :: st) (mnw h.1 h.2.2.1 (fun k => dfv (pty 10 k)), mnw h.2.1 h.2.2.1 (10, 17), h.2.2.1 + 1, h.2.2.2 + 17) := (ex_of d209_0 (d) L st h).trans (fin_new (mi := 209) k13_7 rfl (by decide))
theorem d209_3 : decode (mB 209) 3 = .ok (.dup, 1) := by decide +kernel
theorem x209_3 {d : Nat} {L : Lc} {st : List Value} {a : Nat} {h : Hp} : ex (d) 209 3 L (.ref a :: st) h = ex d 209 4 L (.ref a :: .ref a :: st) h := (ex_of d209_3 (d) L (.ref a :: st) h).trans (rfl)
theorem x209_3i {d : Nat} {L : Lc} {st : List Value} {x : Int32} {h : Hp} : ex (d) 209 3 L (.int x :: st) h = ex d 209 4 L (.int x :: .int x :: st) h := (ex_of d209_3 (d) L (.int x :: st) h).trans (rfl)
theorem d209_4 : decode (mB 209) 4 = .ok (.invokespecial 9, 3) := by decide +kernel
theorem x209_4 {d : Nat} {L : Lc} {s0 : Value} {a : Nat} {h : Hp} : ex (d + 1) 209 4 L (.ref a :: [s0]) h = bnd (ex d 43 0 [some (.ref a)] [] h) (fun v h' => ex (d + 1) 209 7 L (v.toList ++ [s0]) h') := (ex_of d209_4 (d + 1) L (.ref a :: [s0]) h).trans (fin_sp (mi := 209) i13_9 (Or.inl rfl) rfl (by simp [cat1_i, cat1_r]) (by simp) (Nat.le_of_ble_eq_true rfl))
theorem d209_7 : decode (mB 209) 7 = .ok (.astore_n 1, 1) := by decide +kernel
theorem x209_7 {d : Nat} {l0 l1 l2 l3 : Option Value} {st : List Value} {a : Nat} {h : Hp} : ex (d) 209 7 [l0, l1, l2, l3] (.ref a :: st) h = ex d 209 8 [clr l0, some (.ref a), l2, l3] st h := (ex_of d209_7 (d) [l0, l1, l2, l3] (.ref a :: st) h).trans (rfl)
theorem x209_7n {d : Nat} {l0 l1 l2 l3 : Option Value} {st : List Value} {h : Hp} : ex (d) 209 7 [l0, l1, l2, l3] (.null :: st) h = ex d 209 8 [clr l0, some .null, l2, l3] st h := (ex_of d209_7 (d) [l0, l1, l2, l3] (.null :: st) h).trans (rfl)
theorem x209_7q {d : Nat} {l0 l1 l2 l3 : Option Value} {st : List Value} {a : Option Nat} {h : Hp} : ex (d) 209 7 [l0, l1, l2, l3] (va_rf a :: st) h = ex d 209 8 [clr l0, some (va_rf a), l2, l3] st h := (ex_of d209_7 (d) [l0, l1, l2, l3] (va_rf a :: st) h).trans (by cases a <;> rfl)
theorem d209_8 : decode (mB 209) 8 = .ok (.new 10, 3) := by decide +kernel
theorem x209_8 {d : Nat} {L : Lc} {st : List Value} {h : Hp} : ex (d) 209 8 L st h = ex d 209 11 L (.ref h.2.2.1 :: st) (mnw h.1 h.2.2.1 (fun k => dfv (pty 11 k)), mnw h.2.1 h.2.2.1 (11, 42), h.2.2.1 + 1, h.2.2.2 + 42) := (ex_of d209_8 (d) L st h).trans (fin_new (mi := 209) k13_10 rfl (by decide))
theorem d209_11 : decode (mB 209) 11 = .ok (.dup, 1) := by decide +kernel
theorem x209_11 {d : Nat} {L : Lc} {st : List Value} {a : Nat} {h : Hp} : ex (d) 209 11 L (.ref a :: st) h = ex d 209 12 L (.ref a :: .ref a :: st) h := (ex_of d209_11 (d) L (.ref a :: st) h).trans (rfl)
theorem x209_11i {d : Nat} {L : Lc} {st : List Value} {x : Int32} {h : Hp} : ex (d) 209 11 L (.int x :: st) h = ex d 209 12 L (.int x :: .int x :: st) h := (ex_of d209_11 (d) L (.int x :: st) h).trans (rfl)
theorem d209_12 : decode (mB 209) 12 = .ok (.invokespecial 12, 3) := by decide +kernel
theorem x209_12 {d : Nat} {L : Lc} {s0 : Value} {a : Nat} {h : Hp} : ex (d + 1) 209 12 L (.ref a :: [s0]) h = bnd (ex d 133 0 [some (.ref a)] [] h) (fun v h' => ex (d + 1) 209 15 L (v.toList ++ [s0]) h') := (ex_of d209_12 (d + 1) L (.ref a :: [s0]) h).trans (fin_sp (mi := 209) i13_12 (Or.inl rfl) rfl (by simp [cat1_i, cat1_r]) (by simp) (Nat.le_of_ble_eq_true rfl))
theorem d209_15 : decode (mB 209) 15 = .ok (.astore_n 2, 1) := by decide +kernel
theorem x209_15 {d : Nat} {l0 l1 l2 l3 : Option Value} {st : List Value} {a : Nat} {h : Hp} : ex (d) 209 15 [l0, l1, l2, l3] (.ref a :: st) h = ex d 209 16 [l0, clr l1, some (.ref a), l3] st h := (ex_of d209_15 (d) [l0, l1, l2, l3] (.ref a :: st) h).trans (rfl)
theorem x209_15n {d : Nat} {l0 l1 l2 l3 : Option Value} {st : List Value} {h : Hp} : ex (d) 209 15 [l0, l1, l2, l3] (.null :: st) h = ex d 209 16 [l0, clr l1, some .null, l3] st h := (ex_of d209_15 (d) [l0, l1, l2, l3] (.null :: st) h).trans (rfl)
theorem x209_15q {d : Nat} {l0 l1 l2 l3 : Option Value} {st : List Value} {a : Option Nat} {h : Hp} : ex (d) 209 15 [l0, l1, l2, l3] (va_rf a :: st) h = ex d 209 16 [l0, clr l1, some (va_rf a), l3] st h := (ex_of d209_15 (d) [l0, l1, l2, l3] (va_rf a :: st) h).trans (by cases a <;> rfl)
theorem d209_16 : decode (mB 209) 16 = .ok (.iconst 0, 1) := by decide +kernel
theorem x209_16 {d : Nat} {L : Lc} {st : List Value} {h : Hp} : ex (d) 209 16 L st h = ex d 209 17 L (.int (nI 0) :: st) h := (ex_of d209_16 (d) L st h).trans (rfl)
theorem d209_17 : decode (mB 209) 17 = .ok (.istore_n 3, 1) := by decide +kernel
theorem x209_17 {d : Nat} {l0 l1 l2 l3 : Option Value} {st : List Value} {x : Int32} {h : Hp} : ex (d) 209 17 [l0, l1, l2, l3] (.int x :: st) h = ex d 209 18 [l0, l1, clr l2, some (.int x)] st h := (ex_of d209_17 (d) [l0, l1, l2, l3] (.int x :: st) h).trans (rfl)
theorem d209_18 : decode (mB 209) 18 = .ok (.iload_n 3, 1) := by decide +kernel
theorem x209_18 {d : Nat} {l0 l1 l2 : Option Value} {st : List Value} {x : Int32} {h : Hp} : ex (d) 209 18 [l0, l1, l2, some (.int x)] st h = ex d 209 19 [l0, l1, l2, some (.int x)] (.int x :: st) h := (ex_of d209_18 (d) [l0, l1, l2, some (.int x)] st h).trans (rfl)
theorem d209_19 : decode (mB 209) 19 = .ok (.aload_n 0, 1) := by decide +kernel
theorem x209_19 {d : Nat} {l1 l2 l3 : Option Value} {st : List Value} {a : Nat} {h : Hp} : ex (d) 209 19 [some (.ref a), l1, l2, l3] st h = ex d 209 20 [some (.ref a), l1, l2, l3] (.ref a :: st) h := (ex_of d209_19 (d) [some (.ref a), l1, l2, l3] st h).trans (rfl)
theorem d209_20 : decode (mB 209) 20 = .ok (.arraylength, 1) := by decide +kernel
theorem x209_20 {d : Nat} {L : Lc} {st : List Value} {a : Nat} {h : Hp} (ht : 20 ≤ (h.2.1 a).1 ∧ (h.2.1 a).1 ≤ 30) : ex (d) 209 20 L (.ref a :: st) h = ex d 209 21 L (.int (nI (h.2.1 a).2) :: st) h := (ex_of d209_20 (d) L (.ref a :: st) h).trans (fin_alen ht)
theorem d209_21 : decode (mB 209) 21 = .ok (.iconst 5, 1) := by decide +kernel
theorem x209_21 {d : Nat} {L : Lc} {st : List Value} {h : Hp} : ex (d) 209 21 L st h = ex d 209 22 L (.int (nI 5) :: st) h := (ex_of d209_21 (d) L st h).trans (rfl)
theorem d209_22 : decode (mB 209) 22 = .ok (.isub, 1) := by decide +kernel
theorem x209_22 {d : Nat} {L : Lc} {st : List Value} {x y : Int32} {h : Hp} : ex (d) 209 22 L (.int y :: .int x :: st) h = ex d 209 23 L (.int (x - y) :: st) h := (ex_of d209_22 (d) L (.int y :: .int x :: st) h).trans (rfl)
theorem d209_23 : decode (mB 209) 23 = .ok (.if_icmp .gt 1321, 3) := by decide +kernel
theorem x209_23 {d : Nat} {L : Lc} {st : List Value} {x y : Int32} {h : Hp} : ex (d) 209 23 L (.int y :: .int x :: st) h = if y < x then ex d 209 1344 L st h else ex d 209 26 L st h := (ex_of d209_23 (d) L (.int y :: .int x :: st) h).trans (fin_brq (off := 1321) (tgt := 1344) rfl (by decide))
theorem d209_26 : decode (mB 209) 26 = .ok (.aload_n 0, 1) := by decide +kernel
theorem x209_26 {d : Nat} {l1 l2 l3 : Option Value} {st : List Value} {a : Nat} {h : Hp} : ex (d) 209 26 [some (.ref a), l1, l2, l3] st h = ex d 209 27 [some (.ref a), l1, l2, l3] (.ref a :: st) h := (ex_of d209_26 (d) [some (.ref a), l1, l2, l3] st h).trans (rfl)
theorem d209_27 : decode (mB 209) 27 = .ok (.iload_n 3, 1) := by decide +kernel
theorem x209_27 {d : Nat} {l0 l1 l2 : Option Value} {st : List Value} {x : Int32} {h : Hp} : ex (d) 209 27 [l0, l1, l2, some (.int x)] st h = ex d 209 28 [l0, l1, l2, some (.int x)] (.int x :: st) h := (ex_of d209_27 (d) [l0, l1, l2, some (.int x)] st h).trans (rfl)
theorem d209_28 : decode (mB 209) 28 = .ok (.iaload, 1) := by decide +kernel
theorem x209_28 {d : Nat} {L : Lc} {st : List Value} {a j : Nat} {h : Hp} (ht : (h.2.1 a).1 = 20) (hj : j < (h.2.1 a).2) (hb : j < 2147483648) : ex (d) 209 28 L (.int (nI j) :: .ref a :: st) h = ex d 209 29 L (h.1 a j :: st) h := (ex_of d209_28 (d) L (.int (nI j) :: .ref a :: st) h).trans (fin_iaload (Or.inl ht) hj hb)
theorem d209_29 : decode (mB 209) 29 = .ok (.bipush 63, 2) := by decide +kernel
theorem x209_29 {d : Nat} {L : Lc} {st : List Value} {h : Hp} : ex (d) 209 29 L st h = ex d 209 31 L (.int (nI 63) :: st) h := (ex_of d209_29 (d) L st h).trans (rfl)
theorem d209_31 : decode (mB 209) 31 = .ok (.iand, 1) := by decide +kernel
theorem x209_31 {d : Nat} {L : Lc} {st : List Value} {x y : Int32} {h : Hp} : ex (d) 209 31 L (.int y :: .int x :: st) h = ex d 209 32 L (.int (x &&& y) :: st) h := (ex_of d209_31 (d) L (.int y :: .int x :: st) h).trans (rfl)
theorem d209_32 : decode (mB 209) 32 = .ok (.tableswitch 1306 0 39 #[176, 199, 222, 235, 258, 291, 334, 367, 390, 413, 436, 479, 512, 545, 588, 641, 684, 727, 740, 783, 816, 849, 872, 895, 928, 941, 974, 987, 1010, 1043, 1076, 1129, 1142, 1155, 1188, 1221, 1244, 1257, 1280, 1293], 176) := by decide +kernel
theorem x209_32_0 {d : Nat} {L : Lc} {st : List Value} {h : Hp} : ex (d) 209 32 L (.int (nI 0) :: st) h = ex d 209 208 L st h := (ex_of d209_32 (d) L (.int (nI 0) :: st) h).trans (rfl)
theorem x209_32_1 {d : Nat} {L : Lc} {st : List Value} {h : Hp} : ex (d) 209 32 L (.int (nI 1) :: st) h = ex d 209 231 L st h := (ex_of d209_32 (d) L (.int (nI 1) :: st) h).trans (rfl)
theorem x209_32_2 {d : Nat} {L : Lc} {st : List Value} {h : Hp} : ex (d) 209 32 L (.int (nI 2) :: st) h = ex d 209 254 L st h := (ex_of d209_32 (d) L (.int (nI 2) :: st) h).trans (rfl)
theorem x209_32_3 {d : Nat} {L : Lc} {st : List Value} {h : Hp} : ex (d) 209 32 L (.int (nI 3) :: st) h = ex d 209 267 L st h := (ex_of d209_32 (d) L (.int (nI 3) :: st) h).trans (rfl)
theorem x209_32_4 {d : Nat} {L : Lc} {st : List Value} {h : Hp} : ex (d) 209 32 L (.int (nI 4) :: st) h = ex d 209 290 L st h := (ex_of d209_32 (d) L (.int (nI 4) :: st) h).trans (rfl)
theorem x209_32_5 {d : Nat} {L : Lc} {st : List Value} {h : Hp} : ex (d) 209 32 L (.int (nI 5) :: st) h = ex d 209 323 L st h := (ex_of d209_32 (d) L (.int (nI 5) :: st) h).trans (rfl)
theorem x209_32_6 {d : Nat} {L : Lc} {st : List Value} {h : Hp} : ex (d) 209 32 L (.int (nI 6) :: st) h = ex d 209 366 L st h := (ex_of d209_32 (d) L (.int (nI 6) :: st) h).trans (rfl)
theorem x209_32_7 {d : Nat} {L : Lc} {st : List Value} {h : Hp} : ex (d) 209 32 L (.int (nI 7) :: st) h = ex d 209 399 L st h := (ex_of d209_32 (d) L (.int (nI 7) :: st) h).trans (rfl)
theorem x209_32_8 {d : Nat} {L : Lc} {st : List Value} {h : Hp} : ex (d) 209 32 L (.int (nI 8) :: st) h = ex d 209 422 L st h := (ex_of d209_32 (d) L (.int (nI 8) :: st) h).trans (rfl)
theorem x209_32_9 {d : Nat} {L : Lc} {st : List Value} {h : Hp} : ex (d) 209 32 L (.int (nI 9) :: st) h = ex d 209 445 L st h := (ex_of d209_32 (d) L (.int (nI 9) :: st) h).trans (rfl)
theorem x209_32_10 {d : Nat} {L : Lc} {st : List Value} {h : Hp} : ex (d) 209 32 L (.int (nI 10) :: st) h = ex d 209 468 L st h := (ex_of d209_32 (d) L (.int (nI 10) :: st) h).trans (rfl)
theorem x209_32_11 {d : Nat} {L : Lc} {st : List Value} {h : Hp} : ex (d) 209 32 L (.int (nI 11) :: st) h = ex d 209 511 L st h := (ex_of d209_32 (d) L (.int (nI 11) :: st) h).trans (rfl)
theorem x209_32_12 {d : Nat} {L : Lc} {st : List Value} {h : Hp} : ex (d) 209 32 L (.int (nI 12) :: st) h = ex d 209 544 L st h := (ex_of d209_32 (d) L (.int (nI 12) :: st) h).trans (rfl)
theorem x209_32_13 {d : Nat} {L : Lc} {st : List Value} {h : Hp} : ex (d) 209 32 L (.int (nI 13) :: st) h = ex d 209 577 L st h := (ex_of d209_32 (d) L (.int (nI 13) :: st) h).trans (rfl)
theorem x209_32_14 {d : Nat} {L : Lc} {st : List Value} {h : Hp} : ex (d) 209 32 L (.int (nI 14) :: st) h = ex d 209 620 L st h := (ex_of d209_32 (d) L (.int (nI 14) :: st) h).trans (rfl)
theorem x209_32_15 {d : Nat} {L : Lc} {st : List Value} {h : Hp} : ex (d) 209 32 L (.int (nI 15) :: st) h = ex d 209 673 L st h := (ex_of d209_32 (d) L (.int (nI 15) :: st) h).trans (rfl)
theorem x209_32_16 {d : Nat} {L : Lc} {st : List Value} {h : Hp} : ex (d) 209 32 L (.int (nI 16) :: st) h = ex d 209 716 L st h := (ex_of d209_32 (d) L (.int (nI 16) :: st) h).trans (rfl)
theorem x209_32_17 {d : Nat} {L : Lc} {st : List Value} {h : Hp} : ex (d) 209 32 L (.int (nI 17) :: st) h = ex d 209 759 L st h := (ex_of d209_32 (d) L (.int (nI 17) :: st) h).trans (rfl)
theorem x209_32_18 {d : Nat} {L : Lc} {st : List Value} {h : Hp} : ex (d) 209 32 L (.int (nI 18) :: st) h = ex d 209 772 L st h := (ex_of d209_32 (d) L (.int (nI 18) :: st) h).trans (rfl)
theorem x209_32_19 {d : Nat} {L : Lc} {st : List Value} {h : Hp} : ex (d) 209 32 L (.int (nI 19) :: st) h = ex d 209 815 L st h := (ex_of d209_32 (d) L (.int (nI 19) :: st) h).trans (rfl)
theorem x209_32_20 {d : Nat} {L : Lc} {st : List Value} {h : Hp} : ex (d) 209 32 L (.int (nI 20) :: st) h = ex d 209 848 L st h := (ex_of d209_32 (d) L (.int (nI 20) :: st) h).trans (rfl)
theorem x209_32_21 {d : Nat} {L : Lc} {st : List Value} {h : Hp} : ex (d) 209 32 L (.int (nI 21) :: st) h = ex d 209 881 L st h := (ex_of d209_32 (d) L (.int (nI 21) :: st) h).trans (rfl)
theorem x209_32_22 {d : Nat} {L : Lc} {st : List Value} {h : Hp} : ex (d) 209 32 L (.int (nI 22) :: st) h = ex d 209 904 L st h := (ex_of d209_32 (d) L (.int (nI 22) :: st) h).trans (rfl)
theorem x209_32_23 {d : Nat} {L : Lc} {st : List Value} {h : Hp} : ex (d) 209 32 L (.int (nI 23) :: st) h = ex d 209 927 L st h := (ex_of d209_32 (d) L (.int (nI 23) :: st) h).trans (rfl)
theorem x209_32_24 {d : Nat} {L : Lc} {st : List Value} {h : Hp} : ex (d) 209 32 L (.int (nI 24) :: st) h = ex d 209 960 L st h := (ex_of d209_32 (d) L (.int (nI 24) :: st) h).trans (rfl)
theorem x209_32_25 {d : Nat} {L : Lc} {st : List Value} {h : Hp} : ex (d) 209 32 L (.int (nI 25) :: st) h = ex d 209 973 L st h := (ex_of d209_32 (d) L (.int (nI 25) :: st) h).trans (rfl)
theorem x209_32_26 {d : Nat} {L : Lc} {st : List Value} {h : Hp} : ex (d) 209 32 L (.int (nI 26) :: st) h = ex d 209 1006 L st h := (ex_of d209_32 (d) L (.int (nI 26) :: st) h).trans (rfl)
theorem x209_32_27 {d : Nat} {L : Lc} {st : List Value} {h : Hp} : ex (d) 209 32 L (.int (nI 27) :: st) h = ex d 209 1019 L st h := (ex_of d209_32 (d) L (.int (nI 27) :: st) h).trans (rfl)
theorem x209_32_28 {d : Nat} {L : Lc} {st : List Value} {h : Hp} : ex (d) 209 32 L (.int (nI 28) :: st) h = ex d 209 1042 L st h := (ex_of d209_32 (d) L (.int (nI 28) :: st) h).trans (rfl)
theorem x209_32_29 {d : Nat} {L : Lc} {st : List Value} {h : Hp} : ex (d) 209 32 L (.int (nI 29) :: st) h = ex d 209 1075 L st h := (ex_of d209_32 (d) L (.int (nI 29) :: st) h).trans (rfl)
theorem x209_32_30 {d : Nat} {L : Lc} {st : List Value} {h : Hp} : ex (d) 209 32 L (.int (nI 30) :: st) h = ex d 209 1108 L st h := (ex_of d209_32 (d) L (.int (nI 30) :: st) h).trans (rfl)
theorem x209_32_31 {d : Nat} {L : Lc} {st : List Value} {h : Hp} : ex (d) 209 32 L (.int (nI 31) :: st) h = ex d 209 1161 L st h := (ex_of d209_32 (d) L (.int (nI 31) :: st) h).trans (rfl)
theorem x209_32_32 {d : Nat} {L : Lc} {st : List Value} {h : Hp} : ex (d) 209 32 L (.int (nI 32) :: st) h = ex d 209 1174 L st h := (ex_of d209_32 (d) L (.int (nI 32) :: st) h).trans (rfl)
theorem x209_32_33 {d : Nat} {L : Lc} {st : List Value} {h : Hp} : ex (d) 209 32 L (.int (nI 33) :: st) h = ex d 209 1187 L st h := (ex_of d209_32 (d) L (.int (nI 33) :: st) h).trans (rfl)
theorem x209_32_34 {d : Nat} {L : Lc} {st : List Value} {h : Hp} : ex (d) 209 32 L (.int (nI 34) :: st) h = ex d 209 1220 L st h := (ex_of d209_32 (d) L (.int (nI 34) :: st) h).trans (rfl)
theorem x209_32_35 {d : Nat} {L : Lc} {st : List Value} {h : Hp} : ex (d) 209 32 L (.int (nI 35) :: st) h = ex d 209 1253 L st h := (ex_of d209_32 (d) L (.int (nI 35) :: st) h).trans (rfl)
theorem x209_32_36 {d : Nat} {L : Lc} {st : List Value} {h : Hp} : ex (d) 209 32 L (.int (nI 36) :: st) h = ex d 209 1276 L st h := (ex_of d209_32 (d) L (.int (nI 36) :: st) h).trans (rfl)
theorem x209_32_37 {d : Nat} {L : Lc} {st : List Value} {h : Hp} : ex (d) 209 32 L (.int (nI 37) :: st) h = ex d 209 1289 L st h := (ex_of d209_32 (d) L (.int (nI 37) :: st) h).trans (rfl)
theorem x209_32_38 {d : Nat} {L : Lc} {st : List Value} {h : Hp} : ex (d) 209 32 L (.int (nI 38) :: st) h = ex d 209 1312 L st h := (ex_of d209_32 (d) L (.int (nI 38) :: st) h).trans (rfl)
theorem x209_32_39 {d : Nat} {L : Lc} {st : List Value} {h : Hp} : ex (d) 209 32 L (.int (nI 39) :: st) h = ex d 209 1325 L st h := (ex_of d209_32 (d) L (.int (nI 39) :: st) h).trans (rfl)
theorem x209_32_o {d : Nat} {L : Lc} {st : List Value} {x : Int32} {h : Hp} (hx : x.toInt < 0 ∨ 39 < x.toInt) : ex (d) 209 32 L (.int x :: st) h = ex d 209 1338 L st h := by
  refine (ex_of d209_32 _ _ _ _).trans ?_
  simp only [stp]
  rw [if_pos hx]
  rfl
theorem d209_208 : decode (mB 209) 208 = .ok (.aload_n 1, 1) := by decide +kernel
theorem x209_208 {d : Nat} {l0 l2 l3 : Option Value} {st : List Value} {a : Nat} {h : Hp} : ex (d) 209 208 [l0, some (.ref a), l2, l3] st h = ex d 209 209 [l0, some (.ref a), l2, l3] (.ref a :: st) h := (ex_of d209_208 (d) [l0, some (.ref a), l2, l3] st h).trans (rfl)
theorem x209_208n {d : Nat} {l0 l2 l3 : Option Value} {st : List Value} {h : Hp} : ex (d) 209 208 [l0, some .null, l2, l3] st h = ex d 209 209 [l0, some .null, l2, l3] (.null :: st) h := (ex_of d209_208 (d) [l0, some .null, l2, l3] st h).trans (rfl)
theorem x209_208q {d : Nat} {l0 l2 l3 : Option Value} {st : List Value} {a : Option Nat} {h : Hp} : ex (d) 209 208 [l0, some (va_rf a), l2, l3] st h = ex d 209 209 [l0, some (va_rf a), l2, l3] (va_rf a :: st) h := (ex_of d209_208 (d) [l0, some (va_rf a), l2, l3] st h).trans (by cases a <;> rfl)
theorem d209_209 : decode (mB 209) 209 = .ok (.aload_n 0, 1) := by decide +kernel
theorem x209_209 {d : Nat} {l1 l2 l3 : Option Value} {st : List Value} {a : Nat} {h : Hp} : ex (d) 209 209 [some (.ref a), l1, l2, l3] st h = ex d 209 210 [some (.ref a), l1, l2, l3] (.ref a :: st) h := (ex_of d209_209 (d) [some (.ref a), l1, l2, l3] st h).trans (rfl)
theorem d209_210 : decode (mB 209) 210 = .ok (.iload_n 3, 1) := by decide +kernel
theorem x209_210 {d : Nat} {l0 l1 l2 : Option Value} {st : List Value} {x : Int32} {h : Hp} : ex (d) 209 210 [l0, l1, l2, some (.int x)] st h = ex d 209 211 [l0, l1, l2, some (.int x)] (.int x :: st) h := (ex_of d209_210 (d) [l0, l1, l2, some (.int x)] st h).trans (rfl)
theorem d209_211 : decode (mB 209) 211 = .ok (.iconst 1, 1) := by decide +kernel
theorem x209_211 {d : Nat} {L : Lc} {st : List Value} {h : Hp} : ex (d) 209 211 L st h = ex d 209 212 L (.int (nI 1) :: st) h := (ex_of d209_211 (d) L st h).trans (rfl)
theorem d209_212 : decode (mB 209) 212 = .ok (.iadd, 1) := by decide +kernel
theorem x209_212 {d : Nat} {L : Lc} {st : List Value} {x y : Int32} {h : Hp} : ex (d) 209 212 L (.int y :: .int x :: st) h = ex d 209 213 L (.int (x + y) :: st) h := (ex_of d209_212 (d) L (.int y :: .int x :: st) h).trans (rfl)
theorem d209_213 : decode (mB 209) 213 = .ok (.iaload, 1) := by decide +kernel
theorem x209_213 {d : Nat} {L : Lc} {st : List Value} {a j : Nat} {h : Hp} (ht : (h.2.1 a).1 = 20) (hj : j < (h.2.1 a).2) (hb : j < 2147483648) : ex (d) 209 213 L (.int (nI j) :: .ref a :: st) h = ex d 209 214 L (h.1 a j :: st) h := (ex_of d209_213 (d) L (.int (nI j) :: .ref a :: st) h).trans (fin_iaload (Or.inl ht) hj hb)
theorem d209_214 : decode (mB 209) 214 = .ok (.invokevirtual 13, 3) := by decide +kernel
theorem x209_214 {d : Nat} {L : Lc} {a : Nat} {v0 : Int32} {h : Hp} (ht : (h.2.1 a).1 = 10) : ex (d + 1) 209 214 L (.int v0 :: .ref a :: []) h = bnd (ex d 44 0 [some (.ref a), some (.int v0), none] [] h) (fun v h' => ex (d + 1) 209 217 L (v.toList ++ []) h') := (ex_of d209_214 (d + 1) L (.int v0 :: .ref a :: []) h).trans (fin_vi (mi := 209) i13_13 ht rfl rfl (by simp [cat1_i, cat1_r]) (by simp) (Nat.le_of_ble_eq_true rfl))
theorem d209_217 : decode (mB 209) 217 = .ok (.aload_n 2, 1) := by decide +kernel
theorem x209_217 {d : Nat} {l0 l1 l3 : Option Value} {st : List Value} {a : Nat} {h : Hp} : ex (d) 209 217 [l0, l1, some (.ref a), l3] st h = ex d 209 218 [l0, l1, some (.ref a), l3] (.ref a :: st) h := (ex_of d209_217 (d) [l0, l1, some (.ref a), l3] st h).trans (rfl)
theorem x209_217n {d : Nat} {l0 l1 l3 : Option Value} {st : List Value} {h : Hp} : ex (d) 209 217 [l0, l1, some .null, l3] st h = ex d 209 218 [l0, l1, some .null, l3] (.null :: st) h := (ex_of d209_217 (d) [l0, l1, some .null, l3] st h).trans (rfl)
theorem x209_217q {d : Nat} {l0 l1 l3 : Option Value} {st : List Value} {a : Option Nat} {h : Hp} : ex (d) 209 217 [l0, l1, some (va_rf a), l3] st h = ex d 209 218 [l0, l1, some (va_rf a), l3] (va_rf a :: st) h := (ex_of d209_217 (d) [l0, l1, some (va_rf a), l3] st h).trans (by cases a <;> rfl)
theorem d209_218 : decode (mB 209) 218 = .ok (.aload_n 0, 1) := by decide +kernel
theorem x209_218 {d : Nat} {l1 l2 l3 : Option Value} {st : List Value} {a : Nat} {h : Hp} : ex (d) 209 218 [some (.ref a), l1, l2, l3] st h = ex d 209 219 [some (.ref a), l1, l2, l3] (.ref a :: st) h := (ex_of d209_218 (d) [some (.ref a), l1, l2, l3] st h).trans (rfl)
theorem d209_219 : decode (mB 209) 219 = .ok (.iload_n 3, 1) := by decide +kernel
theorem x209_219 {d : Nat} {l0 l1 l2 : Option Value} {st : List Value} {x : Int32} {h : Hp} : ex (d) 209 219 [l0, l1, l2, some (.int x)] st h = ex d 209 220 [l0, l1, l2, some (.int x)] (.int x :: st) h := (ex_of d209_219 (d) [l0, l1, l2, some (.int x)] st h).trans (rfl)
theorem d209_220 : decode (mB 209) 220 = .ok (.iconst 1, 1) := by decide +kernel
theorem x209_220 {d : Nat} {L : Lc} {st : List Value} {h : Hp} : ex (d) 209 220 L st h = ex d 209 221 L (.int (nI 1) :: st) h := (ex_of d209_220 (d) L st h).trans (rfl)
theorem d209_221 : decode (mB 209) 221 = .ok (.iadd, 1) := by decide +kernel
theorem x209_221 {d : Nat} {L : Lc} {st : List Value} {x y : Int32} {h : Hp} : ex (d) 209 221 L (.int y :: .int x :: st) h = ex d 209 222 L (.int (x + y) :: st) h := (ex_of d209_221 (d) L (.int y :: .int x :: st) h).trans (rfl)
theorem d209_222 : decode (mB 209) 222 = .ok (.iaload, 1) := by decide +kernel
theorem x209_222 {d : Nat} {L : Lc} {st : List Value} {a j : Nat} {h : Hp} (ht : (h.2.1 a).1 = 20) (hj : j < (h.2.1 a).2) (hb : j < 2147483648) : ex (d) 209 222 L (.int (nI j) :: .ref a :: st) h = ex d 209 223 L (h.1 a j :: st) h := (ex_of d209_222 (d) L (.int (nI j) :: .ref a :: st) h).trans (fin_iaload (Or.inl ht) hj hb)
theorem d209_223 : decode (mB 209) 223 = .ok (.invokevirtual 17, 3) := by decide +kernel
theorem x209_223 {d : Nat} {L : Lc} {s0 : Value} {a : Nat} {v0 : Int32} {h : Hp} (ht : (h.2.1 a).1 = 11) : ex (d + 1) 209 223 L (.int v0 :: .ref a :: [s0]) h = bnd (ex d 142 0 [some (.ref a), some (.int v0), none, none] [] h) (fun v h' => ex (d + 1) 209 226 L (v.toList ++ [s0]) h') := (ex_of d209_223 (d + 1) L (.int v0 :: .ref a :: [s0]) h).trans (fin_vi (mi := 209) i13_17 ht rfl rfl (by simp [cat1_i, cat1_r]) (by simp) (Nat.le_of_ble_eq_true rfl))
theorem d209_226 : decode (mB 209) 226 = .ok (.if_icmp .eq 1112, 3) := by decide +kernel
theorem x209_226 {d : Nat} {L : Lc} {st : List Value} {x y : Int32} {h : Hp} : ex (d) 209 226 L (.int y :: .int x :: st) h = if x = y then ex d 209 1338 L st h else ex d 209 229 L st h := (ex_of d209_226 (d) L (.int y :: .int x :: st) h).trans (fin_brq (off := 1112) (tgt := 1338) rfl (by decide))
theorem d209_229 : decode (mB 209) 229 = .ok (.iconst 0, 1) := by decide +kernel
theorem x209_229 {d : Nat} {L : Lc} {st : List Value} {h : Hp} : ex (d) 209 229 L st h = ex d 209 230 L (.int (nI 0) :: st) h := (ex_of d209_229 (d) L st h).trans (rfl)
theorem d209_230 : decode (mB 209) 230 = .ok (.ireturn, 1) := by decide +kernel
theorem x209_230 {d : Nat} {L : Lc} {x : Int32} {h : Hp} (hx : x = 0 ∨ x = 1) : ex (d) 209 230 L [.int x] h = some (some (.int x), h) := (ex_of d209_230 (d) L [.int x] h).trans (fin_retb rfl hx)
theorem d209_231 : decode (mB 209) 231 = .ok (.aload_n 1, 1) := by decide +kernel
theorem x209_231 {d : Nat} {l0 l2 l3 : Option Value} {st : List Value} {a : Nat} {h : Hp} : ex (d) 209 231 [l0, some (.ref a), l2, l3] st h = ex d 209 232 [l0, some (.ref a), l2, l3] (.ref a :: st) h := (ex_of d209_231 (d) [l0, some (.ref a), l2, l3] st h).trans (rfl)
theorem x209_231n {d : Nat} {l0 l2 l3 : Option Value} {st : List Value} {h : Hp} : ex (d) 209 231 [l0, some .null, l2, l3] st h = ex d 209 232 [l0, some .null, l2, l3] (.null :: st) h := (ex_of d209_231 (d) [l0, some .null, l2, l3] st h).trans (rfl)
theorem x209_231q {d : Nat} {l0 l2 l3 : Option Value} {st : List Value} {a : Option Nat} {h : Hp} : ex (d) 209 231 [l0, some (va_rf a), l2, l3] st h = ex d 209 232 [l0, some (va_rf a), l2, l3] (va_rf a :: st) h := (ex_of d209_231 (d) [l0, some (va_rf a), l2, l3] st h).trans (by cases a <;> rfl)
theorem d209_232 : decode (mB 209) 232 = .ok (.aload_n 0, 1) := by decide +kernel
theorem x209_232 {d : Nat} {l1 l2 l3 : Option Value} {st : List Value} {a : Nat} {h : Hp} : ex (d) 209 232 [some (.ref a), l1, l2, l3] st h = ex d 209 233 [some (.ref a), l1, l2, l3] (.ref a :: st) h := (ex_of d209_232 (d) [some (.ref a), l1, l2, l3] st h).trans (rfl)
theorem d209_233 : decode (mB 209) 233 = .ok (.iload_n 3, 1) := by decide +kernel
theorem x209_233 {d : Nat} {l0 l1 l2 : Option Value} {st : List Value} {x : Int32} {h : Hp} : ex (d) 209 233 [l0, l1, l2, some (.int x)] st h = ex d 209 234 [l0, l1, l2, some (.int x)] (.int x :: st) h := (ex_of d209_233 (d) [l0, l1, l2, some (.int x)] st h).trans (rfl)
theorem d209_234 : decode (mB 209) 234 = .ok (.iconst 1, 1) := by decide +kernel
theorem x209_234 {d : Nat} {L : Lc} {st : List Value} {h : Hp} : ex (d) 209 234 L st h = ex d 209 235 L (.int (nI 1) :: st) h := (ex_of d209_234 (d) L st h).trans (rfl)
theorem d209_235 : decode (mB 209) 235 = .ok (.iadd, 1) := by decide +kernel
theorem x209_235 {d : Nat} {L : Lc} {st : List Value} {x y : Int32} {h : Hp} : ex (d) 209 235 L (.int y :: .int x :: st) h = ex d 209 236 L (.int (x + y) :: st) h := (ex_of d209_235 (d) L (.int y :: .int x :: st) h).trans (rfl)
theorem d209_236 : decode (mB 209) 236 = .ok (.iaload, 1) := by decide +kernel
theorem x209_236 {d : Nat} {L : Lc} {st : List Value} {a j : Nat} {h : Hp} (ht : (h.2.1 a).1 = 20) (hj : j < (h.2.1 a).2) (hb : j < 2147483648) : ex (d) 209 236 L (.int (nI j) :: .ref a :: st) h = ex d 209 237 L (h.1 a j :: st) h := (ex_of d209_236 (d) L (.int (nI j) :: .ref a :: st) h).trans (fin_iaload (Or.inl ht) hj hb)
theorem d209_237 : decode (mB 209) 237 = .ok (.invokevirtual 18, 3) := by decide +kernel
theorem x209_237 {d : Nat} {L : Lc} {a : Nat} {v0 : Int32} {h : Hp} (ht : (h.2.1 a).1 = 10) : ex (d + 1) 209 237 L (.int v0 :: .ref a :: []) h = bnd (ex d 45 0 [some (.ref a), some (.int v0)] [] h) (fun v h' => ex (d + 1) 209 240 L (v.toList ++ []) h') := (ex_of d209_237 (d + 1) L (.int v0 :: .ref a :: []) h).trans (fin_vi (mi := 209) i13_18 ht rfl rfl (by simp [cat1_i, cat1_r]) (by simp) (Nat.le_of_ble_eq_true rfl))
theorem d209_240 : decode (mB 209) 240 = .ok (.aload_n 2, 1) := by decide +kernel
theorem x209_240 {d : Nat} {l0 l1 l3 : Option Value} {st : List Value} {a : Nat} {h : Hp} : ex (d) 209 240 [l0, l1, some (.ref a), l3] st h = ex d 209 241 [l0, l1, some (.ref a), l3] (.ref a :: st) h := (ex_of d209_240 (d) [l0, l1, some (.ref a), l3] st h).trans (rfl)
theorem x209_240n {d : Nat} {l0 l1 l3 : Option Value} {st : List Value} {h : Hp} : ex (d) 209 240 [l0, l1, some .null, l3] st h = ex d 209 241 [l0, l1, some .null, l3] (.null :: st) h := (ex_of d209_240 (d) [l0, l1, some .null, l3] st h).trans (rfl)
theorem x209_240q {d : Nat} {l0 l1 l3 : Option Value} {st : List Value} {a : Option Nat} {h : Hp} : ex (d) 209 240 [l0, l1, some (va_rf a), l3] st h = ex d 209 241 [l0, l1, some (va_rf a), l3] (va_rf a :: st) h := (ex_of d209_240 (d) [l0, l1, some (va_rf a), l3] st h).trans (by cases a <;> rfl)
theorem d209_241 : decode (mB 209) 241 = .ok (.aload_n 0, 1) := by decide +kernel
theorem x209_241 {d : Nat} {l1 l2 l3 : Option Value} {st : List Value} {a : Nat} {h : Hp} : ex (d) 209 241 [some (.ref a), l1, l2, l3] st h = ex d 209 242 [some (.ref a), l1, l2, l3] (.ref a :: st) h := (ex_of d209_241 (d) [some (.ref a), l1, l2, l3] st h).trans (rfl)
theorem d209_242 : decode (mB 209) 242 = .ok (.iload_n 3, 1) := by decide +kernel
theorem x209_242 {d : Nat} {l0 l1 l2 : Option Value} {st : List Value} {x : Int32} {h : Hp} : ex (d) 209 242 [l0, l1, l2, some (.int x)] st h = ex d 209 243 [l0, l1, l2, some (.int x)] (.int x :: st) h := (ex_of d209_242 (d) [l0, l1, l2, some (.int x)] st h).trans (rfl)
theorem d209_243 : decode (mB 209) 243 = .ok (.iconst 1, 1) := by decide +kernel
theorem x209_243 {d : Nat} {L : Lc} {st : List Value} {h : Hp} : ex (d) 209 243 L st h = ex d 209 244 L (.int (nI 1) :: st) h := (ex_of d209_243 (d) L st h).trans (rfl)
theorem d209_244 : decode (mB 209) 244 = .ok (.iadd, 1) := by decide +kernel
theorem x209_244 {d : Nat} {L : Lc} {st : List Value} {x y : Int32} {h : Hp} : ex (d) 209 244 L (.int y :: .int x :: st) h = ex d 209 245 L (.int (x + y) :: st) h := (ex_of d209_244 (d) L (.int y :: .int x :: st) h).trans (rfl)
theorem d209_245 : decode (mB 209) 245 = .ok (.iaload, 1) := by decide +kernel
theorem x209_245 {d : Nat} {L : Lc} {st : List Value} {a j : Nat} {h : Hp} (ht : (h.2.1 a).1 = 20) (hj : j < (h.2.1 a).2) (hb : j < 2147483648) : ex (d) 209 245 L (.int (nI j) :: .ref a :: st) h = ex d 209 246 L (h.1 a j :: st) h := (ex_of d209_245 (d) L (.int (nI j) :: .ref a :: st) h).trans (fin_iaload (Or.inl ht) hj hb)
theorem d209_246 : decode (mB 209) 246 = .ok (.invokevirtual 21, 3) := by decide +kernel
theorem x209_246 {d : Nat} {L : Lc} {s0 : Value} {a : Nat} {v0 : Int32} {h : Hp} (ht : (h.2.1 a).1 = 11) : ex (d + 1) 209 246 L (.int v0 :: .ref a :: [s0]) h = bnd (ex d 143 0 [some (.ref a), some (.int v0)] [] h) (fun v h' => ex (d + 1) 209 249 L (v.toList ++ [s0]) h') := (ex_of d209_246 (d + 1) L (.int v0 :: .ref a :: [s0]) h).trans (fin_vi (mi := 209) i13_21 ht rfl rfl (by simp [cat1_i, cat1_r]) (by simp) (Nat.le_of_ble_eq_true rfl))
theorem d209_249 : decode (mB 209) 249 = .ok (.if_icmp .eq 1089, 3) := by decide +kernel
theorem x209_249 {d : Nat} {L : Lc} {st : List Value} {x y : Int32} {h : Hp} : ex (d) 209 249 L (.int y :: .int x :: st) h = if x = y then ex d 209 1338 L st h else ex d 209 252 L st h := (ex_of d209_249 (d) L (.int y :: .int x :: st) h).trans (fin_brq (off := 1089) (tgt := 1338) rfl (by decide))
theorem d209_252 : decode (mB 209) 252 = .ok (.iconst 0, 1) := by decide +kernel
theorem x209_252 {d : Nat} {L : Lc} {st : List Value} {h : Hp} : ex (d) 209 252 L st h = ex d 209 253 L (.int (nI 0) :: st) h := (ex_of d209_252 (d) L st h).trans (rfl)
theorem d209_253 : decode (mB 209) 253 = .ok (.ireturn, 1) := by decide +kernel
theorem x209_253 {d : Nat} {L : Lc} {x : Int32} {h : Hp} (hx : x = 0 ∨ x = 1) : ex (d) 209 253 L [.int x] h = some (some (.int x), h) := (ex_of d209_253 (d) L [.int x] h).trans (fin_retb rfl hx)
theorem d209_254 : decode (mB 209) 254 = .ok (.aload_n 1, 1) := by decide +kernel
theorem x209_254 {d : Nat} {l0 l2 l3 : Option Value} {st : List Value} {a : Nat} {h : Hp} : ex (d) 209 254 [l0, some (.ref a), l2, l3] st h = ex d 209 255 [l0, some (.ref a), l2, l3] (.ref a :: st) h := (ex_of d209_254 (d) [l0, some (.ref a), l2, l3] st h).trans (rfl)
theorem x209_254n {d : Nat} {l0 l2 l3 : Option Value} {st : List Value} {h : Hp} : ex (d) 209 254 [l0, some .null, l2, l3] st h = ex d 209 255 [l0, some .null, l2, l3] (.null :: st) h := (ex_of d209_254 (d) [l0, some .null, l2, l3] st h).trans (rfl)
theorem x209_254q {d : Nat} {l0 l2 l3 : Option Value} {st : List Value} {a : Option Nat} {h : Hp} : ex (d) 209 254 [l0, some (va_rf a), l2, l3] st h = ex d 209 255 [l0, some (va_rf a), l2, l3] (va_rf a :: st) h := (ex_of d209_254 (d) [l0, some (va_rf a), l2, l3] st h).trans (by cases a <;> rfl)
theorem d209_255 : decode (mB 209) 255 = .ok (.invokevirtual 22, 3) := by decide +kernel
theorem x209_255 {d : Nat} {L : Lc} {a : Nat} {h : Hp} (ht : (h.2.1 a).1 = 10) : ex (d + 1) 209 255 L (.ref a :: []) h = bnd (ex d 46 0 [some (.ref a)] [] h) (fun v h' => ex (d + 1) 209 258 L (v.toList ++ []) h') := (ex_of d209_255 (d + 1) L (.ref a :: []) h).trans (fin_vi (mi := 209) i13_22 ht rfl rfl (by simp [cat1_i, cat1_r]) (by simp) (Nat.le_of_ble_eq_true rfl))
theorem d209_258 : decode (mB 209) 258 = .ok (.aload_n 2, 1) := by decide +kernel
theorem x209_258 {d : Nat} {l0 l1 l3 : Option Value} {st : List Value} {a : Nat} {h : Hp} : ex (d) 209 258 [l0, l1, some (.ref a), l3] st h = ex d 209 259 [l0, l1, some (.ref a), l3] (.ref a :: st) h := (ex_of d209_258 (d) [l0, l1, some (.ref a), l3] st h).trans (rfl)
theorem x209_258n {d : Nat} {l0 l1 l3 : Option Value} {st : List Value} {h : Hp} : ex (d) 209 258 [l0, l1, some .null, l3] st h = ex d 209 259 [l0, l1, some .null, l3] (.null :: st) h := (ex_of d209_258 (d) [l0, l1, some .null, l3] st h).trans (rfl)
theorem x209_258q {d : Nat} {l0 l1 l3 : Option Value} {st : List Value} {a : Option Nat} {h : Hp} : ex (d) 209 258 [l0, l1, some (va_rf a), l3] st h = ex d 209 259 [l0, l1, some (va_rf a), l3] (va_rf a :: st) h := (ex_of d209_258 (d) [l0, l1, some (va_rf a), l3] st h).trans (by cases a <;> rfl)
theorem d209_259 : decode (mB 209) 259 = .ok (.invokevirtual 26, 3) := by decide +kernel
theorem x209_259 {d : Nat} {L : Lc} {s0 : Value} {a : Nat} {h : Hp} (ht : (h.2.1 a).1 = 11) : ex (d + 1) 209 259 L (.ref a :: [s0]) h = bnd (ex d 144 0 [some (.ref a)] [] h) (fun v h' => ex (d + 1) 209 262 L (v.toList ++ [s0]) h') := (ex_of d209_259 (d + 1) L (.ref a :: [s0]) h).trans (fin_vi (mi := 209) i13_26 ht rfl rfl (by simp [cat1_i, cat1_r]) (by simp) (Nat.le_of_ble_eq_true rfl))
theorem d209_262 : decode (mB 209) 262 = .ok (.if_icmp .eq 1076, 3) := by decide +kernel
theorem x209_262 {d : Nat} {L : Lc} {st : List Value} {x y : Int32} {h : Hp} : ex (d) 209 262 L (.int y :: .int x :: st) h = if x = y then ex d 209 1338 L st h else ex d 209 265 L st h := (ex_of d209_262 (d) L (.int y :: .int x :: st) h).trans (fin_brq (off := 1076) (tgt := 1338) rfl (by decide))
theorem d209_265 : decode (mB 209) 265 = .ok (.iconst 0, 1) := by decide +kernel
theorem x209_265 {d : Nat} {L : Lc} {st : List Value} {h : Hp} : ex (d) 209 265 L st h = ex d 209 266 L (.int (nI 0) :: st) h := (ex_of d209_265 (d) L st h).trans (rfl)
theorem d209_266 : decode (mB 209) 266 = .ok (.ireturn, 1) := by decide +kernel
theorem x209_266 {d : Nat} {L : Lc} {x : Int32} {h : Hp} (hx : x = 0 ∨ x = 1) : ex (d) 209 266 L [.int x] h = some (some (.int x), h) := (ex_of d209_266 (d) L [.int x] h).trans (fin_retb rfl hx)
theorem d209_267 : decode (mB 209) 267 = .ok (.aload_n 1, 1) := by decide +kernel
theorem x209_267 {d : Nat} {l0 l2 l3 : Option Value} {st : List Value} {a : Nat} {h : Hp} : ex (d) 209 267 [l0, some (.ref a), l2, l3] st h = ex d 209 268 [l0, some (.ref a), l2, l3] (.ref a :: st) h := (ex_of d209_267 (d) [l0, some (.ref a), l2, l3] st h).trans (rfl)
theorem x209_267n {d : Nat} {l0 l2 l3 : Option Value} {st : List Value} {h : Hp} : ex (d) 209 267 [l0, some .null, l2, l3] st h = ex d 209 268 [l0, some .null, l2, l3] (.null :: st) h := (ex_of d209_267 (d) [l0, some .null, l2, l3] st h).trans (rfl)
theorem x209_267q {d : Nat} {l0 l2 l3 : Option Value} {st : List Value} {a : Option Nat} {h : Hp} : ex (d) 209 267 [l0, some (va_rf a), l2, l3] st h = ex d 209 268 [l0, some (va_rf a), l2, l3] (va_rf a :: st) h := (ex_of d209_267 (d) [l0, some (va_rf a), l2, l3] st h).trans (by cases a <;> rfl)
theorem d209_268 : decode (mB 209) 268 = .ok (.aload_n 0, 1) := by decide +kernel
theorem x209_268 {d : Nat} {l1 l2 l3 : Option Value} {st : List Value} {a : Nat} {h : Hp} : ex (d) 209 268 [some (.ref a), l1, l2, l3] st h = ex d 209 269 [some (.ref a), l1, l2, l3] (.ref a :: st) h := (ex_of d209_268 (d) [some (.ref a), l1, l2, l3] st h).trans (rfl)
theorem d209_269 : decode (mB 209) 269 = .ok (.iload_n 3, 1) := by decide +kernel
theorem x209_269 {d : Nat} {l0 l1 l2 : Option Value} {st : List Value} {x : Int32} {h : Hp} : ex (d) 209 269 [l0, l1, l2, some (.int x)] st h = ex d 209 270 [l0, l1, l2, some (.int x)] (.int x :: st) h := (ex_of d209_269 (d) [l0, l1, l2, some (.int x)] st h).trans (rfl)
theorem d209_270 : decode (mB 209) 270 = .ok (.iconst 1, 1) := by decide +kernel
theorem x209_270 {d : Nat} {L : Lc} {st : List Value} {h : Hp} : ex (d) 209 270 L st h = ex d 209 271 L (.int (nI 1) :: st) h := (ex_of d209_270 (d) L st h).trans (rfl)
theorem d209_271 : decode (mB 209) 271 = .ok (.iadd, 1) := by decide +kernel
theorem x209_271 {d : Nat} {L : Lc} {st : List Value} {x y : Int32} {h : Hp} : ex (d) 209 271 L (.int y :: .int x :: st) h = ex d 209 272 L (.int (x + y) :: st) h := (ex_of d209_271 (d) L (.int y :: .int x :: st) h).trans (rfl)
theorem d209_272 : decode (mB 209) 272 = .ok (.iaload, 1) := by decide +kernel
theorem x209_272 {d : Nat} {L : Lc} {st : List Value} {a j : Nat} {h : Hp} (ht : (h.2.1 a).1 = 20) (hj : j < (h.2.1 a).2) (hb : j < 2147483648) : ex (d) 209 272 L (.int (nI j) :: .ref a :: st) h = ex d 209 273 L (h.1 a j :: st) h := (ex_of d209_272 (d) L (.int (nI j) :: .ref a :: st) h).trans (fin_iaload (Or.inl ht) hj hb)
theorem d209_273 : decode (mB 209) 273 = .ok (.invokevirtual 27, 3) := by decide +kernel
theorem x209_273 {d : Nat} {L : Lc} {a : Nat} {v0 : Int32} {h : Hp} (ht : (h.2.1 a).1 = 10) : ex (d + 1) 209 273 L (.int v0 :: .ref a :: []) h = bnd (ex d 47 0 [some (.ref a), some (.int v0)] [] h) (fun v h' => ex (d + 1) 209 276 L (v.toList ++ []) h') := (ex_of d209_273 (d + 1) L (.int v0 :: .ref a :: []) h).trans (fin_vi (mi := 209) i13_27 ht rfl rfl (by simp [cat1_i, cat1_r]) (by simp) (Nat.le_of_ble_eq_true rfl))
theorem d209_276 : decode (mB 209) 276 = .ok (.aload_n 2, 1) := by decide +kernel
theorem x209_276 {d : Nat} {l0 l1 l3 : Option Value} {st : List Value} {a : Nat} {h : Hp} : ex (d) 209 276 [l0, l1, some (.ref a), l3] st h = ex d 209 277 [l0, l1, some (.ref a), l3] (.ref a :: st) h := (ex_of d209_276 (d) [l0, l1, some (.ref a), l3] st h).trans (rfl)
theorem x209_276n {d : Nat} {l0 l1 l3 : Option Value} {st : List Value} {h : Hp} : ex (d) 209 276 [l0, l1, some .null, l3] st h = ex d 209 277 [l0, l1, some .null, l3] (.null :: st) h := (ex_of d209_276 (d) [l0, l1, some .null, l3] st h).trans (rfl)
theorem x209_276q {d : Nat} {l0 l1 l3 : Option Value} {st : List Value} {a : Option Nat} {h : Hp} : ex (d) 209 276 [l0, l1, some (va_rf a), l3] st h = ex d 209 277 [l0, l1, some (va_rf a), l3] (va_rf a :: st) h := (ex_of d209_276 (d) [l0, l1, some (va_rf a), l3] st h).trans (by cases a <;> rfl)
theorem d209_277 : decode (mB 209) 277 = .ok (.aload_n 0, 1) := by decide +kernel
theorem x209_277 {d : Nat} {l1 l2 l3 : Option Value} {st : List Value} {a : Nat} {h : Hp} : ex (d) 209 277 [some (.ref a), l1, l2, l3] st h = ex d 209 278 [some (.ref a), l1, l2, l3] (.ref a :: st) h := (ex_of d209_277 (d) [some (.ref a), l1, l2, l3] st h).trans (rfl)
theorem d209_278 : decode (mB 209) 278 = .ok (.iload_n 3, 1) := by decide +kernel
theorem x209_278 {d : Nat} {l0 l1 l2 : Option Value} {st : List Value} {x : Int32} {h : Hp} : ex (d) 209 278 [l0, l1, l2, some (.int x)] st h = ex d 209 279 [l0, l1, l2, some (.int x)] (.int x :: st) h := (ex_of d209_278 (d) [l0, l1, l2, some (.int x)] st h).trans (rfl)
theorem d209_279 : decode (mB 209) 279 = .ok (.iconst 1, 1) := by decide +kernel
theorem x209_279 {d : Nat} {L : Lc} {st : List Value} {h : Hp} : ex (d) 209 279 L st h = ex d 209 280 L (.int (nI 1) :: st) h := (ex_of d209_279 (d) L st h).trans (rfl)
theorem d209_280 : decode (mB 209) 280 = .ok (.iadd, 1) := by decide +kernel
theorem x209_280 {d : Nat} {L : Lc} {st : List Value} {x y : Int32} {h : Hp} : ex (d) 209 280 L (.int y :: .int x :: st) h = ex d 209 281 L (.int (x + y) :: st) h := (ex_of d209_280 (d) L (.int y :: .int x :: st) h).trans (rfl)
theorem d209_281 : decode (mB 209) 281 = .ok (.iaload, 1) := by decide +kernel
theorem x209_281 {d : Nat} {L : Lc} {st : List Value} {a j : Nat} {h : Hp} (ht : (h.2.1 a).1 = 20) (hj : j < (h.2.1 a).2) (hb : j < 2147483648) : ex (d) 209 281 L (.int (nI j) :: .ref a :: st) h = ex d 209 282 L (h.1 a j :: st) h := (ex_of d209_281 (d) L (.int (nI j) :: .ref a :: st) h).trans (fin_iaload (Or.inl ht) hj hb)
theorem d209_282 : decode (mB 209) 282 = .ok (.invokevirtual 30, 3) := by decide +kernel
theorem x209_282 {d : Nat} {L : Lc} {s0 : Value} {a : Nat} {v0 : Int32} {h : Hp} (ht : (h.2.1 a).1 = 11) : ex (d + 1) 209 282 L (.int v0 :: .ref a :: [s0]) h = bnd (ex d 145 0 [some (.ref a), some (.int v0)] [] h) (fun v h' => ex (d + 1) 209 285 L (v.toList ++ [s0]) h') := (ex_of d209_282 (d + 1) L (.int v0 :: .ref a :: [s0]) h).trans (fin_vi (mi := 209) i13_30 ht rfl rfl (by simp [cat1_i, cat1_r]) (by simp) (Nat.le_of_ble_eq_true rfl))
theorem d209_285 : decode (mB 209) 285 = .ok (.if_icmp .eq 1053, 3) := by decide +kernel
theorem x209_285 {d : Nat} {L : Lc} {st : List Value} {x y : Int32} {h : Hp} : ex (d) 209 285 L (.int y :: .int x :: st) h = if x = y then ex d 209 1338 L st h else ex d 209 288 L st h := (ex_of d209_285 (d) L (.int y :: .int x :: st) h).trans (fin_brq (off := 1053) (tgt := 1338) rfl (by decide))
theorem d209_288 : decode (mB 209) 288 = .ok (.iconst 0, 1) := by decide +kernel
theorem x209_288 {d : Nat} {L : Lc} {st : List Value} {h : Hp} : ex (d) 209 288 L st h = ex d 209 289 L (.int (nI 0) :: st) h := (ex_of d209_288 (d) L st h).trans (rfl)
theorem d209_289 : decode (mB 209) 289 = .ok (.ireturn, 1) := by decide +kernel
theorem x209_289 {d : Nat} {L : Lc} {x : Int32} {h : Hp} (hx : x = 0 ∨ x = 1) : ex (d) 209 289 L [.int x] h = some (some (.int x), h) := (ex_of d209_289 (d) L [.int x] h).trans (fin_retb rfl hx)
theorem d209_290 : decode (mB 209) 290 = .ok (.aload_n 1, 1) := by decide +kernel
theorem x209_290 {d : Nat} {l0 l2 l3 : Option Value} {st : List Value} {a : Nat} {h : Hp} : ex (d) 209 290 [l0, some (.ref a), l2, l3] st h = ex d 209 291 [l0, some (.ref a), l2, l3] (.ref a :: st) h := (ex_of d209_290 (d) [l0, some (.ref a), l2, l3] st h).trans (rfl)
theorem x209_290n {d : Nat} {l0 l2 l3 : Option Value} {st : List Value} {h : Hp} : ex (d) 209 290 [l0, some .null, l2, l3] st h = ex d 209 291 [l0, some .null, l2, l3] (.null :: st) h := (ex_of d209_290 (d) [l0, some .null, l2, l3] st h).trans (rfl)
theorem x209_290q {d : Nat} {l0 l2 l3 : Option Value} {st : List Value} {a : Option Nat} {h : Hp} : ex (d) 209 290 [l0, some (va_rf a), l2, l3] st h = ex d 209 291 [l0, some (va_rf a), l2, l3] (va_rf a :: st) h := (ex_of d209_290 (d) [l0, some (va_rf a), l2, l3] st h).trans (by cases a <;> rfl)
theorem d209_291 : decode (mB 209) 291 = .ok (.aload_n 0, 1) := by decide +kernel
theorem x209_291 {d : Nat} {l1 l2 l3 : Option Value} {st : List Value} {a : Nat} {h : Hp} : ex (d) 209 291 [some (.ref a), l1, l2, l3] st h = ex d 209 292 [some (.ref a), l1, l2, l3] (.ref a :: st) h := (ex_of d209_291 (d) [some (.ref a), l1, l2, l3] st h).trans (rfl)
theorem d209_292 : decode (mB 209) 292 = .ok (.iload_n 3, 1) := by decide +kernel
theorem x209_292 {d : Nat} {l0 l1 l2 : Option Value} {st : List Value} {x : Int32} {h : Hp} : ex (d) 209 292 [l0, l1, l2, some (.int x)] st h = ex d 209 293 [l0, l1, l2, some (.int x)] (.int x :: st) h := (ex_of d209_292 (d) [l0, l1, l2, some (.int x)] st h).trans (rfl)
theorem d209_293 : decode (mB 209) 293 = .ok (.iconst 1, 1) := by decide +kernel
theorem x209_293 {d : Nat} {L : Lc} {st : List Value} {h : Hp} : ex (d) 209 293 L st h = ex d 209 294 L (.int (nI 1) :: st) h := (ex_of d209_293 (d) L st h).trans (rfl)
theorem d209_294 : decode (mB 209) 294 = .ok (.iadd, 1) := by decide +kernel
theorem x209_294 {d : Nat} {L : Lc} {st : List Value} {x y : Int32} {h : Hp} : ex (d) 209 294 L (.int y :: .int x :: st) h = ex d 209 295 L (.int (x + y) :: st) h := (ex_of d209_294 (d) L (.int y :: .int x :: st) h).trans (rfl)
theorem d209_295 : decode (mB 209) 295 = .ok (.iaload, 1) := by decide +kernel
theorem x209_295 {d : Nat} {L : Lc} {st : List Value} {a j : Nat} {h : Hp} (ht : (h.2.1 a).1 = 20) (hj : j < (h.2.1 a).2) (hb : j < 2147483648) : ex (d) 209 295 L (.int (nI j) :: .ref a :: st) h = ex d 209 296 L (h.1 a j :: st) h := (ex_of d209_295 (d) L (.int (nI j) :: .ref a :: st) h).trans (fin_iaload (Or.inl ht) hj hb)
theorem d209_296 : decode (mB 209) 296 = .ok (.aload_n 0, 1) := by decide +kernel
theorem x209_296 {d : Nat} {l1 l2 l3 : Option Value} {st : List Value} {a : Nat} {h : Hp} : ex (d) 209 296 [some (.ref a), l1, l2, l3] st h = ex d 209 297 [some (.ref a), l1, l2, l3] (.ref a :: st) h := (ex_of d209_296 (d) [some (.ref a), l1, l2, l3] st h).trans (rfl)
theorem d209_297 : decode (mB 209) 297 = .ok (.iload_n 3, 1) := by decide +kernel
theorem x209_297 {d : Nat} {l0 l1 l2 : Option Value} {st : List Value} {x : Int32} {h : Hp} : ex (d) 209 297 [l0, l1, l2, some (.int x)] st h = ex d 209 298 [l0, l1, l2, some (.int x)] (.int x :: st) h := (ex_of d209_297 (d) [l0, l1, l2, some (.int x)] st h).trans (rfl)
theorem d209_298 : decode (mB 209) 298 = .ok (.iconst 2, 1) := by decide +kernel
theorem x209_298 {d : Nat} {L : Lc} {st : List Value} {h : Hp} : ex (d) 209 298 L st h = ex d 209 299 L (.int (nI 2) :: st) h := (ex_of d209_298 (d) L st h).trans (rfl)
theorem d209_299 : decode (mB 209) 299 = .ok (.iadd, 1) := by decide +kernel
theorem x209_299 {d : Nat} {L : Lc} {st : List Value} {x y : Int32} {h : Hp} : ex (d) 209 299 L (.int y :: .int x :: st) h = ex d 209 300 L (.int (x + y) :: st) h := (ex_of d209_299 (d) L (.int y :: .int x :: st) h).trans (rfl)
theorem d209_300 : decode (mB 209) 300 = .ok (.iaload, 1) := by decide +kernel
theorem x209_300 {d : Nat} {L : Lc} {st : List Value} {a j : Nat} {h : Hp} (ht : (h.2.1 a).1 = 20) (hj : j < (h.2.1 a).2) (hb : j < 2147483648) : ex (d) 209 300 L (.int (nI j) :: .ref a :: st) h = ex d 209 301 L (h.1 a j :: st) h := (ex_of d209_300 (d) L (.int (nI j) :: .ref a :: st) h).trans (fin_iaload (Or.inl ht) hj hb)
theorem d209_301 : decode (mB 209) 301 = .ok (.invokevirtual 31, 3) := by decide +kernel
theorem x209_301 {d : Nat} {L : Lc} {a : Nat} {v0 : Int32} {v1 : Int32} {h : Hp} (ht : (h.2.1 a).1 = 10) : ex (d + 1) 209 301 L (.int v1 :: .int v0 :: .ref a :: []) h = bnd (ex d 48 0 [some (.ref a), some (.int v0), some (.int v1)] [] h) (fun v h' => ex (d + 1) 209 304 L (v.toList ++ []) h') := (ex_of d209_301 (d + 1) L (.int v1 :: .int v0 :: .ref a :: []) h).trans (fin_vi (mi := 209) i13_31 ht rfl rfl (by simp [cat1_i, cat1_r]) (by simp) (Nat.le_of_ble_eq_true rfl))
theorem d209_304 : decode (mB 209) 304 = .ok (.aload_n 2, 1) := by decide +kernel
theorem x209_304 {d : Nat} {l0 l1 l3 : Option Value} {st : List Value} {a : Nat} {h : Hp} : ex (d) 209 304 [l0, l1, some (.ref a), l3] st h = ex d 209 305 [l0, l1, some (.ref a), l3] (.ref a :: st) h := (ex_of d209_304 (d) [l0, l1, some (.ref a), l3] st h).trans (rfl)
theorem x209_304n {d : Nat} {l0 l1 l3 : Option Value} {st : List Value} {h : Hp} : ex (d) 209 304 [l0, l1, some .null, l3] st h = ex d 209 305 [l0, l1, some .null, l3] (.null :: st) h := (ex_of d209_304 (d) [l0, l1, some .null, l3] st h).trans (rfl)
theorem x209_304q {d : Nat} {l0 l1 l3 : Option Value} {st : List Value} {a : Option Nat} {h : Hp} : ex (d) 209 304 [l0, l1, some (va_rf a), l3] st h = ex d 209 305 [l0, l1, some (va_rf a), l3] (va_rf a :: st) h := (ex_of d209_304 (d) [l0, l1, some (va_rf a), l3] st h).trans (by cases a <;> rfl)
theorem d209_305 : decode (mB 209) 305 = .ok (.aload_n 0, 1) := by decide +kernel
theorem x209_305 {d : Nat} {l1 l2 l3 : Option Value} {st : List Value} {a : Nat} {h : Hp} : ex (d) 209 305 [some (.ref a), l1, l2, l3] st h = ex d 209 306 [some (.ref a), l1, l2, l3] (.ref a :: st) h := (ex_of d209_305 (d) [some (.ref a), l1, l2, l3] st h).trans (rfl)
theorem d209_306 : decode (mB 209) 306 = .ok (.iload_n 3, 1) := by decide +kernel
theorem x209_306 {d : Nat} {l0 l1 l2 : Option Value} {st : List Value} {x : Int32} {h : Hp} : ex (d) 209 306 [l0, l1, l2, some (.int x)] st h = ex d 209 307 [l0, l1, l2, some (.int x)] (.int x :: st) h := (ex_of d209_306 (d) [l0, l1, l2, some (.int x)] st h).trans (rfl)
theorem d209_307 : decode (mB 209) 307 = .ok (.iconst 1, 1) := by decide +kernel
theorem x209_307 {d : Nat} {L : Lc} {st : List Value} {h : Hp} : ex (d) 209 307 L st h = ex d 209 308 L (.int (nI 1) :: st) h := (ex_of d209_307 (d) L st h).trans (rfl)
theorem d209_308 : decode (mB 209) 308 = .ok (.iadd, 1) := by decide +kernel
theorem x209_308 {d : Nat} {L : Lc} {st : List Value} {x y : Int32} {h : Hp} : ex (d) 209 308 L (.int y :: .int x :: st) h = ex d 209 309 L (.int (x + y) :: st) h := (ex_of d209_308 (d) L (.int y :: .int x :: st) h).trans (rfl)
theorem d209_309 : decode (mB 209) 309 = .ok (.iaload, 1) := by decide +kernel
theorem x209_309 {d : Nat} {L : Lc} {st : List Value} {a j : Nat} {h : Hp} (ht : (h.2.1 a).1 = 20) (hj : j < (h.2.1 a).2) (hb : j < 2147483648) : ex (d) 209 309 L (.int (nI j) :: .ref a :: st) h = ex d 209 310 L (h.1 a j :: st) h := (ex_of d209_309 (d) L (.int (nI j) :: .ref a :: st) h).trans (fin_iaload (Or.inl ht) hj hb)
theorem d209_310 : decode (mB 209) 310 = .ok (.aload_n 0, 1) := by decide +kernel
theorem x209_310 {d : Nat} {l1 l2 l3 : Option Value} {st : List Value} {a : Nat} {h : Hp} : ex (d) 209 310 [some (.ref a), l1, l2, l3] st h = ex d 209 311 [some (.ref a), l1, l2, l3] (.ref a :: st) h := (ex_of d209_310 (d) [some (.ref a), l1, l2, l3] st h).trans (rfl)
theorem d209_311 : decode (mB 209) 311 = .ok (.iload_n 3, 1) := by decide +kernel
theorem x209_311 {d : Nat} {l0 l1 l2 : Option Value} {st : List Value} {x : Int32} {h : Hp} : ex (d) 209 311 [l0, l1, l2, some (.int x)] st h = ex d 209 312 [l0, l1, l2, some (.int x)] (.int x :: st) h := (ex_of d209_311 (d) [l0, l1, l2, some (.int x)] st h).trans (rfl)
theorem d209_312 : decode (mB 209) 312 = .ok (.iconst 2, 1) := by decide +kernel
theorem x209_312 {d : Nat} {L : Lc} {st : List Value} {h : Hp} : ex (d) 209 312 L st h = ex d 209 313 L (.int (nI 2) :: st) h := (ex_of d209_312 (d) L st h).trans (rfl)
theorem d209_313 : decode (mB 209) 313 = .ok (.iadd, 1) := by decide +kernel
theorem x209_313 {d : Nat} {L : Lc} {st : List Value} {x y : Int32} {h : Hp} : ex (d) 209 313 L (.int y :: .int x :: st) h = ex d 209 314 L (.int (x + y) :: st) h := (ex_of d209_313 (d) L (.int y :: .int x :: st) h).trans (rfl)
theorem d209_314 : decode (mB 209) 314 = .ok (.iaload, 1) := by decide +kernel
theorem x209_314 {d : Nat} {L : Lc} {st : List Value} {a j : Nat} {h : Hp} (ht : (h.2.1 a).1 = 20) (hj : j < (h.2.1 a).2) (hb : j < 2147483648) : ex (d) 209 314 L (.int (nI j) :: .ref a :: st) h = ex d 209 315 L (h.1 a j :: st) h := (ex_of d209_314 (d) L (.int (nI j) :: .ref a :: st) h).trans (fin_iaload (Or.inl ht) hj hb)
theorem d209_315 : decode (mB 209) 315 = .ok (.invokevirtual 35, 3) := by decide +kernel
theorem x209_315 {d : Nat} {L : Lc} {s0 : Value} {a : Nat} {v0 : Int32} {v1 : Int32} {h : Hp} (ht : (h.2.1 a).1 = 11) : ex (d + 1) 209 315 L (.int v1 :: .int v0 :: .ref a :: [s0]) h = bnd (ex d 146 0 [some (.ref a), some (.int v0), some (.int v1)] [] h) (fun v h' => ex (d + 1) 209 318 L (v.toList ++ [s0]) h') := (ex_of d209_315 (d + 1) L (.int v1 :: .int v0 :: .ref a :: [s0]) h).trans (fin_vi (mi := 209) i13_35 ht rfl rfl (by simp [cat1_i, cat1_r]) (by simp) (Nat.le_of_ble_eq_true rfl))
theorem d209_318 : decode (mB 209) 318 = .ok (.if_icmp .eq 1020, 3) := by decide +kernel
theorem x209_318 {d : Nat} {L : Lc} {st : List Value} {x y : Int32} {h : Hp} : ex (d) 209 318 L (.int y :: .int x :: st) h = if x = y then ex d 209 1338 L st h else ex d 209 321 L st h := (ex_of d209_318 (d) L (.int y :: .int x :: st) h).trans (fin_brq (off := 1020) (tgt := 1338) rfl (by decide))
theorem d209_321 : decode (mB 209) 321 = .ok (.iconst 0, 1) := by decide +kernel
theorem x209_321 {d : Nat} {L : Lc} {st : List Value} {h : Hp} : ex (d) 209 321 L st h = ex d 209 322 L (.int (nI 0) :: st) h := (ex_of d209_321 (d) L st h).trans (rfl)
theorem d209_322 : decode (mB 209) 322 = .ok (.ireturn, 1) := by decide +kernel
theorem x209_322 {d : Nat} {L : Lc} {x : Int32} {h : Hp} (hx : x = 0 ∨ x = 1) : ex (d) 209 322 L [.int x] h = some (some (.int x), h) := (ex_of d209_322 (d) L [.int x] h).trans (fin_retb rfl hx)
theorem d209_323 : decode (mB 209) 323 = .ok (.aload_n 1, 1) := by decide +kernel
theorem x209_323 {d : Nat} {l0 l2 l3 : Option Value} {st : List Value} {a : Nat} {h : Hp} : ex (d) 209 323 [l0, some (.ref a), l2, l3] st h = ex d 209 324 [l0, some (.ref a), l2, l3] (.ref a :: st) h := (ex_of d209_323 (d) [l0, some (.ref a), l2, l3] st h).trans (rfl)
theorem x209_323n {d : Nat} {l0 l2 l3 : Option Value} {st : List Value} {h : Hp} : ex (d) 209 323 [l0, some .null, l2, l3] st h = ex d 209 324 [l0, some .null, l2, l3] (.null :: st) h := (ex_of d209_323 (d) [l0, some .null, l2, l3] st h).trans (rfl)
theorem x209_323q {d : Nat} {l0 l2 l3 : Option Value} {st : List Value} {a : Option Nat} {h : Hp} : ex (d) 209 323 [l0, some (va_rf a), l2, l3] st h = ex d 209 324 [l0, some (va_rf a), l2, l3] (va_rf a :: st) h := (ex_of d209_323 (d) [l0, some (va_rf a), l2, l3] st h).trans (by cases a <;> rfl)
theorem d209_324 : decode (mB 209) 324 = .ok (.aload_n 0, 1) := by decide +kernel
theorem x209_324 {d : Nat} {l1 l2 l3 : Option Value} {st : List Value} {a : Nat} {h : Hp} : ex (d) 209 324 [some (.ref a), l1, l2, l3] st h = ex d 209 325 [some (.ref a), l1, l2, l3] (.ref a :: st) h := (ex_of d209_324 (d) [some (.ref a), l1, l2, l3] st h).trans (rfl)
theorem d209_325 : decode (mB 209) 325 = .ok (.iload_n 3, 1) := by decide +kernel
theorem x209_325 {d : Nat} {l0 l1 l2 : Option Value} {st : List Value} {x : Int32} {h : Hp} : ex (d) 209 325 [l0, l1, l2, some (.int x)] st h = ex d 209 326 [l0, l1, l2, some (.int x)] (.int x :: st) h := (ex_of d209_325 (d) [l0, l1, l2, some (.int x)] st h).trans (rfl)
theorem d209_326 : decode (mB 209) 326 = .ok (.iconst 1, 1) := by decide +kernel
theorem x209_326 {d : Nat} {L : Lc} {st : List Value} {h : Hp} : ex (d) 209 326 L st h = ex d 209 327 L (.int (nI 1) :: st) h := (ex_of d209_326 (d) L st h).trans (rfl)
theorem d209_327 : decode (mB 209) 327 = .ok (.iadd, 1) := by decide +kernel
theorem x209_327 {d : Nat} {L : Lc} {st : List Value} {x y : Int32} {h : Hp} : ex (d) 209 327 L (.int y :: .int x :: st) h = ex d 209 328 L (.int (x + y) :: st) h := (ex_of d209_327 (d) L (.int y :: .int x :: st) h).trans (rfl)
theorem d209_328 : decode (mB 209) 328 = .ok (.iaload, 1) := by decide +kernel
theorem x209_328 {d : Nat} {L : Lc} {st : List Value} {a j : Nat} {h : Hp} (ht : (h.2.1 a).1 = 20) (hj : j < (h.2.1 a).2) (hb : j < 2147483648) : ex (d) 209 328 L (.int (nI j) :: .ref a :: st) h = ex d 209 329 L (h.1 a j :: st) h := (ex_of d209_328 (d) L (.int (nI j) :: .ref a :: st) h).trans (fin_iaload (Or.inl ht) hj hb)
theorem d209_329 : decode (mB 209) 329 = .ok (.aload_n 0, 1) := by decide +kernel
theorem x209_329 {d : Nat} {l1 l2 l3 : Option Value} {st : List Value} {a : Nat} {h : Hp} : ex (d) 209 329 [some (.ref a), l1, l2, l3] st h = ex d 209 330 [some (.ref a), l1, l2, l3] (.ref a :: st) h := (ex_of d209_329 (d) [some (.ref a), l1, l2, l3] st h).trans (rfl)
theorem d209_330 : decode (mB 209) 330 = .ok (.iload_n 3, 1) := by decide +kernel
theorem x209_330 {d : Nat} {l0 l1 l2 : Option Value} {st : List Value} {x : Int32} {h : Hp} : ex (d) 209 330 [l0, l1, l2, some (.int x)] st h = ex d 209 331 [l0, l1, l2, some (.int x)] (.int x :: st) h := (ex_of d209_330 (d) [l0, l1, l2, some (.int x)] st h).trans (rfl)
theorem d209_331 : decode (mB 209) 331 = .ok (.iconst 2, 1) := by decide +kernel
theorem x209_331 {d : Nat} {L : Lc} {st : List Value} {h : Hp} : ex (d) 209 331 L st h = ex d 209 332 L (.int (nI 2) :: st) h := (ex_of d209_331 (d) L st h).trans (rfl)
theorem d209_332 : decode (mB 209) 332 = .ok (.iadd, 1) := by decide +kernel
theorem x209_332 {d : Nat} {L : Lc} {st : List Value} {x y : Int32} {h : Hp} : ex (d) 209 332 L (.int y :: .int x :: st) h = ex d 209 333 L (.int (x + y) :: st) h := (ex_of d209_332 (d) L (.int y :: .int x :: st) h).trans (rfl)
theorem d209_333 : decode (mB 209) 333 = .ok (.iaload, 1) := by decide +kernel
theorem x209_333 {d : Nat} {L : Lc} {st : List Value} {a j : Nat} {h : Hp} (ht : (h.2.1 a).1 = 20) (hj : j < (h.2.1 a).2) (hb : j < 2147483648) : ex (d) 209 333 L (.int (nI j) :: .ref a :: st) h = ex d 209 334 L (h.1 a j :: st) h := (ex_of d209_333 (d) L (.int (nI j) :: .ref a :: st) h).trans (fin_iaload (Or.inl ht) hj hb)
theorem d209_334 : decode (mB 209) 334 = .ok (.aload_n 0, 1) := by decide +kernel
theorem x209_334 {d : Nat} {l1 l2 l3 : Option Value} {st : List Value} {a : Nat} {h : Hp} : ex (d) 209 334 [some (.ref a), l1, l2, l3] st h = ex d 209 335 [some (.ref a), l1, l2, l3] (.ref a :: st) h := (ex_of d209_334 (d) [some (.ref a), l1, l2, l3] st h).trans (rfl)
theorem d209_335 : decode (mB 209) 335 = .ok (.iload_n 3, 1) := by decide +kernel
theorem x209_335 {d : Nat} {l0 l1 l2 : Option Value} {st : List Value} {x : Int32} {h : Hp} : ex (d) 209 335 [l0, l1, l2, some (.int x)] st h = ex d 209 336 [l0, l1, l2, some (.int x)] (.int x :: st) h := (ex_of d209_335 (d) [l0, l1, l2, some (.int x)] st h).trans (rfl)
theorem d209_336 : decode (mB 209) 336 = .ok (.iconst 3, 1) := by decide +kernel
theorem x209_336 {d : Nat} {L : Lc} {st : List Value} {h : Hp} : ex (d) 209 336 L st h = ex d 209 337 L (.int (nI 3) :: st) h := (ex_of d209_336 (d) L st h).trans (rfl)
theorem d209_337 : decode (mB 209) 337 = .ok (.iadd, 1) := by decide +kernel
theorem x209_337 {d : Nat} {L : Lc} {st : List Value} {x y : Int32} {h : Hp} : ex (d) 209 337 L (.int y :: .int x :: st) h = ex d 209 338 L (.int (x + y) :: st) h := (ex_of d209_337 (d) L (.int y :: .int x :: st) h).trans (rfl)
theorem d209_338 : decode (mB 209) 338 = .ok (.iaload, 1) := by decide +kernel
theorem x209_338 {d : Nat} {L : Lc} {st : List Value} {a j : Nat} {h : Hp} (ht : (h.2.1 a).1 = 20) (hj : j < (h.2.1 a).2) (hb : j < 2147483648) : ex (d) 209 338 L (.int (nI j) :: .ref a :: st) h = ex d 209 339 L (h.1 a j :: st) h := (ex_of d209_338 (d) L (.int (nI j) :: .ref a :: st) h).trans (fin_iaload (Or.inl ht) hj hb)
theorem d209_339 : decode (mB 209) 339 = .ok (.invokevirtual 36, 3) := by decide +kernel
theorem x209_339 {d : Nat} {L : Lc} {a : Nat} {v0 : Int32} {v1 : Int32} {v2 : Int32} {h : Hp} (ht : (h.2.1 a).1 = 10) : ex (d + 1) 209 339 L (.int v2 :: .int v1 :: .int v0 :: .ref a :: []) h = bnd (ex d 49 0 [some (.ref a), some (.int v0), some (.int v1), some (.int v2), none] [] h) (fun v h' => ex (d + 1) 209 342 L (v.toList ++ []) h') := (ex_of d209_339 (d + 1) L (.int v2 :: .int v1 :: .int v0 :: .ref a :: []) h).trans (fin_vi (mi := 209) i13_36 ht rfl rfl (by simp [cat1_i, cat1_r]) (by simp) (Nat.le_of_ble_eq_true rfl))
theorem d209_342 : decode (mB 209) 342 = .ok (.aload_n 2, 1) := by decide +kernel
theorem x209_342 {d : Nat} {l0 l1 l3 : Option Value} {st : List Value} {a : Nat} {h : Hp} : ex (d) 209 342 [l0, l1, some (.ref a), l3] st h = ex d 209 343 [l0, l1, some (.ref a), l3] (.ref a :: st) h := (ex_of d209_342 (d) [l0, l1, some (.ref a), l3] st h).trans (rfl)
theorem x209_342n {d : Nat} {l0 l1 l3 : Option Value} {st : List Value} {h : Hp} : ex (d) 209 342 [l0, l1, some .null, l3] st h = ex d 209 343 [l0, l1, some .null, l3] (.null :: st) h := (ex_of d209_342 (d) [l0, l1, some .null, l3] st h).trans (rfl)
theorem x209_342q {d : Nat} {l0 l1 l3 : Option Value} {st : List Value} {a : Option Nat} {h : Hp} : ex (d) 209 342 [l0, l1, some (va_rf a), l3] st h = ex d 209 343 [l0, l1, some (va_rf a), l3] (va_rf a :: st) h := (ex_of d209_342 (d) [l0, l1, some (va_rf a), l3] st h).trans (by cases a <;> rfl)
theorem d209_343 : decode (mB 209) 343 = .ok (.aload_n 0, 1) := by decide +kernel
theorem x209_343 {d : Nat} {l1 l2 l3 : Option Value} {st : List Value} {a : Nat} {h : Hp} : ex (d) 209 343 [some (.ref a), l1, l2, l3] st h = ex d 209 344 [some (.ref a), l1, l2, l3] (.ref a :: st) h := (ex_of d209_343 (d) [some (.ref a), l1, l2, l3] st h).trans (rfl)
theorem d209_344 : decode (mB 209) 344 = .ok (.iload_n 3, 1) := by decide +kernel
theorem x209_344 {d : Nat} {l0 l1 l2 : Option Value} {st : List Value} {x : Int32} {h : Hp} : ex (d) 209 344 [l0, l1, l2, some (.int x)] st h = ex d 209 345 [l0, l1, l2, some (.int x)] (.int x :: st) h := (ex_of d209_344 (d) [l0, l1, l2, some (.int x)] st h).trans (rfl)
theorem d209_345 : decode (mB 209) 345 = .ok (.iconst 1, 1) := by decide +kernel
theorem x209_345 {d : Nat} {L : Lc} {st : List Value} {h : Hp} : ex (d) 209 345 L st h = ex d 209 346 L (.int (nI 1) :: st) h := (ex_of d209_345 (d) L st h).trans (rfl)
theorem d209_346 : decode (mB 209) 346 = .ok (.iadd, 1) := by decide +kernel
theorem x209_346 {d : Nat} {L : Lc} {st : List Value} {x y : Int32} {h : Hp} : ex (d) 209 346 L (.int y :: .int x :: st) h = ex d 209 347 L (.int (x + y) :: st) h := (ex_of d209_346 (d) L (.int y :: .int x :: st) h).trans (rfl)
theorem d209_347 : decode (mB 209) 347 = .ok (.iaload, 1) := by decide +kernel
theorem x209_347 {d : Nat} {L : Lc} {st : List Value} {a j : Nat} {h : Hp} (ht : (h.2.1 a).1 = 20) (hj : j < (h.2.1 a).2) (hb : j < 2147483648) : ex (d) 209 347 L (.int (nI j) :: .ref a :: st) h = ex d 209 348 L (h.1 a j :: st) h := (ex_of d209_347 (d) L (.int (nI j) :: .ref a :: st) h).trans (fin_iaload (Or.inl ht) hj hb)
theorem d209_348 : decode (mB 209) 348 = .ok (.aload_n 0, 1) := by decide +kernel
theorem x209_348 {d : Nat} {l1 l2 l3 : Option Value} {st : List Value} {a : Nat} {h : Hp} : ex (d) 209 348 [some (.ref a), l1, l2, l3] st h = ex d 209 349 [some (.ref a), l1, l2, l3] (.ref a :: st) h := (ex_of d209_348 (d) [some (.ref a), l1, l2, l3] st h).trans (rfl)
theorem d209_349 : decode (mB 209) 349 = .ok (.iload_n 3, 1) := by decide +kernel
theorem x209_349 {d : Nat} {l0 l1 l2 : Option Value} {st : List Value} {x : Int32} {h : Hp} : ex (d) 209 349 [l0, l1, l2, some (.int x)] st h = ex d 209 350 [l0, l1, l2, some (.int x)] (.int x :: st) h := (ex_of d209_349 (d) [l0, l1, l2, some (.int x)] st h).trans (rfl)
theorem d209_350 : decode (mB 209) 350 = .ok (.iconst 2, 1) := by decide +kernel
theorem x209_350 {d : Nat} {L : Lc} {st : List Value} {h : Hp} : ex (d) 209 350 L st h = ex d 209 351 L (.int (nI 2) :: st) h := (ex_of d209_350 (d) L st h).trans (rfl)
theorem d209_351 : decode (mB 209) 351 = .ok (.iadd, 1) := by decide +kernel
theorem x209_351 {d : Nat} {L : Lc} {st : List Value} {x y : Int32} {h : Hp} : ex (d) 209 351 L (.int y :: .int x :: st) h = ex d 209 352 L (.int (x + y) :: st) h := (ex_of d209_351 (d) L (.int y :: .int x :: st) h).trans (rfl)
theorem d209_352 : decode (mB 209) 352 = .ok (.iaload, 1) := by decide +kernel
theorem x209_352 {d : Nat} {L : Lc} {st : List Value} {a j : Nat} {h : Hp} (ht : (h.2.1 a).1 = 20) (hj : j < (h.2.1 a).2) (hb : j < 2147483648) : ex (d) 209 352 L (.int (nI j) :: .ref a :: st) h = ex d 209 353 L (h.1 a j :: st) h := (ex_of d209_352 (d) L (.int (nI j) :: .ref a :: st) h).trans (fin_iaload (Or.inl ht) hj hb)
theorem d209_353 : decode (mB 209) 353 = .ok (.aload_n 0, 1) := by decide +kernel
theorem x209_353 {d : Nat} {l1 l2 l3 : Option Value} {st : List Value} {a : Nat} {h : Hp} : ex (d) 209 353 [some (.ref a), l1, l2, l3] st h = ex d 209 354 [some (.ref a), l1, l2, l3] (.ref a :: st) h := (ex_of d209_353 (d) [some (.ref a), l1, l2, l3] st h).trans (rfl)
theorem d209_354 : decode (mB 209) 354 = .ok (.iload_n 3, 1) := by decide +kernel
theorem x209_354 {d : Nat} {l0 l1 l2 : Option Value} {st : List Value} {x : Int32} {h : Hp} : ex (d) 209 354 [l0, l1, l2, some (.int x)] st h = ex d 209 355 [l0, l1, l2, some (.int x)] (.int x :: st) h := (ex_of d209_354 (d) [l0, l1, l2, some (.int x)] st h).trans (rfl)
theorem d209_355 : decode (mB 209) 355 = .ok (.iconst 3, 1) := by decide +kernel
theorem x209_355 {d : Nat} {L : Lc} {st : List Value} {h : Hp} : ex (d) 209 355 L st h = ex d 209 356 L (.int (nI 3) :: st) h := (ex_of d209_355 (d) L st h).trans (rfl)
theorem d209_356 : decode (mB 209) 356 = .ok (.iadd, 1) := by decide +kernel
theorem x209_356 {d : Nat} {L : Lc} {st : List Value} {x y : Int32} {h : Hp} : ex (d) 209 356 L (.int y :: .int x :: st) h = ex d 209 357 L (.int (x + y) :: st) h := (ex_of d209_356 (d) L (.int y :: .int x :: st) h).trans (rfl)
theorem d209_357 : decode (mB 209) 357 = .ok (.iaload, 1) := by decide +kernel
theorem x209_357 {d : Nat} {L : Lc} {st : List Value} {a j : Nat} {h : Hp} (ht : (h.2.1 a).1 = 20) (hj : j < (h.2.1 a).2) (hb : j < 2147483648) : ex (d) 209 357 L (.int (nI j) :: .ref a :: st) h = ex d 209 358 L (h.1 a j :: st) h := (ex_of d209_357 (d) L (.int (nI j) :: .ref a :: st) h).trans (fin_iaload (Or.inl ht) hj hb)
theorem d209_358 : decode (mB 209) 358 = .ok (.invokevirtual 40, 3) := by decide +kernel
theorem x209_358 {d : Nat} {L : Lc} {s0 : Value} {a : Nat} {v0 : Int32} {v1 : Int32} {v2 : Int32} {h : Hp} (ht : (h.2.1 a).1 = 11) : ex (d + 1) 209 358 L (.int v2 :: .int v1 :: .int v0 :: .ref a :: [s0]) h = bnd (ex d 148 0 [some (.ref a), some (.int v0), some (.int v1), some (.int v2), none] [] h) (fun v h' => ex (d + 1) 209 361 L (v.toList ++ [s0]) h') := (ex_of d209_358 (d + 1) L (.int v2 :: .int v1 :: .int v0 :: .ref a :: [s0]) h).trans (fin_vi (mi := 209) i13_40 ht rfl rfl (by simp [cat1_i, cat1_r]) (by simp) (Nat.le_of_ble_eq_true rfl))
theorem d209_361 : decode (mB 209) 361 = .ok (.if_icmp .eq 977, 3) := by decide +kernel
theorem x209_361 {d : Nat} {L : Lc} {st : List Value} {x y : Int32} {h : Hp} : ex (d) 209 361 L (.int y :: .int x :: st) h = if x = y then ex d 209 1338 L st h else ex d 209 364 L st h := (ex_of d209_361 (d) L (.int y :: .int x :: st) h).trans (fin_brq (off := 977) (tgt := 1338) rfl (by decide))
theorem d209_364 : decode (mB 209) 364 = .ok (.iconst 0, 1) := by decide +kernel
theorem x209_364 {d : Nat} {L : Lc} {st : List Value} {h : Hp} : ex (d) 209 364 L st h = ex d 209 365 L (.int (nI 0) :: st) h := (ex_of d209_364 (d) L st h).trans (rfl)
theorem d209_365 : decode (mB 209) 365 = .ok (.ireturn, 1) := by decide +kernel
theorem x209_365 {d : Nat} {L : Lc} {x : Int32} {h : Hp} (hx : x = 0 ∨ x = 1) : ex (d) 209 365 L [.int x] h = some (some (.int x), h) := (ex_of d209_365 (d) L [.int x] h).trans (fin_retb rfl hx)
theorem d209_366 : decode (mB 209) 366 = .ok (.aload_n 1, 1) := by decide +kernel
theorem x209_366 {d : Nat} {l0 l2 l3 : Option Value} {st : List Value} {a : Nat} {h : Hp} : ex (d) 209 366 [l0, some (.ref a), l2, l3] st h = ex d 209 367 [l0, some (.ref a), l2, l3] (.ref a :: st) h := (ex_of d209_366 (d) [l0, some (.ref a), l2, l3] st h).trans (rfl)
theorem x209_366n {d : Nat} {l0 l2 l3 : Option Value} {st : List Value} {h : Hp} : ex (d) 209 366 [l0, some .null, l2, l3] st h = ex d 209 367 [l0, some .null, l2, l3] (.null :: st) h := (ex_of d209_366 (d) [l0, some .null, l2, l3] st h).trans (rfl)
theorem x209_366q {d : Nat} {l0 l2 l3 : Option Value} {st : List Value} {a : Option Nat} {h : Hp} : ex (d) 209 366 [l0, some (va_rf a), l2, l3] st h = ex d 209 367 [l0, some (va_rf a), l2, l3] (va_rf a :: st) h := (ex_of d209_366 (d) [l0, some (va_rf a), l2, l3] st h).trans (by cases a <;> rfl)
theorem d209_367 : decode (mB 209) 367 = .ok (.aload_n 0, 1) := by decide +kernel
theorem x209_367 {d : Nat} {l1 l2 l3 : Option Value} {st : List Value} {a : Nat} {h : Hp} : ex (d) 209 367 [some (.ref a), l1, l2, l3] st h = ex d 209 368 [some (.ref a), l1, l2, l3] (.ref a :: st) h := (ex_of d209_367 (d) [some (.ref a), l1, l2, l3] st h).trans (rfl)
theorem d209_368 : decode (mB 209) 368 = .ok (.iload_n 3, 1) := by decide +kernel
theorem x209_368 {d : Nat} {l0 l1 l2 : Option Value} {st : List Value} {x : Int32} {h : Hp} : ex (d) 209 368 [l0, l1, l2, some (.int x)] st h = ex d 209 369 [l0, l1, l2, some (.int x)] (.int x :: st) h := (ex_of d209_368 (d) [l0, l1, l2, some (.int x)] st h).trans (rfl)
theorem d209_369 : decode (mB 209) 369 = .ok (.iconst 1, 1) := by decide +kernel
theorem x209_369 {d : Nat} {L : Lc} {st : List Value} {h : Hp} : ex (d) 209 369 L st h = ex d 209 370 L (.int (nI 1) :: st) h := (ex_of d209_369 (d) L st h).trans (rfl)
theorem d209_370 : decode (mB 209) 370 = .ok (.iadd, 1) := by decide +kernel
theorem x209_370 {d : Nat} {L : Lc} {st : List Value} {x y : Int32} {h : Hp} : ex (d) 209 370 L (.int y :: .int x :: st) h = ex d 209 371 L (.int (x + y) :: st) h := (ex_of d209_370 (d) L (.int y :: .int x :: st) h).trans (rfl)
theorem d209_371 : decode (mB 209) 371 = .ok (.iaload, 1) := by decide +kernel
theorem x209_371 {d : Nat} {L : Lc} {st : List Value} {a j : Nat} {h : Hp} (ht : (h.2.1 a).1 = 20) (hj : j < (h.2.1 a).2) (hb : j < 2147483648) : ex (d) 209 371 L (.int (nI j) :: .ref a :: st) h = ex d 209 372 L (h.1 a j :: st) h := (ex_of d209_371 (d) L (.int (nI j) :: .ref a :: st) h).trans (fin_iaload (Or.inl ht) hj hb)
theorem d209_372 : decode (mB 209) 372 = .ok (.aload_n 0, 1) := by decide +kernel
theorem x209_372 {d : Nat} {l1 l2 l3 : Option Value} {st : List Value} {a : Nat} {h : Hp} : ex (d) 209 372 [some (.ref a), l1, l2, l3] st h = ex d 209 373 [some (.ref a), l1, l2, l3] (.ref a :: st) h := (ex_of d209_372 (d) [some (.ref a), l1, l2, l3] st h).trans (rfl)
theorem d209_373 : decode (mB 209) 373 = .ok (.iload_n 3, 1) := by decide +kernel
theorem x209_373 {d : Nat} {l0 l1 l2 : Option Value} {st : List Value} {x : Int32} {h : Hp} : ex (d) 209 373 [l0, l1, l2, some (.int x)] st h = ex d 209 374 [l0, l1, l2, some (.int x)] (.int x :: st) h := (ex_of d209_373 (d) [l0, l1, l2, some (.int x)] st h).trans (rfl)
theorem d209_374 : decode (mB 209) 374 = .ok (.iconst 2, 1) := by decide +kernel
theorem x209_374 {d : Nat} {L : Lc} {st : List Value} {h : Hp} : ex (d) 209 374 L st h = ex d 209 375 L (.int (nI 2) :: st) h := (ex_of d209_374 (d) L st h).trans (rfl)
theorem d209_375 : decode (mB 209) 375 = .ok (.iadd, 1) := by decide +kernel
theorem x209_375 {d : Nat} {L : Lc} {st : List Value} {x y : Int32} {h : Hp} : ex (d) 209 375 L (.int y :: .int x :: st) h = ex d 209 376 L (.int (x + y) :: st) h := (ex_of d209_375 (d) L (.int y :: .int x :: st) h).trans (rfl)
theorem d209_376 : decode (mB 209) 376 = .ok (.iaload, 1) := by decide +kernel
theorem x209_376 {d : Nat} {L : Lc} {st : List Value} {a j : Nat} {h : Hp} (ht : (h.2.1 a).1 = 20) (hj : j < (h.2.1 a).2) (hb : j < 2147483648) : ex (d) 209 376 L (.int (nI j) :: .ref a :: st) h = ex d 209 377 L (h.1 a j :: st) h := (ex_of d209_376 (d) L (.int (nI j) :: .ref a :: st) h).trans (fin_iaload (Or.inl ht) hj hb)
theorem d209_377 : decode (mB 209) 377 = .ok (.invokevirtual 41, 3) := by decide +kernel
theorem x209_377 {d : Nat} {L : Lc} {a : Nat} {v0 : Int32} {v1 : Int32} {h : Hp} (ht : (h.2.1 a).1 = 10) : ex (d + 1) 209 377 L (.int v1 :: .int v0 :: .ref a :: []) h = bnd (ex d 50 0 [some (.ref a), some (.int v0), some (.int v1), none, none] [] h) (fun v h' => ex (d + 1) 209 380 L (v.toList ++ []) h') := (ex_of d209_377 (d + 1) L (.int v1 :: .int v0 :: .ref a :: []) h).trans (fin_vi (mi := 209) i13_41 ht rfl rfl (by simp [cat1_i, cat1_r]) (by simp) (Nat.le_of_ble_eq_true rfl))
theorem d209_380 : decode (mB 209) 380 = .ok (.aload_n 2, 1) := by decide +kernel
theorem x209_380 {d : Nat} {l0 l1 l3 : Option Value} {st : List Value} {a : Nat} {h : Hp} : ex (d) 209 380 [l0, l1, some (.ref a), l3] st h = ex d 209 381 [l0, l1, some (.ref a), l3] (.ref a :: st) h := (ex_of d209_380 (d) [l0, l1, some (.ref a), l3] st h).trans (rfl)
theorem x209_380n {d : Nat} {l0 l1 l3 : Option Value} {st : List Value} {h : Hp} : ex (d) 209 380 [l0, l1, some .null, l3] st h = ex d 209 381 [l0, l1, some .null, l3] (.null :: st) h := (ex_of d209_380 (d) [l0, l1, some .null, l3] st h).trans (rfl)
theorem x209_380q {d : Nat} {l0 l1 l3 : Option Value} {st : List Value} {a : Option Nat} {h : Hp} : ex (d) 209 380 [l0, l1, some (va_rf a), l3] st h = ex d 209 381 [l0, l1, some (va_rf a), l3] (va_rf a :: st) h := (ex_of d209_380 (d) [l0, l1, some (va_rf a), l3] st h).trans (by cases a <;> rfl)
theorem d209_381 : decode (mB 209) 381 = .ok (.aload_n 0, 1) := by decide +kernel
theorem x209_381 {d : Nat} {l1 l2 l3 : Option Value} {st : List Value} {a : Nat} {h : Hp} : ex (d) 209 381 [some (.ref a), l1, l2, l3] st h = ex d 209 382 [some (.ref a), l1, l2, l3] (.ref a :: st) h := (ex_of d209_381 (d) [some (.ref a), l1, l2, l3] st h).trans (rfl)
theorem d209_382 : decode (mB 209) 382 = .ok (.iload_n 3, 1) := by decide +kernel
theorem x209_382 {d : Nat} {l0 l1 l2 : Option Value} {st : List Value} {x : Int32} {h : Hp} : ex (d) 209 382 [l0, l1, l2, some (.int x)] st h = ex d 209 383 [l0, l1, l2, some (.int x)] (.int x :: st) h := (ex_of d209_382 (d) [l0, l1, l2, some (.int x)] st h).trans (rfl)
theorem d209_383 : decode (mB 209) 383 = .ok (.iconst 1, 1) := by decide +kernel
theorem x209_383 {d : Nat} {L : Lc} {st : List Value} {h : Hp} : ex (d) 209 383 L st h = ex d 209 384 L (.int (nI 1) :: st) h := (ex_of d209_383 (d) L st h).trans (rfl)
theorem d209_384 : decode (mB 209) 384 = .ok (.iadd, 1) := by decide +kernel
theorem x209_384 {d : Nat} {L : Lc} {st : List Value} {x y : Int32} {h : Hp} : ex (d) 209 384 L (.int y :: .int x :: st) h = ex d 209 385 L (.int (x + y) :: st) h := (ex_of d209_384 (d) L (.int y :: .int x :: st) h).trans (rfl)
theorem d209_385 : decode (mB 209) 385 = .ok (.iaload, 1) := by decide +kernel
theorem x209_385 {d : Nat} {L : Lc} {st : List Value} {a j : Nat} {h : Hp} (ht : (h.2.1 a).1 = 20) (hj : j < (h.2.1 a).2) (hb : j < 2147483648) : ex (d) 209 385 L (.int (nI j) :: .ref a :: st) h = ex d 209 386 L (h.1 a j :: st) h := (ex_of d209_385 (d) L (.int (nI j) :: .ref a :: st) h).trans (fin_iaload (Or.inl ht) hj hb)
theorem d209_386 : decode (mB 209) 386 = .ok (.aload_n 0, 1) := by decide +kernel
theorem x209_386 {d : Nat} {l1 l2 l3 : Option Value} {st : List Value} {a : Nat} {h : Hp} : ex (d) 209 386 [some (.ref a), l1, l2, l3] st h = ex d 209 387 [some (.ref a), l1, l2, l3] (.ref a :: st) h := (ex_of d209_386 (d) [some (.ref a), l1, l2, l3] st h).trans (rfl)
theorem d209_387 : decode (mB 209) 387 = .ok (.iload_n 3, 1) := by decide +kernel
theorem x209_387 {d : Nat} {l0 l1 l2 : Option Value} {st : List Value} {x : Int32} {h : Hp} : ex (d) 209 387 [l0, l1, l2, some (.int x)] st h = ex d 209 388 [l0, l1, l2, some (.int x)] (.int x :: st) h := (ex_of d209_387 (d) [l0, l1, l2, some (.int x)] st h).trans (rfl)
theorem d209_388 : decode (mB 209) 388 = .ok (.iconst 2, 1) := by decide +kernel
theorem x209_388 {d : Nat} {L : Lc} {st : List Value} {h : Hp} : ex (d) 209 388 L st h = ex d 209 389 L (.int (nI 2) :: st) h := (ex_of d209_388 (d) L st h).trans (rfl)
theorem d209_389 : decode (mB 209) 389 = .ok (.iadd, 1) := by decide +kernel
theorem x209_389 {d : Nat} {L : Lc} {st : List Value} {x y : Int32} {h : Hp} : ex (d) 209 389 L (.int y :: .int x :: st) h = ex d 209 390 L (.int (x + y) :: st) h := (ex_of d209_389 (d) L (.int y :: .int x :: st) h).trans (rfl)
theorem d209_390 : decode (mB 209) 390 = .ok (.iaload, 1) := by decide +kernel
theorem x209_390 {d : Nat} {L : Lc} {st : List Value} {a j : Nat} {h : Hp} (ht : (h.2.1 a).1 = 20) (hj : j < (h.2.1 a).2) (hb : j < 2147483648) : ex (d) 209 390 L (.int (nI j) :: .ref a :: st) h = ex d 209 391 L (h.1 a j :: st) h := (ex_of d209_390 (d) L (.int (nI j) :: .ref a :: st) h).trans (fin_iaload (Or.inl ht) hj hb)
theorem d209_391 : decode (mB 209) 391 = .ok (.invokevirtual 44, 3) := by decide +kernel
theorem x209_391 {d : Nat} {L : Lc} {s0 : Value} {a : Nat} {v0 : Int32} {v1 : Int32} {h : Hp} (ht : (h.2.1 a).1 = 11) : ex (d + 1) 209 391 L (.int v1 :: .int v0 :: .ref a :: [s0]) h = bnd (ex d 149 0 [some (.ref a), some (.int v0), some (.int v1), none, none] [] h) (fun v h' => ex (d + 1) 209 394 L (v.toList ++ [s0]) h') := (ex_of d209_391 (d + 1) L (.int v1 :: .int v0 :: .ref a :: [s0]) h).trans (fin_vi (mi := 209) i13_44 ht rfl rfl (by simp [cat1_i, cat1_r]) (by simp) (Nat.le_of_ble_eq_true rfl))
theorem d209_394 : decode (mB 209) 394 = .ok (.if_icmp .eq 944, 3) := by decide +kernel
theorem x209_394 {d : Nat} {L : Lc} {st : List Value} {x y : Int32} {h : Hp} : ex (d) 209 394 L (.int y :: .int x :: st) h = if x = y then ex d 209 1338 L st h else ex d 209 397 L st h := (ex_of d209_394 (d) L (.int y :: .int x :: st) h).trans (fin_brq (off := 944) (tgt := 1338) rfl (by decide))
theorem d209_397 : decode (mB 209) 397 = .ok (.iconst 0, 1) := by decide +kernel
theorem x209_397 {d : Nat} {L : Lc} {st : List Value} {h : Hp} : ex (d) 209 397 L st h = ex d 209 398 L (.int (nI 0) :: st) h := (ex_of d209_397 (d) L st h).trans (rfl)
theorem d209_398 : decode (mB 209) 398 = .ok (.ireturn, 1) := by decide +kernel
theorem x209_398 {d : Nat} {L : Lc} {x : Int32} {h : Hp} (hx : x = 0 ∨ x = 1) : ex (d) 209 398 L [.int x] h = some (some (.int x), h) := (ex_of d209_398 (d) L [.int x] h).trans (fin_retb rfl hx)
theorem d209_399 : decode (mB 209) 399 = .ok (.aload_n 1, 1) := by decide +kernel
theorem x209_399 {d : Nat} {l0 l2 l3 : Option Value} {st : List Value} {a : Nat} {h : Hp} : ex (d) 209 399 [l0, some (.ref a), l2, l3] st h = ex d 209 400 [l0, some (.ref a), l2, l3] (.ref a :: st) h := (ex_of d209_399 (d) [l0, some (.ref a), l2, l3] st h).trans (rfl)
theorem x209_399n {d : Nat} {l0 l2 l3 : Option Value} {st : List Value} {h : Hp} : ex (d) 209 399 [l0, some .null, l2, l3] st h = ex d 209 400 [l0, some .null, l2, l3] (.null :: st) h := (ex_of d209_399 (d) [l0, some .null, l2, l3] st h).trans (rfl)
theorem x209_399q {d : Nat} {l0 l2 l3 : Option Value} {st : List Value} {a : Option Nat} {h : Hp} : ex (d) 209 399 [l0, some (va_rf a), l2, l3] st h = ex d 209 400 [l0, some (va_rf a), l2, l3] (va_rf a :: st) h := (ex_of d209_399 (d) [l0, some (va_rf a), l2, l3] st h).trans (by cases a <;> rfl)
theorem d209_400 : decode (mB 209) 400 = .ok (.aload_n 0, 1) := by decide +kernel
theorem x209_400 {d : Nat} {l1 l2 l3 : Option Value} {st : List Value} {a : Nat} {h : Hp} : ex (d) 209 400 [some (.ref a), l1, l2, l3] st h = ex d 209 401 [some (.ref a), l1, l2, l3] (.ref a :: st) h := (ex_of d209_400 (d) [some (.ref a), l1, l2, l3] st h).trans (rfl)
theorem d209_401 : decode (mB 209) 401 = .ok (.iload_n 3, 1) := by decide +kernel
theorem x209_401 {d : Nat} {l0 l1 l2 : Option Value} {st : List Value} {x : Int32} {h : Hp} : ex (d) 209 401 [l0, l1, l2, some (.int x)] st h = ex d 209 402 [l0, l1, l2, some (.int x)] (.int x :: st) h := (ex_of d209_401 (d) [l0, l1, l2, some (.int x)] st h).trans (rfl)
theorem d209_402 : decode (mB 209) 402 = .ok (.iconst 1, 1) := by decide +kernel
theorem x209_402 {d : Nat} {L : Lc} {st : List Value} {h : Hp} : ex (d) 209 402 L st h = ex d 209 403 L (.int (nI 1) :: st) h := (ex_of d209_402 (d) L st h).trans (rfl)
theorem d209_403 : decode (mB 209) 403 = .ok (.iadd, 1) := by decide +kernel
theorem x209_403 {d : Nat} {L : Lc} {st : List Value} {x y : Int32} {h : Hp} : ex (d) 209 403 L (.int y :: .int x :: st) h = ex d 209 404 L (.int (x + y) :: st) h := (ex_of d209_403 (d) L (.int y :: .int x :: st) h).trans (rfl)
theorem d209_404 : decode (mB 209) 404 = .ok (.iaload, 1) := by decide +kernel
theorem x209_404 {d : Nat} {L : Lc} {st : List Value} {a j : Nat} {h : Hp} (ht : (h.2.1 a).1 = 20) (hj : j < (h.2.1 a).2) (hb : j < 2147483648) : ex (d) 209 404 L (.int (nI j) :: .ref a :: st) h = ex d 209 405 L (h.1 a j :: st) h := (ex_of d209_404 (d) L (.int (nI j) :: .ref a :: st) h).trans (fin_iaload (Or.inl ht) hj hb)
theorem d209_405 : decode (mB 209) 405 = .ok (.invokevirtual 45, 3) := by decide +kernel
theorem x209_405 {d : Nat} {L : Lc} {a : Nat} {v0 : Int32} {h : Hp} (ht : (h.2.1 a).1 = 10) : ex (d + 1) 209 405 L (.int v0 :: .ref a :: []) h = bnd (ex d 51 0 [some (.ref a), some (.int v0), none] [] h) (fun v h' => ex (d + 1) 209 408 L (v.toList ++ []) h') := (ex_of d209_405 (d + 1) L (.int v0 :: .ref a :: []) h).trans (fin_vi (mi := 209) i13_45 ht rfl rfl (by simp [cat1_i, cat1_r]) (by simp) (Nat.le_of_ble_eq_true rfl))
theorem d209_408 : decode (mB 209) 408 = .ok (.aload_n 2, 1) := by decide +kernel
theorem x209_408 {d : Nat} {l0 l1 l3 : Option Value} {st : List Value} {a : Nat} {h : Hp} : ex (d) 209 408 [l0, l1, some (.ref a), l3] st h = ex d 209 409 [l0, l1, some (.ref a), l3] (.ref a :: st) h := (ex_of d209_408 (d) [l0, l1, some (.ref a), l3] st h).trans (rfl)
theorem x209_408n {d : Nat} {l0 l1 l3 : Option Value} {st : List Value} {h : Hp} : ex (d) 209 408 [l0, l1, some .null, l3] st h = ex d 209 409 [l0, l1, some .null, l3] (.null :: st) h := (ex_of d209_408 (d) [l0, l1, some .null, l3] st h).trans (rfl)
theorem x209_408q {d : Nat} {l0 l1 l3 : Option Value} {st : List Value} {a : Option Nat} {h : Hp} : ex (d) 209 408 [l0, l1, some (va_rf a), l3] st h = ex d 209 409 [l0, l1, some (va_rf a), l3] (va_rf a :: st) h := (ex_of d209_408 (d) [l0, l1, some (va_rf a), l3] st h).trans (by cases a <;> rfl)
theorem d209_409 : decode (mB 209) 409 = .ok (.aload_n 0, 1) := by decide +kernel
theorem x209_409 {d : Nat} {l1 l2 l3 : Option Value} {st : List Value} {a : Nat} {h : Hp} : ex (d) 209 409 [some (.ref a), l1, l2, l3] st h = ex d 209 410 [some (.ref a), l1, l2, l3] (.ref a :: st) h := (ex_of d209_409 (d) [some (.ref a), l1, l2, l3] st h).trans (rfl)
theorem d209_410 : decode (mB 209) 410 = .ok (.iload_n 3, 1) := by decide +kernel
theorem x209_410 {d : Nat} {l0 l1 l2 : Option Value} {st : List Value} {x : Int32} {h : Hp} : ex (d) 209 410 [l0, l1, l2, some (.int x)] st h = ex d 209 411 [l0, l1, l2, some (.int x)] (.int x :: st) h := (ex_of d209_410 (d) [l0, l1, l2, some (.int x)] st h).trans (rfl)
theorem d209_411 : decode (mB 209) 411 = .ok (.iconst 1, 1) := by decide +kernel
theorem x209_411 {d : Nat} {L : Lc} {st : List Value} {h : Hp} : ex (d) 209 411 L st h = ex d 209 412 L (.int (nI 1) :: st) h := (ex_of d209_411 (d) L st h).trans (rfl)
theorem d209_412 : decode (mB 209) 412 = .ok (.iadd, 1) := by decide +kernel
theorem x209_412 {d : Nat} {L : Lc} {st : List Value} {x y : Int32} {h : Hp} : ex (d) 209 412 L (.int y :: .int x :: st) h = ex d 209 413 L (.int (x + y) :: st) h := (ex_of d209_412 (d) L (.int y :: .int x :: st) h).trans (rfl)
theorem d209_413 : decode (mB 209) 413 = .ok (.iaload, 1) := by decide +kernel
theorem x209_413 {d : Nat} {L : Lc} {st : List Value} {a j : Nat} {h : Hp} (ht : (h.2.1 a).1 = 20) (hj : j < (h.2.1 a).2) (hb : j < 2147483648) : ex (d) 209 413 L (.int (nI j) :: .ref a :: st) h = ex d 209 414 L (h.1 a j :: st) h := (ex_of d209_413 (d) L (.int (nI j) :: .ref a :: st) h).trans (fin_iaload (Or.inl ht) hj hb)
theorem d209_414 : decode (mB 209) 414 = .ok (.invokevirtual 48, 3) := by decide +kernel
theorem x209_414 {d : Nat} {L : Lc} {s0 : Value} {a : Nat} {v0 : Int32} {h : Hp} (ht : (h.2.1 a).1 = 11) : ex (d + 1) 209 414 L (.int v0 :: .ref a :: [s0]) h = bnd (ex d 150 0 [some (.ref a), some (.int v0)] [] h) (fun v h' => ex (d + 1) 209 417 L (v.toList ++ [s0]) h') := (ex_of d209_414 (d + 1) L (.int v0 :: .ref a :: [s0]) h).trans (fin_vi (mi := 209) i13_48 ht rfl rfl (by simp [cat1_i, cat1_r]) (by simp) (Nat.le_of_ble_eq_true rfl))
theorem d209_417 : decode (mB 209) 417 = .ok (.if_icmp .eq 921, 3) := by decide +kernel
theorem x209_417 {d : Nat} {L : Lc} {st : List Value} {x y : Int32} {h : Hp} : ex (d) 209 417 L (.int y :: .int x :: st) h = if x = y then ex d 209 1338 L st h else ex d 209 420 L st h := (ex_of d209_417 (d) L (.int y :: .int x :: st) h).trans (fin_brq (off := 921) (tgt := 1338) rfl (by decide))
theorem d209_420 : decode (mB 209) 420 = .ok (.iconst 0, 1) := by decide +kernel
theorem x209_420 {d : Nat} {L : Lc} {st : List Value} {h : Hp} : ex (d) 209 420 L st h = ex d 209 421 L (.int (nI 0) :: st) h := (ex_of d209_420 (d) L st h).trans (rfl)
theorem d209_421 : decode (mB 209) 421 = .ok (.ireturn, 1) := by decide +kernel
theorem x209_421 {d : Nat} {L : Lc} {x : Int32} {h : Hp} (hx : x = 0 ∨ x = 1) : ex (d) 209 421 L [.int x] h = some (some (.int x), h) := (ex_of d209_421 (d) L [.int x] h).trans (fin_retb rfl hx)
theorem d209_422 : decode (mB 209) 422 = .ok (.aload_n 1, 1) := by decide +kernel
theorem x209_422 {d : Nat} {l0 l2 l3 : Option Value} {st : List Value} {a : Nat} {h : Hp} : ex (d) 209 422 [l0, some (.ref a), l2, l3] st h = ex d 209 423 [l0, some (.ref a), l2, l3] (.ref a :: st) h := (ex_of d209_422 (d) [l0, some (.ref a), l2, l3] st h).trans (rfl)
theorem x209_422n {d : Nat} {l0 l2 l3 : Option Value} {st : List Value} {h : Hp} : ex (d) 209 422 [l0, some .null, l2, l3] st h = ex d 209 423 [l0, some .null, l2, l3] (.null :: st) h := (ex_of d209_422 (d) [l0, some .null, l2, l3] st h).trans (rfl)
theorem x209_422q {d : Nat} {l0 l2 l3 : Option Value} {st : List Value} {a : Option Nat} {h : Hp} : ex (d) 209 422 [l0, some (va_rf a), l2, l3] st h = ex d 209 423 [l0, some (va_rf a), l2, l3] (va_rf a :: st) h := (ex_of d209_422 (d) [l0, some (va_rf a), l2, l3] st h).trans (by cases a <;> rfl)
theorem d209_423 : decode (mB 209) 423 = .ok (.aload_n 0, 1) := by decide +kernel
theorem x209_423 {d : Nat} {l1 l2 l3 : Option Value} {st : List Value} {a : Nat} {h : Hp} : ex (d) 209 423 [some (.ref a), l1, l2, l3] st h = ex d 209 424 [some (.ref a), l1, l2, l3] (.ref a :: st) h := (ex_of d209_423 (d) [some (.ref a), l1, l2, l3] st h).trans (rfl)
theorem d209_424 : decode (mB 209) 424 = .ok (.iload_n 3, 1) := by decide +kernel
theorem x209_424 {d : Nat} {l0 l1 l2 : Option Value} {st : List Value} {x : Int32} {h : Hp} : ex (d) 209 424 [l0, l1, l2, some (.int x)] st h = ex d 209 425 [l0, l1, l2, some (.int x)] (.int x :: st) h := (ex_of d209_424 (d) [l0, l1, l2, some (.int x)] st h).trans (rfl)
theorem d209_425 : decode (mB 209) 425 = .ok (.iconst 1, 1) := by decide +kernel
theorem x209_425 {d : Nat} {L : Lc} {st : List Value} {h : Hp} : ex (d) 209 425 L st h = ex d 209 426 L (.int (nI 1) :: st) h := (ex_of d209_425 (d) L st h).trans (rfl)
theorem d209_426 : decode (mB 209) 426 = .ok (.iadd, 1) := by decide +kernel
theorem x209_426 {d : Nat} {L : Lc} {st : List Value} {x y : Int32} {h : Hp} : ex (d) 209 426 L (.int y :: .int x :: st) h = ex d 209 427 L (.int (x + y) :: st) h := (ex_of d209_426 (d) L (.int y :: .int x :: st) h).trans (rfl)
theorem d209_427 : decode (mB 209) 427 = .ok (.iaload, 1) := by decide +kernel
theorem x209_427 {d : Nat} {L : Lc} {st : List Value} {a j : Nat} {h : Hp} (ht : (h.2.1 a).1 = 20) (hj : j < (h.2.1 a).2) (hb : j < 2147483648) : ex (d) 209 427 L (.int (nI j) :: .ref a :: st) h = ex d 209 428 L (h.1 a j :: st) h := (ex_of d209_427 (d) L (.int (nI j) :: .ref a :: st) h).trans (fin_iaload (Or.inl ht) hj hb)
theorem d209_428 : decode (mB 209) 428 = .ok (.invokevirtual 49, 3) := by decide +kernel
theorem x209_428 {d : Nat} {L : Lc} {a : Nat} {v0 : Int32} {h : Hp} (ht : (h.2.1 a).1 = 10) : ex (d + 1) 209 428 L (.int v0 :: .ref a :: []) h = bnd (ex d 52 0 [some (.ref a), some (.int v0), none] [] h) (fun v h' => ex (d + 1) 209 431 L (v.toList ++ []) h') := (ex_of d209_428 (d + 1) L (.int v0 :: .ref a :: []) h).trans (fin_vi (mi := 209) i13_49 ht rfl rfl (by simp [cat1_i, cat1_r]) (by simp) (Nat.le_of_ble_eq_true rfl))
theorem d209_431 : decode (mB 209) 431 = .ok (.aload_n 2, 1) := by decide +kernel
theorem x209_431 {d : Nat} {l0 l1 l3 : Option Value} {st : List Value} {a : Nat} {h : Hp} : ex (d) 209 431 [l0, l1, some (.ref a), l3] st h = ex d 209 432 [l0, l1, some (.ref a), l3] (.ref a :: st) h := (ex_of d209_431 (d) [l0, l1, some (.ref a), l3] st h).trans (rfl)
theorem x209_431n {d : Nat} {l0 l1 l3 : Option Value} {st : List Value} {h : Hp} : ex (d) 209 431 [l0, l1, some .null, l3] st h = ex d 209 432 [l0, l1, some .null, l3] (.null :: st) h := (ex_of d209_431 (d) [l0, l1, some .null, l3] st h).trans (rfl)
theorem x209_431q {d : Nat} {l0 l1 l3 : Option Value} {st : List Value} {a : Option Nat} {h : Hp} : ex (d) 209 431 [l0, l1, some (va_rf a), l3] st h = ex d 209 432 [l0, l1, some (va_rf a), l3] (va_rf a :: st) h := (ex_of d209_431 (d) [l0, l1, some (va_rf a), l3] st h).trans (by cases a <;> rfl)
theorem d209_432 : decode (mB 209) 432 = .ok (.aload_n 0, 1) := by decide +kernel
theorem x209_432 {d : Nat} {l1 l2 l3 : Option Value} {st : List Value} {a : Nat} {h : Hp} : ex (d) 209 432 [some (.ref a), l1, l2, l3] st h = ex d 209 433 [some (.ref a), l1, l2, l3] (.ref a :: st) h := (ex_of d209_432 (d) [some (.ref a), l1, l2, l3] st h).trans (rfl)
theorem d209_433 : decode (mB 209) 433 = .ok (.iload_n 3, 1) := by decide +kernel
theorem x209_433 {d : Nat} {l0 l1 l2 : Option Value} {st : List Value} {x : Int32} {h : Hp} : ex (d) 209 433 [l0, l1, l2, some (.int x)] st h = ex d 209 434 [l0, l1, l2, some (.int x)] (.int x :: st) h := (ex_of d209_433 (d) [l0, l1, l2, some (.int x)] st h).trans (rfl)
theorem d209_434 : decode (mB 209) 434 = .ok (.iconst 1, 1) := by decide +kernel
theorem x209_434 {d : Nat} {L : Lc} {st : List Value} {h : Hp} : ex (d) 209 434 L st h = ex d 209 435 L (.int (nI 1) :: st) h := (ex_of d209_434 (d) L st h).trans (rfl)
theorem d209_435 : decode (mB 209) 435 = .ok (.iadd, 1) := by decide +kernel
theorem x209_435 {d : Nat} {L : Lc} {st : List Value} {x y : Int32} {h : Hp} : ex (d) 209 435 L (.int y :: .int x :: st) h = ex d 209 436 L (.int (x + y) :: st) h := (ex_of d209_435 (d) L (.int y :: .int x :: st) h).trans (rfl)
theorem d209_436 : decode (mB 209) 436 = .ok (.iaload, 1) := by decide +kernel
theorem x209_436 {d : Nat} {L : Lc} {st : List Value} {a j : Nat} {h : Hp} (ht : (h.2.1 a).1 = 20) (hj : j < (h.2.1 a).2) (hb : j < 2147483648) : ex (d) 209 436 L (.int (nI j) :: .ref a :: st) h = ex d 209 437 L (h.1 a j :: st) h := (ex_of d209_436 (d) L (.int (nI j) :: .ref a :: st) h).trans (fin_iaload (Or.inl ht) hj hb)
theorem d209_437 : decode (mB 209) 437 = .ok (.invokevirtual 52, 3) := by decide +kernel
theorem x209_437 {d : Nat} {L : Lc} {s0 : Value} {a : Nat} {v0 : Int32} {h : Hp} (ht : (h.2.1 a).1 = 11) : ex (d + 1) 209 437 L (.int v0 :: .ref a :: [s0]) h = bnd (ex d 151 0 [some (.ref a), some (.int v0)] [] h) (fun v h' => ex (d + 1) 209 440 L (v.toList ++ [s0]) h') := (ex_of d209_437 (d + 1) L (.int v0 :: .ref a :: [s0]) h).trans (fin_vi (mi := 209) i13_52 ht rfl rfl (by simp [cat1_i, cat1_r]) (by simp) (Nat.le_of_ble_eq_true rfl))
theorem d209_440 : decode (mB 209) 440 = .ok (.if_icmp .eq 898, 3) := by decide +kernel
theorem x209_440 {d : Nat} {L : Lc} {st : List Value} {x y : Int32} {h : Hp} : ex (d) 209 440 L (.int y :: .int x :: st) h = if x = y then ex d 209 1338 L st h else ex d 209 443 L st h := (ex_of d209_440 (d) L (.int y :: .int x :: st) h).trans (fin_brq (off := 898) (tgt := 1338) rfl (by decide))
theorem d209_443 : decode (mB 209) 443 = .ok (.iconst 0, 1) := by decide +kernel
theorem x209_443 {d : Nat} {L : Lc} {st : List Value} {h : Hp} : ex (d) 209 443 L st h = ex d 209 444 L (.int (nI 0) :: st) h := (ex_of d209_443 (d) L st h).trans (rfl)
theorem d209_444 : decode (mB 209) 444 = .ok (.ireturn, 1) := by decide +kernel
theorem x209_444 {d : Nat} {L : Lc} {x : Int32} {h : Hp} (hx : x = 0 ∨ x = 1) : ex (d) 209 444 L [.int x] h = some (some (.int x), h) := (ex_of d209_444 (d) L [.int x] h).trans (fin_retb rfl hx)
theorem d209_445 : decode (mB 209) 445 = .ok (.aload_n 1, 1) := by decide +kernel
theorem x209_445 {d : Nat} {l0 l2 l3 : Option Value} {st : List Value} {a : Nat} {h : Hp} : ex (d) 209 445 [l0, some (.ref a), l2, l3] st h = ex d 209 446 [l0, some (.ref a), l2, l3] (.ref a :: st) h := (ex_of d209_445 (d) [l0, some (.ref a), l2, l3] st h).trans (rfl)
theorem x209_445n {d : Nat} {l0 l2 l3 : Option Value} {st : List Value} {h : Hp} : ex (d) 209 445 [l0, some .null, l2, l3] st h = ex d 209 446 [l0, some .null, l2, l3] (.null :: st) h := (ex_of d209_445 (d) [l0, some .null, l2, l3] st h).trans (rfl)
theorem x209_445q {d : Nat} {l0 l2 l3 : Option Value} {st : List Value} {a : Option Nat} {h : Hp} : ex (d) 209 445 [l0, some (va_rf a), l2, l3] st h = ex d 209 446 [l0, some (va_rf a), l2, l3] (va_rf a :: st) h := (ex_of d209_445 (d) [l0, some (va_rf a), l2, l3] st h).trans (by cases a <;> rfl)
theorem d209_446 : decode (mB 209) 446 = .ok (.aload_n 0, 1) := by decide +kernel
theorem x209_446 {d : Nat} {l1 l2 l3 : Option Value} {st : List Value} {a : Nat} {h : Hp} : ex (d) 209 446 [some (.ref a), l1, l2, l3] st h = ex d 209 447 [some (.ref a), l1, l2, l3] (.ref a :: st) h := (ex_of d209_446 (d) [some (.ref a), l1, l2, l3] st h).trans (rfl)
theorem d209_447 : decode (mB 209) 447 = .ok (.iload_n 3, 1) := by decide +kernel
theorem x209_447 {d : Nat} {l0 l1 l2 : Option Value} {st : List Value} {x : Int32} {h : Hp} : ex (d) 209 447 [l0, l1, l2, some (.int x)] st h = ex d 209 448 [l0, l1, l2, some (.int x)] (.int x :: st) h := (ex_of d209_447 (d) [l0, l1, l2, some (.int x)] st h).trans (rfl)
theorem d209_448 : decode (mB 209) 448 = .ok (.iconst 1, 1) := by decide +kernel
theorem x209_448 {d : Nat} {L : Lc} {st : List Value} {h : Hp} : ex (d) 209 448 L st h = ex d 209 449 L (.int (nI 1) :: st) h := (ex_of d209_448 (d) L st h).trans (rfl)
theorem d209_449 : decode (mB 209) 449 = .ok (.iadd, 1) := by decide +kernel
theorem x209_449 {d : Nat} {L : Lc} {st : List Value} {x y : Int32} {h : Hp} : ex (d) 209 449 L (.int y :: .int x :: st) h = ex d 209 450 L (.int (x + y) :: st) h := (ex_of d209_449 (d) L (.int y :: .int x :: st) h).trans (rfl)
theorem d209_450 : decode (mB 209) 450 = .ok (.iaload, 1) := by decide +kernel
theorem x209_450 {d : Nat} {L : Lc} {st : List Value} {a j : Nat} {h : Hp} (ht : (h.2.1 a).1 = 20) (hj : j < (h.2.1 a).2) (hb : j < 2147483648) : ex (d) 209 450 L (.int (nI j) :: .ref a :: st) h = ex d 209 451 L (h.1 a j :: st) h := (ex_of d209_450 (d) L (.int (nI j) :: .ref a :: st) h).trans (fin_iaload (Or.inl ht) hj hb)
theorem d209_451 : decode (mB 209) 451 = .ok (.invokevirtual 53, 3) := by decide +kernel
theorem x209_451 {d : Nat} {L : Lc} {a : Nat} {v0 : Int32} {h : Hp} (ht : (h.2.1 a).1 = 10) : ex (d + 1) 209 451 L (.int v0 :: .ref a :: []) h = bnd (ex d 53 0 [some (.ref a), some (.int v0), none] [] h) (fun v h' => ex (d + 1) 209 454 L (v.toList ++ []) h') := (ex_of d209_451 (d + 1) L (.int v0 :: .ref a :: []) h).trans (fin_vi (mi := 209) i13_53 ht rfl rfl (by simp [cat1_i, cat1_r]) (by simp) (Nat.le_of_ble_eq_true rfl))
theorem d209_454 : decode (mB 209) 454 = .ok (.aload_n 2, 1) := by decide +kernel
theorem x209_454 {d : Nat} {l0 l1 l3 : Option Value} {st : List Value} {a : Nat} {h : Hp} : ex (d) 209 454 [l0, l1, some (.ref a), l3] st h = ex d 209 455 [l0, l1, some (.ref a), l3] (.ref a :: st) h := (ex_of d209_454 (d) [l0, l1, some (.ref a), l3] st h).trans (rfl)
theorem x209_454n {d : Nat} {l0 l1 l3 : Option Value} {st : List Value} {h : Hp} : ex (d) 209 454 [l0, l1, some .null, l3] st h = ex d 209 455 [l0, l1, some .null, l3] (.null :: st) h := (ex_of d209_454 (d) [l0, l1, some .null, l3] st h).trans (rfl)
theorem x209_454q {d : Nat} {l0 l1 l3 : Option Value} {st : List Value} {a : Option Nat} {h : Hp} : ex (d) 209 454 [l0, l1, some (va_rf a), l3] st h = ex d 209 455 [l0, l1, some (va_rf a), l3] (va_rf a :: st) h := (ex_of d209_454 (d) [l0, l1, some (va_rf a), l3] st h).trans (by cases a <;> rfl)
theorem d209_455 : decode (mB 209) 455 = .ok (.aload_n 0, 1) := by decide +kernel
theorem x209_455 {d : Nat} {l1 l2 l3 : Option Value} {st : List Value} {a : Nat} {h : Hp} : ex (d) 209 455 [some (.ref a), l1, l2, l3] st h = ex d 209 456 [some (.ref a), l1, l2, l3] (.ref a :: st) h := (ex_of d209_455 (d) [some (.ref a), l1, l2, l3] st h).trans (rfl)
theorem d209_456 : decode (mB 209) 456 = .ok (.iload_n 3, 1) := by decide +kernel
theorem x209_456 {d : Nat} {l0 l1 l2 : Option Value} {st : List Value} {x : Int32} {h : Hp} : ex (d) 209 456 [l0, l1, l2, some (.int x)] st h = ex d 209 457 [l0, l1, l2, some (.int x)] (.int x :: st) h := (ex_of d209_456 (d) [l0, l1, l2, some (.int x)] st h).trans (rfl)
theorem d209_457 : decode (mB 209) 457 = .ok (.iconst 1, 1) := by decide +kernel
theorem x209_457 {d : Nat} {L : Lc} {st : List Value} {h : Hp} : ex (d) 209 457 L st h = ex d 209 458 L (.int (nI 1) :: st) h := (ex_of d209_457 (d) L st h).trans (rfl)
theorem d209_458 : decode (mB 209) 458 = .ok (.iadd, 1) := by decide +kernel
theorem x209_458 {d : Nat} {L : Lc} {st : List Value} {x y : Int32} {h : Hp} : ex (d) 209 458 L (.int y :: .int x :: st) h = ex d 209 459 L (.int (x + y) :: st) h := (ex_of d209_458 (d) L (.int y :: .int x :: st) h).trans (rfl)
theorem d209_459 : decode (mB 209) 459 = .ok (.iaload, 1) := by decide +kernel
theorem x209_459 {d : Nat} {L : Lc} {st : List Value} {a j : Nat} {h : Hp} (ht : (h.2.1 a).1 = 20) (hj : j < (h.2.1 a).2) (hb : j < 2147483648) : ex (d) 209 459 L (.int (nI j) :: .ref a :: st) h = ex d 209 460 L (h.1 a j :: st) h := (ex_of d209_459 (d) L (.int (nI j) :: .ref a :: st) h).trans (fin_iaload (Or.inl ht) hj hb)
theorem d209_460 : decode (mB 209) 460 = .ok (.invokevirtual 56, 3) := by decide +kernel
theorem x209_460 {d : Nat} {L : Lc} {s0 : Value} {a : Nat} {v0 : Int32} {h : Hp} (ht : (h.2.1 a).1 = 11) : ex (d + 1) 209 460 L (.int v0 :: .ref a :: [s0]) h = bnd (ex d 152 0 [some (.ref a), some (.int v0)] [] h) (fun v h' => ex (d + 1) 209 463 L (v.toList ++ [s0]) h') := (ex_of d209_460 (d + 1) L (.int v0 :: .ref a :: [s0]) h).trans (fin_vi (mi := 209) i13_56 ht rfl rfl (by simp [cat1_i, cat1_r]) (by simp) (Nat.le_of_ble_eq_true rfl))
theorem d209_463 : decode (mB 209) 463 = .ok (.if_icmp .eq 875, 3) := by decide +kernel
theorem x209_463 {d : Nat} {L : Lc} {st : List Value} {x y : Int32} {h : Hp} : ex (d) 209 463 L (.int y :: .int x :: st) h = if x = y then ex d 209 1338 L st h else ex d 209 466 L st h := (ex_of d209_463 (d) L (.int y :: .int x :: st) h).trans (fin_brq (off := 875) (tgt := 1338) rfl (by decide))
theorem d209_466 : decode (mB 209) 466 = .ok (.iconst 0, 1) := by decide +kernel
theorem x209_466 {d : Nat} {L : Lc} {st : List Value} {h : Hp} : ex (d) 209 466 L st h = ex d 209 467 L (.int (nI 0) :: st) h := (ex_of d209_466 (d) L st h).trans (rfl)
theorem d209_467 : decode (mB 209) 467 = .ok (.ireturn, 1) := by decide +kernel
theorem x209_467 {d : Nat} {L : Lc} {x : Int32} {h : Hp} (hx : x = 0 ∨ x = 1) : ex (d) 209 467 L [.int x] h = some (some (.int x), h) := (ex_of d209_467 (d) L [.int x] h).trans (fin_retb rfl hx)
theorem d209_468 : decode (mB 209) 468 = .ok (.aload_n 1, 1) := by decide +kernel
theorem x209_468 {d : Nat} {l0 l2 l3 : Option Value} {st : List Value} {a : Nat} {h : Hp} : ex (d) 209 468 [l0, some (.ref a), l2, l3] st h = ex d 209 469 [l0, some (.ref a), l2, l3] (.ref a :: st) h := (ex_of d209_468 (d) [l0, some (.ref a), l2, l3] st h).trans (rfl)
theorem x209_468n {d : Nat} {l0 l2 l3 : Option Value} {st : List Value} {h : Hp} : ex (d) 209 468 [l0, some .null, l2, l3] st h = ex d 209 469 [l0, some .null, l2, l3] (.null :: st) h := (ex_of d209_468 (d) [l0, some .null, l2, l3] st h).trans (rfl)
theorem x209_468q {d : Nat} {l0 l2 l3 : Option Value} {st : List Value} {a : Option Nat} {h : Hp} : ex (d) 209 468 [l0, some (va_rf a), l2, l3] st h = ex d 209 469 [l0, some (va_rf a), l2, l3] (va_rf a :: st) h := (ex_of d209_468 (d) [l0, some (va_rf a), l2, l3] st h).trans (by cases a <;> rfl)
theorem d209_469 : decode (mB 209) 469 = .ok (.aload_n 0, 1) := by decide +kernel
theorem x209_469 {d : Nat} {l1 l2 l3 : Option Value} {st : List Value} {a : Nat} {h : Hp} : ex (d) 209 469 [some (.ref a), l1, l2, l3] st h = ex d 209 470 [some (.ref a), l1, l2, l3] (.ref a :: st) h := (ex_of d209_469 (d) [some (.ref a), l1, l2, l3] st h).trans (rfl)
theorem d209_470 : decode (mB 209) 470 = .ok (.iload_n 3, 1) := by decide +kernel
theorem x209_470 {d : Nat} {l0 l1 l2 : Option Value} {st : List Value} {x : Int32} {h : Hp} : ex (d) 209 470 [l0, l1, l2, some (.int x)] st h = ex d 209 471 [l0, l1, l2, some (.int x)] (.int x :: st) h := (ex_of d209_470 (d) [l0, l1, l2, some (.int x)] st h).trans (rfl)
theorem d209_471 : decode (mB 209) 471 = .ok (.iconst 1, 1) := by decide +kernel
theorem x209_471 {d : Nat} {L : Lc} {st : List Value} {h : Hp} : ex (d) 209 471 L st h = ex d 209 472 L (.int (nI 1) :: st) h := (ex_of d209_471 (d) L st h).trans (rfl)
theorem d209_472 : decode (mB 209) 472 = .ok (.iadd, 1) := by decide +kernel
theorem x209_472 {d : Nat} {L : Lc} {st : List Value} {x y : Int32} {h : Hp} : ex (d) 209 472 L (.int y :: .int x :: st) h = ex d 209 473 L (.int (x + y) :: st) h := (ex_of d209_472 (d) L (.int y :: .int x :: st) h).trans (rfl)
theorem d209_473 : decode (mB 209) 473 = .ok (.iaload, 1) := by decide +kernel
theorem x209_473 {d : Nat} {L : Lc} {st : List Value} {a j : Nat} {h : Hp} (ht : (h.2.1 a).1 = 20) (hj : j < (h.2.1 a).2) (hb : j < 2147483648) : ex (d) 209 473 L (.int (nI j) :: .ref a :: st) h = ex d 209 474 L (h.1 a j :: st) h := (ex_of d209_473 (d) L (.int (nI j) :: .ref a :: st) h).trans (fin_iaload (Or.inl ht) hj hb)
theorem d209_474 : decode (mB 209) 474 = .ok (.aload_n 0, 1) := by decide +kernel
theorem x209_474 {d : Nat} {l1 l2 l3 : Option Value} {st : List Value} {a : Nat} {h : Hp} : ex (d) 209 474 [some (.ref a), l1, l2, l3] st h = ex d 209 475 [some (.ref a), l1, l2, l3] (.ref a :: st) h := (ex_of d209_474 (d) [some (.ref a), l1, l2, l3] st h).trans (rfl)
theorem d209_475 : decode (mB 209) 475 = .ok (.iload_n 3, 1) := by decide +kernel
theorem x209_475 {d : Nat} {l0 l1 l2 : Option Value} {st : List Value} {x : Int32} {h : Hp} : ex (d) 209 475 [l0, l1, l2, some (.int x)] st h = ex d 209 476 [l0, l1, l2, some (.int x)] (.int x :: st) h := (ex_of d209_475 (d) [l0, l1, l2, some (.int x)] st h).trans (rfl)
theorem d209_476 : decode (mB 209) 476 = .ok (.iconst 2, 1) := by decide +kernel
theorem x209_476 {d : Nat} {L : Lc} {st : List Value} {h : Hp} : ex (d) 209 476 L st h = ex d 209 477 L (.int (nI 2) :: st) h := (ex_of d209_476 (d) L st h).trans (rfl)
theorem d209_477 : decode (mB 209) 477 = .ok (.iadd, 1) := by decide +kernel
theorem x209_477 {d : Nat} {L : Lc} {st : List Value} {x y : Int32} {h : Hp} : ex (d) 209 477 L (.int y :: .int x :: st) h = ex d 209 478 L (.int (x + y) :: st) h := (ex_of d209_477 (d) L (.int y :: .int x :: st) h).trans (rfl)
theorem d209_478 : decode (mB 209) 478 = .ok (.iaload, 1) := by decide +kernel
theorem x209_478 {d : Nat} {L : Lc} {st : List Value} {a j : Nat} {h : Hp} (ht : (h.2.1 a).1 = 20) (hj : j < (h.2.1 a).2) (hb : j < 2147483648) : ex (d) 209 478 L (.int (nI j) :: .ref a :: st) h = ex d 209 479 L (h.1 a j :: st) h := (ex_of d209_478 (d) L (.int (nI j) :: .ref a :: st) h).trans (fin_iaload (Or.inl ht) hj hb)
theorem d209_479 : decode (mB 209) 479 = .ok (.aload_n 0, 1) := by decide +kernel
theorem x209_479 {d : Nat} {l1 l2 l3 : Option Value} {st : List Value} {a : Nat} {h : Hp} : ex (d) 209 479 [some (.ref a), l1, l2, l3] st h = ex d 209 480 [some (.ref a), l1, l2, l3] (.ref a :: st) h := (ex_of d209_479 (d) [some (.ref a), l1, l2, l3] st h).trans (rfl)
theorem d209_480 : decode (mB 209) 480 = .ok (.iload_n 3, 1) := by decide +kernel
theorem x209_480 {d : Nat} {l0 l1 l2 : Option Value} {st : List Value} {x : Int32} {h : Hp} : ex (d) 209 480 [l0, l1, l2, some (.int x)] st h = ex d 209 481 [l0, l1, l2, some (.int x)] (.int x :: st) h := (ex_of d209_480 (d) [l0, l1, l2, some (.int x)] st h).trans (rfl)
theorem d209_481 : decode (mB 209) 481 = .ok (.iconst 3, 1) := by decide +kernel
theorem x209_481 {d : Nat} {L : Lc} {st : List Value} {h : Hp} : ex (d) 209 481 L st h = ex d 209 482 L (.int (nI 3) :: st) h := (ex_of d209_481 (d) L st h).trans (rfl)
theorem d209_482 : decode (mB 209) 482 = .ok (.iadd, 1) := by decide +kernel
theorem x209_482 {d : Nat} {L : Lc} {st : List Value} {x y : Int32} {h : Hp} : ex (d) 209 482 L (.int y :: .int x :: st) h = ex d 209 483 L (.int (x + y) :: st) h := (ex_of d209_482 (d) L (.int y :: .int x :: st) h).trans (rfl)
theorem d209_483 : decode (mB 209) 483 = .ok (.iaload, 1) := by decide +kernel
theorem x209_483 {d : Nat} {L : Lc} {st : List Value} {a j : Nat} {h : Hp} (ht : (h.2.1 a).1 = 20) (hj : j < (h.2.1 a).2) (hb : j < 2147483648) : ex (d) 209 483 L (.int (nI j) :: .ref a :: st) h = ex d 209 484 L (h.1 a j :: st) h := (ex_of d209_483 (d) L (.int (nI j) :: .ref a :: st) h).trans (fin_iaload (Or.inl ht) hj hb)
theorem d209_484 : decode (mB 209) 484 = .ok (.invokevirtual 57, 3) := by decide +kernel
theorem x209_484 {d : Nat} {L : Lc} {a : Nat} {v0 : Int32} {v1 : Int32} {v2 : Int32} {h : Hp} (ht : (h.2.1 a).1 = 10) : ex (d + 1) 209 484 L (.int v2 :: .int v1 :: .int v0 :: .ref a :: []) h = bnd (ex d 54 0 [some (.ref a), some (.int v0), some (.int v1), some (.int v2), none, none, none] [] h) (fun v h' => ex (d + 1) 209 487 L (v.toList ++ []) h') := (ex_of d209_484 (d + 1) L (.int v2 :: .int v1 :: .int v0 :: .ref a :: []) h).trans (fin_vi (mi := 209) i13_57 ht rfl rfl (by simp [cat1_i, cat1_r]) (by simp) (Nat.le_of_ble_eq_true rfl))
theorem d209_487 : decode (mB 209) 487 = .ok (.aload_n 2, 1) := by decide +kernel
theorem x209_487 {d : Nat} {l0 l1 l3 : Option Value} {st : List Value} {a : Nat} {h : Hp} : ex (d) 209 487 [l0, l1, some (.ref a), l3] st h = ex d 209 488 [l0, l1, some (.ref a), l3] (.ref a :: st) h := (ex_of d209_487 (d) [l0, l1, some (.ref a), l3] st h).trans (rfl)
theorem x209_487n {d : Nat} {l0 l1 l3 : Option Value} {st : List Value} {h : Hp} : ex (d) 209 487 [l0, l1, some .null, l3] st h = ex d 209 488 [l0, l1, some .null, l3] (.null :: st) h := (ex_of d209_487 (d) [l0, l1, some .null, l3] st h).trans (rfl)
theorem x209_487q {d : Nat} {l0 l1 l3 : Option Value} {st : List Value} {a : Option Nat} {h : Hp} : ex (d) 209 487 [l0, l1, some (va_rf a), l3] st h = ex d 209 488 [l0, l1, some (va_rf a), l3] (va_rf a :: st) h := (ex_of d209_487 (d) [l0, l1, some (va_rf a), l3] st h).trans (by cases a <;> rfl)
theorem d209_488 : decode (mB 209) 488 = .ok (.aload_n 0, 1) := by decide +kernel
theorem x209_488 {d : Nat} {l1 l2 l3 : Option Value} {st : List Value} {a : Nat} {h : Hp} : ex (d) 209 488 [some (.ref a), l1, l2, l3] st h = ex d 209 489 [some (.ref a), l1, l2, l3] (.ref a :: st) h := (ex_of d209_488 (d) [some (.ref a), l1, l2, l3] st h).trans (rfl)
theorem d209_489 : decode (mB 209) 489 = .ok (.iload_n 3, 1) := by decide +kernel
theorem x209_489 {d : Nat} {l0 l1 l2 : Option Value} {st : List Value} {x : Int32} {h : Hp} : ex (d) 209 489 [l0, l1, l2, some (.int x)] st h = ex d 209 490 [l0, l1, l2, some (.int x)] (.int x :: st) h := (ex_of d209_489 (d) [l0, l1, l2, some (.int x)] st h).trans (rfl)
theorem d209_490 : decode (mB 209) 490 = .ok (.iconst 1, 1) := by decide +kernel
theorem x209_490 {d : Nat} {L : Lc} {st : List Value} {h : Hp} : ex (d) 209 490 L st h = ex d 209 491 L (.int (nI 1) :: st) h := (ex_of d209_490 (d) L st h).trans (rfl)
theorem d209_491 : decode (mB 209) 491 = .ok (.iadd, 1) := by decide +kernel
theorem x209_491 {d : Nat} {L : Lc} {st : List Value} {x y : Int32} {h : Hp} : ex (d) 209 491 L (.int y :: .int x :: st) h = ex d 209 492 L (.int (x + y) :: st) h := (ex_of d209_491 (d) L (.int y :: .int x :: st) h).trans (rfl)
theorem d209_492 : decode (mB 209) 492 = .ok (.iaload, 1) := by decide +kernel
theorem x209_492 {d : Nat} {L : Lc} {st : List Value} {a j : Nat} {h : Hp} (ht : (h.2.1 a).1 = 20) (hj : j < (h.2.1 a).2) (hb : j < 2147483648) : ex (d) 209 492 L (.int (nI j) :: .ref a :: st) h = ex d 209 493 L (h.1 a j :: st) h := (ex_of d209_492 (d) L (.int (nI j) :: .ref a :: st) h).trans (fin_iaload (Or.inl ht) hj hb)
theorem d209_493 : decode (mB 209) 493 = .ok (.aload_n 0, 1) := by decide +kernel
theorem x209_493 {d : Nat} {l1 l2 l3 : Option Value} {st : List Value} {a : Nat} {h : Hp} : ex (d) 209 493 [some (.ref a), l1, l2, l3] st h = ex d 209 494 [some (.ref a), l1, l2, l3] (.ref a :: st) h := (ex_of d209_493 (d) [some (.ref a), l1, l2, l3] st h).trans (rfl)
theorem d209_494 : decode (mB 209) 494 = .ok (.iload_n 3, 1) := by decide +kernel
theorem x209_494 {d : Nat} {l0 l1 l2 : Option Value} {st : List Value} {x : Int32} {h : Hp} : ex (d) 209 494 [l0, l1, l2, some (.int x)] st h = ex d 209 495 [l0, l1, l2, some (.int x)] (.int x :: st) h := (ex_of d209_494 (d) [l0, l1, l2, some (.int x)] st h).trans (rfl)
theorem d209_495 : decode (mB 209) 495 = .ok (.iconst 2, 1) := by decide +kernel
theorem x209_495 {d : Nat} {L : Lc} {st : List Value} {h : Hp} : ex (d) 209 495 L st h = ex d 209 496 L (.int (nI 2) :: st) h := (ex_of d209_495 (d) L st h).trans (rfl)
theorem d209_496 : decode (mB 209) 496 = .ok (.iadd, 1) := by decide +kernel
theorem x209_496 {d : Nat} {L : Lc} {st : List Value} {x y : Int32} {h : Hp} : ex (d) 209 496 L (.int y :: .int x :: st) h = ex d 209 497 L (.int (x + y) :: st) h := (ex_of d209_496 (d) L (.int y :: .int x :: st) h).trans (rfl)
theorem d209_497 : decode (mB 209) 497 = .ok (.iaload, 1) := by decide +kernel
theorem x209_497 {d : Nat} {L : Lc} {st : List Value} {a j : Nat} {h : Hp} (ht : (h.2.1 a).1 = 20) (hj : j < (h.2.1 a).2) (hb : j < 2147483648) : ex (d) 209 497 L (.int (nI j) :: .ref a :: st) h = ex d 209 498 L (h.1 a j :: st) h := (ex_of d209_497 (d) L (.int (nI j) :: .ref a :: st) h).trans (fin_iaload (Or.inl ht) hj hb)
theorem d209_498 : decode (mB 209) 498 = .ok (.aload_n 0, 1) := by decide +kernel
theorem x209_498 {d : Nat} {l1 l2 l3 : Option Value} {st : List Value} {a : Nat} {h : Hp} : ex (d) 209 498 [some (.ref a), l1, l2, l3] st h = ex d 209 499 [some (.ref a), l1, l2, l3] (.ref a :: st) h := (ex_of d209_498 (d) [some (.ref a), l1, l2, l3] st h).trans (rfl)
theorem d209_499 : decode (mB 209) 499 = .ok (.iload_n 3, 1) := by decide +kernel
theorem x209_499 {d : Nat} {l0 l1 l2 : Option Value} {st : List Value} {x : Int32} {h : Hp} : ex (d) 209 499 [l0, l1, l2, some (.int x)] st h = ex d 209 500 [l0, l1, l2, some (.int x)] (.int x :: st) h := (ex_of d209_499 (d) [l0, l1, l2, some (.int x)] st h).trans (rfl)
theorem d209_500 : decode (mB 209) 500 = .ok (.iconst 3, 1) := by decide +kernel
theorem x209_500 {d : Nat} {L : Lc} {st : List Value} {h : Hp} : ex (d) 209 500 L st h = ex d 209 501 L (.int (nI 3) :: st) h := (ex_of d209_500 (d) L st h).trans (rfl)
theorem d209_501 : decode (mB 209) 501 = .ok (.iadd, 1) := by decide +kernel
theorem x209_501 {d : Nat} {L : Lc} {st : List Value} {x y : Int32} {h : Hp} : ex (d) 209 501 L (.int y :: .int x :: st) h = ex d 209 502 L (.int (x + y) :: st) h := (ex_of d209_501 (d) L (.int y :: .int x :: st) h).trans (rfl)
theorem d209_502 : decode (mB 209) 502 = .ok (.iaload, 1) := by decide +kernel
theorem x209_502 {d : Nat} {L : Lc} {st : List Value} {a j : Nat} {h : Hp} (ht : (h.2.1 a).1 = 20) (hj : j < (h.2.1 a).2) (hb : j < 2147483648) : ex (d) 209 502 L (.int (nI j) :: .ref a :: st) h = ex d 209 503 L (h.1 a j :: st) h := (ex_of d209_502 (d) L (.int (nI j) :: .ref a :: st) h).trans (fin_iaload (Or.inl ht) hj hb)
theorem d209_503 : decode (mB 209) 503 = .ok (.invokevirtual 60, 3) := by decide +kernel
theorem x209_503 {d : Nat} {L : Lc} {s0 : Value} {a : Nat} {v0 : Int32} {v1 : Int32} {v2 : Int32} {h : Hp} (ht : (h.2.1 a).1 = 11) : ex (d + 1) 209 503 L (.int v2 :: .int v1 :: .int v0 :: .ref a :: [s0]) h = bnd (ex d 160 0 [some (.ref a), some (.int v0), some (.int v1), some (.int v2), none, none] [] h) (fun v h' => ex (d + 1) 209 506 L (v.toList ++ [s0]) h') := (ex_of d209_503 (d + 1) L (.int v2 :: .int v1 :: .int v0 :: .ref a :: [s0]) h).trans (fin_vi (mi := 209) i13_60 ht rfl rfl (by simp [cat1_i, cat1_r]) (by simp) (Nat.le_of_ble_eq_true rfl))
theorem d209_506 : decode (mB 209) 506 = .ok (.if_icmp .eq 832, 3) := by decide +kernel
theorem x209_506 {d : Nat} {L : Lc} {st : List Value} {x y : Int32} {h : Hp} : ex (d) 209 506 L (.int y :: .int x :: st) h = if x = y then ex d 209 1338 L st h else ex d 209 509 L st h := (ex_of d209_506 (d) L (.int y :: .int x :: st) h).trans (fin_brq (off := 832) (tgt := 1338) rfl (by decide))
theorem d209_509 : decode (mB 209) 509 = .ok (.iconst 0, 1) := by decide +kernel
theorem x209_509 {d : Nat} {L : Lc} {st : List Value} {h : Hp} : ex (d) 209 509 L st h = ex d 209 510 L (.int (nI 0) :: st) h := (ex_of d209_509 (d) L st h).trans (rfl)
theorem d209_510 : decode (mB 209) 510 = .ok (.ireturn, 1) := by decide +kernel
theorem x209_510 {d : Nat} {L : Lc} {x : Int32} {h : Hp} (hx : x = 0 ∨ x = 1) : ex (d) 209 510 L [.int x] h = some (some (.int x), h) := (ex_of d209_510 (d) L [.int x] h).trans (fin_retb rfl hx)
theorem d209_511 : decode (mB 209) 511 = .ok (.aload_n 1, 1) := by decide +kernel
theorem x209_511 {d : Nat} {l0 l2 l3 : Option Value} {st : List Value} {a : Nat} {h : Hp} : ex (d) 209 511 [l0, some (.ref a), l2, l3] st h = ex d 209 512 [l0, some (.ref a), l2, l3] (.ref a :: st) h := (ex_of d209_511 (d) [l0, some (.ref a), l2, l3] st h).trans (rfl)
theorem x209_511n {d : Nat} {l0 l2 l3 : Option Value} {st : List Value} {h : Hp} : ex (d) 209 511 [l0, some .null, l2, l3] st h = ex d 209 512 [l0, some .null, l2, l3] (.null :: st) h := (ex_of d209_511 (d) [l0, some .null, l2, l3] st h).trans (rfl)
theorem x209_511q {d : Nat} {l0 l2 l3 : Option Value} {st : List Value} {a : Option Nat} {h : Hp} : ex (d) 209 511 [l0, some (va_rf a), l2, l3] st h = ex d 209 512 [l0, some (va_rf a), l2, l3] (va_rf a :: st) h := (ex_of d209_511 (d) [l0, some (va_rf a), l2, l3] st h).trans (by cases a <;> rfl)
theorem d209_512 : decode (mB 209) 512 = .ok (.aload_n 0, 1) := by decide +kernel
theorem x209_512 {d : Nat} {l1 l2 l3 : Option Value} {st : List Value} {a : Nat} {h : Hp} : ex (d) 209 512 [some (.ref a), l1, l2, l3] st h = ex d 209 513 [some (.ref a), l1, l2, l3] (.ref a :: st) h := (ex_of d209_512 (d) [some (.ref a), l1, l2, l3] st h).trans (rfl)
theorem d209_513 : decode (mB 209) 513 = .ok (.iload_n 3, 1) := by decide +kernel
theorem x209_513 {d : Nat} {l0 l1 l2 : Option Value} {st : List Value} {x : Int32} {h : Hp} : ex (d) 209 513 [l0, l1, l2, some (.int x)] st h = ex d 209 514 [l0, l1, l2, some (.int x)] (.int x :: st) h := (ex_of d209_513 (d) [l0, l1, l2, some (.int x)] st h).trans (rfl)
theorem d209_514 : decode (mB 209) 514 = .ok (.iconst 1, 1) := by decide +kernel
theorem x209_514 {d : Nat} {L : Lc} {st : List Value} {h : Hp} : ex (d) 209 514 L st h = ex d 209 515 L (.int (nI 1) :: st) h := (ex_of d209_514 (d) L st h).trans (rfl)
theorem d209_515 : decode (mB 209) 515 = .ok (.iadd, 1) := by decide +kernel
theorem x209_515 {d : Nat} {L : Lc} {st : List Value} {x y : Int32} {h : Hp} : ex (d) 209 515 L (.int y :: .int x :: st) h = ex d 209 516 L (.int (x + y) :: st) h := (ex_of d209_515 (d) L (.int y :: .int x :: st) h).trans (rfl)
theorem d209_516 : decode (mB 209) 516 = .ok (.iaload, 1) := by decide +kernel
theorem x209_516 {d : Nat} {L : Lc} {st : List Value} {a j : Nat} {h : Hp} (ht : (h.2.1 a).1 = 20) (hj : j < (h.2.1 a).2) (hb : j < 2147483648) : ex (d) 209 516 L (.int (nI j) :: .ref a :: st) h = ex d 209 517 L (h.1 a j :: st) h := (ex_of d209_516 (d) L (.int (nI j) :: .ref a :: st) h).trans (fin_iaload (Or.inl ht) hj hb)
theorem d209_517 : decode (mB 209) 517 = .ok (.aload_n 0, 1) := by decide +kernel
theorem x209_517 {d : Nat} {l1 l2 l3 : Option Value} {st : List Value} {a : Nat} {h : Hp} : ex (d) 209 517 [some (.ref a), l1, l2, l3] st h = ex d 209 518 [some (.ref a), l1, l2, l3] (.ref a :: st) h := (ex_of d209_517 (d) [some (.ref a), l1, l2, l3] st h).trans (rfl)
theorem d209_518 : decode (mB 209) 518 = .ok (.iload_n 3, 1) := by decide +kernel
theorem x209_518 {d : Nat} {l0 l1 l2 : Option Value} {st : List Value} {x : Int32} {h : Hp} : ex (d) 209 518 [l0, l1, l2, some (.int x)] st h = ex d 209 519 [l0, l1, l2, some (.int x)] (.int x :: st) h := (ex_of d209_518 (d) [l0, l1, l2, some (.int x)] st h).trans (rfl)
theorem d209_519 : decode (mB 209) 519 = .ok (.iconst 2, 1) := by decide +kernel
theorem x209_519 {d : Nat} {L : Lc} {st : List Value} {h : Hp} : ex (d) 209 519 L st h = ex d 209 520 L (.int (nI 2) :: st) h := (ex_of d209_519 (d) L st h).trans (rfl)
theorem d209_520 : decode (mB 209) 520 = .ok (.iadd, 1) := by decide +kernel
theorem x209_520 {d : Nat} {L : Lc} {st : List Value} {x y : Int32} {h : Hp} : ex (d) 209 520 L (.int y :: .int x :: st) h = ex d 209 521 L (.int (x + y) :: st) h := (ex_of d209_520 (d) L (.int y :: .int x :: st) h).trans (rfl)
theorem d209_521 : decode (mB 209) 521 = .ok (.iaload, 1) := by decide +kernel
theorem x209_521 {d : Nat} {L : Lc} {st : List Value} {a j : Nat} {h : Hp} (ht : (h.2.1 a).1 = 20) (hj : j < (h.2.1 a).2) (hb : j < 2147483648) : ex (d) 209 521 L (.int (nI j) :: .ref a :: st) h = ex d 209 522 L (h.1 a j :: st) h := (ex_of d209_521 (d) L (.int (nI j) :: .ref a :: st) h).trans (fin_iaload (Or.inl ht) hj hb)
theorem d209_522 : decode (mB 209) 522 = .ok (.invokevirtual 61, 3) := by decide +kernel
theorem x209_522 {d : Nat} {L : Lc} {a : Nat} {v0 : Int32} {v1 : Int32} {h : Hp} (ht : (h.2.1 a).1 = 10) : ex (d + 1) 209 522 L (.int v1 :: .int v0 :: .ref a :: []) h = bnd (ex d 55 0 [some (.ref a), some (.int v0), some (.int v1), none, none] [] h) (fun v h' => ex (d + 1) 209 525 L (v.toList ++ []) h') := (ex_of d209_522 (d + 1) L (.int v1 :: .int v0 :: .ref a :: []) h).trans (fin_vi (mi := 209) i13_61 ht rfl rfl (by simp [cat1_i, cat1_r]) (by simp) (Nat.le_of_ble_eq_true rfl))
theorem d209_525 : decode (mB 209) 525 = .ok (.aload_n 2, 1) := by decide +kernel
theorem x209_525 {d : Nat} {l0 l1 l3 : Option Value} {st : List Value} {a : Nat} {h : Hp} : ex (d) 209 525 [l0, l1, some (.ref a), l3] st h = ex d 209 526 [l0, l1, some (.ref a), l3] (.ref a :: st) h := (ex_of d209_525 (d) [l0, l1, some (.ref a), l3] st h).trans (rfl)
theorem x209_525n {d : Nat} {l0 l1 l3 : Option Value} {st : List Value} {h : Hp} : ex (d) 209 525 [l0, l1, some .null, l3] st h = ex d 209 526 [l0, l1, some .null, l3] (.null :: st) h := (ex_of d209_525 (d) [l0, l1, some .null, l3] st h).trans (rfl)
theorem x209_525q {d : Nat} {l0 l1 l3 : Option Value} {st : List Value} {a : Option Nat} {h : Hp} : ex (d) 209 525 [l0, l1, some (va_rf a), l3] st h = ex d 209 526 [l0, l1, some (va_rf a), l3] (va_rf a :: st) h := (ex_of d209_525 (d) [l0, l1, some (va_rf a), l3] st h).trans (by cases a <;> rfl)
theorem d209_526 : decode (mB 209) 526 = .ok (.aload_n 0, 1) := by decide +kernel
theorem x209_526 {d : Nat} {l1 l2 l3 : Option Value} {st : List Value} {a : Nat} {h : Hp} : ex (d) 209 526 [some (.ref a), l1, l2, l3] st h = ex d 209 527 [some (.ref a), l1, l2, l3] (.ref a :: st) h := (ex_of d209_526 (d) [some (.ref a), l1, l2, l3] st h).trans (rfl)
theorem d209_527 : decode (mB 209) 527 = .ok (.iload_n 3, 1) := by decide +kernel
theorem x209_527 {d : Nat} {l0 l1 l2 : Option Value} {st : List Value} {x : Int32} {h : Hp} : ex (d) 209 527 [l0, l1, l2, some (.int x)] st h = ex d 209 528 [l0, l1, l2, some (.int x)] (.int x :: st) h := (ex_of d209_527 (d) [l0, l1, l2, some (.int x)] st h).trans (rfl)
theorem d209_528 : decode (mB 209) 528 = .ok (.iconst 1, 1) := by decide +kernel
theorem x209_528 {d : Nat} {L : Lc} {st : List Value} {h : Hp} : ex (d) 209 528 L st h = ex d 209 529 L (.int (nI 1) :: st) h := (ex_of d209_528 (d) L st h).trans (rfl)
theorem d209_529 : decode (mB 209) 529 = .ok (.iadd, 1) := by decide +kernel
theorem x209_529 {d : Nat} {L : Lc} {st : List Value} {x y : Int32} {h : Hp} : ex (d) 209 529 L (.int y :: .int x :: st) h = ex d 209 530 L (.int (x + y) :: st) h := (ex_of d209_529 (d) L (.int y :: .int x :: st) h).trans (rfl)
theorem d209_530 : decode (mB 209) 530 = .ok (.iaload, 1) := by decide +kernel
theorem x209_530 {d : Nat} {L : Lc} {st : List Value} {a j : Nat} {h : Hp} (ht : (h.2.1 a).1 = 20) (hj : j < (h.2.1 a).2) (hb : j < 2147483648) : ex (d) 209 530 L (.int (nI j) :: .ref a :: st) h = ex d 209 531 L (h.1 a j :: st) h := (ex_of d209_530 (d) L (.int (nI j) :: .ref a :: st) h).trans (fin_iaload (Or.inl ht) hj hb)
theorem d209_531 : decode (mB 209) 531 = .ok (.aload_n 0, 1) := by decide +kernel
theorem x209_531 {d : Nat} {l1 l2 l3 : Option Value} {st : List Value} {a : Nat} {h : Hp} : ex (d) 209 531 [some (.ref a), l1, l2, l3] st h = ex d 209 532 [some (.ref a), l1, l2, l3] (.ref a :: st) h := (ex_of d209_531 (d) [some (.ref a), l1, l2, l3] st h).trans (rfl)
theorem d209_532 : decode (mB 209) 532 = .ok (.iload_n 3, 1) := by decide +kernel
theorem x209_532 {d : Nat} {l0 l1 l2 : Option Value} {st : List Value} {x : Int32} {h : Hp} : ex (d) 209 532 [l0, l1, l2, some (.int x)] st h = ex d 209 533 [l0, l1, l2, some (.int x)] (.int x :: st) h := (ex_of d209_532 (d) [l0, l1, l2, some (.int x)] st h).trans (rfl)
theorem d209_533 : decode (mB 209) 533 = .ok (.iconst 2, 1) := by decide +kernel
theorem x209_533 {d : Nat} {L : Lc} {st : List Value} {h : Hp} : ex (d) 209 533 L st h = ex d 209 534 L (.int (nI 2) :: st) h := (ex_of d209_533 (d) L st h).trans (rfl)
theorem d209_534 : decode (mB 209) 534 = .ok (.iadd, 1) := by decide +kernel
theorem x209_534 {d : Nat} {L : Lc} {st : List Value} {x y : Int32} {h : Hp} : ex (d) 209 534 L (.int y :: .int x :: st) h = ex d 209 535 L (.int (x + y) :: st) h := (ex_of d209_534 (d) L (.int y :: .int x :: st) h).trans (rfl)
theorem d209_535 : decode (mB 209) 535 = .ok (.iaload, 1) := by decide +kernel
theorem x209_535 {d : Nat} {L : Lc} {st : List Value} {a j : Nat} {h : Hp} (ht : (h.2.1 a).1 = 20) (hj : j < (h.2.1 a).2) (hb : j < 2147483648) : ex (d) 209 535 L (.int (nI j) :: .ref a :: st) h = ex d 209 536 L (h.1 a j :: st) h := (ex_of d209_535 (d) L (.int (nI j) :: .ref a :: st) h).trans (fin_iaload (Or.inl ht) hj hb)
theorem d209_536 : decode (mB 209) 536 = .ok (.invokevirtual 64, 3) := by decide +kernel
theorem x209_536 {d : Nat} {L : Lc} {s0 : Value} {a : Nat} {v0 : Int32} {v1 : Int32} {h : Hp} (ht : (h.2.1 a).1 = 11) : ex (d + 1) 209 536 L (.int v1 :: .int v0 :: .ref a :: [s0]) h = bnd (ex d 162 0 [some (.ref a), some (.int v0), some (.int v1), none, none, none] [] h) (fun v h' => ex (d + 1) 209 539 L (v.toList ++ [s0]) h') := (ex_of d209_536 (d + 1) L (.int v1 :: .int v0 :: .ref a :: [s0]) h).trans (fin_vi (mi := 209) i13_64 ht rfl rfl (by simp [cat1_i, cat1_r]) (by simp) (Nat.le_of_ble_eq_true rfl))
theorem d209_539 : decode (mB 209) 539 = .ok (.if_icmp .eq 799, 3) := by decide +kernel
theorem x209_539 {d : Nat} {L : Lc} {st : List Value} {x y : Int32} {h : Hp} : ex (d) 209 539 L (.int y :: .int x :: st) h = if x = y then ex d 209 1338 L st h else ex d 209 542 L st h := (ex_of d209_539 (d) L (.int y :: .int x :: st) h).trans (fin_brq (off := 799) (tgt := 1338) rfl (by decide))
theorem d209_542 : decode (mB 209) 542 = .ok (.iconst 0, 1) := by decide +kernel
theorem x209_542 {d : Nat} {L : Lc} {st : List Value} {h : Hp} : ex (d) 209 542 L st h = ex d 209 543 L (.int (nI 0) :: st) h := (ex_of d209_542 (d) L st h).trans (rfl)
theorem d209_543 : decode (mB 209) 543 = .ok (.ireturn, 1) := by decide +kernel
theorem x209_543 {d : Nat} {L : Lc} {x : Int32} {h : Hp} (hx : x = 0 ∨ x = 1) : ex (d) 209 543 L [.int x] h = some (some (.int x), h) := (ex_of d209_543 (d) L [.int x] h).trans (fin_retb rfl hx)
theorem d209_544 : decode (mB 209) 544 = .ok (.aload_n 1, 1) := by decide +kernel
theorem x209_544 {d : Nat} {l0 l2 l3 : Option Value} {st : List Value} {a : Nat} {h : Hp} : ex (d) 209 544 [l0, some (.ref a), l2, l3] st h = ex d 209 545 [l0, some (.ref a), l2, l3] (.ref a :: st) h := (ex_of d209_544 (d) [l0, some (.ref a), l2, l3] st h).trans (rfl)
theorem x209_544n {d : Nat} {l0 l2 l3 : Option Value} {st : List Value} {h : Hp} : ex (d) 209 544 [l0, some .null, l2, l3] st h = ex d 209 545 [l0, some .null, l2, l3] (.null :: st) h := (ex_of d209_544 (d) [l0, some .null, l2, l3] st h).trans (rfl)
theorem x209_544q {d : Nat} {l0 l2 l3 : Option Value} {st : List Value} {a : Option Nat} {h : Hp} : ex (d) 209 544 [l0, some (va_rf a), l2, l3] st h = ex d 209 545 [l0, some (va_rf a), l2, l3] (va_rf a :: st) h := (ex_of d209_544 (d) [l0, some (va_rf a), l2, l3] st h).trans (by cases a <;> rfl)
theorem d209_545 : decode (mB 209) 545 = .ok (.aload_n 0, 1) := by decide +kernel
theorem x209_545 {d : Nat} {l1 l2 l3 : Option Value} {st : List Value} {a : Nat} {h : Hp} : ex (d) 209 545 [some (.ref a), l1, l2, l3] st h = ex d 209 546 [some (.ref a), l1, l2, l3] (.ref a :: st) h := (ex_of d209_545 (d) [some (.ref a), l1, l2, l3] st h).trans (rfl)
theorem d209_546 : decode (mB 209) 546 = .ok (.iload_n 3, 1) := by decide +kernel
theorem x209_546 {d : Nat} {l0 l1 l2 : Option Value} {st : List Value} {x : Int32} {h : Hp} : ex (d) 209 546 [l0, l1, l2, some (.int x)] st h = ex d 209 547 [l0, l1, l2, some (.int x)] (.int x :: st) h := (ex_of d209_546 (d) [l0, l1, l2, some (.int x)] st h).trans (rfl)
theorem d209_547 : decode (mB 209) 547 = .ok (.iconst 1, 1) := by decide +kernel
theorem x209_547 {d : Nat} {L : Lc} {st : List Value} {h : Hp} : ex (d) 209 547 L st h = ex d 209 548 L (.int (nI 1) :: st) h := (ex_of d209_547 (d) L st h).trans (rfl)
theorem d209_548 : decode (mB 209) 548 = .ok (.iadd, 1) := by decide +kernel
theorem x209_548 {d : Nat} {L : Lc} {st : List Value} {x y : Int32} {h : Hp} : ex (d) 209 548 L (.int y :: .int x :: st) h = ex d 209 549 L (.int (x + y) :: st) h := (ex_of d209_548 (d) L (.int y :: .int x :: st) h).trans (rfl)
theorem d209_549 : decode (mB 209) 549 = .ok (.iaload, 1) := by decide +kernel
theorem x209_549 {d : Nat} {L : Lc} {st : List Value} {a j : Nat} {h : Hp} (ht : (h.2.1 a).1 = 20) (hj : j < (h.2.1 a).2) (hb : j < 2147483648) : ex (d) 209 549 L (.int (nI j) :: .ref a :: st) h = ex d 209 550 L (h.1 a j :: st) h := (ex_of d209_549 (d) L (.int (nI j) :: .ref a :: st) h).trans (fin_iaload (Or.inl ht) hj hb)
theorem d209_550 : decode (mB 209) 550 = .ok (.aload_n 0, 1) := by decide +kernel
theorem x209_550 {d : Nat} {l1 l2 l3 : Option Value} {st : List Value} {a : Nat} {h : Hp} : ex (d) 209 550 [some (.ref a), l1, l2, l3] st h = ex d 209 551 [some (.ref a), l1, l2, l3] (.ref a :: st) h := (ex_of d209_550 (d) [some (.ref a), l1, l2, l3] st h).trans (rfl)
theorem d209_551 : decode (mB 209) 551 = .ok (.iload_n 3, 1) := by decide +kernel
theorem x209_551 {d : Nat} {l0 l1 l2 : Option Value} {st : List Value} {x : Int32} {h : Hp} : ex (d) 209 551 [l0, l1, l2, some (.int x)] st h = ex d 209 552 [l0, l1, l2, some (.int x)] (.int x :: st) h := (ex_of d209_551 (d) [l0, l1, l2, some (.int x)] st h).trans (rfl)
theorem d209_552 : decode (mB 209) 552 = .ok (.iconst 2, 1) := by decide +kernel
theorem x209_552 {d : Nat} {L : Lc} {st : List Value} {h : Hp} : ex (d) 209 552 L st h = ex d 209 553 L (.int (nI 2) :: st) h := (ex_of d209_552 (d) L st h).trans (rfl)
theorem d209_553 : decode (mB 209) 553 = .ok (.iadd, 1) := by decide +kernel
theorem x209_553 {d : Nat} {L : Lc} {st : List Value} {x y : Int32} {h : Hp} : ex (d) 209 553 L (.int y :: .int x :: st) h = ex d 209 554 L (.int (x + y) :: st) h := (ex_of d209_553 (d) L (.int y :: .int x :: st) h).trans (rfl)
theorem d209_554 : decode (mB 209) 554 = .ok (.iaload, 1) := by decide +kernel
theorem x209_554 {d : Nat} {L : Lc} {st : List Value} {a j : Nat} {h : Hp} (ht : (h.2.1 a).1 = 20) (hj : j < (h.2.1 a).2) (hb : j < 2147483648) : ex (d) 209 554 L (.int (nI j) :: .ref a :: st) h = ex d 209 555 L (h.1 a j :: st) h := (ex_of d209_554 (d) L (.int (nI j) :: .ref a :: st) h).trans (fin_iaload (Or.inl ht) hj hb)
theorem d209_555 : decode (mB 209) 555 = .ok (.invokevirtual 65, 3) := by decide +kernel
theorem x209_555 {d : Nat} {L : Lc} {a : Nat} {v0 : Int32} {v1 : Int32} {h : Hp} (ht : (h.2.1 a).1 = 10) : ex (d + 1) 209 555 L (.int v1 :: .int v0 :: .ref a :: []) h = bnd (ex d 56 0 [some (.ref a), some (.int v0), some (.int v1), none, none] [] h) (fun v h' => ex (d + 1) 209 558 L (v.toList ++ []) h') := (ex_of d209_555 (d + 1) L (.int v1 :: .int v0 :: .ref a :: []) h).trans (fin_vi (mi := 209) i13_65 ht rfl rfl (by simp [cat1_i, cat1_r]) (by simp) (Nat.le_of_ble_eq_true rfl))
theorem d209_558 : decode (mB 209) 558 = .ok (.aload_n 2, 1) := by decide +kernel
theorem x209_558 {d : Nat} {l0 l1 l3 : Option Value} {st : List Value} {a : Nat} {h : Hp} : ex (d) 209 558 [l0, l1, some (.ref a), l3] st h = ex d 209 559 [l0, l1, some (.ref a), l3] (.ref a :: st) h := (ex_of d209_558 (d) [l0, l1, some (.ref a), l3] st h).trans (rfl)
theorem x209_558n {d : Nat} {l0 l1 l3 : Option Value} {st : List Value} {h : Hp} : ex (d) 209 558 [l0, l1, some .null, l3] st h = ex d 209 559 [l0, l1, some .null, l3] (.null :: st) h := (ex_of d209_558 (d) [l0, l1, some .null, l3] st h).trans (rfl)
theorem x209_558q {d : Nat} {l0 l1 l3 : Option Value} {st : List Value} {a : Option Nat} {h : Hp} : ex (d) 209 558 [l0, l1, some (va_rf a), l3] st h = ex d 209 559 [l0, l1, some (va_rf a), l3] (va_rf a :: st) h := (ex_of d209_558 (d) [l0, l1, some (va_rf a), l3] st h).trans (by cases a <;> rfl)
theorem d209_559 : decode (mB 209) 559 = .ok (.aload_n 0, 1) := by decide +kernel
theorem x209_559 {d : Nat} {l1 l2 l3 : Option Value} {st : List Value} {a : Nat} {h : Hp} : ex (d) 209 559 [some (.ref a), l1, l2, l3] st h = ex d 209 560 [some (.ref a), l1, l2, l3] (.ref a :: st) h := (ex_of d209_559 (d) [some (.ref a), l1, l2, l3] st h).trans (rfl)
theorem d209_560 : decode (mB 209) 560 = .ok (.iload_n 3, 1) := by decide +kernel
theorem x209_560 {d : Nat} {l0 l1 l2 : Option Value} {st : List Value} {x : Int32} {h : Hp} : ex (d) 209 560 [l0, l1, l2, some (.int x)] st h = ex d 209 561 [l0, l1, l2, some (.int x)] (.int x :: st) h := (ex_of d209_560 (d) [l0, l1, l2, some (.int x)] st h).trans (rfl)
theorem d209_561 : decode (mB 209) 561 = .ok (.iconst 1, 1) := by decide +kernel
theorem x209_561 {d : Nat} {L : Lc} {st : List Value} {h : Hp} : ex (d) 209 561 L st h = ex d 209 562 L (.int (nI 1) :: st) h := (ex_of d209_561 (d) L st h).trans (rfl)
theorem d209_562 : decode (mB 209) 562 = .ok (.iadd, 1) := by decide +kernel
theorem x209_562 {d : Nat} {L : Lc} {st : List Value} {x y : Int32} {h : Hp} : ex (d) 209 562 L (.int y :: .int x :: st) h = ex d 209 563 L (.int (x + y) :: st) h := (ex_of d209_562 (d) L (.int y :: .int x :: st) h).trans (rfl)
theorem d209_563 : decode (mB 209) 563 = .ok (.iaload, 1) := by decide +kernel
theorem x209_563 {d : Nat} {L : Lc} {st : List Value} {a j : Nat} {h : Hp} (ht : (h.2.1 a).1 = 20) (hj : j < (h.2.1 a).2) (hb : j < 2147483648) : ex (d) 209 563 L (.int (nI j) :: .ref a :: st) h = ex d 209 564 L (h.1 a j :: st) h := (ex_of d209_563 (d) L (.int (nI j) :: .ref a :: st) h).trans (fin_iaload (Or.inl ht) hj hb)
theorem d209_564 : decode (mB 209) 564 = .ok (.aload_n 0, 1) := by decide +kernel
theorem x209_564 {d : Nat} {l1 l2 l3 : Option Value} {st : List Value} {a : Nat} {h : Hp} : ex (d) 209 564 [some (.ref a), l1, l2, l3] st h = ex d 209 565 [some (.ref a), l1, l2, l3] (.ref a :: st) h := (ex_of d209_564 (d) [some (.ref a), l1, l2, l3] st h).trans (rfl)
theorem d209_565 : decode (mB 209) 565 = .ok (.iload_n 3, 1) := by decide +kernel
theorem x209_565 {d : Nat} {l0 l1 l2 : Option Value} {st : List Value} {x : Int32} {h : Hp} : ex (d) 209 565 [l0, l1, l2, some (.int x)] st h = ex d 209 566 [l0, l1, l2, some (.int x)] (.int x :: st) h := (ex_of d209_565 (d) [l0, l1, l2, some (.int x)] st h).trans (rfl)
theorem d209_566 : decode (mB 209) 566 = .ok (.iconst 2, 1) := by decide +kernel
theorem x209_566 {d : Nat} {L : Lc} {st : List Value} {h : Hp} : ex (d) 209 566 L st h = ex d 209 567 L (.int (nI 2) :: st) h := (ex_of d209_566 (d) L st h).trans (rfl)
theorem d209_567 : decode (mB 209) 567 = .ok (.iadd, 1) := by decide +kernel
theorem x209_567 {d : Nat} {L : Lc} {st : List Value} {x y : Int32} {h : Hp} : ex (d) 209 567 L (.int y :: .int x :: st) h = ex d 209 568 L (.int (x + y) :: st) h := (ex_of d209_567 (d) L (.int y :: .int x :: st) h).trans (rfl)
theorem d209_568 : decode (mB 209) 568 = .ok (.iaload, 1) := by decide +kernel
theorem x209_568 {d : Nat} {L : Lc} {st : List Value} {a j : Nat} {h : Hp} (ht : (h.2.1 a).1 = 20) (hj : j < (h.2.1 a).2) (hb : j < 2147483648) : ex (d) 209 568 L (.int (nI j) :: .ref a :: st) h = ex d 209 569 L (h.1 a j :: st) h := (ex_of d209_568 (d) L (.int (nI j) :: .ref a :: st) h).trans (fin_iaload (Or.inl ht) hj hb)
theorem d209_569 : decode (mB 209) 569 = .ok (.invokevirtual 68, 3) := by decide +kernel
theorem x209_569 {d : Nat} {L : Lc} {s0 : Value} {a : Nat} {v0 : Int32} {v1 : Int32} {h : Hp} (ht : (h.2.1 a).1 = 11) : ex (d + 1) 209 569 L (.int v1 :: .int v0 :: .ref a :: [s0]) h = bnd (ex d 163 0 [some (.ref a), some (.int v0), some (.int v1), none, none] [] h) (fun v h' => ex (d + 1) 209 572 L (v.toList ++ [s0]) h') := (ex_of d209_569 (d + 1) L (.int v1 :: .int v0 :: .ref a :: [s0]) h).trans (fin_vi (mi := 209) i13_68 ht rfl rfl (by simp [cat1_i, cat1_r]) (by simp) (Nat.le_of_ble_eq_true rfl))
theorem d209_572 : decode (mB 209) 572 = .ok (.if_icmp .eq 766, 3) := by decide +kernel
theorem x209_572 {d : Nat} {L : Lc} {st : List Value} {x y : Int32} {h : Hp} : ex (d) 209 572 L (.int y :: .int x :: st) h = if x = y then ex d 209 1338 L st h else ex d 209 575 L st h := (ex_of d209_572 (d) L (.int y :: .int x :: st) h).trans (fin_brq (off := 766) (tgt := 1338) rfl (by decide))
theorem d209_575 : decode (mB 209) 575 = .ok (.iconst 0, 1) := by decide +kernel
theorem x209_575 {d : Nat} {L : Lc} {st : List Value} {h : Hp} : ex (d) 209 575 L st h = ex d 209 576 L (.int (nI 0) :: st) h := (ex_of d209_575 (d) L st h).trans (rfl)
theorem d209_576 : decode (mB 209) 576 = .ok (.ireturn, 1) := by decide +kernel
theorem x209_576 {d : Nat} {L : Lc} {x : Int32} {h : Hp} (hx : x = 0 ∨ x = 1) : ex (d) 209 576 L [.int x] h = some (some (.int x), h) := (ex_of d209_576 (d) L [.int x] h).trans (fin_retb rfl hx)
theorem d209_577 : decode (mB 209) 577 = .ok (.aload_n 1, 1) := by decide +kernel
theorem x209_577 {d : Nat} {l0 l2 l3 : Option Value} {st : List Value} {a : Nat} {h : Hp} : ex (d) 209 577 [l0, some (.ref a), l2, l3] st h = ex d 209 578 [l0, some (.ref a), l2, l3] (.ref a :: st) h := (ex_of d209_577 (d) [l0, some (.ref a), l2, l3] st h).trans (rfl)
theorem x209_577n {d : Nat} {l0 l2 l3 : Option Value} {st : List Value} {h : Hp} : ex (d) 209 577 [l0, some .null, l2, l3] st h = ex d 209 578 [l0, some .null, l2, l3] (.null :: st) h := (ex_of d209_577 (d) [l0, some .null, l2, l3] st h).trans (rfl)
theorem x209_577q {d : Nat} {l0 l2 l3 : Option Value} {st : List Value} {a : Option Nat} {h : Hp} : ex (d) 209 577 [l0, some (va_rf a), l2, l3] st h = ex d 209 578 [l0, some (va_rf a), l2, l3] (va_rf a :: st) h := (ex_of d209_577 (d) [l0, some (va_rf a), l2, l3] st h).trans (by cases a <;> rfl)
theorem d209_578 : decode (mB 209) 578 = .ok (.aload_n 0, 1) := by decide +kernel
theorem x209_578 {d : Nat} {l1 l2 l3 : Option Value} {st : List Value} {a : Nat} {h : Hp} : ex (d) 209 578 [some (.ref a), l1, l2, l3] st h = ex d 209 579 [some (.ref a), l1, l2, l3] (.ref a :: st) h := (ex_of d209_578 (d) [some (.ref a), l1, l2, l3] st h).trans (rfl)
theorem d209_579 : decode (mB 209) 579 = .ok (.iload_n 3, 1) := by decide +kernel
theorem x209_579 {d : Nat} {l0 l1 l2 : Option Value} {st : List Value} {x : Int32} {h : Hp} : ex (d) 209 579 [l0, l1, l2, some (.int x)] st h = ex d 209 580 [l0, l1, l2, some (.int x)] (.int x :: st) h := (ex_of d209_579 (d) [l0, l1, l2, some (.int x)] st h).trans (rfl)
theorem d209_580 : decode (mB 209) 580 = .ok (.iconst 1, 1) := by decide +kernel
theorem x209_580 {d : Nat} {L : Lc} {st : List Value} {h : Hp} : ex (d) 209 580 L st h = ex d 209 581 L (.int (nI 1) :: st) h := (ex_of d209_580 (d) L st h).trans (rfl)
theorem d209_581 : decode (mB 209) 581 = .ok (.iadd, 1) := by decide +kernel
theorem x209_581 {d : Nat} {L : Lc} {st : List Value} {x y : Int32} {h : Hp} : ex (d) 209 581 L (.int y :: .int x :: st) h = ex d 209 582 L (.int (x + y) :: st) h := (ex_of d209_581 (d) L (.int y :: .int x :: st) h).trans (rfl)
theorem d209_582 : decode (mB 209) 582 = .ok (.iaload, 1) := by decide +kernel
theorem x209_582 {d : Nat} {L : Lc} {st : List Value} {a j : Nat} {h : Hp} (ht : (h.2.1 a).1 = 20) (hj : j < (h.2.1 a).2) (hb : j < 2147483648) : ex (d) 209 582 L (.int (nI j) :: .ref a :: st) h = ex d 209 583 L (h.1 a j :: st) h := (ex_of d209_582 (d) L (.int (nI j) :: .ref a :: st) h).trans (fin_iaload (Or.inl ht) hj hb)
theorem d209_583 : decode (mB 209) 583 = .ok (.aload_n 0, 1) := by decide +kernel
theorem x209_583 {d : Nat} {l1 l2 l3 : Option Value} {st : List Value} {a : Nat} {h : Hp} : ex (d) 209 583 [some (.ref a), l1, l2, l3] st h = ex d 209 584 [some (.ref a), l1, l2, l3] (.ref a :: st) h := (ex_of d209_583 (d) [some (.ref a), l1, l2, l3] st h).trans (rfl)
theorem d209_584 : decode (mB 209) 584 = .ok (.iload_n 3, 1) := by decide +kernel
theorem x209_584 {d : Nat} {l0 l1 l2 : Option Value} {st : List Value} {x : Int32} {h : Hp} : ex (d) 209 584 [l0, l1, l2, some (.int x)] st h = ex d 209 585 [l0, l1, l2, some (.int x)] (.int x :: st) h := (ex_of d209_584 (d) [l0, l1, l2, some (.int x)] st h).trans (rfl)
theorem d209_585 : decode (mB 209) 585 = .ok (.iconst 2, 1) := by decide +kernel
theorem x209_585 {d : Nat} {L : Lc} {st : List Value} {h : Hp} : ex (d) 209 585 L st h = ex d 209 586 L (.int (nI 2) :: st) h := (ex_of d209_585 (d) L st h).trans (rfl)
theorem d209_586 : decode (mB 209) 586 = .ok (.iadd, 1) := by decide +kernel
theorem x209_586 {d : Nat} {L : Lc} {st : List Value} {x y : Int32} {h : Hp} : ex (d) 209 586 L (.int y :: .int x :: st) h = ex d 209 587 L (.int (x + y) :: st) h := (ex_of d209_586 (d) L (.int y :: .int x :: st) h).trans (rfl)
theorem d209_587 : decode (mB 209) 587 = .ok (.iaload, 1) := by decide +kernel
theorem x209_587 {d : Nat} {L : Lc} {st : List Value} {a j : Nat} {h : Hp} (ht : (h.2.1 a).1 = 20) (hj : j < (h.2.1 a).2) (hb : j < 2147483648) : ex (d) 209 587 L (.int (nI j) :: .ref a :: st) h = ex d 209 588 L (h.1 a j :: st) h := (ex_of d209_587 (d) L (.int (nI j) :: .ref a :: st) h).trans (fin_iaload (Or.inl ht) hj hb)
theorem d209_588 : decode (mB 209) 588 = .ok (.aload_n 0, 1) := by decide +kernel
theorem x209_588 {d : Nat} {l1 l2 l3 : Option Value} {st : List Value} {a : Nat} {h : Hp} : ex (d) 209 588 [some (.ref a), l1, l2, l3] st h = ex d 209 589 [some (.ref a), l1, l2, l3] (.ref a :: st) h := (ex_of d209_588 (d) [some (.ref a), l1, l2, l3] st h).trans (rfl)
theorem d209_589 : decode (mB 209) 589 = .ok (.iload_n 3, 1) := by decide +kernel
theorem x209_589 {d : Nat} {l0 l1 l2 : Option Value} {st : List Value} {x : Int32} {h : Hp} : ex (d) 209 589 [l0, l1, l2, some (.int x)] st h = ex d 209 590 [l0, l1, l2, some (.int x)] (.int x :: st) h := (ex_of d209_589 (d) [l0, l1, l2, some (.int x)] st h).trans (rfl)
theorem d209_590 : decode (mB 209) 590 = .ok (.iconst 3, 1) := by decide +kernel
theorem x209_590 {d : Nat} {L : Lc} {st : List Value} {h : Hp} : ex (d) 209 590 L st h = ex d 209 591 L (.int (nI 3) :: st) h := (ex_of d209_590 (d) L st h).trans (rfl)
theorem d209_591 : decode (mB 209) 591 = .ok (.iadd, 1) := by decide +kernel
theorem x209_591 {d : Nat} {L : Lc} {st : List Value} {x y : Int32} {h : Hp} : ex (d) 209 591 L (.int y :: .int x :: st) h = ex d 209 592 L (.int (x + y) :: st) h := (ex_of d209_591 (d) L (.int y :: .int x :: st) h).trans (rfl)
theorem d209_592 : decode (mB 209) 592 = .ok (.iaload, 1) := by decide +kernel
theorem x209_592 {d : Nat} {L : Lc} {st : List Value} {a j : Nat} {h : Hp} (ht : (h.2.1 a).1 = 20) (hj : j < (h.2.1 a).2) (hb : j < 2147483648) : ex (d) 209 592 L (.int (nI j) :: .ref a :: st) h = ex d 209 593 L (h.1 a j :: st) h := (ex_of d209_592 (d) L (.int (nI j) :: .ref a :: st) h).trans (fin_iaload (Or.inl ht) hj hb)
theorem d209_593 : decode (mB 209) 593 = .ok (.invokevirtual 69, 3) := by decide +kernel
theorem x209_593 {d : Nat} {L : Lc} {a : Nat} {v0 : Int32} {v1 : Int32} {v2 : Int32} {h : Hp} (ht : (h.2.1 a).1 = 10) : ex (d + 1) 209 593 L (.int v2 :: .int v1 :: .int v0 :: .ref a :: []) h = bnd (ex d 57 0 [some (.ref a), some (.int v0), some (.int v1), some (.int v2), none, none] [] h) (fun v h' => ex (d + 1) 209 596 L (v.toList ++ []) h') := (ex_of d209_593 (d + 1) L (.int v2 :: .int v1 :: .int v0 :: .ref a :: []) h).trans (fin_vi (mi := 209) i13_69 ht rfl rfl (by simp [cat1_i, cat1_r]) (by simp) (Nat.le_of_ble_eq_true rfl))
theorem d209_596 : decode (mB 209) 596 = .ok (.aload_n 2, 1) := by decide +kernel
theorem x209_596 {d : Nat} {l0 l1 l3 : Option Value} {st : List Value} {a : Nat} {h : Hp} : ex (d) 209 596 [l0, l1, some (.ref a), l3] st h = ex d 209 597 [l0, l1, some (.ref a), l3] (.ref a :: st) h := (ex_of d209_596 (d) [l0, l1, some (.ref a), l3] st h).trans (rfl)
theorem x209_596n {d : Nat} {l0 l1 l3 : Option Value} {st : List Value} {h : Hp} : ex (d) 209 596 [l0, l1, some .null, l3] st h = ex d 209 597 [l0, l1, some .null, l3] (.null :: st) h := (ex_of d209_596 (d) [l0, l1, some .null, l3] st h).trans (rfl)
theorem x209_596q {d : Nat} {l0 l1 l3 : Option Value} {st : List Value} {a : Option Nat} {h : Hp} : ex (d) 209 596 [l0, l1, some (va_rf a), l3] st h = ex d 209 597 [l0, l1, some (va_rf a), l3] (va_rf a :: st) h := (ex_of d209_596 (d) [l0, l1, some (va_rf a), l3] st h).trans (by cases a <;> rfl)
theorem d209_597 : decode (mB 209) 597 = .ok (.aload_n 0, 1) := by decide +kernel
theorem x209_597 {d : Nat} {l1 l2 l3 : Option Value} {st : List Value} {a : Nat} {h : Hp} : ex (d) 209 597 [some (.ref a), l1, l2, l3] st h = ex d 209 598 [some (.ref a), l1, l2, l3] (.ref a :: st) h := (ex_of d209_597 (d) [some (.ref a), l1, l2, l3] st h).trans (rfl)
theorem d209_598 : decode (mB 209) 598 = .ok (.iload_n 3, 1) := by decide +kernel
theorem x209_598 {d : Nat} {l0 l1 l2 : Option Value} {st : List Value} {x : Int32} {h : Hp} : ex (d) 209 598 [l0, l1, l2, some (.int x)] st h = ex d 209 599 [l0, l1, l2, some (.int x)] (.int x :: st) h := (ex_of d209_598 (d) [l0, l1, l2, some (.int x)] st h).trans (rfl)
theorem d209_599 : decode (mB 209) 599 = .ok (.iconst 1, 1) := by decide +kernel
theorem x209_599 {d : Nat} {L : Lc} {st : List Value} {h : Hp} : ex (d) 209 599 L st h = ex d 209 600 L (.int (nI 1) :: st) h := (ex_of d209_599 (d) L st h).trans (rfl)
theorem d209_600 : decode (mB 209) 600 = .ok (.iadd, 1) := by decide +kernel
theorem x209_600 {d : Nat} {L : Lc} {st : List Value} {x y : Int32} {h : Hp} : ex (d) 209 600 L (.int y :: .int x :: st) h = ex d 209 601 L (.int (x + y) :: st) h := (ex_of d209_600 (d) L (.int y :: .int x :: st) h).trans (rfl)
theorem d209_601 : decode (mB 209) 601 = .ok (.iaload, 1) := by decide +kernel
theorem x209_601 {d : Nat} {L : Lc} {st : List Value} {a j : Nat} {h : Hp} (ht : (h.2.1 a).1 = 20) (hj : j < (h.2.1 a).2) (hb : j < 2147483648) : ex (d) 209 601 L (.int (nI j) :: .ref a :: st) h = ex d 209 602 L (h.1 a j :: st) h := (ex_of d209_601 (d) L (.int (nI j) :: .ref a :: st) h).trans (fin_iaload (Or.inl ht) hj hb)
theorem d209_602 : decode (mB 209) 602 = .ok (.aload_n 0, 1) := by decide +kernel
theorem x209_602 {d : Nat} {l1 l2 l3 : Option Value} {st : List Value} {a : Nat} {h : Hp} : ex (d) 209 602 [some (.ref a), l1, l2, l3] st h = ex d 209 603 [some (.ref a), l1, l2, l3] (.ref a :: st) h := (ex_of d209_602 (d) [some (.ref a), l1, l2, l3] st h).trans (rfl)
theorem d209_603 : decode (mB 209) 603 = .ok (.iload_n 3, 1) := by decide +kernel
theorem x209_603 {d : Nat} {l0 l1 l2 : Option Value} {st : List Value} {x : Int32} {h : Hp} : ex (d) 209 603 [l0, l1, l2, some (.int x)] st h = ex d 209 604 [l0, l1, l2, some (.int x)] (.int x :: st) h := (ex_of d209_603 (d) [l0, l1, l2, some (.int x)] st h).trans (rfl)
theorem d209_604 : decode (mB 209) 604 = .ok (.iconst 2, 1) := by decide +kernel
theorem x209_604 {d : Nat} {L : Lc} {st : List Value} {h : Hp} : ex (d) 209 604 L st h = ex d 209 605 L (.int (nI 2) :: st) h := (ex_of d209_604 (d) L st h).trans (rfl)
theorem d209_605 : decode (mB 209) 605 = .ok (.iadd, 1) := by decide +kernel
theorem x209_605 {d : Nat} {L : Lc} {st : List Value} {x y : Int32} {h : Hp} : ex (d) 209 605 L (.int y :: .int x :: st) h = ex d 209 606 L (.int (x + y) :: st) h := (ex_of d209_605 (d) L (.int y :: .int x :: st) h).trans (rfl)
theorem d209_606 : decode (mB 209) 606 = .ok (.iaload, 1) := by decide +kernel
theorem x209_606 {d : Nat} {L : Lc} {st : List Value} {a j : Nat} {h : Hp} (ht : (h.2.1 a).1 = 20) (hj : j < (h.2.1 a).2) (hb : j < 2147483648) : ex (d) 209 606 L (.int (nI j) :: .ref a :: st) h = ex d 209 607 L (h.1 a j :: st) h := (ex_of d209_606 (d) L (.int (nI j) :: .ref a :: st) h).trans (fin_iaload (Or.inl ht) hj hb)
theorem d209_607 : decode (mB 209) 607 = .ok (.aload_n 0, 1) := by decide +kernel
theorem x209_607 {d : Nat} {l1 l2 l3 : Option Value} {st : List Value} {a : Nat} {h : Hp} : ex (d) 209 607 [some (.ref a), l1, l2, l3] st h = ex d 209 608 [some (.ref a), l1, l2, l3] (.ref a :: st) h := (ex_of d209_607 (d) [some (.ref a), l1, l2, l3] st h).trans (rfl)
theorem d209_608 : decode (mB 209) 608 = .ok (.iload_n 3, 1) := by decide +kernel
theorem x209_608 {d : Nat} {l0 l1 l2 : Option Value} {st : List Value} {x : Int32} {h : Hp} : ex (d) 209 608 [l0, l1, l2, some (.int x)] st h = ex d 209 609 [l0, l1, l2, some (.int x)] (.int x :: st) h := (ex_of d209_608 (d) [l0, l1, l2, some (.int x)] st h).trans (rfl)
theorem d209_609 : decode (mB 209) 609 = .ok (.iconst 3, 1) := by decide +kernel
theorem x209_609 {d : Nat} {L : Lc} {st : List Value} {h : Hp} : ex (d) 209 609 L st h = ex d 209 610 L (.int (nI 3) :: st) h := (ex_of d209_609 (d) L st h).trans (rfl)
theorem d209_610 : decode (mB 209) 610 = .ok (.iadd, 1) := by decide +kernel
theorem x209_610 {d : Nat} {L : Lc} {st : List Value} {x y : Int32} {h : Hp} : ex (d) 209 610 L (.int y :: .int x :: st) h = ex d 209 611 L (.int (x + y) :: st) h := (ex_of d209_610 (d) L (.int y :: .int x :: st) h).trans (rfl)
theorem d209_611 : decode (mB 209) 611 = .ok (.iaload, 1) := by decide +kernel
theorem x209_611 {d : Nat} {L : Lc} {st : List Value} {a j : Nat} {h : Hp} (ht : (h.2.1 a).1 = 20) (hj : j < (h.2.1 a).2) (hb : j < 2147483648) : ex (d) 209 611 L (.int (nI j) :: .ref a :: st) h = ex d 209 612 L (h.1 a j :: st) h := (ex_of d209_611 (d) L (.int (nI j) :: .ref a :: st) h).trans (fin_iaload (Or.inl ht) hj hb)
theorem d209_612 : decode (mB 209) 612 = .ok (.invokevirtual 72, 3) := by decide +kernel
theorem x209_612 {d : Nat} {L : Lc} {s0 : Value} {a : Nat} {v0 : Int32} {v1 : Int32} {v2 : Int32} {h : Hp} (ht : (h.2.1 a).1 = 11) : ex (d + 1) 209 612 L (.int v2 :: .int v1 :: .int v0 :: .ref a :: [s0]) h = bnd (ex d 168 0 [some (.ref a), some (.int v0), some (.int v1), some (.int v2), none, none, none] [] h) (fun v h' => ex (d + 1) 209 615 L (v.toList ++ [s0]) h') := (ex_of d209_612 (d + 1) L (.int v2 :: .int v1 :: .int v0 :: .ref a :: [s0]) h).trans (fin_vi (mi := 209) i13_72 ht rfl rfl (by simp [cat1_i, cat1_r]) (by simp) (Nat.le_of_ble_eq_true rfl))
theorem d209_615 : decode (mB 209) 615 = .ok (.if_icmp .eq 723, 3) := by decide +kernel
theorem x209_615 {d : Nat} {L : Lc} {st : List Value} {x y : Int32} {h : Hp} : ex (d) 209 615 L (.int y :: .int x :: st) h = if x = y then ex d 209 1338 L st h else ex d 209 618 L st h := (ex_of d209_615 (d) L (.int y :: .int x :: st) h).trans (fin_brq (off := 723) (tgt := 1338) rfl (by decide))
theorem d209_618 : decode (mB 209) 618 = .ok (.iconst 0, 1) := by decide +kernel
theorem x209_618 {d : Nat} {L : Lc} {st : List Value} {h : Hp} : ex (d) 209 618 L st h = ex d 209 619 L (.int (nI 0) :: st) h := (ex_of d209_618 (d) L st h).trans (rfl)
theorem d209_619 : decode (mB 209) 619 = .ok (.ireturn, 1) := by decide +kernel
theorem x209_619 {d : Nat} {L : Lc} {x : Int32} {h : Hp} (hx : x = 0 ∨ x = 1) : ex (d) 209 619 L [.int x] h = some (some (.int x), h) := (ex_of d209_619 (d) L [.int x] h).trans (fin_retb rfl hx)
theorem d209_620 : decode (mB 209) 620 = .ok (.aload_n 1, 1) := by decide +kernel
theorem x209_620 {d : Nat} {l0 l2 l3 : Option Value} {st : List Value} {a : Nat} {h : Hp} : ex (d) 209 620 [l0, some (.ref a), l2, l3] st h = ex d 209 621 [l0, some (.ref a), l2, l3] (.ref a :: st) h := (ex_of d209_620 (d) [l0, some (.ref a), l2, l3] st h).trans (rfl)
theorem x209_620n {d : Nat} {l0 l2 l3 : Option Value} {st : List Value} {h : Hp} : ex (d) 209 620 [l0, some .null, l2, l3] st h = ex d 209 621 [l0, some .null, l2, l3] (.null :: st) h := (ex_of d209_620 (d) [l0, some .null, l2, l3] st h).trans (rfl)
theorem x209_620q {d : Nat} {l0 l2 l3 : Option Value} {st : List Value} {a : Option Nat} {h : Hp} : ex (d) 209 620 [l0, some (va_rf a), l2, l3] st h = ex d 209 621 [l0, some (va_rf a), l2, l3] (va_rf a :: st) h := (ex_of d209_620 (d) [l0, some (va_rf a), l2, l3] st h).trans (by cases a <;> rfl)
theorem d209_621 : decode (mB 209) 621 = .ok (.aload_n 0, 1) := by decide +kernel
theorem x209_621 {d : Nat} {l1 l2 l3 : Option Value} {st : List Value} {a : Nat} {h : Hp} : ex (d) 209 621 [some (.ref a), l1, l2, l3] st h = ex d 209 622 [some (.ref a), l1, l2, l3] (.ref a :: st) h := (ex_of d209_621 (d) [some (.ref a), l1, l2, l3] st h).trans (rfl)
theorem d209_622 : decode (mB 209) 622 = .ok (.iload_n 3, 1) := by decide +kernel
theorem x209_622 {d : Nat} {l0 l1 l2 : Option Value} {st : List Value} {x : Int32} {h : Hp} : ex (d) 209 622 [l0, l1, l2, some (.int x)] st h = ex d 209 623 [l0, l1, l2, some (.int x)] (.int x :: st) h := (ex_of d209_622 (d) [l0, l1, l2, some (.int x)] st h).trans (rfl)
theorem d209_623 : decode (mB 209) 623 = .ok (.iconst 1, 1) := by decide +kernel
theorem x209_623 {d : Nat} {L : Lc} {st : List Value} {h : Hp} : ex (d) 209 623 L st h = ex d 209 624 L (.int (nI 1) :: st) h := (ex_of d209_623 (d) L st h).trans (rfl)
theorem d209_624 : decode (mB 209) 624 = .ok (.iadd, 1) := by decide +kernel
theorem x209_624 {d : Nat} {L : Lc} {st : List Value} {x y : Int32} {h : Hp} : ex (d) 209 624 L (.int y :: .int x :: st) h = ex d 209 625 L (.int (x + y) :: st) h := (ex_of d209_624 (d) L (.int y :: .int x :: st) h).trans (rfl)
theorem d209_625 : decode (mB 209) 625 = .ok (.iaload, 1) := by decide +kernel
theorem x209_625 {d : Nat} {L : Lc} {st : List Value} {a j : Nat} {h : Hp} (ht : (h.2.1 a).1 = 20) (hj : j < (h.2.1 a).2) (hb : j < 2147483648) : ex (d) 209 625 L (.int (nI j) :: .ref a :: st) h = ex d 209 626 L (h.1 a j :: st) h := (ex_of d209_625 (d) L (.int (nI j) :: .ref a :: st) h).trans (fin_iaload (Or.inl ht) hj hb)
theorem d209_626 : decode (mB 209) 626 = .ok (.aload_n 0, 1) := by decide +kernel
theorem x209_626 {d : Nat} {l1 l2 l3 : Option Value} {st : List Value} {a : Nat} {h : Hp} : ex (d) 209 626 [some (.ref a), l1, l2, l3] st h = ex d 209 627 [some (.ref a), l1, l2, l3] (.ref a :: st) h := (ex_of d209_626 (d) [some (.ref a), l1, l2, l3] st h).trans (rfl)
theorem d209_627 : decode (mB 209) 627 = .ok (.iload_n 3, 1) := by decide +kernel
theorem x209_627 {d : Nat} {l0 l1 l2 : Option Value} {st : List Value} {x : Int32} {h : Hp} : ex (d) 209 627 [l0, l1, l2, some (.int x)] st h = ex d 209 628 [l0, l1, l2, some (.int x)] (.int x :: st) h := (ex_of d209_627 (d) [l0, l1, l2, some (.int x)] st h).trans (rfl)
theorem d209_628 : decode (mB 209) 628 = .ok (.iconst 2, 1) := by decide +kernel
theorem x209_628 {d : Nat} {L : Lc} {st : List Value} {h : Hp} : ex (d) 209 628 L st h = ex d 209 629 L (.int (nI 2) :: st) h := (ex_of d209_628 (d) L st h).trans (rfl)
theorem d209_629 : decode (mB 209) 629 = .ok (.iadd, 1) := by decide +kernel
theorem x209_629 {d : Nat} {L : Lc} {st : List Value} {x y : Int32} {h : Hp} : ex (d) 209 629 L (.int y :: .int x :: st) h = ex d 209 630 L (.int (x + y) :: st) h := (ex_of d209_629 (d) L (.int y :: .int x :: st) h).trans (rfl)
theorem d209_630 : decode (mB 209) 630 = .ok (.iaload, 1) := by decide +kernel
theorem x209_630 {d : Nat} {L : Lc} {st : List Value} {a j : Nat} {h : Hp} (ht : (h.2.1 a).1 = 20) (hj : j < (h.2.1 a).2) (hb : j < 2147483648) : ex (d) 209 630 L (.int (nI j) :: .ref a :: st) h = ex d 209 631 L (h.1 a j :: st) h := (ex_of d209_630 (d) L (.int (nI j) :: .ref a :: st) h).trans (fin_iaload (Or.inl ht) hj hb)
theorem d209_631 : decode (mB 209) 631 = .ok (.aload_n 0, 1) := by decide +kernel
theorem x209_631 {d : Nat} {l1 l2 l3 : Option Value} {st : List Value} {a : Nat} {h : Hp} : ex (d) 209 631 [some (.ref a), l1, l2, l3] st h = ex d 209 632 [some (.ref a), l1, l2, l3] (.ref a :: st) h := (ex_of d209_631 (d) [some (.ref a), l1, l2, l3] st h).trans (rfl)
theorem d209_632 : decode (mB 209) 632 = .ok (.iload_n 3, 1) := by decide +kernel
theorem x209_632 {d : Nat} {l0 l1 l2 : Option Value} {st : List Value} {x : Int32} {h : Hp} : ex (d) 209 632 [l0, l1, l2, some (.int x)] st h = ex d 209 633 [l0, l1, l2, some (.int x)] (.int x :: st) h := (ex_of d209_632 (d) [l0, l1, l2, some (.int x)] st h).trans (rfl)
theorem d209_633 : decode (mB 209) 633 = .ok (.iconst 3, 1) := by decide +kernel
theorem x209_633 {d : Nat} {L : Lc} {st : List Value} {h : Hp} : ex (d) 209 633 L st h = ex d 209 634 L (.int (nI 3) :: st) h := (ex_of d209_633 (d) L st h).trans (rfl)
theorem d209_634 : decode (mB 209) 634 = .ok (.iadd, 1) := by decide +kernel
theorem x209_634 {d : Nat} {L : Lc} {st : List Value} {x y : Int32} {h : Hp} : ex (d) 209 634 L (.int y :: .int x :: st) h = ex d 209 635 L (.int (x + y) :: st) h := (ex_of d209_634 (d) L (.int y :: .int x :: st) h).trans (rfl)
theorem d209_635 : decode (mB 209) 635 = .ok (.iaload, 1) := by decide +kernel
theorem x209_635 {d : Nat} {L : Lc} {st : List Value} {a j : Nat} {h : Hp} (ht : (h.2.1 a).1 = 20) (hj : j < (h.2.1 a).2) (hb : j < 2147483648) : ex (d) 209 635 L (.int (nI j) :: .ref a :: st) h = ex d 209 636 L (h.1 a j :: st) h := (ex_of d209_635 (d) L (.int (nI j) :: .ref a :: st) h).trans (fin_iaload (Or.inl ht) hj hb)
theorem d209_636 : decode (mB 209) 636 = .ok (.aload_n 0, 1) := by decide +kernel
theorem x209_636 {d : Nat} {l1 l2 l3 : Option Value} {st : List Value} {a : Nat} {h : Hp} : ex (d) 209 636 [some (.ref a), l1, l2, l3] st h = ex d 209 637 [some (.ref a), l1, l2, l3] (.ref a :: st) h := (ex_of d209_636 (d) [some (.ref a), l1, l2, l3] st h).trans (rfl)
theorem d209_637 : decode (mB 209) 637 = .ok (.iload_n 3, 1) := by decide +kernel
theorem x209_637 {d : Nat} {l0 l1 l2 : Option Value} {st : List Value} {x : Int32} {h : Hp} : ex (d) 209 637 [l0, l1, l2, some (.int x)] st h = ex d 209 638 [l0, l1, l2, some (.int x)] (.int x :: st) h := (ex_of d209_637 (d) [l0, l1, l2, some (.int x)] st h).trans (rfl)
theorem d209_638 : decode (mB 209) 638 = .ok (.iconst 4, 1) := by decide +kernel
theorem x209_638 {d : Nat} {L : Lc} {st : List Value} {h : Hp} : ex (d) 209 638 L st h = ex d 209 639 L (.int (nI 4) :: st) h := (ex_of d209_638 (d) L st h).trans (rfl)
theorem d209_639 : decode (mB 209) 639 = .ok (.iadd, 1) := by decide +kernel
theorem x209_639 {d : Nat} {L : Lc} {st : List Value} {x y : Int32} {h : Hp} : ex (d) 209 639 L (.int y :: .int x :: st) h = ex d 209 640 L (.int (x + y) :: st) h := (ex_of d209_639 (d) L (.int y :: .int x :: st) h).trans (rfl)
theorem d209_640 : decode (mB 209) 640 = .ok (.iaload, 1) := by decide +kernel
theorem x209_640 {d : Nat} {L : Lc} {st : List Value} {a j : Nat} {h : Hp} (ht : (h.2.1 a).1 = 20) (hj : j < (h.2.1 a).2) (hb : j < 2147483648) : ex (d) 209 640 L (.int (nI j) :: .ref a :: st) h = ex d 209 641 L (h.1 a j :: st) h := (ex_of d209_640 (d) L (.int (nI j) :: .ref a :: st) h).trans (fin_iaload (Or.inl ht) hj hb)
theorem d209_641 : decode (mB 209) 641 = .ok (.invokevirtual 73, 3) := by decide +kernel
theorem x209_641 {d : Nat} {L : Lc} {a : Nat} {v0 : Int32} {v1 : Int32} {v2 : Int32} {v3 : Int32} {h : Hp} (ht : (h.2.1 a).1 = 10) : ex (d + 1) 209 641 L (.int v3 :: .int v2 :: .int v1 :: .int v0 :: .ref a :: []) h = bnd (ex d 58 0 [some (.ref a), some (.int v0), some (.int v1), some (.int v2), some (.int v3), none] [] h) (fun v h' => ex (d + 1) 209 644 L (v.toList ++ []) h') := (ex_of d209_641 (d + 1) L (.int v3 :: .int v2 :: .int v1 :: .int v0 :: .ref a :: []) h).trans (fin_vi (mi := 209) i13_73 ht rfl rfl (by simp [cat1_i, cat1_r]) (by simp) (Nat.le_of_ble_eq_true rfl))
theorem d209_644 : decode (mB 209) 644 = .ok (.aload_n 2, 1) := by decide +kernel
theorem x209_644 {d : Nat} {l0 l1 l3 : Option Value} {st : List Value} {a : Nat} {h : Hp} : ex (d) 209 644 [l0, l1, some (.ref a), l3] st h = ex d 209 645 [l0, l1, some (.ref a), l3] (.ref a :: st) h := (ex_of d209_644 (d) [l0, l1, some (.ref a), l3] st h).trans (rfl)
theorem x209_644n {d : Nat} {l0 l1 l3 : Option Value} {st : List Value} {h : Hp} : ex (d) 209 644 [l0, l1, some .null, l3] st h = ex d 209 645 [l0, l1, some .null, l3] (.null :: st) h := (ex_of d209_644 (d) [l0, l1, some .null, l3] st h).trans (rfl)
theorem x209_644q {d : Nat} {l0 l1 l3 : Option Value} {st : List Value} {a : Option Nat} {h : Hp} : ex (d) 209 644 [l0, l1, some (va_rf a), l3] st h = ex d 209 645 [l0, l1, some (va_rf a), l3] (va_rf a :: st) h := (ex_of d209_644 (d) [l0, l1, some (va_rf a), l3] st h).trans (by cases a <;> rfl)
theorem d209_645 : decode (mB 209) 645 = .ok (.aload_n 0, 1) := by decide +kernel
theorem x209_645 {d : Nat} {l1 l2 l3 : Option Value} {st : List Value} {a : Nat} {h : Hp} : ex (d) 209 645 [some (.ref a), l1, l2, l3] st h = ex d 209 646 [some (.ref a), l1, l2, l3] (.ref a :: st) h := (ex_of d209_645 (d) [some (.ref a), l1, l2, l3] st h).trans (rfl)
theorem d209_646 : decode (mB 209) 646 = .ok (.iload_n 3, 1) := by decide +kernel
theorem x209_646 {d : Nat} {l0 l1 l2 : Option Value} {st : List Value} {x : Int32} {h : Hp} : ex (d) 209 646 [l0, l1, l2, some (.int x)] st h = ex d 209 647 [l0, l1, l2, some (.int x)] (.int x :: st) h := (ex_of d209_646 (d) [l0, l1, l2, some (.int x)] st h).trans (rfl)
theorem d209_647 : decode (mB 209) 647 = .ok (.iconst 1, 1) := by decide +kernel
theorem x209_647 {d : Nat} {L : Lc} {st : List Value} {h : Hp} : ex (d) 209 647 L st h = ex d 209 648 L (.int (nI 1) :: st) h := (ex_of d209_647 (d) L st h).trans (rfl)
theorem d209_648 : decode (mB 209) 648 = .ok (.iadd, 1) := by decide +kernel
theorem x209_648 {d : Nat} {L : Lc} {st : List Value} {x y : Int32} {h : Hp} : ex (d) 209 648 L (.int y :: .int x :: st) h = ex d 209 649 L (.int (x + y) :: st) h := (ex_of d209_648 (d) L (.int y :: .int x :: st) h).trans (rfl)
theorem d209_649 : decode (mB 209) 649 = .ok (.iaload, 1) := by decide +kernel
theorem x209_649 {d : Nat} {L : Lc} {st : List Value} {a j : Nat} {h : Hp} (ht : (h.2.1 a).1 = 20) (hj : j < (h.2.1 a).2) (hb : j < 2147483648) : ex (d) 209 649 L (.int (nI j) :: .ref a :: st) h = ex d 209 650 L (h.1 a j :: st) h := (ex_of d209_649 (d) L (.int (nI j) :: .ref a :: st) h).trans (fin_iaload (Or.inl ht) hj hb)
theorem d209_650 : decode (mB 209) 650 = .ok (.aload_n 0, 1) := by decide +kernel
theorem x209_650 {d : Nat} {l1 l2 l3 : Option Value} {st : List Value} {a : Nat} {h : Hp} : ex (d) 209 650 [some (.ref a), l1, l2, l3] st h = ex d 209 651 [some (.ref a), l1, l2, l3] (.ref a :: st) h := (ex_of d209_650 (d) [some (.ref a), l1, l2, l3] st h).trans (rfl)
theorem d209_651 : decode (mB 209) 651 = .ok (.iload_n 3, 1) := by decide +kernel
theorem x209_651 {d : Nat} {l0 l1 l2 : Option Value} {st : List Value} {x : Int32} {h : Hp} : ex (d) 209 651 [l0, l1, l2, some (.int x)] st h = ex d 209 652 [l0, l1, l2, some (.int x)] (.int x :: st) h := (ex_of d209_651 (d) [l0, l1, l2, some (.int x)] st h).trans (rfl)
theorem d209_652 : decode (mB 209) 652 = .ok (.iconst 2, 1) := by decide +kernel
theorem x209_652 {d : Nat} {L : Lc} {st : List Value} {h : Hp} : ex (d) 209 652 L st h = ex d 209 653 L (.int (nI 2) :: st) h := (ex_of d209_652 (d) L st h).trans (rfl)
theorem d209_653 : decode (mB 209) 653 = .ok (.iadd, 1) := by decide +kernel
theorem x209_653 {d : Nat} {L : Lc} {st : List Value} {x y : Int32} {h : Hp} : ex (d) 209 653 L (.int y :: .int x :: st) h = ex d 209 654 L (.int (x + y) :: st) h := (ex_of d209_653 (d) L (.int y :: .int x :: st) h).trans (rfl)
theorem d209_654 : decode (mB 209) 654 = .ok (.iaload, 1) := by decide +kernel
theorem x209_654 {d : Nat} {L : Lc} {st : List Value} {a j : Nat} {h : Hp} (ht : (h.2.1 a).1 = 20) (hj : j < (h.2.1 a).2) (hb : j < 2147483648) : ex (d) 209 654 L (.int (nI j) :: .ref a :: st) h = ex d 209 655 L (h.1 a j :: st) h := (ex_of d209_654 (d) L (.int (nI j) :: .ref a :: st) h).trans (fin_iaload (Or.inl ht) hj hb)
theorem d209_655 : decode (mB 209) 655 = .ok (.aload_n 0, 1) := by decide +kernel
theorem x209_655 {d : Nat} {l1 l2 l3 : Option Value} {st : List Value} {a : Nat} {h : Hp} : ex (d) 209 655 [some (.ref a), l1, l2, l3] st h = ex d 209 656 [some (.ref a), l1, l2, l3] (.ref a :: st) h := (ex_of d209_655 (d) [some (.ref a), l1, l2, l3] st h).trans (rfl)
theorem d209_656 : decode (mB 209) 656 = .ok (.iload_n 3, 1) := by decide +kernel
theorem x209_656 {d : Nat} {l0 l1 l2 : Option Value} {st : List Value} {x : Int32} {h : Hp} : ex (d) 209 656 [l0, l1, l2, some (.int x)] st h = ex d 209 657 [l0, l1, l2, some (.int x)] (.int x :: st) h := (ex_of d209_656 (d) [l0, l1, l2, some (.int x)] st h).trans (rfl)
theorem d209_657 : decode (mB 209) 657 = .ok (.iconst 3, 1) := by decide +kernel
theorem x209_657 {d : Nat} {L : Lc} {st : List Value} {h : Hp} : ex (d) 209 657 L st h = ex d 209 658 L (.int (nI 3) :: st) h := (ex_of d209_657 (d) L st h).trans (rfl)
theorem d209_658 : decode (mB 209) 658 = .ok (.iadd, 1) := by decide +kernel
theorem x209_658 {d : Nat} {L : Lc} {st : List Value} {x y : Int32} {h : Hp} : ex (d) 209 658 L (.int y :: .int x :: st) h = ex d 209 659 L (.int (x + y) :: st) h := (ex_of d209_658 (d) L (.int y :: .int x :: st) h).trans (rfl)
theorem d209_659 : decode (mB 209) 659 = .ok (.iaload, 1) := by decide +kernel
theorem x209_659 {d : Nat} {L : Lc} {st : List Value} {a j : Nat} {h : Hp} (ht : (h.2.1 a).1 = 20) (hj : j < (h.2.1 a).2) (hb : j < 2147483648) : ex (d) 209 659 L (.int (nI j) :: .ref a :: st) h = ex d 209 660 L (h.1 a j :: st) h := (ex_of d209_659 (d) L (.int (nI j) :: .ref a :: st) h).trans (fin_iaload (Or.inl ht) hj hb)
theorem d209_660 : decode (mB 209) 660 = .ok (.aload_n 0, 1) := by decide +kernel
theorem x209_660 {d : Nat} {l1 l2 l3 : Option Value} {st : List Value} {a : Nat} {h : Hp} : ex (d) 209 660 [some (.ref a), l1, l2, l3] st h = ex d 209 661 [some (.ref a), l1, l2, l3] (.ref a :: st) h := (ex_of d209_660 (d) [some (.ref a), l1, l2, l3] st h).trans (rfl)
theorem d209_661 : decode (mB 209) 661 = .ok (.iload_n 3, 1) := by decide +kernel
theorem x209_661 {d : Nat} {l0 l1 l2 : Option Value} {st : List Value} {x : Int32} {h : Hp} : ex (d) 209 661 [l0, l1, l2, some (.int x)] st h = ex d 209 662 [l0, l1, l2, some (.int x)] (.int x :: st) h := (ex_of d209_661 (d) [l0, l1, l2, some (.int x)] st h).trans (rfl)
theorem d209_662 : decode (mB 209) 662 = .ok (.iconst 4, 1) := by decide +kernel
theorem x209_662 {d : Nat} {L : Lc} {st : List Value} {h : Hp} : ex (d) 209 662 L st h = ex d 209 663 L (.int (nI 4) :: st) h := (ex_of d209_662 (d) L st h).trans (rfl)
theorem d209_663 : decode (mB 209) 663 = .ok (.iadd, 1) := by decide +kernel
theorem x209_663 {d : Nat} {L : Lc} {st : List Value} {x y : Int32} {h : Hp} : ex (d) 209 663 L (.int y :: .int x :: st) h = ex d 209 664 L (.int (x + y) :: st) h := (ex_of d209_663 (d) L (.int y :: .int x :: st) h).trans (rfl)
theorem d209_664 : decode (mB 209) 664 = .ok (.iaload, 1) := by decide +kernel
theorem x209_664 {d : Nat} {L : Lc} {st : List Value} {a j : Nat} {h : Hp} (ht : (h.2.1 a).1 = 20) (hj : j < (h.2.1 a).2) (hb : j < 2147483648) : ex (d) 209 664 L (.int (nI j) :: .ref a :: st) h = ex d 209 665 L (h.1 a j :: st) h := (ex_of d209_664 (d) L (.int (nI j) :: .ref a :: st) h).trans (fin_iaload (Or.inl ht) hj hb)
theorem d209_665 : decode (mB 209) 665 = .ok (.invokevirtual 77, 3) := by decide +kernel
theorem x209_665 {d : Nat} {L : Lc} {s0 : Value} {a : Nat} {v0 : Int32} {v1 : Int32} {v2 : Int32} {v3 : Int32} {h : Hp} (ht : (h.2.1 a).1 = 11) : ex (d + 1) 209 665 L (.int v3 :: .int v2 :: .int v1 :: .int v0 :: .ref a :: [s0]) h = bnd (ex d 169 0 [some (.ref a), some (.int v0), some (.int v1), some (.int v2), some (.int v3), none, none] [] h) (fun v h' => ex (d + 1) 209 668 L (v.toList ++ [s0]) h') := (ex_of d209_665 (d + 1) L (.int v3 :: .int v2 :: .int v1 :: .int v0 :: .ref a :: [s0]) h).trans (fin_vi (mi := 209) i13_77 ht rfl rfl (by simp [cat1_i, cat1_r]) (by simp) (Nat.le_of_ble_eq_true rfl))
theorem d209_668 : decode (mB 209) 668 = .ok (.if_icmp .eq 670, 3) := by decide +kernel
theorem x209_668 {d : Nat} {L : Lc} {st : List Value} {x y : Int32} {h : Hp} : ex (d) 209 668 L (.int y :: .int x :: st) h = if x = y then ex d 209 1338 L st h else ex d 209 671 L st h := (ex_of d209_668 (d) L (.int y :: .int x :: st) h).trans (fin_brq (off := 670) (tgt := 1338) rfl (by decide))
theorem d209_671 : decode (mB 209) 671 = .ok (.iconst 0, 1) := by decide +kernel
theorem x209_671 {d : Nat} {L : Lc} {st : List Value} {h : Hp} : ex (d) 209 671 L st h = ex d 209 672 L (.int (nI 0) :: st) h := (ex_of d209_671 (d) L st h).trans (rfl)
theorem d209_672 : decode (mB 209) 672 = .ok (.ireturn, 1) := by decide +kernel
theorem x209_672 {d : Nat} {L : Lc} {x : Int32} {h : Hp} (hx : x = 0 ∨ x = 1) : ex (d) 209 672 L [.int x] h = some (some (.int x), h) := (ex_of d209_672 (d) L [.int x] h).trans (fin_retb rfl hx)
theorem d209_673 : decode (mB 209) 673 = .ok (.aload_n 1, 1) := by decide +kernel
theorem x209_673 {d : Nat} {l0 l2 l3 : Option Value} {st : List Value} {a : Nat} {h : Hp} : ex (d) 209 673 [l0, some (.ref a), l2, l3] st h = ex d 209 674 [l0, some (.ref a), l2, l3] (.ref a :: st) h := (ex_of d209_673 (d) [l0, some (.ref a), l2, l3] st h).trans (rfl)
theorem x209_673n {d : Nat} {l0 l2 l3 : Option Value} {st : List Value} {h : Hp} : ex (d) 209 673 [l0, some .null, l2, l3] st h = ex d 209 674 [l0, some .null, l2, l3] (.null :: st) h := (ex_of d209_673 (d) [l0, some .null, l2, l3] st h).trans (rfl)
theorem x209_673q {d : Nat} {l0 l2 l3 : Option Value} {st : List Value} {a : Option Nat} {h : Hp} : ex (d) 209 673 [l0, some (va_rf a), l2, l3] st h = ex d 209 674 [l0, some (va_rf a), l2, l3] (va_rf a :: st) h := (ex_of d209_673 (d) [l0, some (va_rf a), l2, l3] st h).trans (by cases a <;> rfl)
theorem d209_674 : decode (mB 209) 674 = .ok (.aload_n 0, 1) := by decide +kernel
theorem x209_674 {d : Nat} {l1 l2 l3 : Option Value} {st : List Value} {a : Nat} {h : Hp} : ex (d) 209 674 [some (.ref a), l1, l2, l3] st h = ex d 209 675 [some (.ref a), l1, l2, l3] (.ref a :: st) h := (ex_of d209_674 (d) [some (.ref a), l1, l2, l3] st h).trans (rfl)
theorem d209_675 : decode (mB 209) 675 = .ok (.iload_n 3, 1) := by decide +kernel
theorem x209_675 {d : Nat} {l0 l1 l2 : Option Value} {st : List Value} {x : Int32} {h : Hp} : ex (d) 209 675 [l0, l1, l2, some (.int x)] st h = ex d 209 676 [l0, l1, l2, some (.int x)] (.int x :: st) h := (ex_of d209_675 (d) [l0, l1, l2, some (.int x)] st h).trans (rfl)
theorem d209_676 : decode (mB 209) 676 = .ok (.iconst 1, 1) := by decide +kernel
theorem x209_676 {d : Nat} {L : Lc} {st : List Value} {h : Hp} : ex (d) 209 676 L st h = ex d 209 677 L (.int (nI 1) :: st) h := (ex_of d209_676 (d) L st h).trans (rfl)
theorem d209_677 : decode (mB 209) 677 = .ok (.iadd, 1) := by decide +kernel
theorem x209_677 {d : Nat} {L : Lc} {st : List Value} {x y : Int32} {h : Hp} : ex (d) 209 677 L (.int y :: .int x :: st) h = ex d 209 678 L (.int (x + y) :: st) h := (ex_of d209_677 (d) L (.int y :: .int x :: st) h).trans (rfl)
theorem d209_678 : decode (mB 209) 678 = .ok (.iaload, 1) := by decide +kernel
theorem x209_678 {d : Nat} {L : Lc} {st : List Value} {a j : Nat} {h : Hp} (ht : (h.2.1 a).1 = 20) (hj : j < (h.2.1 a).2) (hb : j < 2147483648) : ex (d) 209 678 L (.int (nI j) :: .ref a :: st) h = ex d 209 679 L (h.1 a j :: st) h := (ex_of d209_678 (d) L (.int (nI j) :: .ref a :: st) h).trans (fin_iaload (Or.inl ht) hj hb)
theorem d209_679 : decode (mB 209) 679 = .ok (.aload_n 0, 1) := by decide +kernel
theorem x209_679 {d : Nat} {l1 l2 l3 : Option Value} {st : List Value} {a : Nat} {h : Hp} : ex (d) 209 679 [some (.ref a), l1, l2, l3] st h = ex d 209 680 [some (.ref a), l1, l2, l3] (.ref a :: st) h := (ex_of d209_679 (d) [some (.ref a), l1, l2, l3] st h).trans (rfl)
theorem d209_680 : decode (mB 209) 680 = .ok (.iload_n 3, 1) := by decide +kernel
theorem x209_680 {d : Nat} {l0 l1 l2 : Option Value} {st : List Value} {x : Int32} {h : Hp} : ex (d) 209 680 [l0, l1, l2, some (.int x)] st h = ex d 209 681 [l0, l1, l2, some (.int x)] (.int x :: st) h := (ex_of d209_680 (d) [l0, l1, l2, some (.int x)] st h).trans (rfl)
theorem d209_681 : decode (mB 209) 681 = .ok (.iconst 2, 1) := by decide +kernel
theorem x209_681 {d : Nat} {L : Lc} {st : List Value} {h : Hp} : ex (d) 209 681 L st h = ex d 209 682 L (.int (nI 2) :: st) h := (ex_of d209_681 (d) L st h).trans (rfl)
theorem d209_682 : decode (mB 209) 682 = .ok (.iadd, 1) := by decide +kernel
theorem x209_682 {d : Nat} {L : Lc} {st : List Value} {x y : Int32} {h : Hp} : ex (d) 209 682 L (.int y :: .int x :: st) h = ex d 209 683 L (.int (x + y) :: st) h := (ex_of d209_682 (d) L (.int y :: .int x :: st) h).trans (rfl)
theorem d209_683 : decode (mB 209) 683 = .ok (.iaload, 1) := by decide +kernel
theorem x209_683 {d : Nat} {L : Lc} {st : List Value} {a j : Nat} {h : Hp} (ht : (h.2.1 a).1 = 20) (hj : j < (h.2.1 a).2) (hb : j < 2147483648) : ex (d) 209 683 L (.int (nI j) :: .ref a :: st) h = ex d 209 684 L (h.1 a j :: st) h := (ex_of d209_683 (d) L (.int (nI j) :: .ref a :: st) h).trans (fin_iaload (Or.inl ht) hj hb)
theorem d209_684 : decode (mB 209) 684 = .ok (.aload_n 0, 1) := by decide +kernel
theorem x209_684 {d : Nat} {l1 l2 l3 : Option Value} {st : List Value} {a : Nat} {h : Hp} : ex (d) 209 684 [some (.ref a), l1, l2, l3] st h = ex d 209 685 [some (.ref a), l1, l2, l3] (.ref a :: st) h := (ex_of d209_684 (d) [some (.ref a), l1, l2, l3] st h).trans (rfl)
theorem d209_685 : decode (mB 209) 685 = .ok (.iload_n 3, 1) := by decide +kernel
theorem x209_685 {d : Nat} {l0 l1 l2 : Option Value} {st : List Value} {x : Int32} {h : Hp} : ex (d) 209 685 [l0, l1, l2, some (.int x)] st h = ex d 209 686 [l0, l1, l2, some (.int x)] (.int x :: st) h := (ex_of d209_685 (d) [l0, l1, l2, some (.int x)] st h).trans (rfl)
theorem d209_686 : decode (mB 209) 686 = .ok (.iconst 3, 1) := by decide +kernel
theorem x209_686 {d : Nat} {L : Lc} {st : List Value} {h : Hp} : ex (d) 209 686 L st h = ex d 209 687 L (.int (nI 3) :: st) h := (ex_of d209_686 (d) L st h).trans (rfl)
theorem d209_687 : decode (mB 209) 687 = .ok (.iadd, 1) := by decide +kernel
theorem x209_687 {d : Nat} {L : Lc} {st : List Value} {x y : Int32} {h : Hp} : ex (d) 209 687 L (.int y :: .int x :: st) h = ex d 209 688 L (.int (x + y) :: st) h := (ex_of d209_687 (d) L (.int y :: .int x :: st) h).trans (rfl)
theorem d209_688 : decode (mB 209) 688 = .ok (.iaload, 1) := by decide +kernel
theorem x209_688 {d : Nat} {L : Lc} {st : List Value} {a j : Nat} {h : Hp} (ht : (h.2.1 a).1 = 20) (hj : j < (h.2.1 a).2) (hb : j < 2147483648) : ex (d) 209 688 L (.int (nI j) :: .ref a :: st) h = ex d 209 689 L (h.1 a j :: st) h := (ex_of d209_688 (d) L (.int (nI j) :: .ref a :: st) h).trans (fin_iaload (Or.inl ht) hj hb)
theorem d209_689 : decode (mB 209) 689 = .ok (.invokevirtual 78, 3) := by decide +kernel
theorem x209_689 {d : Nat} {L : Lc} {a : Nat} {v0 : Int32} {v1 : Int32} {v2 : Int32} {h : Hp} (ht : (h.2.1 a).1 = 10) : ex (d + 1) 209 689 L (.int v2 :: .int v1 :: .int v0 :: .ref a :: []) h = bnd (ex d 59 0 [some (.ref a), some (.int v0), some (.int v1), some (.int v2), none, none] [] h) (fun v h' => ex (d + 1) 209 692 L (v.toList ++ []) h') := (ex_of d209_689 (d + 1) L (.int v2 :: .int v1 :: .int v0 :: .ref a :: []) h).trans (fin_vi (mi := 209) i13_78 ht rfl rfl (by simp [cat1_i, cat1_r]) (by simp) (Nat.le_of_ble_eq_true rfl))
theorem d209_692 : decode (mB 209) 692 = .ok (.aload_n 2, 1) := by decide +kernel
theorem x209_692 {d : Nat} {l0 l1 l3 : Option Value} {st : List Value} {a : Nat} {h : Hp} : ex (d) 209 692 [l0, l1, some (.ref a), l3] st h = ex d 209 693 [l0, l1, some (.ref a), l3] (.ref a :: st) h := (ex_of d209_692 (d) [l0, l1, some (.ref a), l3] st h).trans (rfl)
theorem x209_692n {d : Nat} {l0 l1 l3 : Option Value} {st : List Value} {h : Hp} : ex (d) 209 692 [l0, l1, some .null, l3] st h = ex d 209 693 [l0, l1, some .null, l3] (.null :: st) h := (ex_of d209_692 (d) [l0, l1, some .null, l3] st h).trans (rfl)
theorem x209_692q {d : Nat} {l0 l1 l3 : Option Value} {st : List Value} {a : Option Nat} {h : Hp} : ex (d) 209 692 [l0, l1, some (va_rf a), l3] st h = ex d 209 693 [l0, l1, some (va_rf a), l3] (va_rf a :: st) h := (ex_of d209_692 (d) [l0, l1, some (va_rf a), l3] st h).trans (by cases a <;> rfl)
theorem d209_693 : decode (mB 209) 693 = .ok (.aload_n 0, 1) := by decide +kernel
theorem x209_693 {d : Nat} {l1 l2 l3 : Option Value} {st : List Value} {a : Nat} {h : Hp} : ex (d) 209 693 [some (.ref a), l1, l2, l3] st h = ex d 209 694 [some (.ref a), l1, l2, l3] (.ref a :: st) h := (ex_of d209_693 (d) [some (.ref a), l1, l2, l3] st h).trans (rfl)
theorem d209_694 : decode (mB 209) 694 = .ok (.iload_n 3, 1) := by decide +kernel
theorem x209_694 {d : Nat} {l0 l1 l2 : Option Value} {st : List Value} {x : Int32} {h : Hp} : ex (d) 209 694 [l0, l1, l2, some (.int x)] st h = ex d 209 695 [l0, l1, l2, some (.int x)] (.int x :: st) h := (ex_of d209_694 (d) [l0, l1, l2, some (.int x)] st h).trans (rfl)
theorem d209_695 : decode (mB 209) 695 = .ok (.iconst 1, 1) := by decide +kernel
theorem x209_695 {d : Nat} {L : Lc} {st : List Value} {h : Hp} : ex (d) 209 695 L st h = ex d 209 696 L (.int (nI 1) :: st) h := (ex_of d209_695 (d) L st h).trans (rfl)
theorem d209_696 : decode (mB 209) 696 = .ok (.iadd, 1) := by decide +kernel
theorem x209_696 {d : Nat} {L : Lc} {st : List Value} {x y : Int32} {h : Hp} : ex (d) 209 696 L (.int y :: .int x :: st) h = ex d 209 697 L (.int (x + y) :: st) h := (ex_of d209_696 (d) L (.int y :: .int x :: st) h).trans (rfl)
theorem d209_697 : decode (mB 209) 697 = .ok (.iaload, 1) := by decide +kernel
theorem x209_697 {d : Nat} {L : Lc} {st : List Value} {a j : Nat} {h : Hp} (ht : (h.2.1 a).1 = 20) (hj : j < (h.2.1 a).2) (hb : j < 2147483648) : ex (d) 209 697 L (.int (nI j) :: .ref a :: st) h = ex d 209 698 L (h.1 a j :: st) h := (ex_of d209_697 (d) L (.int (nI j) :: .ref a :: st) h).trans (fin_iaload (Or.inl ht) hj hb)
theorem d209_698 : decode (mB 209) 698 = .ok (.aload_n 0, 1) := by decide +kernel
theorem x209_698 {d : Nat} {l1 l2 l3 : Option Value} {st : List Value} {a : Nat} {h : Hp} : ex (d) 209 698 [some (.ref a), l1, l2, l3] st h = ex d 209 699 [some (.ref a), l1, l2, l3] (.ref a :: st) h := (ex_of d209_698 (d) [some (.ref a), l1, l2, l3] st h).trans (rfl)
theorem d209_699 : decode (mB 209) 699 = .ok (.iload_n 3, 1) := by decide +kernel
theorem x209_699 {d : Nat} {l0 l1 l2 : Option Value} {st : List Value} {x : Int32} {h : Hp} : ex (d) 209 699 [l0, l1, l2, some (.int x)] st h = ex d 209 700 [l0, l1, l2, some (.int x)] (.int x :: st) h := (ex_of d209_699 (d) [l0, l1, l2, some (.int x)] st h).trans (rfl)
theorem d209_700 : decode (mB 209) 700 = .ok (.iconst 2, 1) := by decide +kernel
theorem x209_700 {d : Nat} {L : Lc} {st : List Value} {h : Hp} : ex (d) 209 700 L st h = ex d 209 701 L (.int (nI 2) :: st) h := (ex_of d209_700 (d) L st h).trans (rfl)
theorem d209_701 : decode (mB 209) 701 = .ok (.iadd, 1) := by decide +kernel
theorem x209_701 {d : Nat} {L : Lc} {st : List Value} {x y : Int32} {h : Hp} : ex (d) 209 701 L (.int y :: .int x :: st) h = ex d 209 702 L (.int (x + y) :: st) h := (ex_of d209_701 (d) L (.int y :: .int x :: st) h).trans (rfl)
theorem d209_702 : decode (mB 209) 702 = .ok (.iaload, 1) := by decide +kernel
theorem x209_702 {d : Nat} {L : Lc} {st : List Value} {a j : Nat} {h : Hp} (ht : (h.2.1 a).1 = 20) (hj : j < (h.2.1 a).2) (hb : j < 2147483648) : ex (d) 209 702 L (.int (nI j) :: .ref a :: st) h = ex d 209 703 L (h.1 a j :: st) h := (ex_of d209_702 (d) L (.int (nI j) :: .ref a :: st) h).trans (fin_iaload (Or.inl ht) hj hb)
theorem d209_703 : decode (mB 209) 703 = .ok (.aload_n 0, 1) := by decide +kernel
theorem x209_703 {d : Nat} {l1 l2 l3 : Option Value} {st : List Value} {a : Nat} {h : Hp} : ex (d) 209 703 [some (.ref a), l1, l2, l3] st h = ex d 209 704 [some (.ref a), l1, l2, l3] (.ref a :: st) h := (ex_of d209_703 (d) [some (.ref a), l1, l2, l3] st h).trans (rfl)
theorem d209_704 : decode (mB 209) 704 = .ok (.iload_n 3, 1) := by decide +kernel
theorem x209_704 {d : Nat} {l0 l1 l2 : Option Value} {st : List Value} {x : Int32} {h : Hp} : ex (d) 209 704 [l0, l1, l2, some (.int x)] st h = ex d 209 705 [l0, l1, l2, some (.int x)] (.int x :: st) h := (ex_of d209_704 (d) [l0, l1, l2, some (.int x)] st h).trans (rfl)
theorem d209_705 : decode (mB 209) 705 = .ok (.iconst 3, 1) := by decide +kernel
theorem x209_705 {d : Nat} {L : Lc} {st : List Value} {h : Hp} : ex (d) 209 705 L st h = ex d 209 706 L (.int (nI 3) :: st) h := (ex_of d209_705 (d) L st h).trans (rfl)
theorem d209_706 : decode (mB 209) 706 = .ok (.iadd, 1) := by decide +kernel
theorem x209_706 {d : Nat} {L : Lc} {st : List Value} {x y : Int32} {h : Hp} : ex (d) 209 706 L (.int y :: .int x :: st) h = ex d 209 707 L (.int (x + y) :: st) h := (ex_of d209_706 (d) L (.int y :: .int x :: st) h).trans (rfl)
theorem d209_707 : decode (mB 209) 707 = .ok (.iaload, 1) := by decide +kernel
theorem x209_707 {d : Nat} {L : Lc} {st : List Value} {a j : Nat} {h : Hp} (ht : (h.2.1 a).1 = 20) (hj : j < (h.2.1 a).2) (hb : j < 2147483648) : ex (d) 209 707 L (.int (nI j) :: .ref a :: st) h = ex d 209 708 L (h.1 a j :: st) h := (ex_of d209_707 (d) L (.int (nI j) :: .ref a :: st) h).trans (fin_iaload (Or.inl ht) hj hb)
theorem d209_708 : decode (mB 209) 708 = .ok (.invokevirtual 81, 3) := by decide +kernel
theorem x209_708 {d : Nat} {L : Lc} {s0 : Value} {a : Nat} {v0 : Int32} {v1 : Int32} {v2 : Int32} {h : Hp} (ht : (h.2.1 a).1 = 11) : ex (d + 1) 209 708 L (.int v2 :: .int v1 :: .int v0 :: .ref a :: [s0]) h = bnd (ex d 171 0 [some (.ref a), some (.int v0), some (.int v1), some (.int v2), none, none, none, none, none, none, none, none, none] [] h) (fun v h' => ex (d + 1) 209 711 L (v.toList ++ [s0]) h') := (ex_of d209_708 (d + 1) L (.int v2 :: .int v1 :: .int v0 :: .ref a :: [s0]) h).trans (fin_vi (mi := 209) i13_81 ht rfl rfl (by simp [cat1_i, cat1_r]) (by simp) (Nat.le_of_ble_eq_true rfl))
theorem d209_711 : decode (mB 209) 711 = .ok (.if_icmp .eq 627, 3) := by decide +kernel
theorem x209_711 {d : Nat} {L : Lc} {st : List Value} {x y : Int32} {h : Hp} : ex (d) 209 711 L (.int y :: .int x :: st) h = if x = y then ex d 209 1338 L st h else ex d 209 714 L st h := (ex_of d209_711 (d) L (.int y :: .int x :: st) h).trans (fin_brq (off := 627) (tgt := 1338) rfl (by decide))
theorem d209_714 : decode (mB 209) 714 = .ok (.iconst 0, 1) := by decide +kernel
theorem x209_714 {d : Nat} {L : Lc} {st : List Value} {h : Hp} : ex (d) 209 714 L st h = ex d 209 715 L (.int (nI 0) :: st) h := (ex_of d209_714 (d) L st h).trans (rfl)
theorem d209_715 : decode (mB 209) 715 = .ok (.ireturn, 1) := by decide +kernel
theorem x209_715 {d : Nat} {L : Lc} {x : Int32} {h : Hp} (hx : x = 0 ∨ x = 1) : ex (d) 209 715 L [.int x] h = some (some (.int x), h) := (ex_of d209_715 (d) L [.int x] h).trans (fin_retb rfl hx)
theorem d209_716 : decode (mB 209) 716 = .ok (.aload_n 1, 1) := by decide +kernel
theorem x209_716 {d : Nat} {l0 l2 l3 : Option Value} {st : List Value} {a : Nat} {h : Hp} : ex (d) 209 716 [l0, some (.ref a), l2, l3] st h = ex d 209 717 [l0, some (.ref a), l2, l3] (.ref a :: st) h := (ex_of d209_716 (d) [l0, some (.ref a), l2, l3] st h).trans (rfl)
theorem x209_716n {d : Nat} {l0 l2 l3 : Option Value} {st : List Value} {h : Hp} : ex (d) 209 716 [l0, some .null, l2, l3] st h = ex d 209 717 [l0, some .null, l2, l3] (.null :: st) h := (ex_of d209_716 (d) [l0, some .null, l2, l3] st h).trans (rfl)
theorem x209_716q {d : Nat} {l0 l2 l3 : Option Value} {st : List Value} {a : Option Nat} {h : Hp} : ex (d) 209 716 [l0, some (va_rf a), l2, l3] st h = ex d 209 717 [l0, some (va_rf a), l2, l3] (va_rf a :: st) h := (ex_of d209_716 (d) [l0, some (va_rf a), l2, l3] st h).trans (by cases a <;> rfl)
theorem d209_717 : decode (mB 209) 717 = .ok (.aload_n 0, 1) := by decide +kernel
theorem x209_717 {d : Nat} {l1 l2 l3 : Option Value} {st : List Value} {a : Nat} {h : Hp} : ex (d) 209 717 [some (.ref a), l1, l2, l3] st h = ex d 209 718 [some (.ref a), l1, l2, l3] (.ref a :: st) h := (ex_of d209_717 (d) [some (.ref a), l1, l2, l3] st h).trans (rfl)
theorem d209_718 : decode (mB 209) 718 = .ok (.iload_n 3, 1) := by decide +kernel
theorem x209_718 {d : Nat} {l0 l1 l2 : Option Value} {st : List Value} {x : Int32} {h : Hp} : ex (d) 209 718 [l0, l1, l2, some (.int x)] st h = ex d 209 719 [l0, l1, l2, some (.int x)] (.int x :: st) h := (ex_of d209_718 (d) [l0, l1, l2, some (.int x)] st h).trans (rfl)
theorem d209_719 : decode (mB 209) 719 = .ok (.iconst 1, 1) := by decide +kernel
theorem x209_719 {d : Nat} {L : Lc} {st : List Value} {h : Hp} : ex (d) 209 719 L st h = ex d 209 720 L (.int (nI 1) :: st) h := (ex_of d209_719 (d) L st h).trans (rfl)
theorem d209_720 : decode (mB 209) 720 = .ok (.iadd, 1) := by decide +kernel
theorem x209_720 {d : Nat} {L : Lc} {st : List Value} {x y : Int32} {h : Hp} : ex (d) 209 720 L (.int y :: .int x :: st) h = ex d 209 721 L (.int (x + y) :: st) h := (ex_of d209_720 (d) L (.int y :: .int x :: st) h).trans (rfl)
theorem d209_721 : decode (mB 209) 721 = .ok (.iaload, 1) := by decide +kernel
theorem x209_721 {d : Nat} {L : Lc} {st : List Value} {a j : Nat} {h : Hp} (ht : (h.2.1 a).1 = 20) (hj : j < (h.2.1 a).2) (hb : j < 2147483648) : ex (d) 209 721 L (.int (nI j) :: .ref a :: st) h = ex d 209 722 L (h.1 a j :: st) h := (ex_of d209_721 (d) L (.int (nI j) :: .ref a :: st) h).trans (fin_iaload (Or.inl ht) hj hb)
theorem d209_722 : decode (mB 209) 722 = .ok (.aload_n 0, 1) := by decide +kernel
theorem x209_722 {d : Nat} {l1 l2 l3 : Option Value} {st : List Value} {a : Nat} {h : Hp} : ex (d) 209 722 [some (.ref a), l1, l2, l3] st h = ex d 209 723 [some (.ref a), l1, l2, l3] (.ref a :: st) h := (ex_of d209_722 (d) [some (.ref a), l1, l2, l3] st h).trans (rfl)
theorem d209_723 : decode (mB 209) 723 = .ok (.iload_n 3, 1) := by decide +kernel
theorem x209_723 {d : Nat} {l0 l1 l2 : Option Value} {st : List Value} {x : Int32} {h : Hp} : ex (d) 209 723 [l0, l1, l2, some (.int x)] st h = ex d 209 724 [l0, l1, l2, some (.int x)] (.int x :: st) h := (ex_of d209_723 (d) [l0, l1, l2, some (.int x)] st h).trans (rfl)
theorem d209_724 : decode (mB 209) 724 = .ok (.iconst 2, 1) := by decide +kernel
theorem x209_724 {d : Nat} {L : Lc} {st : List Value} {h : Hp} : ex (d) 209 724 L st h = ex d 209 725 L (.int (nI 2) :: st) h := (ex_of d209_724 (d) L st h).trans (rfl)
theorem d209_725 : decode (mB 209) 725 = .ok (.iadd, 1) := by decide +kernel
theorem x209_725 {d : Nat} {L : Lc} {st : List Value} {x y : Int32} {h : Hp} : ex (d) 209 725 L (.int y :: .int x :: st) h = ex d 209 726 L (.int (x + y) :: st) h := (ex_of d209_725 (d) L (.int y :: .int x :: st) h).trans (rfl)
theorem d209_726 : decode (mB 209) 726 = .ok (.iaload, 1) := by decide +kernel
theorem x209_726 {d : Nat} {L : Lc} {st : List Value} {a j : Nat} {h : Hp} (ht : (h.2.1 a).1 = 20) (hj : j < (h.2.1 a).2) (hb : j < 2147483648) : ex (d) 209 726 L (.int (nI j) :: .ref a :: st) h = ex d 209 727 L (h.1 a j :: st) h := (ex_of d209_726 (d) L (.int (nI j) :: .ref a :: st) h).trans (fin_iaload (Or.inl ht) hj hb)
theorem d209_727 : decode (mB 209) 727 = .ok (.aload_n 0, 1) := by decide +kernel
theorem x209_727 {d : Nat} {l1 l2 l3 : Option Value} {st : List Value} {a : Nat} {h : Hp} : ex (d) 209 727 [some (.ref a), l1, l2, l3] st h = ex d 209 728 [some (.ref a), l1, l2, l3] (.ref a :: st) h := (ex_of d209_727 (d) [some (.ref a), l1, l2, l3] st h).trans (rfl)
theorem d209_728 : decode (mB 209) 728 = .ok (.iload_n 3, 1) := by decide +kernel
theorem x209_728 {d : Nat} {l0 l1 l2 : Option Value} {st : List Value} {x : Int32} {h : Hp} : ex (d) 209 728 [l0, l1, l2, some (.int x)] st h = ex d 209 729 [l0, l1, l2, some (.int x)] (.int x :: st) h := (ex_of d209_728 (d) [l0, l1, l2, some (.int x)] st h).trans (rfl)
theorem d209_729 : decode (mB 209) 729 = .ok (.iconst 3, 1) := by decide +kernel
theorem x209_729 {d : Nat} {L : Lc} {st : List Value} {h : Hp} : ex (d) 209 729 L st h = ex d 209 730 L (.int (nI 3) :: st) h := (ex_of d209_729 (d) L st h).trans (rfl)
theorem d209_730 : decode (mB 209) 730 = .ok (.iadd, 1) := by decide +kernel
theorem x209_730 {d : Nat} {L : Lc} {st : List Value} {x y : Int32} {h : Hp} : ex (d) 209 730 L (.int y :: .int x :: st) h = ex d 209 731 L (.int (x + y) :: st) h := (ex_of d209_730 (d) L (.int y :: .int x :: st) h).trans (rfl)
theorem d209_731 : decode (mB 209) 731 = .ok (.iaload, 1) := by decide +kernel
theorem x209_731 {d : Nat} {L : Lc} {st : List Value} {a j : Nat} {h : Hp} (ht : (h.2.1 a).1 = 20) (hj : j < (h.2.1 a).2) (hb : j < 2147483648) : ex (d) 209 731 L (.int (nI j) :: .ref a :: st) h = ex d 209 732 L (h.1 a j :: st) h := (ex_of d209_731 (d) L (.int (nI j) :: .ref a :: st) h).trans (fin_iaload (Or.inl ht) hj hb)
theorem d209_732 : decode (mB 209) 732 = .ok (.invokevirtual 82, 3) := by decide +kernel
theorem x209_732 {d : Nat} {L : Lc} {a : Nat} {v0 : Int32} {v1 : Int32} {v2 : Int32} {h : Hp} (ht : (h.2.1 a).1 = 10) : ex (d + 1) 209 732 L (.int v2 :: .int v1 :: .int v0 :: .ref a :: []) h = bnd (ex d 60 0 [some (.ref a), some (.int v0), some (.int v1), some (.int v2), none] [] h) (fun v h' => ex (d + 1) 209 735 L (v.toList ++ []) h') := (ex_of d209_732 (d + 1) L (.int v2 :: .int v1 :: .int v0 :: .ref a :: []) h).trans (fin_vi (mi := 209) i13_82 ht rfl rfl (by simp [cat1_i, cat1_r]) (by simp) (Nat.le_of_ble_eq_true rfl))
theorem d209_735 : decode (mB 209) 735 = .ok (.aload_n 2, 1) := by decide +kernel
theorem x209_735 {d : Nat} {l0 l1 l3 : Option Value} {st : List Value} {a : Nat} {h : Hp} : ex (d) 209 735 [l0, l1, some (.ref a), l3] st h = ex d 209 736 [l0, l1, some (.ref a), l3] (.ref a :: st) h := (ex_of d209_735 (d) [l0, l1, some (.ref a), l3] st h).trans (rfl)
theorem x209_735n {d : Nat} {l0 l1 l3 : Option Value} {st : List Value} {h : Hp} : ex (d) 209 735 [l0, l1, some .null, l3] st h = ex d 209 736 [l0, l1, some .null, l3] (.null :: st) h := (ex_of d209_735 (d) [l0, l1, some .null, l3] st h).trans (rfl)
theorem x209_735q {d : Nat} {l0 l1 l3 : Option Value} {st : List Value} {a : Option Nat} {h : Hp} : ex (d) 209 735 [l0, l1, some (va_rf a), l3] st h = ex d 209 736 [l0, l1, some (va_rf a), l3] (va_rf a :: st) h := (ex_of d209_735 (d) [l0, l1, some (va_rf a), l3] st h).trans (by cases a <;> rfl)
theorem d209_736 : decode (mB 209) 736 = .ok (.aload_n 0, 1) := by decide +kernel
theorem x209_736 {d : Nat} {l1 l2 l3 : Option Value} {st : List Value} {a : Nat} {h : Hp} : ex (d) 209 736 [some (.ref a), l1, l2, l3] st h = ex d 209 737 [some (.ref a), l1, l2, l3] (.ref a :: st) h := (ex_of d209_736 (d) [some (.ref a), l1, l2, l3] st h).trans (rfl)
theorem d209_737 : decode (mB 209) 737 = .ok (.iload_n 3, 1) := by decide +kernel
theorem x209_737 {d : Nat} {l0 l1 l2 : Option Value} {st : List Value} {x : Int32} {h : Hp} : ex (d) 209 737 [l0, l1, l2, some (.int x)] st h = ex d 209 738 [l0, l1, l2, some (.int x)] (.int x :: st) h := (ex_of d209_737 (d) [l0, l1, l2, some (.int x)] st h).trans (rfl)
theorem d209_738 : decode (mB 209) 738 = .ok (.iconst 1, 1) := by decide +kernel
theorem x209_738 {d : Nat} {L : Lc} {st : List Value} {h : Hp} : ex (d) 209 738 L st h = ex d 209 739 L (.int (nI 1) :: st) h := (ex_of d209_738 (d) L st h).trans (rfl)
theorem d209_739 : decode (mB 209) 739 = .ok (.iadd, 1) := by decide +kernel
theorem x209_739 {d : Nat} {L : Lc} {st : List Value} {x y : Int32} {h : Hp} : ex (d) 209 739 L (.int y :: .int x :: st) h = ex d 209 740 L (.int (x + y) :: st) h := (ex_of d209_739 (d) L (.int y :: .int x :: st) h).trans (rfl)
theorem d209_740 : decode (mB 209) 740 = .ok (.iaload, 1) := by decide +kernel
theorem x209_740 {d : Nat} {L : Lc} {st : List Value} {a j : Nat} {h : Hp} (ht : (h.2.1 a).1 = 20) (hj : j < (h.2.1 a).2) (hb : j < 2147483648) : ex (d) 209 740 L (.int (nI j) :: .ref a :: st) h = ex d 209 741 L (h.1 a j :: st) h := (ex_of d209_740 (d) L (.int (nI j) :: .ref a :: st) h).trans (fin_iaload (Or.inl ht) hj hb)
theorem d209_741 : decode (mB 209) 741 = .ok (.aload_n 0, 1) := by decide +kernel
theorem x209_741 {d : Nat} {l1 l2 l3 : Option Value} {st : List Value} {a : Nat} {h : Hp} : ex (d) 209 741 [some (.ref a), l1, l2, l3] st h = ex d 209 742 [some (.ref a), l1, l2, l3] (.ref a :: st) h := (ex_of d209_741 (d) [some (.ref a), l1, l2, l3] st h).trans (rfl)
theorem d209_742 : decode (mB 209) 742 = .ok (.iload_n 3, 1) := by decide +kernel
theorem x209_742 {d : Nat} {l0 l1 l2 : Option Value} {st : List Value} {x : Int32} {h : Hp} : ex (d) 209 742 [l0, l1, l2, some (.int x)] st h = ex d 209 743 [l0, l1, l2, some (.int x)] (.int x :: st) h := (ex_of d209_742 (d) [l0, l1, l2, some (.int x)] st h).trans (rfl)
theorem d209_743 : decode (mB 209) 743 = .ok (.iconst 2, 1) := by decide +kernel
theorem x209_743 {d : Nat} {L : Lc} {st : List Value} {h : Hp} : ex (d) 209 743 L st h = ex d 209 744 L (.int (nI 2) :: st) h := (ex_of d209_743 (d) L st h).trans (rfl)
theorem d209_744 : decode (mB 209) 744 = .ok (.iadd, 1) := by decide +kernel
theorem x209_744 {d : Nat} {L : Lc} {st : List Value} {x y : Int32} {h : Hp} : ex (d) 209 744 L (.int y :: .int x :: st) h = ex d 209 745 L (.int (x + y) :: st) h := (ex_of d209_744 (d) L (.int y :: .int x :: st) h).trans (rfl)
theorem d209_745 : decode (mB 209) 745 = .ok (.iaload, 1) := by decide +kernel
theorem x209_745 {d : Nat} {L : Lc} {st : List Value} {a j : Nat} {h : Hp} (ht : (h.2.1 a).1 = 20) (hj : j < (h.2.1 a).2) (hb : j < 2147483648) : ex (d) 209 745 L (.int (nI j) :: .ref a :: st) h = ex d 209 746 L (h.1 a j :: st) h := (ex_of d209_745 (d) L (.int (nI j) :: .ref a :: st) h).trans (fin_iaload (Or.inl ht) hj hb)
theorem d209_746 : decode (mB 209) 746 = .ok (.aload_n 0, 1) := by decide +kernel
theorem x209_746 {d : Nat} {l1 l2 l3 : Option Value} {st : List Value} {a : Nat} {h : Hp} : ex (d) 209 746 [some (.ref a), l1, l2, l3] st h = ex d 209 747 [some (.ref a), l1, l2, l3] (.ref a :: st) h := (ex_of d209_746 (d) [some (.ref a), l1, l2, l3] st h).trans (rfl)
theorem d209_747 : decode (mB 209) 747 = .ok (.iload_n 3, 1) := by decide +kernel
theorem x209_747 {d : Nat} {l0 l1 l2 : Option Value} {st : List Value} {x : Int32} {h : Hp} : ex (d) 209 747 [l0, l1, l2, some (.int x)] st h = ex d 209 748 [l0, l1, l2, some (.int x)] (.int x :: st) h := (ex_of d209_747 (d) [l0, l1, l2, some (.int x)] st h).trans (rfl)
theorem d209_748 : decode (mB 209) 748 = .ok (.iconst 3, 1) := by decide +kernel
theorem x209_748 {d : Nat} {L : Lc} {st : List Value} {h : Hp} : ex (d) 209 748 L st h = ex d 209 749 L (.int (nI 3) :: st) h := (ex_of d209_748 (d) L st h).trans (rfl)
theorem d209_749 : decode (mB 209) 749 = .ok (.iadd, 1) := by decide +kernel
theorem x209_749 {d : Nat} {L : Lc} {st : List Value} {x y : Int32} {h : Hp} : ex (d) 209 749 L (.int y :: .int x :: st) h = ex d 209 750 L (.int (x + y) :: st) h := (ex_of d209_749 (d) L (.int y :: .int x :: st) h).trans (rfl)
theorem d209_750 : decode (mB 209) 750 = .ok (.iaload, 1) := by decide +kernel
theorem x209_750 {d : Nat} {L : Lc} {st : List Value} {a j : Nat} {h : Hp} (ht : (h.2.1 a).1 = 20) (hj : j < (h.2.1 a).2) (hb : j < 2147483648) : ex (d) 209 750 L (.int (nI j) :: .ref a :: st) h = ex d 209 751 L (h.1 a j :: st) h := (ex_of d209_750 (d) L (.int (nI j) :: .ref a :: st) h).trans (fin_iaload (Or.inl ht) hj hb)
theorem d209_751 : decode (mB 209) 751 = .ok (.invokevirtual 85, 3) := by decide +kernel
theorem x209_751 {d : Nat} {L : Lc} {s0 : Value} {a : Nat} {v0 : Int32} {v1 : Int32} {v2 : Int32} {h : Hp} (ht : (h.2.1 a).1 = 11) : ex (d + 1) 209 751 L (.int v2 :: .int v1 :: .int v0 :: .ref a :: [s0]) h = bnd (ex d 172 0 [some (.ref a), some (.int v0), some (.int v1), some (.int v2), none, none] [] h) (fun v h' => ex (d + 1) 209 754 L (v.toList ++ [s0]) h') := (ex_of d209_751 (d + 1) L (.int v2 :: .int v1 :: .int v0 :: .ref a :: [s0]) h).trans (fin_vi (mi := 209) i13_85 ht rfl rfl (by simp [cat1_i, cat1_r]) (by simp) (Nat.le_of_ble_eq_true rfl))
theorem d209_754 : decode (mB 209) 754 = .ok (.if_icmp .eq 584, 3) := by decide +kernel
theorem x209_754 {d : Nat} {L : Lc} {st : List Value} {x y : Int32} {h : Hp} : ex (d) 209 754 L (.int y :: .int x :: st) h = if x = y then ex d 209 1338 L st h else ex d 209 757 L st h := (ex_of d209_754 (d) L (.int y :: .int x :: st) h).trans (fin_brq (off := 584) (tgt := 1338) rfl (by decide))
theorem d209_757 : decode (mB 209) 757 = .ok (.iconst 0, 1) := by decide +kernel
theorem x209_757 {d : Nat} {L : Lc} {st : List Value} {h : Hp} : ex (d) 209 757 L st h = ex d 209 758 L (.int (nI 0) :: st) h := (ex_of d209_757 (d) L st h).trans (rfl)
theorem d209_758 : decode (mB 209) 758 = .ok (.ireturn, 1) := by decide +kernel
theorem x209_758 {d : Nat} {L : Lc} {x : Int32} {h : Hp} (hx : x = 0 ∨ x = 1) : ex (d) 209 758 L [.int x] h = some (some (.int x), h) := (ex_of d209_758 (d) L [.int x] h).trans (fin_retb rfl hx)
theorem d209_759 : decode (mB 209) 759 = .ok (.aload_n 1, 1) := by decide +kernel
theorem x209_759 {d : Nat} {l0 l2 l3 : Option Value} {st : List Value} {a : Nat} {h : Hp} : ex (d) 209 759 [l0, some (.ref a), l2, l3] st h = ex d 209 760 [l0, some (.ref a), l2, l3] (.ref a :: st) h := (ex_of d209_759 (d) [l0, some (.ref a), l2, l3] st h).trans (rfl)
theorem x209_759n {d : Nat} {l0 l2 l3 : Option Value} {st : List Value} {h : Hp} : ex (d) 209 759 [l0, some .null, l2, l3] st h = ex d 209 760 [l0, some .null, l2, l3] (.null :: st) h := (ex_of d209_759 (d) [l0, some .null, l2, l3] st h).trans (rfl)
theorem x209_759q {d : Nat} {l0 l2 l3 : Option Value} {st : List Value} {a : Option Nat} {h : Hp} : ex (d) 209 759 [l0, some (va_rf a), l2, l3] st h = ex d 209 760 [l0, some (va_rf a), l2, l3] (va_rf a :: st) h := (ex_of d209_759 (d) [l0, some (va_rf a), l2, l3] st h).trans (by cases a <;> rfl)
theorem d209_760 : decode (mB 209) 760 = .ok (.invokevirtual 86, 3) := by decide +kernel
theorem x209_760 {d : Nat} {L : Lc} {a : Nat} {h : Hp} (ht : (h.2.1 a).1 = 10) : ex (d + 1) 209 760 L (.ref a :: []) h = bnd (ex d 61 0 [some (.ref a), none] [] h) (fun v h' => ex (d + 1) 209 763 L (v.toList ++ []) h') := (ex_of d209_760 (d + 1) L (.ref a :: []) h).trans (fin_vi (mi := 209) i13_86 ht rfl rfl (by simp [cat1_i, cat1_r]) (by simp) (Nat.le_of_ble_eq_true rfl))
theorem d209_763 : decode (mB 209) 763 = .ok (.aload_n 2, 1) := by decide +kernel
theorem x209_763 {d : Nat} {l0 l1 l3 : Option Value} {st : List Value} {a : Nat} {h : Hp} : ex (d) 209 763 [l0, l1, some (.ref a), l3] st h = ex d 209 764 [l0, l1, some (.ref a), l3] (.ref a :: st) h := (ex_of d209_763 (d) [l0, l1, some (.ref a), l3] st h).trans (rfl)
theorem x209_763n {d : Nat} {l0 l1 l3 : Option Value} {st : List Value} {h : Hp} : ex (d) 209 763 [l0, l1, some .null, l3] st h = ex d 209 764 [l0, l1, some .null, l3] (.null :: st) h := (ex_of d209_763 (d) [l0, l1, some .null, l3] st h).trans (rfl)
theorem x209_763q {d : Nat} {l0 l1 l3 : Option Value} {st : List Value} {a : Option Nat} {h : Hp} : ex (d) 209 763 [l0, l1, some (va_rf a), l3] st h = ex d 209 764 [l0, l1, some (va_rf a), l3] (va_rf a :: st) h := (ex_of d209_763 (d) [l0, l1, some (va_rf a), l3] st h).trans (by cases a <;> rfl)
theorem d209_764 : decode (mB 209) 764 = .ok (.invokevirtual 89, 3) := by decide +kernel
theorem x209_764 {d : Nat} {L : Lc} {s0 : Value} {a : Nat} {h : Hp} (ht : (h.2.1 a).1 = 11) : ex (d + 1) 209 764 L (.ref a :: [s0]) h = bnd (ex d 174 0 [some (.ref a), none] [] h) (fun v h' => ex (d + 1) 209 767 L (v.toList ++ [s0]) h') := (ex_of d209_764 (d + 1) L (.ref a :: [s0]) h).trans (fin_vi (mi := 209) i13_89 ht rfl rfl (by simp [cat1_i, cat1_r]) (by simp) (Nat.le_of_ble_eq_true rfl))
theorem d209_767 : decode (mB 209) 767 = .ok (.if_icmp .eq 571, 3) := by decide +kernel
theorem x209_767 {d : Nat} {L : Lc} {st : List Value} {x y : Int32} {h : Hp} : ex (d) 209 767 L (.int y :: .int x :: st) h = if x = y then ex d 209 1338 L st h else ex d 209 770 L st h := (ex_of d209_767 (d) L (.int y :: .int x :: st) h).trans (fin_brq (off := 571) (tgt := 1338) rfl (by decide))
theorem d209_770 : decode (mB 209) 770 = .ok (.iconst 0, 1) := by decide +kernel
theorem x209_770 {d : Nat} {L : Lc} {st : List Value} {h : Hp} : ex (d) 209 770 L st h = ex d 209 771 L (.int (nI 0) :: st) h := (ex_of d209_770 (d) L st h).trans (rfl)
theorem d209_771 : decode (mB 209) 771 = .ok (.ireturn, 1) := by decide +kernel
theorem x209_771 {d : Nat} {L : Lc} {x : Int32} {h : Hp} (hx : x = 0 ∨ x = 1) : ex (d) 209 771 L [.int x] h = some (some (.int x), h) := (ex_of d209_771 (d) L [.int x] h).trans (fin_retb rfl hx)
theorem d209_772 : decode (mB 209) 772 = .ok (.aload_n 1, 1) := by decide +kernel
theorem x209_772 {d : Nat} {l0 l2 l3 : Option Value} {st : List Value} {a : Nat} {h : Hp} : ex (d) 209 772 [l0, some (.ref a), l2, l3] st h = ex d 209 773 [l0, some (.ref a), l2, l3] (.ref a :: st) h := (ex_of d209_772 (d) [l0, some (.ref a), l2, l3] st h).trans (rfl)
theorem x209_772n {d : Nat} {l0 l2 l3 : Option Value} {st : List Value} {h : Hp} : ex (d) 209 772 [l0, some .null, l2, l3] st h = ex d 209 773 [l0, some .null, l2, l3] (.null :: st) h := (ex_of d209_772 (d) [l0, some .null, l2, l3] st h).trans (rfl)
theorem x209_772q {d : Nat} {l0 l2 l3 : Option Value} {st : List Value} {a : Option Nat} {h : Hp} : ex (d) 209 772 [l0, some (va_rf a), l2, l3] st h = ex d 209 773 [l0, some (va_rf a), l2, l3] (va_rf a :: st) h := (ex_of d209_772 (d) [l0, some (va_rf a), l2, l3] st h).trans (by cases a <;> rfl)
theorem d209_773 : decode (mB 209) 773 = .ok (.aload_n 0, 1) := by decide +kernel
theorem x209_773 {d : Nat} {l1 l2 l3 : Option Value} {st : List Value} {a : Nat} {h : Hp} : ex (d) 209 773 [some (.ref a), l1, l2, l3] st h = ex d 209 774 [some (.ref a), l1, l2, l3] (.ref a :: st) h := (ex_of d209_773 (d) [some (.ref a), l1, l2, l3] st h).trans (rfl)
theorem d209_774 : decode (mB 209) 774 = .ok (.iload_n 3, 1) := by decide +kernel
theorem x209_774 {d : Nat} {l0 l1 l2 : Option Value} {st : List Value} {x : Int32} {h : Hp} : ex (d) 209 774 [l0, l1, l2, some (.int x)] st h = ex d 209 775 [l0, l1, l2, some (.int x)] (.int x :: st) h := (ex_of d209_774 (d) [l0, l1, l2, some (.int x)] st h).trans (rfl)
theorem d209_775 : decode (mB 209) 775 = .ok (.iconst 1, 1) := by decide +kernel
theorem x209_775 {d : Nat} {L : Lc} {st : List Value} {h : Hp} : ex (d) 209 775 L st h = ex d 209 776 L (.int (nI 1) :: st) h := (ex_of d209_775 (d) L st h).trans (rfl)
theorem d209_776 : decode (mB 209) 776 = .ok (.iadd, 1) := by decide +kernel
theorem x209_776 {d : Nat} {L : Lc} {st : List Value} {x y : Int32} {h : Hp} : ex (d) 209 776 L (.int y :: .int x :: st) h = ex d 209 777 L (.int (x + y) :: st) h := (ex_of d209_776 (d) L (.int y :: .int x :: st) h).trans (rfl)
theorem d209_777 : decode (mB 209) 777 = .ok (.iaload, 1) := by decide +kernel
theorem x209_777 {d : Nat} {L : Lc} {st : List Value} {a j : Nat} {h : Hp} (ht : (h.2.1 a).1 = 20) (hj : j < (h.2.1 a).2) (hb : j < 2147483648) : ex (d) 209 777 L (.int (nI j) :: .ref a :: st) h = ex d 209 778 L (h.1 a j :: st) h := (ex_of d209_777 (d) L (.int (nI j) :: .ref a :: st) h).trans (fin_iaload (Or.inl ht) hj hb)
theorem d209_778 : decode (mB 209) 778 = .ok (.aload_n 0, 1) := by decide +kernel
theorem x209_778 {d : Nat} {l1 l2 l3 : Option Value} {st : List Value} {a : Nat} {h : Hp} : ex (d) 209 778 [some (.ref a), l1, l2, l3] st h = ex d 209 779 [some (.ref a), l1, l2, l3] (.ref a :: st) h := (ex_of d209_778 (d) [some (.ref a), l1, l2, l3] st h).trans (rfl)
theorem d209_779 : decode (mB 209) 779 = .ok (.iload_n 3, 1) := by decide +kernel
theorem x209_779 {d : Nat} {l0 l1 l2 : Option Value} {st : List Value} {x : Int32} {h : Hp} : ex (d) 209 779 [l0, l1, l2, some (.int x)] st h = ex d 209 780 [l0, l1, l2, some (.int x)] (.int x :: st) h := (ex_of d209_779 (d) [l0, l1, l2, some (.int x)] st h).trans (rfl)
theorem d209_780 : decode (mB 209) 780 = .ok (.iconst 2, 1) := by decide +kernel
theorem x209_780 {d : Nat} {L : Lc} {st : List Value} {h : Hp} : ex (d) 209 780 L st h = ex d 209 781 L (.int (nI 2) :: st) h := (ex_of d209_780 (d) L st h).trans (rfl)
theorem d209_781 : decode (mB 209) 781 = .ok (.iadd, 1) := by decide +kernel
theorem x209_781 {d : Nat} {L : Lc} {st : List Value} {x y : Int32} {h : Hp} : ex (d) 209 781 L (.int y :: .int x :: st) h = ex d 209 782 L (.int (x + y) :: st) h := (ex_of d209_781 (d) L (.int y :: .int x :: st) h).trans (rfl)
theorem d209_782 : decode (mB 209) 782 = .ok (.iaload, 1) := by decide +kernel
theorem x209_782 {d : Nat} {L : Lc} {st : List Value} {a j : Nat} {h : Hp} (ht : (h.2.1 a).1 = 20) (hj : j < (h.2.1 a).2) (hb : j < 2147483648) : ex (d) 209 782 L (.int (nI j) :: .ref a :: st) h = ex d 209 783 L (h.1 a j :: st) h := (ex_of d209_782 (d) L (.int (nI j) :: .ref a :: st) h).trans (fin_iaload (Or.inl ht) hj hb)
theorem d209_783 : decode (mB 209) 783 = .ok (.aload_n 0, 1) := by decide +kernel
theorem x209_783 {d : Nat} {l1 l2 l3 : Option Value} {st : List Value} {a : Nat} {h : Hp} : ex (d) 209 783 [some (.ref a), l1, l2, l3] st h = ex d 209 784 [some (.ref a), l1, l2, l3] (.ref a :: st) h := (ex_of d209_783 (d) [some (.ref a), l1, l2, l3] st h).trans (rfl)
theorem d209_784 : decode (mB 209) 784 = .ok (.iload_n 3, 1) := by decide +kernel
theorem x209_784 {d : Nat} {l0 l1 l2 : Option Value} {st : List Value} {x : Int32} {h : Hp} : ex (d) 209 784 [l0, l1, l2, some (.int x)] st h = ex d 209 785 [l0, l1, l2, some (.int x)] (.int x :: st) h := (ex_of d209_784 (d) [l0, l1, l2, some (.int x)] st h).trans (rfl)
theorem d209_785 : decode (mB 209) 785 = .ok (.iconst 3, 1) := by decide +kernel
theorem x209_785 {d : Nat} {L : Lc} {st : List Value} {h : Hp} : ex (d) 209 785 L st h = ex d 209 786 L (.int (nI 3) :: st) h := (ex_of d209_785 (d) L st h).trans (rfl)
theorem d209_786 : decode (mB 209) 786 = .ok (.iadd, 1) := by decide +kernel
theorem x209_786 {d : Nat} {L : Lc} {st : List Value} {x y : Int32} {h : Hp} : ex (d) 209 786 L (.int y :: .int x :: st) h = ex d 209 787 L (.int (x + y) :: st) h := (ex_of d209_786 (d) L (.int y :: .int x :: st) h).trans (rfl)
theorem d209_787 : decode (mB 209) 787 = .ok (.iaload, 1) := by decide +kernel
theorem x209_787 {d : Nat} {L : Lc} {st : List Value} {a j : Nat} {h : Hp} (ht : (h.2.1 a).1 = 20) (hj : j < (h.2.1 a).2) (hb : j < 2147483648) : ex (d) 209 787 L (.int (nI j) :: .ref a :: st) h = ex d 209 788 L (h.1 a j :: st) h := (ex_of d209_787 (d) L (.int (nI j) :: .ref a :: st) h).trans (fin_iaload (Or.inl ht) hj hb)
theorem d209_788 : decode (mB 209) 788 = .ok (.invokevirtual 90, 3) := by decide +kernel
theorem x209_788 {d : Nat} {L : Lc} {a : Nat} {v0 : Int32} {v1 : Int32} {v2 : Int32} {h : Hp} (ht : (h.2.1 a).1 = 10) : ex (d + 1) 209 788 L (.int v2 :: .int v1 :: .int v0 :: .ref a :: []) h = bnd (ex d 62 0 [some (.ref a), some (.int v0), some (.int v1), some (.int v2), none] [] h) (fun v h' => ex (d + 1) 209 791 L (v.toList ++ []) h') := (ex_of d209_788 (d + 1) L (.int v2 :: .int v1 :: .int v0 :: .ref a :: []) h).trans (fin_vi (mi := 209) i13_90 ht rfl rfl (by simp [cat1_i, cat1_r]) (by simp) (Nat.le_of_ble_eq_true rfl))
theorem d209_791 : decode (mB 209) 791 = .ok (.aload_n 2, 1) := by decide +kernel
theorem x209_791 {d : Nat} {l0 l1 l3 : Option Value} {st : List Value} {a : Nat} {h : Hp} : ex (d) 209 791 [l0, l1, some (.ref a), l3] st h = ex d 209 792 [l0, l1, some (.ref a), l3] (.ref a :: st) h := (ex_of d209_791 (d) [l0, l1, some (.ref a), l3] st h).trans (rfl)
theorem x209_791n {d : Nat} {l0 l1 l3 : Option Value} {st : List Value} {h : Hp} : ex (d) 209 791 [l0, l1, some .null, l3] st h = ex d 209 792 [l0, l1, some .null, l3] (.null :: st) h := (ex_of d209_791 (d) [l0, l1, some .null, l3] st h).trans (rfl)
theorem x209_791q {d : Nat} {l0 l1 l3 : Option Value} {st : List Value} {a : Option Nat} {h : Hp} : ex (d) 209 791 [l0, l1, some (va_rf a), l3] st h = ex d 209 792 [l0, l1, some (va_rf a), l3] (va_rf a :: st) h := (ex_of d209_791 (d) [l0, l1, some (va_rf a), l3] st h).trans (by cases a <;> rfl)
theorem d209_792 : decode (mB 209) 792 = .ok (.aload_n 0, 1) := by decide +kernel
theorem x209_792 {d : Nat} {l1 l2 l3 : Option Value} {st : List Value} {a : Nat} {h : Hp} : ex (d) 209 792 [some (.ref a), l1, l2, l3] st h = ex d 209 793 [some (.ref a), l1, l2, l3] (.ref a :: st) h := (ex_of d209_792 (d) [some (.ref a), l1, l2, l3] st h).trans (rfl)
theorem d209_793 : decode (mB 209) 793 = .ok (.iload_n 3, 1) := by decide +kernel
theorem x209_793 {d : Nat} {l0 l1 l2 : Option Value} {st : List Value} {x : Int32} {h : Hp} : ex (d) 209 793 [l0, l1, l2, some (.int x)] st h = ex d 209 794 [l0, l1, l2, some (.int x)] (.int x :: st) h := (ex_of d209_793 (d) [l0, l1, l2, some (.int x)] st h).trans (rfl)
theorem d209_794 : decode (mB 209) 794 = .ok (.iconst 1, 1) := by decide +kernel
theorem x209_794 {d : Nat} {L : Lc} {st : List Value} {h : Hp} : ex (d) 209 794 L st h = ex d 209 795 L (.int (nI 1) :: st) h := (ex_of d209_794 (d) L st h).trans (rfl)
theorem d209_795 : decode (mB 209) 795 = .ok (.iadd, 1) := by decide +kernel
theorem x209_795 {d : Nat} {L : Lc} {st : List Value} {x y : Int32} {h : Hp} : ex (d) 209 795 L (.int y :: .int x :: st) h = ex d 209 796 L (.int (x + y) :: st) h := (ex_of d209_795 (d) L (.int y :: .int x :: st) h).trans (rfl)
theorem d209_796 : decode (mB 209) 796 = .ok (.iaload, 1) := by decide +kernel
theorem x209_796 {d : Nat} {L : Lc} {st : List Value} {a j : Nat} {h : Hp} (ht : (h.2.1 a).1 = 20) (hj : j < (h.2.1 a).2) (hb : j < 2147483648) : ex (d) 209 796 L (.int (nI j) :: .ref a :: st) h = ex d 209 797 L (h.1 a j :: st) h := (ex_of d209_796 (d) L (.int (nI j) :: .ref a :: st) h).trans (fin_iaload (Or.inl ht) hj hb)
theorem d209_797 : decode (mB 209) 797 = .ok (.aload_n 0, 1) := by decide +kernel
theorem x209_797 {d : Nat} {l1 l2 l3 : Option Value} {st : List Value} {a : Nat} {h : Hp} : ex (d) 209 797 [some (.ref a), l1, l2, l3] st h = ex d 209 798 [some (.ref a), l1, l2, l3] (.ref a :: st) h := (ex_of d209_797 (d) [some (.ref a), l1, l2, l3] st h).trans (rfl)
theorem d209_798 : decode (mB 209) 798 = .ok (.iload_n 3, 1) := by decide +kernel
theorem x209_798 {d : Nat} {l0 l1 l2 : Option Value} {st : List Value} {x : Int32} {h : Hp} : ex (d) 209 798 [l0, l1, l2, some (.int x)] st h = ex d 209 799 [l0, l1, l2, some (.int x)] (.int x :: st) h := (ex_of d209_798 (d) [l0, l1, l2, some (.int x)] st h).trans (rfl)
theorem d209_799 : decode (mB 209) 799 = .ok (.iconst 2, 1) := by decide +kernel
theorem x209_799 {d : Nat} {L : Lc} {st : List Value} {h : Hp} : ex (d) 209 799 L st h = ex d 209 800 L (.int (nI 2) :: st) h := (ex_of d209_799 (d) L st h).trans (rfl)
theorem d209_800 : decode (mB 209) 800 = .ok (.iadd, 1) := by decide +kernel
theorem x209_800 {d : Nat} {L : Lc} {st : List Value} {x y : Int32} {h : Hp} : ex (d) 209 800 L (.int y :: .int x :: st) h = ex d 209 801 L (.int (x + y) :: st) h := (ex_of d209_800 (d) L (.int y :: .int x :: st) h).trans (rfl)
theorem d209_801 : decode (mB 209) 801 = .ok (.iaload, 1) := by decide +kernel
theorem x209_801 {d : Nat} {L : Lc} {st : List Value} {a j : Nat} {h : Hp} (ht : (h.2.1 a).1 = 20) (hj : j < (h.2.1 a).2) (hb : j < 2147483648) : ex (d) 209 801 L (.int (nI j) :: .ref a :: st) h = ex d 209 802 L (h.1 a j :: st) h := (ex_of d209_801 (d) L (.int (nI j) :: .ref a :: st) h).trans (fin_iaload (Or.inl ht) hj hb)
theorem d209_802 : decode (mB 209) 802 = .ok (.aload_n 0, 1) := by decide +kernel
theorem x209_802 {d : Nat} {l1 l2 l3 : Option Value} {st : List Value} {a : Nat} {h : Hp} : ex (d) 209 802 [some (.ref a), l1, l2, l3] st h = ex d 209 803 [some (.ref a), l1, l2, l3] (.ref a :: st) h := (ex_of d209_802 (d) [some (.ref a), l1, l2, l3] st h).trans (rfl)
theorem d209_803 : decode (mB 209) 803 = .ok (.iload_n 3, 1) := by decide +kernel
theorem x209_803 {d : Nat} {l0 l1 l2 : Option Value} {st : List Value} {x : Int32} {h : Hp} : ex (d) 209 803 [l0, l1, l2, some (.int x)] st h = ex d 209 804 [l0, l1, l2, some (.int x)] (.int x :: st) h := (ex_of d209_803 (d) [l0, l1, l2, some (.int x)] st h).trans (rfl)
theorem d209_804 : decode (mB 209) 804 = .ok (.iconst 3, 1) := by decide +kernel
theorem x209_804 {d : Nat} {L : Lc} {st : List Value} {h : Hp} : ex (d) 209 804 L st h = ex d 209 805 L (.int (nI 3) :: st) h := (ex_of d209_804 (d) L st h).trans (rfl)
theorem d209_805 : decode (mB 209) 805 = .ok (.iadd, 1) := by decide +kernel
theorem x209_805 {d : Nat} {L : Lc} {st : List Value} {x y : Int32} {h : Hp} : ex (d) 209 805 L (.int y :: .int x :: st) h = ex d 209 806 L (.int (x + y) :: st) h := (ex_of d209_805 (d) L (.int y :: .int x :: st) h).trans (rfl)
theorem d209_806 : decode (mB 209) 806 = .ok (.iaload, 1) := by decide +kernel
theorem x209_806 {d : Nat} {L : Lc} {st : List Value} {a j : Nat} {h : Hp} (ht : (h.2.1 a).1 = 20) (hj : j < (h.2.1 a).2) (hb : j < 2147483648) : ex (d) 209 806 L (.int (nI j) :: .ref a :: st) h = ex d 209 807 L (h.1 a j :: st) h := (ex_of d209_806 (d) L (.int (nI j) :: .ref a :: st) h).trans (fin_iaload (Or.inl ht) hj hb)
theorem d209_807 : decode (mB 209) 807 = .ok (.invokevirtual 93, 3) := by decide +kernel
theorem x209_807 {d : Nat} {L : Lc} {s0 : Value} {a : Nat} {v0 : Int32} {v1 : Int32} {v2 : Int32} {h : Hp} (ht : (h.2.1 a).1 = 11) : ex (d + 1) 209 807 L (.int v2 :: .int v1 :: .int v0 :: .ref a :: [s0]) h = bnd (ex d 175 0 [some (.ref a), some (.int v0), some (.int v1), some (.int v2), none] [] h) (fun v h' => ex (d + 1) 209 810 L (v.toList ++ [s0]) h') := (ex_of d209_807 (d + 1) L (.int v2 :: .int v1 :: .int v0 :: .ref a :: [s0]) h).trans (fin_vi (mi := 209) i13_93 ht rfl rfl (by simp [cat1_i, cat1_r]) (by simp) (Nat.le_of_ble_eq_true rfl))
theorem d209_810 : decode (mB 209) 810 = .ok (.if_icmp .eq 528, 3) := by decide +kernel
theorem x209_810 {d : Nat} {L : Lc} {st : List Value} {x y : Int32} {h : Hp} : ex (d) 209 810 L (.int y :: .int x :: st) h = if x = y then ex d 209 1338 L st h else ex d 209 813 L st h := (ex_of d209_810 (d) L (.int y :: .int x :: st) h).trans (fin_brq (off := 528) (tgt := 1338) rfl (by decide))
theorem d209_813 : decode (mB 209) 813 = .ok (.iconst 0, 1) := by decide +kernel
theorem x209_813 {d : Nat} {L : Lc} {st : List Value} {h : Hp} : ex (d) 209 813 L st h = ex d 209 814 L (.int (nI 0) :: st) h := (ex_of d209_813 (d) L st h).trans (rfl)
theorem d209_814 : decode (mB 209) 814 = .ok (.ireturn, 1) := by decide +kernel
theorem x209_814 {d : Nat} {L : Lc} {x : Int32} {h : Hp} (hx : x = 0 ∨ x = 1) : ex (d) 209 814 L [.int x] h = some (some (.int x), h) := (ex_of d209_814 (d) L [.int x] h).trans (fin_retb rfl hx)
theorem d209_815 : decode (mB 209) 815 = .ok (.aload_n 1, 1) := by decide +kernel
theorem x209_815 {d : Nat} {l0 l2 l3 : Option Value} {st : List Value} {a : Nat} {h : Hp} : ex (d) 209 815 [l0, some (.ref a), l2, l3] st h = ex d 209 816 [l0, some (.ref a), l2, l3] (.ref a :: st) h := (ex_of d209_815 (d) [l0, some (.ref a), l2, l3] st h).trans (rfl)
theorem x209_815n {d : Nat} {l0 l2 l3 : Option Value} {st : List Value} {h : Hp} : ex (d) 209 815 [l0, some .null, l2, l3] st h = ex d 209 816 [l0, some .null, l2, l3] (.null :: st) h := (ex_of d209_815 (d) [l0, some .null, l2, l3] st h).trans (rfl)
theorem x209_815q {d : Nat} {l0 l2 l3 : Option Value} {st : List Value} {a : Option Nat} {h : Hp} : ex (d) 209 815 [l0, some (va_rf a), l2, l3] st h = ex d 209 816 [l0, some (va_rf a), l2, l3] (va_rf a :: st) h := (ex_of d209_815 (d) [l0, some (va_rf a), l2, l3] st h).trans (by cases a <;> rfl)
theorem d209_816 : decode (mB 209) 816 = .ok (.aload_n 0, 1) := by decide +kernel
theorem x209_816 {d : Nat} {l1 l2 l3 : Option Value} {st : List Value} {a : Nat} {h : Hp} : ex (d) 209 816 [some (.ref a), l1, l2, l3] st h = ex d 209 817 [some (.ref a), l1, l2, l3] (.ref a :: st) h := (ex_of d209_816 (d) [some (.ref a), l1, l2, l3] st h).trans (rfl)
theorem d209_817 : decode (mB 209) 817 = .ok (.iload_n 3, 1) := by decide +kernel
theorem x209_817 {d : Nat} {l0 l1 l2 : Option Value} {st : List Value} {x : Int32} {h : Hp} : ex (d) 209 817 [l0, l1, l2, some (.int x)] st h = ex d 209 818 [l0, l1, l2, some (.int x)] (.int x :: st) h := (ex_of d209_817 (d) [l0, l1, l2, some (.int x)] st h).trans (rfl)
theorem d209_818 : decode (mB 209) 818 = .ok (.iconst 1, 1) := by decide +kernel
theorem x209_818 {d : Nat} {L : Lc} {st : List Value} {h : Hp} : ex (d) 209 818 L st h = ex d 209 819 L (.int (nI 1) :: st) h := (ex_of d209_818 (d) L st h).trans (rfl)
theorem d209_819 : decode (mB 209) 819 = .ok (.iadd, 1) := by decide +kernel
theorem x209_819 {d : Nat} {L : Lc} {st : List Value} {x y : Int32} {h : Hp} : ex (d) 209 819 L (.int y :: .int x :: st) h = ex d 209 820 L (.int (x + y) :: st) h := (ex_of d209_819 (d) L (.int y :: .int x :: st) h).trans (rfl)
theorem d209_820 : decode (mB 209) 820 = .ok (.iaload, 1) := by decide +kernel
theorem x209_820 {d : Nat} {L : Lc} {st : List Value} {a j : Nat} {h : Hp} (ht : (h.2.1 a).1 = 20) (hj : j < (h.2.1 a).2) (hb : j < 2147483648) : ex (d) 209 820 L (.int (nI j) :: .ref a :: st) h = ex d 209 821 L (h.1 a j :: st) h := (ex_of d209_820 (d) L (.int (nI j) :: .ref a :: st) h).trans (fin_iaload (Or.inl ht) hj hb)
theorem d209_821 : decode (mB 209) 821 = .ok (.aload_n 0, 1) := by decide +kernel
theorem x209_821 {d : Nat} {l1 l2 l3 : Option Value} {st : List Value} {a : Nat} {h : Hp} : ex (d) 209 821 [some (.ref a), l1, l2, l3] st h = ex d 209 822 [some (.ref a), l1, l2, l3] (.ref a :: st) h := (ex_of d209_821 (d) [some (.ref a), l1, l2, l3] st h).trans (rfl)
theorem d209_822 : decode (mB 209) 822 = .ok (.iload_n 3, 1) := by decide +kernel
theorem x209_822 {d : Nat} {l0 l1 l2 : Option Value} {st : List Value} {x : Int32} {h : Hp} : ex (d) 209 822 [l0, l1, l2, some (.int x)] st h = ex d 209 823 [l0, l1, l2, some (.int x)] (.int x :: st) h := (ex_of d209_822 (d) [l0, l1, l2, some (.int x)] st h).trans (rfl)
theorem d209_823 : decode (mB 209) 823 = .ok (.iconst 2, 1) := by decide +kernel
theorem x209_823 {d : Nat} {L : Lc} {st : List Value} {h : Hp} : ex (d) 209 823 L st h = ex d 209 824 L (.int (nI 2) :: st) h := (ex_of d209_823 (d) L st h).trans (rfl)
theorem d209_824 : decode (mB 209) 824 = .ok (.iadd, 1) := by decide +kernel
theorem x209_824 {d : Nat} {L : Lc} {st : List Value} {x y : Int32} {h : Hp} : ex (d) 209 824 L (.int y :: .int x :: st) h = ex d 209 825 L (.int (x + y) :: st) h := (ex_of d209_824 (d) L (.int y :: .int x :: st) h).trans (rfl)
theorem d209_825 : decode (mB 209) 825 = .ok (.iaload, 1) := by decide +kernel
theorem x209_825 {d : Nat} {L : Lc} {st : List Value} {a j : Nat} {h : Hp} (ht : (h.2.1 a).1 = 20) (hj : j < (h.2.1 a).2) (hb : j < 2147483648) : ex (d) 209 825 L (.int (nI j) :: .ref a :: st) h = ex d 209 826 L (h.1 a j :: st) h := (ex_of d209_825 (d) L (.int (nI j) :: .ref a :: st) h).trans (fin_iaload (Or.inl ht) hj hb)
theorem d209_826 : decode (mB 209) 826 = .ok (.invokevirtual 94, 3) := by decide +kernel
theorem x209_826 {d : Nat} {L : Lc} {a : Nat} {v0 : Int32} {v1 : Int32} {h : Hp} (ht : (h.2.1 a).1 = 10) : ex (d + 1) 209 826 L (.int v1 :: .int v0 :: .ref a :: []) h = bnd (ex d 63 0 [some (.ref a), some (.int v0), some (.int v1), none, none] [] h) (fun v h' => ex (d + 1) 209 829 L (v.toList ++ []) h') := (ex_of d209_826 (d + 1) L (.int v1 :: .int v0 :: .ref a :: []) h).trans (fin_vi (mi := 209) i13_94 ht rfl rfl (by simp [cat1_i, cat1_r]) (by simp) (Nat.le_of_ble_eq_true rfl))
theorem d209_829 : decode (mB 209) 829 = .ok (.aload_n 2, 1) := by decide +kernel
theorem x209_829 {d : Nat} {l0 l1 l3 : Option Value} {st : List Value} {a : Nat} {h : Hp} : ex (d) 209 829 [l0, l1, some (.ref a), l3] st h = ex d 209 830 [l0, l1, some (.ref a), l3] (.ref a :: st) h := (ex_of d209_829 (d) [l0, l1, some (.ref a), l3] st h).trans (rfl)
theorem x209_829n {d : Nat} {l0 l1 l3 : Option Value} {st : List Value} {h : Hp} : ex (d) 209 829 [l0, l1, some .null, l3] st h = ex d 209 830 [l0, l1, some .null, l3] (.null :: st) h := (ex_of d209_829 (d) [l0, l1, some .null, l3] st h).trans (rfl)
theorem x209_829q {d : Nat} {l0 l1 l3 : Option Value} {st : List Value} {a : Option Nat} {h : Hp} : ex (d) 209 829 [l0, l1, some (va_rf a), l3] st h = ex d 209 830 [l0, l1, some (va_rf a), l3] (va_rf a :: st) h := (ex_of d209_829 (d) [l0, l1, some (va_rf a), l3] st h).trans (by cases a <;> rfl)
theorem d209_830 : decode (mB 209) 830 = .ok (.aload_n 0, 1) := by decide +kernel
theorem x209_830 {d : Nat} {l1 l2 l3 : Option Value} {st : List Value} {a : Nat} {h : Hp} : ex (d) 209 830 [some (.ref a), l1, l2, l3] st h = ex d 209 831 [some (.ref a), l1, l2, l3] (.ref a :: st) h := (ex_of d209_830 (d) [some (.ref a), l1, l2, l3] st h).trans (rfl)
theorem d209_831 : decode (mB 209) 831 = .ok (.iload_n 3, 1) := by decide +kernel
theorem x209_831 {d : Nat} {l0 l1 l2 : Option Value} {st : List Value} {x : Int32} {h : Hp} : ex (d) 209 831 [l0, l1, l2, some (.int x)] st h = ex d 209 832 [l0, l1, l2, some (.int x)] (.int x :: st) h := (ex_of d209_831 (d) [l0, l1, l2, some (.int x)] st h).trans (rfl)
theorem d209_832 : decode (mB 209) 832 = .ok (.iconst 1, 1) := by decide +kernel
theorem x209_832 {d : Nat} {L : Lc} {st : List Value} {h : Hp} : ex (d) 209 832 L st h = ex d 209 833 L (.int (nI 1) :: st) h := (ex_of d209_832 (d) L st h).trans (rfl)
theorem d209_833 : decode (mB 209) 833 = .ok (.iadd, 1) := by decide +kernel
theorem x209_833 {d : Nat} {L : Lc} {st : List Value} {x y : Int32} {h : Hp} : ex (d) 209 833 L (.int y :: .int x :: st) h = ex d 209 834 L (.int (x + y) :: st) h := (ex_of d209_833 (d) L (.int y :: .int x :: st) h).trans (rfl)
theorem d209_834 : decode (mB 209) 834 = .ok (.iaload, 1) := by decide +kernel
theorem x209_834 {d : Nat} {L : Lc} {st : List Value} {a j : Nat} {h : Hp} (ht : (h.2.1 a).1 = 20) (hj : j < (h.2.1 a).2) (hb : j < 2147483648) : ex (d) 209 834 L (.int (nI j) :: .ref a :: st) h = ex d 209 835 L (h.1 a j :: st) h := (ex_of d209_834 (d) L (.int (nI j) :: .ref a :: st) h).trans (fin_iaload (Or.inl ht) hj hb)
theorem d209_835 : decode (mB 209) 835 = .ok (.aload_n 0, 1) := by decide +kernel
theorem x209_835 {d : Nat} {l1 l2 l3 : Option Value} {st : List Value} {a : Nat} {h : Hp} : ex (d) 209 835 [some (.ref a), l1, l2, l3] st h = ex d 209 836 [some (.ref a), l1, l2, l3] (.ref a :: st) h := (ex_of d209_835 (d) [some (.ref a), l1, l2, l3] st h).trans (rfl)
theorem d209_836 : decode (mB 209) 836 = .ok (.iload_n 3, 1) := by decide +kernel
theorem x209_836 {d : Nat} {l0 l1 l2 : Option Value} {st : List Value} {x : Int32} {h : Hp} : ex (d) 209 836 [l0, l1, l2, some (.int x)] st h = ex d 209 837 [l0, l1, l2, some (.int x)] (.int x :: st) h := (ex_of d209_836 (d) [l0, l1, l2, some (.int x)] st h).trans (rfl)
theorem d209_837 : decode (mB 209) 837 = .ok (.iconst 2, 1) := by decide +kernel
theorem x209_837 {d : Nat} {L : Lc} {st : List Value} {h : Hp} : ex (d) 209 837 L st h = ex d 209 838 L (.int (nI 2) :: st) h := (ex_of d209_837 (d) L st h).trans (rfl)
theorem d209_838 : decode (mB 209) 838 = .ok (.iadd, 1) := by decide +kernel
theorem x209_838 {d : Nat} {L : Lc} {st : List Value} {x y : Int32} {h : Hp} : ex (d) 209 838 L (.int y :: .int x :: st) h = ex d 209 839 L (.int (x + y) :: st) h := (ex_of d209_838 (d) L (.int y :: .int x :: st) h).trans (rfl)
theorem d209_839 : decode (mB 209) 839 = .ok (.iaload, 1) := by decide +kernel
theorem x209_839 {d : Nat} {L : Lc} {st : List Value} {a j : Nat} {h : Hp} (ht : (h.2.1 a).1 = 20) (hj : j < (h.2.1 a).2) (hb : j < 2147483648) : ex (d) 209 839 L (.int (nI j) :: .ref a :: st) h = ex d 209 840 L (h.1 a j :: st) h := (ex_of d209_839 (d) L (.int (nI j) :: .ref a :: st) h).trans (fin_iaload (Or.inl ht) hj hb)
theorem d209_840 : decode (mB 209) 840 = .ok (.invokevirtual 97, 3) := by decide +kernel
theorem x209_840 {d : Nat} {L : Lc} {s0 : Value} {a : Nat} {v0 : Int32} {v1 : Int32} {h : Hp} (ht : (h.2.1 a).1 = 11) : ex (d + 1) 209 840 L (.int v1 :: .int v0 :: .ref a :: [s0]) h = bnd (ex d 182 0 [some (.ref a), some (.int v0), some (.int v1)] [] h) (fun v h' => ex (d + 1) 209 843 L (v.toList ++ [s0]) h') := (ex_of d209_840 (d + 1) L (.int v1 :: .int v0 :: .ref a :: [s0]) h).trans (fin_vi (mi := 209) i13_97 ht rfl rfl (by simp [cat1_i, cat1_r]) (by simp) (Nat.le_of_ble_eq_true rfl))
theorem d209_843 : decode (mB 209) 843 = .ok (.if_icmp .eq 495, 3) := by decide +kernel
theorem x209_843 {d : Nat} {L : Lc} {st : List Value} {x y : Int32} {h : Hp} : ex (d) 209 843 L (.int y :: .int x :: st) h = if x = y then ex d 209 1338 L st h else ex d 209 846 L st h := (ex_of d209_843 (d) L (.int y :: .int x :: st) h).trans (fin_brq (off := 495) (tgt := 1338) rfl (by decide))
theorem d209_846 : decode (mB 209) 846 = .ok (.iconst 0, 1) := by decide +kernel
theorem x209_846 {d : Nat} {L : Lc} {st : List Value} {h : Hp} : ex (d) 209 846 L st h = ex d 209 847 L (.int (nI 0) :: st) h := (ex_of d209_846 (d) L st h).trans (rfl)
theorem d209_847 : decode (mB 209) 847 = .ok (.ireturn, 1) := by decide +kernel
theorem x209_847 {d : Nat} {L : Lc} {x : Int32} {h : Hp} (hx : x = 0 ∨ x = 1) : ex (d) 209 847 L [.int x] h = some (some (.int x), h) := (ex_of d209_847 (d) L [.int x] h).trans (fin_retb rfl hx)
theorem d209_848 : decode (mB 209) 848 = .ok (.aload_n 1, 1) := by decide +kernel
theorem x209_848 {d : Nat} {l0 l2 l3 : Option Value} {st : List Value} {a : Nat} {h : Hp} : ex (d) 209 848 [l0, some (.ref a), l2, l3] st h = ex d 209 849 [l0, some (.ref a), l2, l3] (.ref a :: st) h := (ex_of d209_848 (d) [l0, some (.ref a), l2, l3] st h).trans (rfl)
theorem x209_848n {d : Nat} {l0 l2 l3 : Option Value} {st : List Value} {h : Hp} : ex (d) 209 848 [l0, some .null, l2, l3] st h = ex d 209 849 [l0, some .null, l2, l3] (.null :: st) h := (ex_of d209_848 (d) [l0, some .null, l2, l3] st h).trans (rfl)
theorem x209_848q {d : Nat} {l0 l2 l3 : Option Value} {st : List Value} {a : Option Nat} {h : Hp} : ex (d) 209 848 [l0, some (va_rf a), l2, l3] st h = ex d 209 849 [l0, some (va_rf a), l2, l3] (va_rf a :: st) h := (ex_of d209_848 (d) [l0, some (va_rf a), l2, l3] st h).trans (by cases a <;> rfl)
theorem d209_849 : decode (mB 209) 849 = .ok (.aload_n 0, 1) := by decide +kernel
theorem x209_849 {d : Nat} {l1 l2 l3 : Option Value} {st : List Value} {a : Nat} {h : Hp} : ex (d) 209 849 [some (.ref a), l1, l2, l3] st h = ex d 209 850 [some (.ref a), l1, l2, l3] (.ref a :: st) h := (ex_of d209_849 (d) [some (.ref a), l1, l2, l3] st h).trans (rfl)
theorem d209_850 : decode (mB 209) 850 = .ok (.iload_n 3, 1) := by decide +kernel
theorem x209_850 {d : Nat} {l0 l1 l2 : Option Value} {st : List Value} {x : Int32} {h : Hp} : ex (d) 209 850 [l0, l1, l2, some (.int x)] st h = ex d 209 851 [l0, l1, l2, some (.int x)] (.int x :: st) h := (ex_of d209_850 (d) [l0, l1, l2, some (.int x)] st h).trans (rfl)
theorem d209_851 : decode (mB 209) 851 = .ok (.iconst 1, 1) := by decide +kernel
theorem x209_851 {d : Nat} {L : Lc} {st : List Value} {h : Hp} : ex (d) 209 851 L st h = ex d 209 852 L (.int (nI 1) :: st) h := (ex_of d209_851 (d) L st h).trans (rfl)
theorem d209_852 : decode (mB 209) 852 = .ok (.iadd, 1) := by decide +kernel
theorem x209_852 {d : Nat} {L : Lc} {st : List Value} {x y : Int32} {h : Hp} : ex (d) 209 852 L (.int y :: .int x :: st) h = ex d 209 853 L (.int (x + y) :: st) h := (ex_of d209_852 (d) L (.int y :: .int x :: st) h).trans (rfl)
theorem d209_853 : decode (mB 209) 853 = .ok (.iaload, 1) := by decide +kernel
theorem x209_853 {d : Nat} {L : Lc} {st : List Value} {a j : Nat} {h : Hp} (ht : (h.2.1 a).1 = 20) (hj : j < (h.2.1 a).2) (hb : j < 2147483648) : ex (d) 209 853 L (.int (nI j) :: .ref a :: st) h = ex d 209 854 L (h.1 a j :: st) h := (ex_of d209_853 (d) L (.int (nI j) :: .ref a :: st) h).trans (fin_iaload (Or.inl ht) hj hb)
theorem d209_854 : decode (mB 209) 854 = .ok (.aload_n 0, 1) := by decide +kernel
theorem x209_854 {d : Nat} {l1 l2 l3 : Option Value} {st : List Value} {a : Nat} {h : Hp} : ex (d) 209 854 [some (.ref a), l1, l2, l3] st h = ex d 209 855 [some (.ref a), l1, l2, l3] (.ref a :: st) h := (ex_of d209_854 (d) [some (.ref a), l1, l2, l3] st h).trans (rfl)
theorem d209_855 : decode (mB 209) 855 = .ok (.iload_n 3, 1) := by decide +kernel
theorem x209_855 {d : Nat} {l0 l1 l2 : Option Value} {st : List Value} {x : Int32} {h : Hp} : ex (d) 209 855 [l0, l1, l2, some (.int x)] st h = ex d 209 856 [l0, l1, l2, some (.int x)] (.int x :: st) h := (ex_of d209_855 (d) [l0, l1, l2, some (.int x)] st h).trans (rfl)
theorem d209_856 : decode (mB 209) 856 = .ok (.iconst 2, 1) := by decide +kernel
theorem x209_856 {d : Nat} {L : Lc} {st : List Value} {h : Hp} : ex (d) 209 856 L st h = ex d 209 857 L (.int (nI 2) :: st) h := (ex_of d209_856 (d) L st h).trans (rfl)
theorem d209_857 : decode (mB 209) 857 = .ok (.iadd, 1) := by decide +kernel
theorem x209_857 {d : Nat} {L : Lc} {st : List Value} {x y : Int32} {h : Hp} : ex (d) 209 857 L (.int y :: .int x :: st) h = ex d 209 858 L (.int (x + y) :: st) h := (ex_of d209_857 (d) L (.int y :: .int x :: st) h).trans (rfl)
theorem d209_858 : decode (mB 209) 858 = .ok (.iaload, 1) := by decide +kernel
theorem x209_858 {d : Nat} {L : Lc} {st : List Value} {a j : Nat} {h : Hp} (ht : (h.2.1 a).1 = 20) (hj : j < (h.2.1 a).2) (hb : j < 2147483648) : ex (d) 209 858 L (.int (nI j) :: .ref a :: st) h = ex d 209 859 L (h.1 a j :: st) h := (ex_of d209_858 (d) L (.int (nI j) :: .ref a :: st) h).trans (fin_iaload (Or.inl ht) hj hb)
theorem d209_859 : decode (mB 209) 859 = .ok (.invokevirtual 98, 3) := by decide +kernel
theorem x209_859 {d : Nat} {L : Lc} {a : Nat} {v0 : Int32} {v1 : Int32} {h : Hp} (ht : (h.2.1 a).1 = 10) : ex (d + 1) 209 859 L (.int v1 :: .int v0 :: .ref a :: []) h = bnd (ex d 64 0 [some (.ref a), some (.int v0), some (.int v1), none, none] [] h) (fun v h' => ex (d + 1) 209 862 L (v.toList ++ []) h') := (ex_of d209_859 (d + 1) L (.int v1 :: .int v0 :: .ref a :: []) h).trans (fin_vi (mi := 209) i13_98 ht rfl rfl (by simp [cat1_i, cat1_r]) (by simp) (Nat.le_of_ble_eq_true rfl))
theorem d209_862 : decode (mB 209) 862 = .ok (.aload_n 2, 1) := by decide +kernel
theorem x209_862 {d : Nat} {l0 l1 l3 : Option Value} {st : List Value} {a : Nat} {h : Hp} : ex (d) 209 862 [l0, l1, some (.ref a), l3] st h = ex d 209 863 [l0, l1, some (.ref a), l3] (.ref a :: st) h := (ex_of d209_862 (d) [l0, l1, some (.ref a), l3] st h).trans (rfl)
theorem x209_862n {d : Nat} {l0 l1 l3 : Option Value} {st : List Value} {h : Hp} : ex (d) 209 862 [l0, l1, some .null, l3] st h = ex d 209 863 [l0, l1, some .null, l3] (.null :: st) h := (ex_of d209_862 (d) [l0, l1, some .null, l3] st h).trans (rfl)
theorem x209_862q {d : Nat} {l0 l1 l3 : Option Value} {st : List Value} {a : Option Nat} {h : Hp} : ex (d) 209 862 [l0, l1, some (va_rf a), l3] st h = ex d 209 863 [l0, l1, some (va_rf a), l3] (va_rf a :: st) h := (ex_of d209_862 (d) [l0, l1, some (va_rf a), l3] st h).trans (by cases a <;> rfl)
theorem d209_863 : decode (mB 209) 863 = .ok (.aload_n 0, 1) := by decide +kernel
theorem x209_863 {d : Nat} {l1 l2 l3 : Option Value} {st : List Value} {a : Nat} {h : Hp} : ex (d) 209 863 [some (.ref a), l1, l2, l3] st h = ex d 209 864 [some (.ref a), l1, l2, l3] (.ref a :: st) h := (ex_of d209_863 (d) [some (.ref a), l1, l2, l3] st h).trans (rfl)
theorem d209_864 : decode (mB 209) 864 = .ok (.iload_n 3, 1) := by decide +kernel
theorem x209_864 {d : Nat} {l0 l1 l2 : Option Value} {st : List Value} {x : Int32} {h : Hp} : ex (d) 209 864 [l0, l1, l2, some (.int x)] st h = ex d 209 865 [l0, l1, l2, some (.int x)] (.int x :: st) h := (ex_of d209_864 (d) [l0, l1, l2, some (.int x)] st h).trans (rfl)
theorem d209_865 : decode (mB 209) 865 = .ok (.iconst 1, 1) := by decide +kernel
theorem x209_865 {d : Nat} {L : Lc} {st : List Value} {h : Hp} : ex (d) 209 865 L st h = ex d 209 866 L (.int (nI 1) :: st) h := (ex_of d209_865 (d) L st h).trans (rfl)
theorem d209_866 : decode (mB 209) 866 = .ok (.iadd, 1) := by decide +kernel
theorem x209_866 {d : Nat} {L : Lc} {st : List Value} {x y : Int32} {h : Hp} : ex (d) 209 866 L (.int y :: .int x :: st) h = ex d 209 867 L (.int (x + y) :: st) h := (ex_of d209_866 (d) L (.int y :: .int x :: st) h).trans (rfl)
theorem d209_867 : decode (mB 209) 867 = .ok (.iaload, 1) := by decide +kernel
theorem x209_867 {d : Nat} {L : Lc} {st : List Value} {a j : Nat} {h : Hp} (ht : (h.2.1 a).1 = 20) (hj : j < (h.2.1 a).2) (hb : j < 2147483648) : ex (d) 209 867 L (.int (nI j) :: .ref a :: st) h = ex d 209 868 L (h.1 a j :: st) h := (ex_of d209_867 (d) L (.int (nI j) :: .ref a :: st) h).trans (fin_iaload (Or.inl ht) hj hb)
theorem d209_868 : decode (mB 209) 868 = .ok (.aload_n 0, 1) := by decide +kernel
theorem x209_868 {d : Nat} {l1 l2 l3 : Option Value} {st : List Value} {a : Nat} {h : Hp} : ex (d) 209 868 [some (.ref a), l1, l2, l3] st h = ex d 209 869 [some (.ref a), l1, l2, l3] (.ref a :: st) h := (ex_of d209_868 (d) [some (.ref a), l1, l2, l3] st h).trans (rfl)
theorem d209_869 : decode (mB 209) 869 = .ok (.iload_n 3, 1) := by decide +kernel
theorem x209_869 {d : Nat} {l0 l1 l2 : Option Value} {st : List Value} {x : Int32} {h : Hp} : ex (d) 209 869 [l0, l1, l2, some (.int x)] st h = ex d 209 870 [l0, l1, l2, some (.int x)] (.int x :: st) h := (ex_of d209_869 (d) [l0, l1, l2, some (.int x)] st h).trans (rfl)
theorem d209_870 : decode (mB 209) 870 = .ok (.iconst 2, 1) := by decide +kernel
theorem x209_870 {d : Nat} {L : Lc} {st : List Value} {h : Hp} : ex (d) 209 870 L st h = ex d 209 871 L (.int (nI 2) :: st) h := (ex_of d209_870 (d) L st h).trans (rfl)
theorem d209_871 : decode (mB 209) 871 = .ok (.iadd, 1) := by decide +kernel
theorem x209_871 {d : Nat} {L : Lc} {st : List Value} {x y : Int32} {h : Hp} : ex (d) 209 871 L (.int y :: .int x :: st) h = ex d 209 872 L (.int (x + y) :: st) h := (ex_of d209_871 (d) L (.int y :: .int x :: st) h).trans (rfl)
theorem d209_872 : decode (mB 209) 872 = .ok (.iaload, 1) := by decide +kernel
theorem x209_872 {d : Nat} {L : Lc} {st : List Value} {a j : Nat} {h : Hp} (ht : (h.2.1 a).1 = 20) (hj : j < (h.2.1 a).2) (hb : j < 2147483648) : ex (d) 209 872 L (.int (nI j) :: .ref a :: st) h = ex d 209 873 L (h.1 a j :: st) h := (ex_of d209_872 (d) L (.int (nI j) :: .ref a :: st) h).trans (fin_iaload (Or.inl ht) hj hb)
theorem d209_873 : decode (mB 209) 873 = .ok (.invokevirtual 101, 3) := by decide +kernel
theorem x209_873 {d : Nat} {L : Lc} {s0 : Value} {a : Nat} {v0 : Int32} {v1 : Int32} {h : Hp} (ht : (h.2.1 a).1 = 11) : ex (d + 1) 209 873 L (.int v1 :: .int v0 :: .ref a :: [s0]) h = bnd (ex d 183 0 [some (.ref a), some (.int v0), some (.int v1)] [] h) (fun v h' => ex (d + 1) 209 876 L (v.toList ++ [s0]) h') := (ex_of d209_873 (d + 1) L (.int v1 :: .int v0 :: .ref a :: [s0]) h).trans (fin_vi (mi := 209) i13_101 ht rfl rfl (by simp [cat1_i, cat1_r]) (by simp) (Nat.le_of_ble_eq_true rfl))
theorem d209_876 : decode (mB 209) 876 = .ok (.if_icmp .eq 462, 3) := by decide +kernel
theorem x209_876 {d : Nat} {L : Lc} {st : List Value} {x y : Int32} {h : Hp} : ex (d) 209 876 L (.int y :: .int x :: st) h = if x = y then ex d 209 1338 L st h else ex d 209 879 L st h := (ex_of d209_876 (d) L (.int y :: .int x :: st) h).trans (fin_brq (off := 462) (tgt := 1338) rfl (by decide))
theorem d209_879 : decode (mB 209) 879 = .ok (.iconst 0, 1) := by decide +kernel
theorem x209_879 {d : Nat} {L : Lc} {st : List Value} {h : Hp} : ex (d) 209 879 L st h = ex d 209 880 L (.int (nI 0) :: st) h := (ex_of d209_879 (d) L st h).trans (rfl)
theorem d209_880 : decode (mB 209) 880 = .ok (.ireturn, 1) := by decide +kernel
theorem x209_880 {d : Nat} {L : Lc} {x : Int32} {h : Hp} (hx : x = 0 ∨ x = 1) : ex (d) 209 880 L [.int x] h = some (some (.int x), h) := (ex_of d209_880 (d) L [.int x] h).trans (fin_retb rfl hx)
theorem d209_881 : decode (mB 209) 881 = .ok (.aload_n 1, 1) := by decide +kernel
theorem x209_881 {d : Nat} {l0 l2 l3 : Option Value} {st : List Value} {a : Nat} {h : Hp} : ex (d) 209 881 [l0, some (.ref a), l2, l3] st h = ex d 209 882 [l0, some (.ref a), l2, l3] (.ref a :: st) h := (ex_of d209_881 (d) [l0, some (.ref a), l2, l3] st h).trans (rfl)
theorem x209_881n {d : Nat} {l0 l2 l3 : Option Value} {st : List Value} {h : Hp} : ex (d) 209 881 [l0, some .null, l2, l3] st h = ex d 209 882 [l0, some .null, l2, l3] (.null :: st) h := (ex_of d209_881 (d) [l0, some .null, l2, l3] st h).trans (rfl)
theorem x209_881q {d : Nat} {l0 l2 l3 : Option Value} {st : List Value} {a : Option Nat} {h : Hp} : ex (d) 209 881 [l0, some (va_rf a), l2, l3] st h = ex d 209 882 [l0, some (va_rf a), l2, l3] (va_rf a :: st) h := (ex_of d209_881 (d) [l0, some (va_rf a), l2, l3] st h).trans (by cases a <;> rfl)
theorem d209_882 : decode (mB 209) 882 = .ok (.aload_n 0, 1) := by decide +kernel
theorem x209_882 {d : Nat} {l1 l2 l3 : Option Value} {st : List Value} {a : Nat} {h : Hp} : ex (d) 209 882 [some (.ref a), l1, l2, l3] st h = ex d 209 883 [some (.ref a), l1, l2, l3] (.ref a :: st) h := (ex_of d209_882 (d) [some (.ref a), l1, l2, l3] st h).trans (rfl)
theorem d209_883 : decode (mB 209) 883 = .ok (.iload_n 3, 1) := by decide +kernel
theorem x209_883 {d : Nat} {l0 l1 l2 : Option Value} {st : List Value} {x : Int32} {h : Hp} : ex (d) 209 883 [l0, l1, l2, some (.int x)] st h = ex d 209 884 [l0, l1, l2, some (.int x)] (.int x :: st) h := (ex_of d209_883 (d) [l0, l1, l2, some (.int x)] st h).trans (rfl)
theorem d209_884 : decode (mB 209) 884 = .ok (.iconst 1, 1) := by decide +kernel
theorem x209_884 {d : Nat} {L : Lc} {st : List Value} {h : Hp} : ex (d) 209 884 L st h = ex d 209 885 L (.int (nI 1) :: st) h := (ex_of d209_884 (d) L st h).trans (rfl)
theorem d209_885 : decode (mB 209) 885 = .ok (.iadd, 1) := by decide +kernel
theorem x209_885 {d : Nat} {L : Lc} {st : List Value} {x y : Int32} {h : Hp} : ex (d) 209 885 L (.int y :: .int x :: st) h = ex d 209 886 L (.int (x + y) :: st) h := (ex_of d209_885 (d) L (.int y :: .int x :: st) h).trans (rfl)
theorem d209_886 : decode (mB 209) 886 = .ok (.iaload, 1) := by decide +kernel
theorem x209_886 {d : Nat} {L : Lc} {st : List Value} {a j : Nat} {h : Hp} (ht : (h.2.1 a).1 = 20) (hj : j < (h.2.1 a).2) (hb : j < 2147483648) : ex (d) 209 886 L (.int (nI j) :: .ref a :: st) h = ex d 209 887 L (h.1 a j :: st) h := (ex_of d209_886 (d) L (.int (nI j) :: .ref a :: st) h).trans (fin_iaload (Or.inl ht) hj hb)
theorem d209_887 : decode (mB 209) 887 = .ok (.invokevirtual 102, 3) := by decide +kernel
theorem x209_887 {d : Nat} {L : Lc} {a : Nat} {v0 : Int32} {h : Hp} (ht : (h.2.1 a).1 = 10) : ex (d + 1) 209 887 L (.int v0 :: .ref a :: []) h = bnd (ex d 65 0 [some (.ref a), some (.int v0), none] [] h) (fun v h' => ex (d + 1) 209 890 L (v.toList ++ []) h') := (ex_of d209_887 (d + 1) L (.int v0 :: .ref a :: []) h).trans (fin_vi (mi := 209) i13_102 ht rfl rfl (by simp [cat1_i, cat1_r]) (by simp) (Nat.le_of_ble_eq_true rfl))
theorem d209_890 : decode (mB 209) 890 = .ok (.aload_n 2, 1) := by decide +kernel
theorem x209_890 {d : Nat} {l0 l1 l3 : Option Value} {st : List Value} {a : Nat} {h : Hp} : ex (d) 209 890 [l0, l1, some (.ref a), l3] st h = ex d 209 891 [l0, l1, some (.ref a), l3] (.ref a :: st) h := (ex_of d209_890 (d) [l0, l1, some (.ref a), l3] st h).trans (rfl)
theorem x209_890n {d : Nat} {l0 l1 l3 : Option Value} {st : List Value} {h : Hp} : ex (d) 209 890 [l0, l1, some .null, l3] st h = ex d 209 891 [l0, l1, some .null, l3] (.null :: st) h := (ex_of d209_890 (d) [l0, l1, some .null, l3] st h).trans (rfl)
theorem x209_890q {d : Nat} {l0 l1 l3 : Option Value} {st : List Value} {a : Option Nat} {h : Hp} : ex (d) 209 890 [l0, l1, some (va_rf a), l3] st h = ex d 209 891 [l0, l1, some (va_rf a), l3] (va_rf a :: st) h := (ex_of d209_890 (d) [l0, l1, some (va_rf a), l3] st h).trans (by cases a <;> rfl)
theorem d209_891 : decode (mB 209) 891 = .ok (.aload_n 0, 1) := by decide +kernel
theorem x209_891 {d : Nat} {l1 l2 l3 : Option Value} {st : List Value} {a : Nat} {h : Hp} : ex (d) 209 891 [some (.ref a), l1, l2, l3] st h = ex d 209 892 [some (.ref a), l1, l2, l3] (.ref a :: st) h := (ex_of d209_891 (d) [some (.ref a), l1, l2, l3] st h).trans (rfl)
theorem d209_892 : decode (mB 209) 892 = .ok (.iload_n 3, 1) := by decide +kernel
theorem x209_892 {d : Nat} {l0 l1 l2 : Option Value} {st : List Value} {x : Int32} {h : Hp} : ex (d) 209 892 [l0, l1, l2, some (.int x)] st h = ex d 209 893 [l0, l1, l2, some (.int x)] (.int x :: st) h := (ex_of d209_892 (d) [l0, l1, l2, some (.int x)] st h).trans (rfl)
theorem d209_893 : decode (mB 209) 893 = .ok (.iconst 1, 1) := by decide +kernel
theorem x209_893 {d : Nat} {L : Lc} {st : List Value} {h : Hp} : ex (d) 209 893 L st h = ex d 209 894 L (.int (nI 1) :: st) h := (ex_of d209_893 (d) L st h).trans (rfl)
theorem d209_894 : decode (mB 209) 894 = .ok (.iadd, 1) := by decide +kernel
theorem x209_894 {d : Nat} {L : Lc} {st : List Value} {x y : Int32} {h : Hp} : ex (d) 209 894 L (.int y :: .int x :: st) h = ex d 209 895 L (.int (x + y) :: st) h := (ex_of d209_894 (d) L (.int y :: .int x :: st) h).trans (rfl)
theorem d209_895 : decode (mB 209) 895 = .ok (.iaload, 1) := by decide +kernel
theorem x209_895 {d : Nat} {L : Lc} {st : List Value} {a j : Nat} {h : Hp} (ht : (h.2.1 a).1 = 20) (hj : j < (h.2.1 a).2) (hb : j < 2147483648) : ex (d) 209 895 L (.int (nI j) :: .ref a :: st) h = ex d 209 896 L (h.1 a j :: st) h := (ex_of d209_895 (d) L (.int (nI j) :: .ref a :: st) h).trans (fin_iaload (Or.inl ht) hj hb)
theorem d209_896 : decode (mB 209) 896 = .ok (.invokevirtual 105, 3) := by decide +kernel
theorem x209_896 {d : Nat} {L : Lc} {s0 : Value} {a : Nat} {v0 : Int32} {h : Hp} (ht : (h.2.1 a).1 = 11) : ex (d + 1) 209 896 L (.int v0 :: .ref a :: [s0]) h = bnd (ex d 184 0 [some (.ref a), some (.int v0)] [] h) (fun v h' => ex (d + 1) 209 899 L (v.toList ++ [s0]) h') := (ex_of d209_896 (d + 1) L (.int v0 :: .ref a :: [s0]) h).trans (fin_vi (mi := 209) i13_105 ht rfl rfl (by simp [cat1_i, cat1_r]) (by simp) (Nat.le_of_ble_eq_true rfl))
theorem d209_899 : decode (mB 209) 899 = .ok (.if_icmp .eq 439, 3) := by decide +kernel
theorem x209_899 {d : Nat} {L : Lc} {st : List Value} {x y : Int32} {h : Hp} : ex (d) 209 899 L (.int y :: .int x :: st) h = if x = y then ex d 209 1338 L st h else ex d 209 902 L st h := (ex_of d209_899 (d) L (.int y :: .int x :: st) h).trans (fin_brq (off := 439) (tgt := 1338) rfl (by decide))
theorem d209_902 : decode (mB 209) 902 = .ok (.iconst 0, 1) := by decide +kernel
theorem x209_902 {d : Nat} {L : Lc} {st : List Value} {h : Hp} : ex (d) 209 902 L st h = ex d 209 903 L (.int (nI 0) :: st) h := (ex_of d209_902 (d) L st h).trans (rfl)
theorem d209_903 : decode (mB 209) 903 = .ok (.ireturn, 1) := by decide +kernel
theorem x209_903 {d : Nat} {L : Lc} {x : Int32} {h : Hp} (hx : x = 0 ∨ x = 1) : ex (d) 209 903 L [.int x] h = some (some (.int x), h) := (ex_of d209_903 (d) L [.int x] h).trans (fin_retb rfl hx)
theorem d209_904 : decode (mB 209) 904 = .ok (.aload_n 1, 1) := by decide +kernel
theorem x209_904 {d : Nat} {l0 l2 l3 : Option Value} {st : List Value} {a : Nat} {h : Hp} : ex (d) 209 904 [l0, some (.ref a), l2, l3] st h = ex d 209 905 [l0, some (.ref a), l2, l3] (.ref a :: st) h := (ex_of d209_904 (d) [l0, some (.ref a), l2, l3] st h).trans (rfl)
theorem x209_904n {d : Nat} {l0 l2 l3 : Option Value} {st : List Value} {h : Hp} : ex (d) 209 904 [l0, some .null, l2, l3] st h = ex d 209 905 [l0, some .null, l2, l3] (.null :: st) h := (ex_of d209_904 (d) [l0, some .null, l2, l3] st h).trans (rfl)
theorem x209_904q {d : Nat} {l0 l2 l3 : Option Value} {st : List Value} {a : Option Nat} {h : Hp} : ex (d) 209 904 [l0, some (va_rf a), l2, l3] st h = ex d 209 905 [l0, some (va_rf a), l2, l3] (va_rf a :: st) h := (ex_of d209_904 (d) [l0, some (va_rf a), l2, l3] st h).trans (by cases a <;> rfl)
theorem d209_905 : decode (mB 209) 905 = .ok (.aload_n 0, 1) := by decide +kernel
theorem x209_905 {d : Nat} {l1 l2 l3 : Option Value} {st : List Value} {a : Nat} {h : Hp} : ex (d) 209 905 [some (.ref a), l1, l2, l3] st h = ex d 209 906 [some (.ref a), l1, l2, l3] (.ref a :: st) h := (ex_of d209_905 (d) [some (.ref a), l1, l2, l3] st h).trans (rfl)
theorem d209_906 : decode (mB 209) 906 = .ok (.iload_n 3, 1) := by decide +kernel
theorem x209_906 {d : Nat} {l0 l1 l2 : Option Value} {st : List Value} {x : Int32} {h : Hp} : ex (d) 209 906 [l0, l1, l2, some (.int x)] st h = ex d 209 907 [l0, l1, l2, some (.int x)] (.int x :: st) h := (ex_of d209_906 (d) [l0, l1, l2, some (.int x)] st h).trans (rfl)
theorem d209_907 : decode (mB 209) 907 = .ok (.iconst 1, 1) := by decide +kernel
theorem x209_907 {d : Nat} {L : Lc} {st : List Value} {h : Hp} : ex (d) 209 907 L st h = ex d 209 908 L (.int (nI 1) :: st) h := (ex_of d209_907 (d) L st h).trans (rfl)
theorem d209_908 : decode (mB 209) 908 = .ok (.iadd, 1) := by decide +kernel
theorem x209_908 {d : Nat} {L : Lc} {st : List Value} {x y : Int32} {h : Hp} : ex (d) 209 908 L (.int y :: .int x :: st) h = ex d 209 909 L (.int (x + y) :: st) h := (ex_of d209_908 (d) L (.int y :: .int x :: st) h).trans (rfl)
theorem d209_909 : decode (mB 209) 909 = .ok (.iaload, 1) := by decide +kernel
theorem x209_909 {d : Nat} {L : Lc} {st : List Value} {a j : Nat} {h : Hp} (ht : (h.2.1 a).1 = 20) (hj : j < (h.2.1 a).2) (hb : j < 2147483648) : ex (d) 209 909 L (.int (nI j) :: .ref a :: st) h = ex d 209 910 L (h.1 a j :: st) h := (ex_of d209_909 (d) L (.int (nI j) :: .ref a :: st) h).trans (fin_iaload (Or.inl ht) hj hb)
theorem d209_910 : decode (mB 209) 910 = .ok (.invokevirtual 106, 3) := by decide +kernel
theorem x209_910 {d : Nat} {L : Lc} {a : Nat} {v0 : Int32} {h : Hp} (ht : (h.2.1 a).1 = 10) : ex (d + 1) 209 910 L (.int v0 :: .ref a :: []) h = bnd (ex d 66 0 [some (.ref a), some (.int v0), none] [] h) (fun v h' => ex (d + 1) 209 913 L (v.toList ++ []) h') := (ex_of d209_910 (d + 1) L (.int v0 :: .ref a :: []) h).trans (fin_vi (mi := 209) i13_106 ht rfl rfl (by simp [cat1_i, cat1_r]) (by simp) (Nat.le_of_ble_eq_true rfl))
theorem d209_913 : decode (mB 209) 913 = .ok (.aload_n 2, 1) := by decide +kernel
theorem x209_913 {d : Nat} {l0 l1 l3 : Option Value} {st : List Value} {a : Nat} {h : Hp} : ex (d) 209 913 [l0, l1, some (.ref a), l3] st h = ex d 209 914 [l0, l1, some (.ref a), l3] (.ref a :: st) h := (ex_of d209_913 (d) [l0, l1, some (.ref a), l3] st h).trans (rfl)
theorem x209_913n {d : Nat} {l0 l1 l3 : Option Value} {st : List Value} {h : Hp} : ex (d) 209 913 [l0, l1, some .null, l3] st h = ex d 209 914 [l0, l1, some .null, l3] (.null :: st) h := (ex_of d209_913 (d) [l0, l1, some .null, l3] st h).trans (rfl)
theorem x209_913q {d : Nat} {l0 l1 l3 : Option Value} {st : List Value} {a : Option Nat} {h : Hp} : ex (d) 209 913 [l0, l1, some (va_rf a), l3] st h = ex d 209 914 [l0, l1, some (va_rf a), l3] (va_rf a :: st) h := (ex_of d209_913 (d) [l0, l1, some (va_rf a), l3] st h).trans (by cases a <;> rfl)
theorem d209_914 : decode (mB 209) 914 = .ok (.aload_n 0, 1) := by decide +kernel
theorem x209_914 {d : Nat} {l1 l2 l3 : Option Value} {st : List Value} {a : Nat} {h : Hp} : ex (d) 209 914 [some (.ref a), l1, l2, l3] st h = ex d 209 915 [some (.ref a), l1, l2, l3] (.ref a :: st) h := (ex_of d209_914 (d) [some (.ref a), l1, l2, l3] st h).trans (rfl)
theorem d209_915 : decode (mB 209) 915 = .ok (.iload_n 3, 1) := by decide +kernel
theorem x209_915 {d : Nat} {l0 l1 l2 : Option Value} {st : List Value} {x : Int32} {h : Hp} : ex (d) 209 915 [l0, l1, l2, some (.int x)] st h = ex d 209 916 [l0, l1, l2, some (.int x)] (.int x :: st) h := (ex_of d209_915 (d) [l0, l1, l2, some (.int x)] st h).trans (rfl)
theorem d209_916 : decode (mB 209) 916 = .ok (.iconst 1, 1) := by decide +kernel
theorem x209_916 {d : Nat} {L : Lc} {st : List Value} {h : Hp} : ex (d) 209 916 L st h = ex d 209 917 L (.int (nI 1) :: st) h := (ex_of d209_916 (d) L st h).trans (rfl)
theorem d209_917 : decode (mB 209) 917 = .ok (.iadd, 1) := by decide +kernel
theorem x209_917 {d : Nat} {L : Lc} {st : List Value} {x y : Int32} {h : Hp} : ex (d) 209 917 L (.int y :: .int x :: st) h = ex d 209 918 L (.int (x + y) :: st) h := (ex_of d209_917 (d) L (.int y :: .int x :: st) h).trans (rfl)
theorem d209_918 : decode (mB 209) 918 = .ok (.iaload, 1) := by decide +kernel
theorem x209_918 {d : Nat} {L : Lc} {st : List Value} {a j : Nat} {h : Hp} (ht : (h.2.1 a).1 = 20) (hj : j < (h.2.1 a).2) (hb : j < 2147483648) : ex (d) 209 918 L (.int (nI j) :: .ref a :: st) h = ex d 209 919 L (h.1 a j :: st) h := (ex_of d209_918 (d) L (.int (nI j) :: .ref a :: st) h).trans (fin_iaload (Or.inl ht) hj hb)
theorem d209_919 : decode (mB 209) 919 = .ok (.invokevirtual 109, 3) := by decide +kernel
theorem x209_919 {d : Nat} {L : Lc} {s0 : Value} {a : Nat} {v0 : Int32} {h : Hp} (ht : (h.2.1 a).1 = 11) : ex (d + 1) 209 919 L (.int v0 :: .ref a :: [s0]) h = bnd (ex d 186 0 [some (.ref a), some (.int v0), none, none, none] [] h) (fun v h' => ex (d + 1) 209 922 L (v.toList ++ [s0]) h') := (ex_of d209_919 (d + 1) L (.int v0 :: .ref a :: [s0]) h).trans (fin_vi (mi := 209) i13_109 ht rfl rfl (by simp [cat1_i, cat1_r]) (by simp) (Nat.le_of_ble_eq_true rfl))
theorem d209_922 : decode (mB 209) 922 = .ok (.if_icmp .eq 416, 3) := by decide +kernel
theorem x209_922 {d : Nat} {L : Lc} {st : List Value} {x y : Int32} {h : Hp} : ex (d) 209 922 L (.int y :: .int x :: st) h = if x = y then ex d 209 1338 L st h else ex d 209 925 L st h := (ex_of d209_922 (d) L (.int y :: .int x :: st) h).trans (fin_brq (off := 416) (tgt := 1338) rfl (by decide))
theorem d209_925 : decode (mB 209) 925 = .ok (.iconst 0, 1) := by decide +kernel
theorem x209_925 {d : Nat} {L : Lc} {st : List Value} {h : Hp} : ex (d) 209 925 L st h = ex d 209 926 L (.int (nI 0) :: st) h := (ex_of d209_925 (d) L st h).trans (rfl)
theorem d209_926 : decode (mB 209) 926 = .ok (.ireturn, 1) := by decide +kernel
theorem x209_926 {d : Nat} {L : Lc} {x : Int32} {h : Hp} (hx : x = 0 ∨ x = 1) : ex (d) 209 926 L [.int x] h = some (some (.int x), h) := (ex_of d209_926 (d) L [.int x] h).trans (fin_retb rfl hx)
theorem d209_927 : decode (mB 209) 927 = .ok (.aload_n 1, 1) := by decide +kernel
theorem x209_927 {d : Nat} {l0 l2 l3 : Option Value} {st : List Value} {a : Nat} {h : Hp} : ex (d) 209 927 [l0, some (.ref a), l2, l3] st h = ex d 209 928 [l0, some (.ref a), l2, l3] (.ref a :: st) h := (ex_of d209_927 (d) [l0, some (.ref a), l2, l3] st h).trans (rfl)
theorem x209_927n {d : Nat} {l0 l2 l3 : Option Value} {st : List Value} {h : Hp} : ex (d) 209 927 [l0, some .null, l2, l3] st h = ex d 209 928 [l0, some .null, l2, l3] (.null :: st) h := (ex_of d209_927 (d) [l0, some .null, l2, l3] st h).trans (rfl)
theorem x209_927q {d : Nat} {l0 l2 l3 : Option Value} {st : List Value} {a : Option Nat} {h : Hp} : ex (d) 209 927 [l0, some (va_rf a), l2, l3] st h = ex d 209 928 [l0, some (va_rf a), l2, l3] (va_rf a :: st) h := (ex_of d209_927 (d) [l0, some (va_rf a), l2, l3] st h).trans (by cases a <;> rfl)
theorem d209_928 : decode (mB 209) 928 = .ok (.aload_n 0, 1) := by decide +kernel
theorem x209_928 {d : Nat} {l1 l2 l3 : Option Value} {st : List Value} {a : Nat} {h : Hp} : ex (d) 209 928 [some (.ref a), l1, l2, l3] st h = ex d 209 929 [some (.ref a), l1, l2, l3] (.ref a :: st) h := (ex_of d209_928 (d) [some (.ref a), l1, l2, l3] st h).trans (rfl)
theorem d209_929 : decode (mB 209) 929 = .ok (.iload_n 3, 1) := by decide +kernel
theorem x209_929 {d : Nat} {l0 l1 l2 : Option Value} {st : List Value} {x : Int32} {h : Hp} : ex (d) 209 929 [l0, l1, l2, some (.int x)] st h = ex d 209 930 [l0, l1, l2, some (.int x)] (.int x :: st) h := (ex_of d209_929 (d) [l0, l1, l2, some (.int x)] st h).trans (rfl)
theorem d209_930 : decode (mB 209) 930 = .ok (.iconst 1, 1) := by decide +kernel
theorem x209_930 {d : Nat} {L : Lc} {st : List Value} {h : Hp} : ex (d) 209 930 L st h = ex d 209 931 L (.int (nI 1) :: st) h := (ex_of d209_930 (d) L st h).trans (rfl)
theorem d209_931 : decode (mB 209) 931 = .ok (.iadd, 1) := by decide +kernel
theorem x209_931 {d : Nat} {L : Lc} {st : List Value} {x y : Int32} {h : Hp} : ex (d) 209 931 L (.int y :: .int x :: st) h = ex d 209 932 L (.int (x + y) :: st) h := (ex_of d209_931 (d) L (.int y :: .int x :: st) h).trans (rfl)
theorem d209_932 : decode (mB 209) 932 = .ok (.iaload, 1) := by decide +kernel
theorem x209_932 {d : Nat} {L : Lc} {st : List Value} {a j : Nat} {h : Hp} (ht : (h.2.1 a).1 = 20) (hj : j < (h.2.1 a).2) (hb : j < 2147483648) : ex (d) 209 932 L (.int (nI j) :: .ref a :: st) h = ex d 209 933 L (h.1 a j :: st) h := (ex_of d209_932 (d) L (.int (nI j) :: .ref a :: st) h).trans (fin_iaload (Or.inl ht) hj hb)
theorem d209_933 : decode (mB 209) 933 = .ok (.aload_n 0, 1) := by decide +kernel
theorem x209_933 {d : Nat} {l1 l2 l3 : Option Value} {st : List Value} {a : Nat} {h : Hp} : ex (d) 209 933 [some (.ref a), l1, l2, l3] st h = ex d 209 934 [some (.ref a), l1, l2, l3] (.ref a :: st) h := (ex_of d209_933 (d) [some (.ref a), l1, l2, l3] st h).trans (rfl)
theorem d209_934 : decode (mB 209) 934 = .ok (.iload_n 3, 1) := by decide +kernel
theorem x209_934 {d : Nat} {l0 l1 l2 : Option Value} {st : List Value} {x : Int32} {h : Hp} : ex (d) 209 934 [l0, l1, l2, some (.int x)] st h = ex d 209 935 [l0, l1, l2, some (.int x)] (.int x :: st) h := (ex_of d209_934 (d) [l0, l1, l2, some (.int x)] st h).trans (rfl)
theorem d209_935 : decode (mB 209) 935 = .ok (.iconst 2, 1) := by decide +kernel
theorem x209_935 {d : Nat} {L : Lc} {st : List Value} {h : Hp} : ex (d) 209 935 L st h = ex d 209 936 L (.int (nI 2) :: st) h := (ex_of d209_935 (d) L st h).trans (rfl)
theorem d209_936 : decode (mB 209) 936 = .ok (.iadd, 1) := by decide +kernel
theorem x209_936 {d : Nat} {L : Lc} {st : List Value} {x y : Int32} {h : Hp} : ex (d) 209 936 L (.int y :: .int x :: st) h = ex d 209 937 L (.int (x + y) :: st) h := (ex_of d209_936 (d) L (.int y :: .int x :: st) h).trans (rfl)
theorem d209_937 : decode (mB 209) 937 = .ok (.iaload, 1) := by decide +kernel
theorem x209_937 {d : Nat} {L : Lc} {st : List Value} {a j : Nat} {h : Hp} (ht : (h.2.1 a).1 = 20) (hj : j < (h.2.1 a).2) (hb : j < 2147483648) : ex (d) 209 937 L (.int (nI j) :: .ref a :: st) h = ex d 209 938 L (h.1 a j :: st) h := (ex_of d209_937 (d) L (.int (nI j) :: .ref a :: st) h).trans (fin_iaload (Or.inl ht) hj hb)
theorem d209_938 : decode (mB 209) 938 = .ok (.invokevirtual 110, 3) := by decide +kernel
theorem x209_938 {d : Nat} {L : Lc} {a : Nat} {v0 : Int32} {v1 : Int32} {h : Hp} (ht : (h.2.1 a).1 = 10) : ex (d + 1) 209 938 L (.int v1 :: .int v0 :: .ref a :: []) h = bnd (ex d 67 0 [some (.ref a), some (.int v0), some (.int v1), none] [] h) (fun v h' => ex (d + 1) 209 941 L (v.toList ++ []) h') := (ex_of d209_938 (d + 1) L (.int v1 :: .int v0 :: .ref a :: []) h).trans (fin_vi (mi := 209) i13_110 ht rfl rfl (by simp [cat1_i, cat1_r]) (by simp) (Nat.le_of_ble_eq_true rfl))
theorem d209_941 : decode (mB 209) 941 = .ok (.aload_n 2, 1) := by decide +kernel
theorem x209_941 {d : Nat} {l0 l1 l3 : Option Value} {st : List Value} {a : Nat} {h : Hp} : ex (d) 209 941 [l0, l1, some (.ref a), l3] st h = ex d 209 942 [l0, l1, some (.ref a), l3] (.ref a :: st) h := (ex_of d209_941 (d) [l0, l1, some (.ref a), l3] st h).trans (rfl)
theorem x209_941n {d : Nat} {l0 l1 l3 : Option Value} {st : List Value} {h : Hp} : ex (d) 209 941 [l0, l1, some .null, l3] st h = ex d 209 942 [l0, l1, some .null, l3] (.null :: st) h := (ex_of d209_941 (d) [l0, l1, some .null, l3] st h).trans (rfl)
theorem x209_941q {d : Nat} {l0 l1 l3 : Option Value} {st : List Value} {a : Option Nat} {h : Hp} : ex (d) 209 941 [l0, l1, some (va_rf a), l3] st h = ex d 209 942 [l0, l1, some (va_rf a), l3] (va_rf a :: st) h := (ex_of d209_941 (d) [l0, l1, some (va_rf a), l3] st h).trans (by cases a <;> rfl)
theorem d209_942 : decode (mB 209) 942 = .ok (.aload_n 0, 1) := by decide +kernel
theorem x209_942 {d : Nat} {l1 l2 l3 : Option Value} {st : List Value} {a : Nat} {h : Hp} : ex (d) 209 942 [some (.ref a), l1, l2, l3] st h = ex d 209 943 [some (.ref a), l1, l2, l3] (.ref a :: st) h := (ex_of d209_942 (d) [some (.ref a), l1, l2, l3] st h).trans (rfl)
theorem d209_943 : decode (mB 209) 943 = .ok (.iload_n 3, 1) := by decide +kernel
theorem x209_943 {d : Nat} {l0 l1 l2 : Option Value} {st : List Value} {x : Int32} {h : Hp} : ex (d) 209 943 [l0, l1, l2, some (.int x)] st h = ex d 209 944 [l0, l1, l2, some (.int x)] (.int x :: st) h := (ex_of d209_943 (d) [l0, l1, l2, some (.int x)] st h).trans (rfl)
theorem d209_944 : decode (mB 209) 944 = .ok (.iconst 1, 1) := by decide +kernel
theorem x209_944 {d : Nat} {L : Lc} {st : List Value} {h : Hp} : ex (d) 209 944 L st h = ex d 209 945 L (.int (nI 1) :: st) h := (ex_of d209_944 (d) L st h).trans (rfl)
theorem d209_945 : decode (mB 209) 945 = .ok (.iadd, 1) := by decide +kernel
theorem x209_945 {d : Nat} {L : Lc} {st : List Value} {x y : Int32} {h : Hp} : ex (d) 209 945 L (.int y :: .int x :: st) h = ex d 209 946 L (.int (x + y) :: st) h := (ex_of d209_945 (d) L (.int y :: .int x :: st) h).trans (rfl)
theorem d209_946 : decode (mB 209) 946 = .ok (.iaload, 1) := by decide +kernel
theorem x209_946 {d : Nat} {L : Lc} {st : List Value} {a j : Nat} {h : Hp} (ht : (h.2.1 a).1 = 20) (hj : j < (h.2.1 a).2) (hb : j < 2147483648) : ex (d) 209 946 L (.int (nI j) :: .ref a :: st) h = ex d 209 947 L (h.1 a j :: st) h := (ex_of d209_946 (d) L (.int (nI j) :: .ref a :: st) h).trans (fin_iaload (Or.inl ht) hj hb)
theorem d209_947 : decode (mB 209) 947 = .ok (.aload_n 0, 1) := by decide +kernel
theorem x209_947 {d : Nat} {l1 l2 l3 : Option Value} {st : List Value} {a : Nat} {h : Hp} : ex (d) 209 947 [some (.ref a), l1, l2, l3] st h = ex d 209 948 [some (.ref a), l1, l2, l3] (.ref a :: st) h := (ex_of d209_947 (d) [some (.ref a), l1, l2, l3] st h).trans (rfl)
theorem d209_948 : decode (mB 209) 948 = .ok (.iload_n 3, 1) := by decide +kernel
theorem x209_948 {d : Nat} {l0 l1 l2 : Option Value} {st : List Value} {x : Int32} {h : Hp} : ex (d) 209 948 [l0, l1, l2, some (.int x)] st h = ex d 209 949 [l0, l1, l2, some (.int x)] (.int x :: st) h := (ex_of d209_948 (d) [l0, l1, l2, some (.int x)] st h).trans (rfl)
theorem d209_949 : decode (mB 209) 949 = .ok (.iconst 2, 1) := by decide +kernel
theorem x209_949 {d : Nat} {L : Lc} {st : List Value} {h : Hp} : ex (d) 209 949 L st h = ex d 209 950 L (.int (nI 2) :: st) h := (ex_of d209_949 (d) L st h).trans (rfl)
theorem d209_950 : decode (mB 209) 950 = .ok (.iadd, 1) := by decide +kernel
theorem x209_950 {d : Nat} {L : Lc} {st : List Value} {x y : Int32} {h : Hp} : ex (d) 209 950 L (.int y :: .int x :: st) h = ex d 209 951 L (.int (x + y) :: st) h := (ex_of d209_950 (d) L (.int y :: .int x :: st) h).trans (rfl)
theorem d209_951 : decode (mB 209) 951 = .ok (.iaload, 1) := by decide +kernel
theorem x209_951 {d : Nat} {L : Lc} {st : List Value} {a j : Nat} {h : Hp} (ht : (h.2.1 a).1 = 20) (hj : j < (h.2.1 a).2) (hb : j < 2147483648) : ex (d) 209 951 L (.int (nI j) :: .ref a :: st) h = ex d 209 952 L (h.1 a j :: st) h := (ex_of d209_951 (d) L (.int (nI j) :: .ref a :: st) h).trans (fin_iaload (Or.inl ht) hj hb)
theorem d209_952 : decode (mB 209) 952 = .ok (.invokevirtual 113, 3) := by decide +kernel
theorem x209_952 {d : Nat} {L : Lc} {s0 : Value} {a : Nat} {v0 : Int32} {v1 : Int32} {h : Hp} (ht : (h.2.1 a).1 = 11) : ex (d + 1) 209 952 L (.int v1 :: .int v0 :: .ref a :: [s0]) h = bnd (ex d 187 0 [some (.ref a), some (.int v0), some (.int v1), none] [] h) (fun v h' => ex (d + 1) 209 955 L (v.toList ++ [s0]) h') := (ex_of d209_952 (d + 1) L (.int v1 :: .int v0 :: .ref a :: [s0]) h).trans (fin_vi (mi := 209) i13_113 ht rfl rfl (by simp [cat1_i, cat1_r]) (by simp) (Nat.le_of_ble_eq_true rfl))
theorem d209_955 : decode (mB 209) 955 = .ok (.if_icmp .eq 383, 3) := by decide +kernel
theorem x209_955 {d : Nat} {L : Lc} {st : List Value} {x y : Int32} {h : Hp} : ex (d) 209 955 L (.int y :: .int x :: st) h = if x = y then ex d 209 1338 L st h else ex d 209 958 L st h := (ex_of d209_955 (d) L (.int y :: .int x :: st) h).trans (fin_brq (off := 383) (tgt := 1338) rfl (by decide))
theorem d209_958 : decode (mB 209) 958 = .ok (.iconst 0, 1) := by decide +kernel
theorem x209_958 {d : Nat} {L : Lc} {st : List Value} {h : Hp} : ex (d) 209 958 L st h = ex d 209 959 L (.int (nI 0) :: st) h := (ex_of d209_958 (d) L st h).trans (rfl)
theorem d209_959 : decode (mB 209) 959 = .ok (.ireturn, 1) := by decide +kernel
theorem x209_959 {d : Nat} {L : Lc} {x : Int32} {h : Hp} (hx : x = 0 ∨ x = 1) : ex (d) 209 959 L [.int x] h = some (some (.int x), h) := (ex_of d209_959 (d) L [.int x] h).trans (fin_retb rfl hx)
theorem d209_960 : decode (mB 209) 960 = .ok (.aload_n 1, 1) := by decide +kernel
theorem x209_960 {d : Nat} {l0 l2 l3 : Option Value} {st : List Value} {a : Nat} {h : Hp} : ex (d) 209 960 [l0, some (.ref a), l2, l3] st h = ex d 209 961 [l0, some (.ref a), l2, l3] (.ref a :: st) h := (ex_of d209_960 (d) [l0, some (.ref a), l2, l3] st h).trans (rfl)
theorem x209_960n {d : Nat} {l0 l2 l3 : Option Value} {st : List Value} {h : Hp} : ex (d) 209 960 [l0, some .null, l2, l3] st h = ex d 209 961 [l0, some .null, l2, l3] (.null :: st) h := (ex_of d209_960 (d) [l0, some .null, l2, l3] st h).trans (rfl)
theorem x209_960q {d : Nat} {l0 l2 l3 : Option Value} {st : List Value} {a : Option Nat} {h : Hp} : ex (d) 209 960 [l0, some (va_rf a), l2, l3] st h = ex d 209 961 [l0, some (va_rf a), l2, l3] (va_rf a :: st) h := (ex_of d209_960 (d) [l0, some (va_rf a), l2, l3] st h).trans (by cases a <;> rfl)
theorem d209_961 : decode (mB 209) 961 = .ok (.invokevirtual 114, 3) := by decide +kernel
theorem x209_961 {d : Nat} {L : Lc} {a : Nat} {h : Hp} (ht : (h.2.1 a).1 = 10) : ex (d + 1) 209 961 L (.ref a :: []) h = bnd (ex d 68 0 [some (.ref a), none] [] h) (fun v h' => ex (d + 1) 209 964 L (v.toList ++ []) h') := (ex_of d209_961 (d + 1) L (.ref a :: []) h).trans (fin_vi (mi := 209) i13_114 ht rfl rfl (by simp [cat1_i, cat1_r]) (by simp) (Nat.le_of_ble_eq_true rfl))
theorem d209_964 : decode (mB 209) 964 = .ok (.aload_n 2, 1) := by decide +kernel
theorem x209_964 {d : Nat} {l0 l1 l3 : Option Value} {st : List Value} {a : Nat} {h : Hp} : ex (d) 209 964 [l0, l1, some (.ref a), l3] st h = ex d 209 965 [l0, l1, some (.ref a), l3] (.ref a :: st) h := (ex_of d209_964 (d) [l0, l1, some (.ref a), l3] st h).trans (rfl)
theorem x209_964n {d : Nat} {l0 l1 l3 : Option Value} {st : List Value} {h : Hp} : ex (d) 209 964 [l0, l1, some .null, l3] st h = ex d 209 965 [l0, l1, some .null, l3] (.null :: st) h := (ex_of d209_964 (d) [l0, l1, some .null, l3] st h).trans (rfl)
theorem x209_964q {d : Nat} {l0 l1 l3 : Option Value} {st : List Value} {a : Option Nat} {h : Hp} : ex (d) 209 964 [l0, l1, some (va_rf a), l3] st h = ex d 209 965 [l0, l1, some (va_rf a), l3] (va_rf a :: st) h := (ex_of d209_964 (d) [l0, l1, some (va_rf a), l3] st h).trans (by cases a <;> rfl)
theorem d209_965 : decode (mB 209) 965 = .ok (.invokevirtual 117, 3) := by decide +kernel
theorem x209_965 {d : Nat} {L : Lc} {s0 : Value} {a : Nat} {h : Hp} (ht : (h.2.1 a).1 = 11) : ex (d + 1) 209 965 L (.ref a :: [s0]) h = bnd (ex d 188 0 [some (.ref a), none] [] h) (fun v h' => ex (d + 1) 209 968 L (v.toList ++ [s0]) h') := (ex_of d209_965 (d + 1) L (.ref a :: [s0]) h).trans (fin_vi (mi := 209) i13_117 ht rfl rfl (by simp [cat1_i, cat1_r]) (by simp) (Nat.le_of_ble_eq_true rfl))
theorem d209_968 : decode (mB 209) 968 = .ok (.if_icmp .eq 370, 3) := by decide +kernel
theorem x209_968 {d : Nat} {L : Lc} {st : List Value} {x y : Int32} {h : Hp} : ex (d) 209 968 L (.int y :: .int x :: st) h = if x = y then ex d 209 1338 L st h else ex d 209 971 L st h := (ex_of d209_968 (d) L (.int y :: .int x :: st) h).trans (fin_brq (off := 370) (tgt := 1338) rfl (by decide))
theorem d209_971 : decode (mB 209) 971 = .ok (.iconst 0, 1) := by decide +kernel
theorem x209_971 {d : Nat} {L : Lc} {st : List Value} {h : Hp} : ex (d) 209 971 L st h = ex d 209 972 L (.int (nI 0) :: st) h := (ex_of d209_971 (d) L st h).trans (rfl)
theorem d209_972 : decode (mB 209) 972 = .ok (.ireturn, 1) := by decide +kernel
theorem x209_972 {d : Nat} {L : Lc} {x : Int32} {h : Hp} (hx : x = 0 ∨ x = 1) : ex (d) 209 972 L [.int x] h = some (some (.int x), h) := (ex_of d209_972 (d) L [.int x] h).trans (fin_retb rfl hx)
theorem d209_973 : decode (mB 209) 973 = .ok (.aload_n 1, 1) := by decide +kernel
theorem x209_973 {d : Nat} {l0 l2 l3 : Option Value} {st : List Value} {a : Nat} {h : Hp} : ex (d) 209 973 [l0, some (.ref a), l2, l3] st h = ex d 209 974 [l0, some (.ref a), l2, l3] (.ref a :: st) h := (ex_of d209_973 (d) [l0, some (.ref a), l2, l3] st h).trans (rfl)
theorem x209_973n {d : Nat} {l0 l2 l3 : Option Value} {st : List Value} {h : Hp} : ex (d) 209 973 [l0, some .null, l2, l3] st h = ex d 209 974 [l0, some .null, l2, l3] (.null :: st) h := (ex_of d209_973 (d) [l0, some .null, l2, l3] st h).trans (rfl)
theorem x209_973q {d : Nat} {l0 l2 l3 : Option Value} {st : List Value} {a : Option Nat} {h : Hp} : ex (d) 209 973 [l0, some (va_rf a), l2, l3] st h = ex d 209 974 [l0, some (va_rf a), l2, l3] (va_rf a :: st) h := (ex_of d209_973 (d) [l0, some (va_rf a), l2, l3] st h).trans (by cases a <;> rfl)
theorem d209_974 : decode (mB 209) 974 = .ok (.aload_n 0, 1) := by decide +kernel
theorem x209_974 {d : Nat} {l1 l2 l3 : Option Value} {st : List Value} {a : Nat} {h : Hp} : ex (d) 209 974 [some (.ref a), l1, l2, l3] st h = ex d 209 975 [some (.ref a), l1, l2, l3] (.ref a :: st) h := (ex_of d209_974 (d) [some (.ref a), l1, l2, l3] st h).trans (rfl)
theorem d209_975 : decode (mB 209) 975 = .ok (.iload_n 3, 1) := by decide +kernel
theorem x209_975 {d : Nat} {l0 l1 l2 : Option Value} {st : List Value} {x : Int32} {h : Hp} : ex (d) 209 975 [l0, l1, l2, some (.int x)] st h = ex d 209 976 [l0, l1, l2, some (.int x)] (.int x :: st) h := (ex_of d209_975 (d) [l0, l1, l2, some (.int x)] st h).trans (rfl)
theorem d209_976 : decode (mB 209) 976 = .ok (.iconst 1, 1) := by decide +kernel
theorem x209_976 {d : Nat} {L : Lc} {st : List Value} {h : Hp} : ex (d) 209 976 L st h = ex d 209 977 L (.int (nI 1) :: st) h := (ex_of d209_976 (d) L st h).trans (rfl)
theorem d209_977 : decode (mB 209) 977 = .ok (.iadd, 1) := by decide +kernel
theorem x209_977 {d : Nat} {L : Lc} {st : List Value} {x y : Int32} {h : Hp} : ex (d) 209 977 L (.int y :: .int x :: st) h = ex d 209 978 L (.int (x + y) :: st) h := (ex_of d209_977 (d) L (.int y :: .int x :: st) h).trans (rfl)
theorem d209_978 : decode (mB 209) 978 = .ok (.iaload, 1) := by decide +kernel
theorem x209_978 {d : Nat} {L : Lc} {st : List Value} {a j : Nat} {h : Hp} (ht : (h.2.1 a).1 = 20) (hj : j < (h.2.1 a).2) (hb : j < 2147483648) : ex (d) 209 978 L (.int (nI j) :: .ref a :: st) h = ex d 209 979 L (h.1 a j :: st) h := (ex_of d209_978 (d) L (.int (nI j) :: .ref a :: st) h).trans (fin_iaload (Or.inl ht) hj hb)
theorem d209_979 : decode (mB 209) 979 = .ok (.aload_n 0, 1) := by decide +kernel
theorem x209_979 {d : Nat} {l1 l2 l3 : Option Value} {st : List Value} {a : Nat} {h : Hp} : ex (d) 209 979 [some (.ref a), l1, l2, l3] st h = ex d 209 980 [some (.ref a), l1, l2, l3] (.ref a :: st) h := (ex_of d209_979 (d) [some (.ref a), l1, l2, l3] st h).trans (rfl)
theorem d209_980 : decode (mB 209) 980 = .ok (.iload_n 3, 1) := by decide +kernel
theorem x209_980 {d : Nat} {l0 l1 l2 : Option Value} {st : List Value} {x : Int32} {h : Hp} : ex (d) 209 980 [l0, l1, l2, some (.int x)] st h = ex d 209 981 [l0, l1, l2, some (.int x)] (.int x :: st) h := (ex_of d209_980 (d) [l0, l1, l2, some (.int x)] st h).trans (rfl)
theorem d209_981 : decode (mB 209) 981 = .ok (.iconst 2, 1) := by decide +kernel
theorem x209_981 {d : Nat} {L : Lc} {st : List Value} {h : Hp} : ex (d) 209 981 L st h = ex d 209 982 L (.int (nI 2) :: st) h := (ex_of d209_981 (d) L st h).trans (rfl)
theorem d209_982 : decode (mB 209) 982 = .ok (.iadd, 1) := by decide +kernel
theorem x209_982 {d : Nat} {L : Lc} {st : List Value} {x y : Int32} {h : Hp} : ex (d) 209 982 L (.int y :: .int x :: st) h = ex d 209 983 L (.int (x + y) :: st) h := (ex_of d209_982 (d) L (.int y :: .int x :: st) h).trans (rfl)
theorem d209_983 : decode (mB 209) 983 = .ok (.iaload, 1) := by decide +kernel
theorem x209_983 {d : Nat} {L : Lc} {st : List Value} {a j : Nat} {h : Hp} (ht : (h.2.1 a).1 = 20) (hj : j < (h.2.1 a).2) (hb : j < 2147483648) : ex (d) 209 983 L (.int (nI j) :: .ref a :: st) h = ex d 209 984 L (h.1 a j :: st) h := (ex_of d209_983 (d) L (.int (nI j) :: .ref a :: st) h).trans (fin_iaload (Or.inl ht) hj hb)
theorem d209_984 : decode (mB 209) 984 = .ok (.invokevirtual 118, 3) := by decide +kernel
theorem x209_984 {d : Nat} {L : Lc} {a : Nat} {v0 : Int32} {v1 : Int32} {h : Hp} (ht : (h.2.1 a).1 = 10) : ex (d + 1) 209 984 L (.int v1 :: .int v0 :: .ref a :: []) h = bnd (ex d 69 0 [some (.ref a), some (.int v0), some (.int v1), none] [] h) (fun v h' => ex (d + 1) 209 987 L (v.toList ++ []) h') := (ex_of d209_984 (d + 1) L (.int v1 :: .int v0 :: .ref a :: []) h).trans (fin_vi (mi := 209) i13_118 ht rfl rfl (by simp [cat1_i, cat1_r]) (by simp) (Nat.le_of_ble_eq_true rfl))
theorem d209_987 : decode (mB 209) 987 = .ok (.aload_n 2, 1) := by decide +kernel
theorem x209_987 {d : Nat} {l0 l1 l3 : Option Value} {st : List Value} {a : Nat} {h : Hp} : ex (d) 209 987 [l0, l1, some (.ref a), l3] st h = ex d 209 988 [l0, l1, some (.ref a), l3] (.ref a :: st) h := (ex_of d209_987 (d) [l0, l1, some (.ref a), l3] st h).trans (rfl)
theorem x209_987n {d : Nat} {l0 l1 l3 : Option Value} {st : List Value} {h : Hp} : ex (d) 209 987 [l0, l1, some .null, l3] st h = ex d 209 988 [l0, l1, some .null, l3] (.null :: st) h := (ex_of d209_987 (d) [l0, l1, some .null, l3] st h).trans (rfl)
theorem x209_987q {d : Nat} {l0 l1 l3 : Option Value} {st : List Value} {a : Option Nat} {h : Hp} : ex (d) 209 987 [l0, l1, some (va_rf a), l3] st h = ex d 209 988 [l0, l1, some (va_rf a), l3] (va_rf a :: st) h := (ex_of d209_987 (d) [l0, l1, some (va_rf a), l3] st h).trans (by cases a <;> rfl)
theorem d209_988 : decode (mB 209) 988 = .ok (.aload_n 0, 1) := by decide +kernel
theorem x209_988 {d : Nat} {l1 l2 l3 : Option Value} {st : List Value} {a : Nat} {h : Hp} : ex (d) 209 988 [some (.ref a), l1, l2, l3] st h = ex d 209 989 [some (.ref a), l1, l2, l3] (.ref a :: st) h := (ex_of d209_988 (d) [some (.ref a), l1, l2, l3] st h).trans (rfl)
theorem d209_989 : decode (mB 209) 989 = .ok (.iload_n 3, 1) := by decide +kernel
theorem x209_989 {d : Nat} {l0 l1 l2 : Option Value} {st : List Value} {x : Int32} {h : Hp} : ex (d) 209 989 [l0, l1, l2, some (.int x)] st h = ex d 209 990 [l0, l1, l2, some (.int x)] (.int x :: st) h := (ex_of d209_989 (d) [l0, l1, l2, some (.int x)] st h).trans (rfl)
theorem d209_990 : decode (mB 209) 990 = .ok (.iconst 1, 1) := by decide +kernel
theorem x209_990 {d : Nat} {L : Lc} {st : List Value} {h : Hp} : ex (d) 209 990 L st h = ex d 209 991 L (.int (nI 1) :: st) h := (ex_of d209_990 (d) L st h).trans (rfl)
theorem d209_991 : decode (mB 209) 991 = .ok (.iadd, 1) := by decide +kernel
theorem x209_991 {d : Nat} {L : Lc} {st : List Value} {x y : Int32} {h : Hp} : ex (d) 209 991 L (.int y :: .int x :: st) h = ex d 209 992 L (.int (x + y) :: st) h := (ex_of d209_991 (d) L (.int y :: .int x :: st) h).trans (rfl)
theorem d209_992 : decode (mB 209) 992 = .ok (.iaload, 1) := by decide +kernel
theorem x209_992 {d : Nat} {L : Lc} {st : List Value} {a j : Nat} {h : Hp} (ht : (h.2.1 a).1 = 20) (hj : j < (h.2.1 a).2) (hb : j < 2147483648) : ex (d) 209 992 L (.int (nI j) :: .ref a :: st) h = ex d 209 993 L (h.1 a j :: st) h := (ex_of d209_992 (d) L (.int (nI j) :: .ref a :: st) h).trans (fin_iaload (Or.inl ht) hj hb)
theorem d209_993 : decode (mB 209) 993 = .ok (.aload_n 0, 1) := by decide +kernel
theorem x209_993 {d : Nat} {l1 l2 l3 : Option Value} {st : List Value} {a : Nat} {h : Hp} : ex (d) 209 993 [some (.ref a), l1, l2, l3] st h = ex d 209 994 [some (.ref a), l1, l2, l3] (.ref a :: st) h := (ex_of d209_993 (d) [some (.ref a), l1, l2, l3] st h).trans (rfl)
theorem d209_994 : decode (mB 209) 994 = .ok (.iload_n 3, 1) := by decide +kernel
theorem x209_994 {d : Nat} {l0 l1 l2 : Option Value} {st : List Value} {x : Int32} {h : Hp} : ex (d) 209 994 [l0, l1, l2, some (.int x)] st h = ex d 209 995 [l0, l1, l2, some (.int x)] (.int x :: st) h := (ex_of d209_994 (d) [l0, l1, l2, some (.int x)] st h).trans (rfl)
theorem d209_995 : decode (mB 209) 995 = .ok (.iconst 2, 1) := by decide +kernel
theorem x209_995 {d : Nat} {L : Lc} {st : List Value} {h : Hp} : ex (d) 209 995 L st h = ex d 209 996 L (.int (nI 2) :: st) h := (ex_of d209_995 (d) L st h).trans (rfl)
theorem d209_996 : decode (mB 209) 996 = .ok (.iadd, 1) := by decide +kernel
theorem x209_996 {d : Nat} {L : Lc} {st : List Value} {x y : Int32} {h : Hp} : ex (d) 209 996 L (.int y :: .int x :: st) h = ex d 209 997 L (.int (x + y) :: st) h := (ex_of d209_996 (d) L (.int y :: .int x :: st) h).trans (rfl)
theorem d209_997 : decode (mB 209) 997 = .ok (.iaload, 1) := by decide +kernel
theorem x209_997 {d : Nat} {L : Lc} {st : List Value} {a j : Nat} {h : Hp} (ht : (h.2.1 a).1 = 20) (hj : j < (h.2.1 a).2) (hb : j < 2147483648) : ex (d) 209 997 L (.int (nI j) :: .ref a :: st) h = ex d 209 998 L (h.1 a j :: st) h := (ex_of d209_997 (d) L (.int (nI j) :: .ref a :: st) h).trans (fin_iaload (Or.inl ht) hj hb)
theorem d209_998 : decode (mB 209) 998 = .ok (.invokevirtual 121, 3) := by decide +kernel
theorem x209_998 {d : Nat} {L : Lc} {s0 : Value} {a : Nat} {v0 : Int32} {v1 : Int32} {h : Hp} (ht : (h.2.1 a).1 = 11) : ex (d + 1) 209 998 L (.int v1 :: .int v0 :: .ref a :: [s0]) h = bnd (ex d 189 0 [some (.ref a), some (.int v0), some (.int v1), none] [] h) (fun v h' => ex (d + 1) 209 1001 L (v.toList ++ [s0]) h') := (ex_of d209_998 (d + 1) L (.int v1 :: .int v0 :: .ref a :: [s0]) h).trans (fin_vi (mi := 209) i13_121 ht rfl rfl (by simp [cat1_i, cat1_r]) (by simp) (Nat.le_of_ble_eq_true rfl))
theorem d209_1001 : decode (mB 209) 1001 = .ok (.if_icmp .eq 337, 3) := by decide +kernel
theorem x209_1001 {d : Nat} {L : Lc} {st : List Value} {x y : Int32} {h : Hp} : ex (d) 209 1001 L (.int y :: .int x :: st) h = if x = y then ex d 209 1338 L st h else ex d 209 1004 L st h := (ex_of d209_1001 (d) L (.int y :: .int x :: st) h).trans (fin_brq (off := 337) (tgt := 1338) rfl (by decide))
theorem d209_1004 : decode (mB 209) 1004 = .ok (.iconst 0, 1) := by decide +kernel
theorem x209_1004 {d : Nat} {L : Lc} {st : List Value} {h : Hp} : ex (d) 209 1004 L st h = ex d 209 1005 L (.int (nI 0) :: st) h := (ex_of d209_1004 (d) L st h).trans (rfl)
theorem d209_1005 : decode (mB 209) 1005 = .ok (.ireturn, 1) := by decide +kernel
theorem x209_1005 {d : Nat} {L : Lc} {x : Int32} {h : Hp} (hx : x = 0 ∨ x = 1) : ex (d) 209 1005 L [.int x] h = some (some (.int x), h) := (ex_of d209_1005 (d) L [.int x] h).trans (fin_retb rfl hx)
theorem d209_1006 : decode (mB 209) 1006 = .ok (.aload_n 1, 1) := by decide +kernel
theorem x209_1006 {d : Nat} {l0 l2 l3 : Option Value} {st : List Value} {a : Nat} {h : Hp} : ex (d) 209 1006 [l0, some (.ref a), l2, l3] st h = ex d 209 1007 [l0, some (.ref a), l2, l3] (.ref a :: st) h := (ex_of d209_1006 (d) [l0, some (.ref a), l2, l3] st h).trans (rfl)
theorem x209_1006n {d : Nat} {l0 l2 l3 : Option Value} {st : List Value} {h : Hp} : ex (d) 209 1006 [l0, some .null, l2, l3] st h = ex d 209 1007 [l0, some .null, l2, l3] (.null :: st) h := (ex_of d209_1006 (d) [l0, some .null, l2, l3] st h).trans (rfl)
theorem x209_1006q {d : Nat} {l0 l2 l3 : Option Value} {st : List Value} {a : Option Nat} {h : Hp} : ex (d) 209 1006 [l0, some (va_rf a), l2, l3] st h = ex d 209 1007 [l0, some (va_rf a), l2, l3] (va_rf a :: st) h := (ex_of d209_1006 (d) [l0, some (va_rf a), l2, l3] st h).trans (by cases a <;> rfl)
theorem d209_1007 : decode (mB 209) 1007 = .ok (.invokevirtual 122, 3) := by decide +kernel
theorem x209_1007 {d : Nat} {L : Lc} {a : Nat} {h : Hp} (ht : (h.2.1 a).1 = 10) : ex (d + 1) 209 1007 L (.ref a :: []) h = bnd (ex d 70 0 [some (.ref a), none] [] h) (fun v h' => ex (d + 1) 209 1010 L (v.toList ++ []) h') := (ex_of d209_1007 (d + 1) L (.ref a :: []) h).trans (fin_vi (mi := 209) i13_122 ht rfl rfl (by simp [cat1_i, cat1_r]) (by simp) (Nat.le_of_ble_eq_true rfl))
theorem d209_1010 : decode (mB 209) 1010 = .ok (.aload_n 2, 1) := by decide +kernel
theorem x209_1010 {d : Nat} {l0 l1 l3 : Option Value} {st : List Value} {a : Nat} {h : Hp} : ex (d) 209 1010 [l0, l1, some (.ref a), l3] st h = ex d 209 1011 [l0, l1, some (.ref a), l3] (.ref a :: st) h := (ex_of d209_1010 (d) [l0, l1, some (.ref a), l3] st h).trans (rfl)
theorem x209_1010n {d : Nat} {l0 l1 l3 : Option Value} {st : List Value} {h : Hp} : ex (d) 209 1010 [l0, l1, some .null, l3] st h = ex d 209 1011 [l0, l1, some .null, l3] (.null :: st) h := (ex_of d209_1010 (d) [l0, l1, some .null, l3] st h).trans (rfl)
theorem x209_1010q {d : Nat} {l0 l1 l3 : Option Value} {st : List Value} {a : Option Nat} {h : Hp} : ex (d) 209 1010 [l0, l1, some (va_rf a), l3] st h = ex d 209 1011 [l0, l1, some (va_rf a), l3] (va_rf a :: st) h := (ex_of d209_1010 (d) [l0, l1, some (va_rf a), l3] st h).trans (by cases a <;> rfl)
theorem d209_1011 : decode (mB 209) 1011 = .ok (.invokevirtual 125, 3) := by decide +kernel
theorem x209_1011 {d : Nat} {L : Lc} {s0 : Value} {a : Nat} {h : Hp} (ht : (h.2.1 a).1 = 11) : ex (d + 1) 209 1011 L (.ref a :: [s0]) h = bnd (ex d 194 0 [some (.ref a), none, none] [] h) (fun v h' => ex (d + 1) 209 1014 L (v.toList ++ [s0]) h') := (ex_of d209_1011 (d + 1) L (.ref a :: [s0]) h).trans (fin_vi (mi := 209) i13_125 ht rfl rfl (by simp [cat1_i, cat1_r]) (by simp) (Nat.le_of_ble_eq_true rfl))
theorem d209_1014 : decode (mB 209) 1014 = .ok (.if_icmp .eq 324, 3) := by decide +kernel
theorem x209_1014 {d : Nat} {L : Lc} {st : List Value} {x y : Int32} {h : Hp} : ex (d) 209 1014 L (.int y :: .int x :: st) h = if x = y then ex d 209 1338 L st h else ex d 209 1017 L st h := (ex_of d209_1014 (d) L (.int y :: .int x :: st) h).trans (fin_brq (off := 324) (tgt := 1338) rfl (by decide))
theorem d209_1017 : decode (mB 209) 1017 = .ok (.iconst 0, 1) := by decide +kernel
theorem x209_1017 {d : Nat} {L : Lc} {st : List Value} {h : Hp} : ex (d) 209 1017 L st h = ex d 209 1018 L (.int (nI 0) :: st) h := (ex_of d209_1017 (d) L st h).trans (rfl)
theorem d209_1018 : decode (mB 209) 1018 = .ok (.ireturn, 1) := by decide +kernel
theorem x209_1018 {d : Nat} {L : Lc} {x : Int32} {h : Hp} (hx : x = 0 ∨ x = 1) : ex (d) 209 1018 L [.int x] h = some (some (.int x), h) := (ex_of d209_1018 (d) L [.int x] h).trans (fin_retb rfl hx)
theorem d209_1019 : decode (mB 209) 1019 = .ok (.aload_n 1, 1) := by decide +kernel
theorem x209_1019 {d : Nat} {l0 l2 l3 : Option Value} {st : List Value} {a : Nat} {h : Hp} : ex (d) 209 1019 [l0, some (.ref a), l2, l3] st h = ex d 209 1020 [l0, some (.ref a), l2, l3] (.ref a :: st) h := (ex_of d209_1019 (d) [l0, some (.ref a), l2, l3] st h).trans (rfl)
theorem x209_1019n {d : Nat} {l0 l2 l3 : Option Value} {st : List Value} {h : Hp} : ex (d) 209 1019 [l0, some .null, l2, l3] st h = ex d 209 1020 [l0, some .null, l2, l3] (.null :: st) h := (ex_of d209_1019 (d) [l0, some .null, l2, l3] st h).trans (rfl)
theorem x209_1019q {d : Nat} {l0 l2 l3 : Option Value} {st : List Value} {a : Option Nat} {h : Hp} : ex (d) 209 1019 [l0, some (va_rf a), l2, l3] st h = ex d 209 1020 [l0, some (va_rf a), l2, l3] (va_rf a :: st) h := (ex_of d209_1019 (d) [l0, some (va_rf a), l2, l3] st h).trans (by cases a <;> rfl)
theorem d209_1020 : decode (mB 209) 1020 = .ok (.aload_n 0, 1) := by decide +kernel
theorem x209_1020 {d : Nat} {l1 l2 l3 : Option Value} {st : List Value} {a : Nat} {h : Hp} : ex (d) 209 1020 [some (.ref a), l1, l2, l3] st h = ex d 209 1021 [some (.ref a), l1, l2, l3] (.ref a :: st) h := (ex_of d209_1020 (d) [some (.ref a), l1, l2, l3] st h).trans (rfl)
theorem d209_1021 : decode (mB 209) 1021 = .ok (.iload_n 3, 1) := by decide +kernel
theorem x209_1021 {d : Nat} {l0 l1 l2 : Option Value} {st : List Value} {x : Int32} {h : Hp} : ex (d) 209 1021 [l0, l1, l2, some (.int x)] st h = ex d 209 1022 [l0, l1, l2, some (.int x)] (.int x :: st) h := (ex_of d209_1021 (d) [l0, l1, l2, some (.int x)] st h).trans (rfl)
theorem d209_1022 : decode (mB 209) 1022 = .ok (.iconst 1, 1) := by decide +kernel
theorem x209_1022 {d : Nat} {L : Lc} {st : List Value} {h : Hp} : ex (d) 209 1022 L st h = ex d 209 1023 L (.int (nI 1) :: st) h := (ex_of d209_1022 (d) L st h).trans (rfl)
theorem d209_1023 : decode (mB 209) 1023 = .ok (.iadd, 1) := by decide +kernel
theorem x209_1023 {d : Nat} {L : Lc} {st : List Value} {x y : Int32} {h : Hp} : ex (d) 209 1023 L (.int y :: .int x :: st) h = ex d 209 1024 L (.int (x + y) :: st) h := (ex_of d209_1023 (d) L (.int y :: .int x :: st) h).trans (rfl)
theorem d209_1024 : decode (mB 209) 1024 = .ok (.iaload, 1) := by decide +kernel
theorem x209_1024 {d : Nat} {L : Lc} {st : List Value} {a j : Nat} {h : Hp} (ht : (h.2.1 a).1 = 20) (hj : j < (h.2.1 a).2) (hb : j < 2147483648) : ex (d) 209 1024 L (.int (nI j) :: .ref a :: st) h = ex d 209 1025 L (h.1 a j :: st) h := (ex_of d209_1024 (d) L (.int (nI j) :: .ref a :: st) h).trans (fin_iaload (Or.inl ht) hj hb)
theorem d209_1025 : decode (mB 209) 1025 = .ok (.invokevirtual 126, 3) := by decide +kernel
theorem x209_1025 {d : Nat} {L : Lc} {a : Nat} {v0 : Int32} {h : Hp} (ht : (h.2.1 a).1 = 10) : ex (d + 1) 209 1025 L (.int v0 :: .ref a :: []) h = bnd (ex d 71 0 [some (.ref a), some (.int v0)] [] h) (fun v h' => ex (d + 1) 209 1028 L (v.toList ++ []) h') := (ex_of d209_1025 (d + 1) L (.int v0 :: .ref a :: []) h).trans (fin_vi (mi := 209) i13_126 ht rfl rfl (by simp [cat1_i, cat1_r]) (by simp) (Nat.le_of_ble_eq_true rfl))
theorem d209_1028 : decode (mB 209) 1028 = .ok (.aload_n 2, 1) := by decide +kernel
theorem x209_1028 {d : Nat} {l0 l1 l3 : Option Value} {st : List Value} {a : Nat} {h : Hp} : ex (d) 209 1028 [l0, l1, some (.ref a), l3] st h = ex d 209 1029 [l0, l1, some (.ref a), l3] (.ref a :: st) h := (ex_of d209_1028 (d) [l0, l1, some (.ref a), l3] st h).trans (rfl)
theorem x209_1028n {d : Nat} {l0 l1 l3 : Option Value} {st : List Value} {h : Hp} : ex (d) 209 1028 [l0, l1, some .null, l3] st h = ex d 209 1029 [l0, l1, some .null, l3] (.null :: st) h := (ex_of d209_1028 (d) [l0, l1, some .null, l3] st h).trans (rfl)
theorem x209_1028q {d : Nat} {l0 l1 l3 : Option Value} {st : List Value} {a : Option Nat} {h : Hp} : ex (d) 209 1028 [l0, l1, some (va_rf a), l3] st h = ex d 209 1029 [l0, l1, some (va_rf a), l3] (va_rf a :: st) h := (ex_of d209_1028 (d) [l0, l1, some (va_rf a), l3] st h).trans (by cases a <;> rfl)
theorem d209_1029 : decode (mB 209) 1029 = .ok (.aload_n 0, 1) := by decide +kernel
theorem x209_1029 {d : Nat} {l1 l2 l3 : Option Value} {st : List Value} {a : Nat} {h : Hp} : ex (d) 209 1029 [some (.ref a), l1, l2, l3] st h = ex d 209 1030 [some (.ref a), l1, l2, l3] (.ref a :: st) h := (ex_of d209_1029 (d) [some (.ref a), l1, l2, l3] st h).trans (rfl)
theorem d209_1030 : decode (mB 209) 1030 = .ok (.iload_n 3, 1) := by decide +kernel
theorem x209_1030 {d : Nat} {l0 l1 l2 : Option Value} {st : List Value} {x : Int32} {h : Hp} : ex (d) 209 1030 [l0, l1, l2, some (.int x)] st h = ex d 209 1031 [l0, l1, l2, some (.int x)] (.int x :: st) h := (ex_of d209_1030 (d) [l0, l1, l2, some (.int x)] st h).trans (rfl)
theorem d209_1031 : decode (mB 209) 1031 = .ok (.iconst 1, 1) := by decide +kernel
theorem x209_1031 {d : Nat} {L : Lc} {st : List Value} {h : Hp} : ex (d) 209 1031 L st h = ex d 209 1032 L (.int (nI 1) :: st) h := (ex_of d209_1031 (d) L st h).trans (rfl)
theorem d209_1032 : decode (mB 209) 1032 = .ok (.iadd, 1) := by decide +kernel
theorem x209_1032 {d : Nat} {L : Lc} {st : List Value} {x y : Int32} {h : Hp} : ex (d) 209 1032 L (.int y :: .int x :: st) h = ex d 209 1033 L (.int (x + y) :: st) h := (ex_of d209_1032 (d) L (.int y :: .int x :: st) h).trans (rfl)
theorem d209_1033 : decode (mB 209) 1033 = .ok (.iaload, 1) := by decide +kernel
theorem x209_1033 {d : Nat} {L : Lc} {st : List Value} {a j : Nat} {h : Hp} (ht : (h.2.1 a).1 = 20) (hj : j < (h.2.1 a).2) (hb : j < 2147483648) : ex (d) 209 1033 L (.int (nI j) :: .ref a :: st) h = ex d 209 1034 L (h.1 a j :: st) h := (ex_of d209_1033 (d) L (.int (nI j) :: .ref a :: st) h).trans (fin_iaload (Or.inl ht) hj hb)
theorem d209_1034 : decode (mB 209) 1034 = .ok (.invokevirtual 129, 3) := by decide +kernel
theorem x209_1034 {d : Nat} {L : Lc} {s0 : Value} {a : Nat} {v0 : Int32} {h : Hp} (ht : (h.2.1 a).1 = 11) : ex (d + 1) 209 1034 L (.int v0 :: .ref a :: [s0]) h = bnd (ex d 195 0 [some (.ref a), some (.int v0)] [] h) (fun v h' => ex (d + 1) 209 1037 L (v.toList ++ [s0]) h') := (ex_of d209_1034 (d + 1) L (.int v0 :: .ref a :: [s0]) h).trans (fin_vi (mi := 209) i13_129 ht rfl rfl (by simp [cat1_i, cat1_r]) (by simp) (Nat.le_of_ble_eq_true rfl))
theorem d209_1037 : decode (mB 209) 1037 = .ok (.if_icmp .eq 301, 3) := by decide +kernel
theorem x209_1037 {d : Nat} {L : Lc} {st : List Value} {x y : Int32} {h : Hp} : ex (d) 209 1037 L (.int y :: .int x :: st) h = if x = y then ex d 209 1338 L st h else ex d 209 1040 L st h := (ex_of d209_1037 (d) L (.int y :: .int x :: st) h).trans (fin_brq (off := 301) (tgt := 1338) rfl (by decide))
theorem d209_1040 : decode (mB 209) 1040 = .ok (.iconst 0, 1) := by decide +kernel
theorem x209_1040 {d : Nat} {L : Lc} {st : List Value} {h : Hp} : ex (d) 209 1040 L st h = ex d 209 1041 L (.int (nI 0) :: st) h := (ex_of d209_1040 (d) L st h).trans (rfl)
theorem d209_1041 : decode (mB 209) 1041 = .ok (.ireturn, 1) := by decide +kernel
theorem x209_1041 {d : Nat} {L : Lc} {x : Int32} {h : Hp} (hx : x = 0 ∨ x = 1) : ex (d) 209 1041 L [.int x] h = some (some (.int x), h) := (ex_of d209_1041 (d) L [.int x] h).trans (fin_retb rfl hx)
theorem d209_1042 : decode (mB 209) 1042 = .ok (.aload_n 1, 1) := by decide +kernel
theorem x209_1042 {d : Nat} {l0 l2 l3 : Option Value} {st : List Value} {a : Nat} {h : Hp} : ex (d) 209 1042 [l0, some (.ref a), l2, l3] st h = ex d 209 1043 [l0, some (.ref a), l2, l3] (.ref a :: st) h := (ex_of d209_1042 (d) [l0, some (.ref a), l2, l3] st h).trans (rfl)
theorem x209_1042n {d : Nat} {l0 l2 l3 : Option Value} {st : List Value} {h : Hp} : ex (d) 209 1042 [l0, some .null, l2, l3] st h = ex d 209 1043 [l0, some .null, l2, l3] (.null :: st) h := (ex_of d209_1042 (d) [l0, some .null, l2, l3] st h).trans (rfl)
theorem x209_1042q {d : Nat} {l0 l2 l3 : Option Value} {st : List Value} {a : Option Nat} {h : Hp} : ex (d) 209 1042 [l0, some (va_rf a), l2, l3] st h = ex d 209 1043 [l0, some (va_rf a), l2, l3] (va_rf a :: st) h := (ex_of d209_1042 (d) [l0, some (va_rf a), l2, l3] st h).trans (by cases a <;> rfl)
theorem d209_1043 : decode (mB 209) 1043 = .ok (.aload_n 0, 1) := by decide +kernel
theorem x209_1043 {d : Nat} {l1 l2 l3 : Option Value} {st : List Value} {a : Nat} {h : Hp} : ex (d) 209 1043 [some (.ref a), l1, l2, l3] st h = ex d 209 1044 [some (.ref a), l1, l2, l3] (.ref a :: st) h := (ex_of d209_1043 (d) [some (.ref a), l1, l2, l3] st h).trans (rfl)
theorem d209_1044 : decode (mB 209) 1044 = .ok (.iload_n 3, 1) := by decide +kernel
theorem x209_1044 {d : Nat} {l0 l1 l2 : Option Value} {st : List Value} {x : Int32} {h : Hp} : ex (d) 209 1044 [l0, l1, l2, some (.int x)] st h = ex d 209 1045 [l0, l1, l2, some (.int x)] (.int x :: st) h := (ex_of d209_1044 (d) [l0, l1, l2, some (.int x)] st h).trans (rfl)
theorem d209_1045 : decode (mB 209) 1045 = .ok (.iconst 1, 1) := by decide +kernel
theorem x209_1045 {d : Nat} {L : Lc} {st : List Value} {h : Hp} : ex (d) 209 1045 L st h = ex d 209 1046 L (.int (nI 1) :: st) h := (ex_of d209_1045 (d) L st h).trans (rfl)
theorem d209_1046 : decode (mB 209) 1046 = .ok (.iadd, 1) := by decide +kernel
theorem x209_1046 {d : Nat} {L : Lc} {st : List Value} {x y : Int32} {h : Hp} : ex (d) 209 1046 L (.int y :: .int x :: st) h = ex d 209 1047 L (.int (x + y) :: st) h := (ex_of d209_1046 (d) L (.int y :: .int x :: st) h).trans (rfl)
theorem d209_1047 : decode (mB 209) 1047 = .ok (.iaload, 1) := by decide +kernel
theorem x209_1047 {d : Nat} {L : Lc} {st : List Value} {a j : Nat} {h : Hp} (ht : (h.2.1 a).1 = 20) (hj : j < (h.2.1 a).2) (hb : j < 2147483648) : ex (d) 209 1047 L (.int (nI j) :: .ref a :: st) h = ex d 209 1048 L (h.1 a j :: st) h := (ex_of d209_1047 (d) L (.int (nI j) :: .ref a :: st) h).trans (fin_iaload (Or.inl ht) hj hb)
theorem d209_1048 : decode (mB 209) 1048 = .ok (.aload_n 0, 1) := by decide +kernel
theorem x209_1048 {d : Nat} {l1 l2 l3 : Option Value} {st : List Value} {a : Nat} {h : Hp} : ex (d) 209 1048 [some (.ref a), l1, l2, l3] st h = ex d 209 1049 [some (.ref a), l1, l2, l3] (.ref a :: st) h := (ex_of d209_1048 (d) [some (.ref a), l1, l2, l3] st h).trans (rfl)
theorem d209_1049 : decode (mB 209) 1049 = .ok (.iload_n 3, 1) := by decide +kernel
theorem x209_1049 {d : Nat} {l0 l1 l2 : Option Value} {st : List Value} {x : Int32} {h : Hp} : ex (d) 209 1049 [l0, l1, l2, some (.int x)] st h = ex d 209 1050 [l0, l1, l2, some (.int x)] (.int x :: st) h := (ex_of d209_1049 (d) [l0, l1, l2, some (.int x)] st h).trans (rfl)
theorem d209_1050 : decode (mB 209) 1050 = .ok (.iconst 2, 1) := by decide +kernel
theorem x209_1050 {d : Nat} {L : Lc} {st : List Value} {h : Hp} : ex (d) 209 1050 L st h = ex d 209 1051 L (.int (nI 2) :: st) h := (ex_of d209_1050 (d) L st h).trans (rfl)
theorem d209_1051 : decode (mB 209) 1051 = .ok (.iadd, 1) := by decide +kernel
theorem x209_1051 {d : Nat} {L : Lc} {st : List Value} {x y : Int32} {h : Hp} : ex (d) 209 1051 L (.int y :: .int x :: st) h = ex d 209 1052 L (.int (x + y) :: st) h := (ex_of d209_1051 (d) L (.int y :: .int x :: st) h).trans (rfl)
theorem d209_1052 : decode (mB 209) 1052 = .ok (.iaload, 1) := by decide +kernel
theorem x209_1052 {d : Nat} {L : Lc} {st : List Value} {a j : Nat} {h : Hp} (ht : (h.2.1 a).1 = 20) (hj : j < (h.2.1 a).2) (hb : j < 2147483648) : ex (d) 209 1052 L (.int (nI j) :: .ref a :: st) h = ex d 209 1053 L (h.1 a j :: st) h := (ex_of d209_1052 (d) L (.int (nI j) :: .ref a :: st) h).trans (fin_iaload (Or.inl ht) hj hb)
theorem d209_1053 : decode (mB 209) 1053 = .ok (.invokevirtual 130, 3) := by decide +kernel
theorem x209_1053 {d : Nat} {L : Lc} {a : Nat} {v0 : Int32} {v1 : Int32} {h : Hp} (ht : (h.2.1 a).1 = 10) : ex (d + 1) 209 1053 L (.int v1 :: .int v0 :: .ref a :: []) h = bnd (ex d 72 0 [some (.ref a), some (.int v0), some (.int v1), none, none] [] h) (fun v h' => ex (d + 1) 209 1056 L (v.toList ++ []) h') := (ex_of d209_1053 (d + 1) L (.int v1 :: .int v0 :: .ref a :: []) h).trans (fin_vi (mi := 209) i13_130 ht rfl rfl (by simp [cat1_i, cat1_r]) (by simp) (Nat.le_of_ble_eq_true rfl))
theorem d209_1056 : decode (mB 209) 1056 = .ok (.aload_n 2, 1) := by decide +kernel
theorem x209_1056 {d : Nat} {l0 l1 l3 : Option Value} {st : List Value} {a : Nat} {h : Hp} : ex (d) 209 1056 [l0, l1, some (.ref a), l3] st h = ex d 209 1057 [l0, l1, some (.ref a), l3] (.ref a :: st) h := (ex_of d209_1056 (d) [l0, l1, some (.ref a), l3] st h).trans (rfl)
theorem x209_1056n {d : Nat} {l0 l1 l3 : Option Value} {st : List Value} {h : Hp} : ex (d) 209 1056 [l0, l1, some .null, l3] st h = ex d 209 1057 [l0, l1, some .null, l3] (.null :: st) h := (ex_of d209_1056 (d) [l0, l1, some .null, l3] st h).trans (rfl)
theorem x209_1056q {d : Nat} {l0 l1 l3 : Option Value} {st : List Value} {a : Option Nat} {h : Hp} : ex (d) 209 1056 [l0, l1, some (va_rf a), l3] st h = ex d 209 1057 [l0, l1, some (va_rf a), l3] (va_rf a :: st) h := (ex_of d209_1056 (d) [l0, l1, some (va_rf a), l3] st h).trans (by cases a <;> rfl)
theorem d209_1057 : decode (mB 209) 1057 = .ok (.aload_n 0, 1) := by decide +kernel
theorem x209_1057 {d : Nat} {l1 l2 l3 : Option Value} {st : List Value} {a : Nat} {h : Hp} : ex (d) 209 1057 [some (.ref a), l1, l2, l3] st h = ex d 209 1058 [some (.ref a), l1, l2, l3] (.ref a :: st) h := (ex_of d209_1057 (d) [some (.ref a), l1, l2, l3] st h).trans (rfl)
theorem d209_1058 : decode (mB 209) 1058 = .ok (.iload_n 3, 1) := by decide +kernel
theorem x209_1058 {d : Nat} {l0 l1 l2 : Option Value} {st : List Value} {x : Int32} {h : Hp} : ex (d) 209 1058 [l0, l1, l2, some (.int x)] st h = ex d 209 1059 [l0, l1, l2, some (.int x)] (.int x :: st) h := (ex_of d209_1058 (d) [l0, l1, l2, some (.int x)] st h).trans (rfl)
theorem d209_1059 : decode (mB 209) 1059 = .ok (.iconst 1, 1) := by decide +kernel
theorem x209_1059 {d : Nat} {L : Lc} {st : List Value} {h : Hp} : ex (d) 209 1059 L st h = ex d 209 1060 L (.int (nI 1) :: st) h := (ex_of d209_1059 (d) L st h).trans (rfl)
theorem d209_1060 : decode (mB 209) 1060 = .ok (.iadd, 1) := by decide +kernel
theorem x209_1060 {d : Nat} {L : Lc} {st : List Value} {x y : Int32} {h : Hp} : ex (d) 209 1060 L (.int y :: .int x :: st) h = ex d 209 1061 L (.int (x + y) :: st) h := (ex_of d209_1060 (d) L (.int y :: .int x :: st) h).trans (rfl)
theorem d209_1061 : decode (mB 209) 1061 = .ok (.iaload, 1) := by decide +kernel
theorem x209_1061 {d : Nat} {L : Lc} {st : List Value} {a j : Nat} {h : Hp} (ht : (h.2.1 a).1 = 20) (hj : j < (h.2.1 a).2) (hb : j < 2147483648) : ex (d) 209 1061 L (.int (nI j) :: .ref a :: st) h = ex d 209 1062 L (h.1 a j :: st) h := (ex_of d209_1061 (d) L (.int (nI j) :: .ref a :: st) h).trans (fin_iaload (Or.inl ht) hj hb)
theorem d209_1062 : decode (mB 209) 1062 = .ok (.aload_n 0, 1) := by decide +kernel
theorem x209_1062 {d : Nat} {l1 l2 l3 : Option Value} {st : List Value} {a : Nat} {h : Hp} : ex (d) 209 1062 [some (.ref a), l1, l2, l3] st h = ex d 209 1063 [some (.ref a), l1, l2, l3] (.ref a :: st) h := (ex_of d209_1062 (d) [some (.ref a), l1, l2, l3] st h).trans (rfl)
theorem d209_1063 : decode (mB 209) 1063 = .ok (.iload_n 3, 1) := by decide +kernel
theorem x209_1063 {d : Nat} {l0 l1 l2 : Option Value} {st : List Value} {x : Int32} {h : Hp} : ex (d) 209 1063 [l0, l1, l2, some (.int x)] st h = ex d 209 1064 [l0, l1, l2, some (.int x)] (.int x :: st) h := (ex_of d209_1063 (d) [l0, l1, l2, some (.int x)] st h).trans (rfl)
theorem d209_1064 : decode (mB 209) 1064 = .ok (.iconst 2, 1) := by decide +kernel
theorem x209_1064 {d : Nat} {L : Lc} {st : List Value} {h : Hp} : ex (d) 209 1064 L st h = ex d 209 1065 L (.int (nI 2) :: st) h := (ex_of d209_1064 (d) L st h).trans (rfl)
theorem d209_1065 : decode (mB 209) 1065 = .ok (.iadd, 1) := by decide +kernel
theorem x209_1065 {d : Nat} {L : Lc} {st : List Value} {x y : Int32} {h : Hp} : ex (d) 209 1065 L (.int y :: .int x :: st) h = ex d 209 1066 L (.int (x + y) :: st) h := (ex_of d209_1065 (d) L (.int y :: .int x :: st) h).trans (rfl)
theorem d209_1066 : decode (mB 209) 1066 = .ok (.iaload, 1) := by decide +kernel
theorem x209_1066 {d : Nat} {L : Lc} {st : List Value} {a j : Nat} {h : Hp} (ht : (h.2.1 a).1 = 20) (hj : j < (h.2.1 a).2) (hb : j < 2147483648) : ex (d) 209 1066 L (.int (nI j) :: .ref a :: st) h = ex d 209 1067 L (h.1 a j :: st) h := (ex_of d209_1066 (d) L (.int (nI j) :: .ref a :: st) h).trans (fin_iaload (Or.inl ht) hj hb)
theorem d209_1067 : decode (mB 209) 1067 = .ok (.invokevirtual 133, 3) := by decide +kernel
theorem x209_1067 {d : Nat} {L : Lc} {s0 : Value} {a : Nat} {v0 : Int32} {v1 : Int32} {h : Hp} (ht : (h.2.1 a).1 = 11) : ex (d + 1) 209 1067 L (.int v1 :: .int v0 :: .ref a :: [s0]) h = bnd (ex d 196 0 [some (.ref a), some (.int v0), some (.int v1), none] [] h) (fun v h' => ex (d + 1) 209 1070 L (v.toList ++ [s0]) h') := (ex_of d209_1067 (d + 1) L (.int v1 :: .int v0 :: .ref a :: [s0]) h).trans (fin_vi (mi := 209) i13_133 ht rfl rfl (by simp [cat1_i, cat1_r]) (by simp) (Nat.le_of_ble_eq_true rfl))
theorem d209_1070 : decode (mB 209) 1070 = .ok (.if_icmp .eq 268, 3) := by decide +kernel
theorem x209_1070 {d : Nat} {L : Lc} {st : List Value} {x y : Int32} {h : Hp} : ex (d) 209 1070 L (.int y :: .int x :: st) h = if x = y then ex d 209 1338 L st h else ex d 209 1073 L st h := (ex_of d209_1070 (d) L (.int y :: .int x :: st) h).trans (fin_brq (off := 268) (tgt := 1338) rfl (by decide))
theorem d209_1073 : decode (mB 209) 1073 = .ok (.iconst 0, 1) := by decide +kernel
theorem x209_1073 {d : Nat} {L : Lc} {st : List Value} {h : Hp} : ex (d) 209 1073 L st h = ex d 209 1074 L (.int (nI 0) :: st) h := (ex_of d209_1073 (d) L st h).trans (rfl)
theorem d209_1074 : decode (mB 209) 1074 = .ok (.ireturn, 1) := by decide +kernel
theorem x209_1074 {d : Nat} {L : Lc} {x : Int32} {h : Hp} (hx : x = 0 ∨ x = 1) : ex (d) 209 1074 L [.int x] h = some (some (.int x), h) := (ex_of d209_1074 (d) L [.int x] h).trans (fin_retb rfl hx)
theorem d209_1075 : decode (mB 209) 1075 = .ok (.aload_n 1, 1) := by decide +kernel
theorem x209_1075 {d : Nat} {l0 l2 l3 : Option Value} {st : List Value} {a : Nat} {h : Hp} : ex (d) 209 1075 [l0, some (.ref a), l2, l3] st h = ex d 209 1076 [l0, some (.ref a), l2, l3] (.ref a :: st) h := (ex_of d209_1075 (d) [l0, some (.ref a), l2, l3] st h).trans (rfl)
theorem x209_1075n {d : Nat} {l0 l2 l3 : Option Value} {st : List Value} {h : Hp} : ex (d) 209 1075 [l0, some .null, l2, l3] st h = ex d 209 1076 [l0, some .null, l2, l3] (.null :: st) h := (ex_of d209_1075 (d) [l0, some .null, l2, l3] st h).trans (rfl)
theorem x209_1075q {d : Nat} {l0 l2 l3 : Option Value} {st : List Value} {a : Option Nat} {h : Hp} : ex (d) 209 1075 [l0, some (va_rf a), l2, l3] st h = ex d 209 1076 [l0, some (va_rf a), l2, l3] (va_rf a :: st) h := (ex_of d209_1075 (d) [l0, some (va_rf a), l2, l3] st h).trans (by cases a <;> rfl)
theorem d209_1076 : decode (mB 209) 1076 = .ok (.aload_n 0, 1) := by decide +kernel
theorem x209_1076 {d : Nat} {l1 l2 l3 : Option Value} {st : List Value} {a : Nat} {h : Hp} : ex (d) 209 1076 [some (.ref a), l1, l2, l3] st h = ex d 209 1077 [some (.ref a), l1, l2, l3] (.ref a :: st) h := (ex_of d209_1076 (d) [some (.ref a), l1, l2, l3] st h).trans (rfl)
theorem d209_1077 : decode (mB 209) 1077 = .ok (.iload_n 3, 1) := by decide +kernel
theorem x209_1077 {d : Nat} {l0 l1 l2 : Option Value} {st : List Value} {x : Int32} {h : Hp} : ex (d) 209 1077 [l0, l1, l2, some (.int x)] st h = ex d 209 1078 [l0, l1, l2, some (.int x)] (.int x :: st) h := (ex_of d209_1077 (d) [l0, l1, l2, some (.int x)] st h).trans (rfl)
theorem d209_1078 : decode (mB 209) 1078 = .ok (.iconst 1, 1) := by decide +kernel
theorem x209_1078 {d : Nat} {L : Lc} {st : List Value} {h : Hp} : ex (d) 209 1078 L st h = ex d 209 1079 L (.int (nI 1) :: st) h := (ex_of d209_1078 (d) L st h).trans (rfl)
theorem d209_1079 : decode (mB 209) 1079 = .ok (.iadd, 1) := by decide +kernel
theorem x209_1079 {d : Nat} {L : Lc} {st : List Value} {x y : Int32} {h : Hp} : ex (d) 209 1079 L (.int y :: .int x :: st) h = ex d 209 1080 L (.int (x + y) :: st) h := (ex_of d209_1079 (d) L (.int y :: .int x :: st) h).trans (rfl)
theorem d209_1080 : decode (mB 209) 1080 = .ok (.iaload, 1) := by decide +kernel
theorem x209_1080 {d : Nat} {L : Lc} {st : List Value} {a j : Nat} {h : Hp} (ht : (h.2.1 a).1 = 20) (hj : j < (h.2.1 a).2) (hb : j < 2147483648) : ex (d) 209 1080 L (.int (nI j) :: .ref a :: st) h = ex d 209 1081 L (h.1 a j :: st) h := (ex_of d209_1080 (d) L (.int (nI j) :: .ref a :: st) h).trans (fin_iaload (Or.inl ht) hj hb)
theorem d209_1081 : decode (mB 209) 1081 = .ok (.aload_n 0, 1) := by decide +kernel
theorem x209_1081 {d : Nat} {l1 l2 l3 : Option Value} {st : List Value} {a : Nat} {h : Hp} : ex (d) 209 1081 [some (.ref a), l1, l2, l3] st h = ex d 209 1082 [some (.ref a), l1, l2, l3] (.ref a :: st) h := (ex_of d209_1081 (d) [some (.ref a), l1, l2, l3] st h).trans (rfl)
theorem d209_1082 : decode (mB 209) 1082 = .ok (.iload_n 3, 1) := by decide +kernel
theorem x209_1082 {d : Nat} {l0 l1 l2 : Option Value} {st : List Value} {x : Int32} {h : Hp} : ex (d) 209 1082 [l0, l1, l2, some (.int x)] st h = ex d 209 1083 [l0, l1, l2, some (.int x)] (.int x :: st) h := (ex_of d209_1082 (d) [l0, l1, l2, some (.int x)] st h).trans (rfl)
theorem d209_1083 : decode (mB 209) 1083 = .ok (.iconst 2, 1) := by decide +kernel
theorem x209_1083 {d : Nat} {L : Lc} {st : List Value} {h : Hp} : ex (d) 209 1083 L st h = ex d 209 1084 L (.int (nI 2) :: st) h := (ex_of d209_1083 (d) L st h).trans (rfl)
theorem d209_1084 : decode (mB 209) 1084 = .ok (.iadd, 1) := by decide +kernel
theorem x209_1084 {d : Nat} {L : Lc} {st : List Value} {x y : Int32} {h : Hp} : ex (d) 209 1084 L (.int y :: .int x :: st) h = ex d 209 1085 L (.int (x + y) :: st) h := (ex_of d209_1084 (d) L (.int y :: .int x :: st) h).trans (rfl)
theorem d209_1085 : decode (mB 209) 1085 = .ok (.iaload, 1) := by decide +kernel
theorem x209_1085 {d : Nat} {L : Lc} {st : List Value} {a j : Nat} {h : Hp} (ht : (h.2.1 a).1 = 20) (hj : j < (h.2.1 a).2) (hb : j < 2147483648) : ex (d) 209 1085 L (.int (nI j) :: .ref a :: st) h = ex d 209 1086 L (h.1 a j :: st) h := (ex_of d209_1085 (d) L (.int (nI j) :: .ref a :: st) h).trans (fin_iaload (Or.inl ht) hj hb)
theorem d209_1086 : decode (mB 209) 1086 = .ok (.invokevirtual 134, 3) := by decide +kernel
theorem x209_1086 {d : Nat} {L : Lc} {a : Nat} {v0 : Int32} {v1 : Int32} {h : Hp} (ht : (h.2.1 a).1 = 10) : ex (d + 1) 209 1086 L (.int v1 :: .int v0 :: .ref a :: []) h = bnd (ex d 73 0 [some (.ref a), some (.int v0), some (.int v1), none, none] [] h) (fun v h' => ex (d + 1) 209 1089 L (v.toList ++ []) h') := (ex_of d209_1086 (d + 1) L (.int v1 :: .int v0 :: .ref a :: []) h).trans (fin_vi (mi := 209) i13_134 ht rfl rfl (by simp [cat1_i, cat1_r]) (by simp) (Nat.le_of_ble_eq_true rfl))
theorem d209_1089 : decode (mB 209) 1089 = .ok (.aload_n 2, 1) := by decide +kernel
theorem x209_1089 {d : Nat} {l0 l1 l3 : Option Value} {st : List Value} {a : Nat} {h : Hp} : ex (d) 209 1089 [l0, l1, some (.ref a), l3] st h = ex d 209 1090 [l0, l1, some (.ref a), l3] (.ref a :: st) h := (ex_of d209_1089 (d) [l0, l1, some (.ref a), l3] st h).trans (rfl)
theorem x209_1089n {d : Nat} {l0 l1 l3 : Option Value} {st : List Value} {h : Hp} : ex (d) 209 1089 [l0, l1, some .null, l3] st h = ex d 209 1090 [l0, l1, some .null, l3] (.null :: st) h := (ex_of d209_1089 (d) [l0, l1, some .null, l3] st h).trans (rfl)
theorem x209_1089q {d : Nat} {l0 l1 l3 : Option Value} {st : List Value} {a : Option Nat} {h : Hp} : ex (d) 209 1089 [l0, l1, some (va_rf a), l3] st h = ex d 209 1090 [l0, l1, some (va_rf a), l3] (va_rf a :: st) h := (ex_of d209_1089 (d) [l0, l1, some (va_rf a), l3] st h).trans (by cases a <;> rfl)
theorem d209_1090 : decode (mB 209) 1090 = .ok (.aload_n 0, 1) := by decide +kernel
theorem x209_1090 {d : Nat} {l1 l2 l3 : Option Value} {st : List Value} {a : Nat} {h : Hp} : ex (d) 209 1090 [some (.ref a), l1, l2, l3] st h = ex d 209 1091 [some (.ref a), l1, l2, l3] (.ref a :: st) h := (ex_of d209_1090 (d) [some (.ref a), l1, l2, l3] st h).trans (rfl)
theorem d209_1091 : decode (mB 209) 1091 = .ok (.iload_n 3, 1) := by decide +kernel
theorem x209_1091 {d : Nat} {l0 l1 l2 : Option Value} {st : List Value} {x : Int32} {h : Hp} : ex (d) 209 1091 [l0, l1, l2, some (.int x)] st h = ex d 209 1092 [l0, l1, l2, some (.int x)] (.int x :: st) h := (ex_of d209_1091 (d) [l0, l1, l2, some (.int x)] st h).trans (rfl)
theorem d209_1092 : decode (mB 209) 1092 = .ok (.iconst 1, 1) := by decide +kernel
theorem x209_1092 {d : Nat} {L : Lc} {st : List Value} {h : Hp} : ex (d) 209 1092 L st h = ex d 209 1093 L (.int (nI 1) :: st) h := (ex_of d209_1092 (d) L st h).trans (rfl)
theorem d209_1093 : decode (mB 209) 1093 = .ok (.iadd, 1) := by decide +kernel
theorem x209_1093 {d : Nat} {L : Lc} {st : List Value} {x y : Int32} {h : Hp} : ex (d) 209 1093 L (.int y :: .int x :: st) h = ex d 209 1094 L (.int (x + y) :: st) h := (ex_of d209_1093 (d) L (.int y :: .int x :: st) h).trans (rfl)
theorem d209_1094 : decode (mB 209) 1094 = .ok (.iaload, 1) := by decide +kernel
theorem x209_1094 {d : Nat} {L : Lc} {st : List Value} {a j : Nat} {h : Hp} (ht : (h.2.1 a).1 = 20) (hj : j < (h.2.1 a).2) (hb : j < 2147483648) : ex (d) 209 1094 L (.int (nI j) :: .ref a :: st) h = ex d 209 1095 L (h.1 a j :: st) h := (ex_of d209_1094 (d) L (.int (nI j) :: .ref a :: st) h).trans (fin_iaload (Or.inl ht) hj hb)
theorem d209_1095 : decode (mB 209) 1095 = .ok (.aload_n 0, 1) := by decide +kernel
theorem x209_1095 {d : Nat} {l1 l2 l3 : Option Value} {st : List Value} {a : Nat} {h : Hp} : ex (d) 209 1095 [some (.ref a), l1, l2, l3] st h = ex d 209 1096 [some (.ref a), l1, l2, l3] (.ref a :: st) h := (ex_of d209_1095 (d) [some (.ref a), l1, l2, l3] st h).trans (rfl)
theorem d209_1096 : decode (mB 209) 1096 = .ok (.iload_n 3, 1) := by decide +kernel
theorem x209_1096 {d : Nat} {l0 l1 l2 : Option Value} {st : List Value} {x : Int32} {h : Hp} : ex (d) 209 1096 [l0, l1, l2, some (.int x)] st h = ex d 209 1097 [l0, l1, l2, some (.int x)] (.int x :: st) h := (ex_of d209_1096 (d) [l0, l1, l2, some (.int x)] st h).trans (rfl)
theorem d209_1097 : decode (mB 209) 1097 = .ok (.iconst 2, 1) := by decide +kernel
theorem x209_1097 {d : Nat} {L : Lc} {st : List Value} {h : Hp} : ex (d) 209 1097 L st h = ex d 209 1098 L (.int (nI 2) :: st) h := (ex_of d209_1097 (d) L st h).trans (rfl)
theorem d209_1098 : decode (mB 209) 1098 = .ok (.iadd, 1) := by decide +kernel
theorem x209_1098 {d : Nat} {L : Lc} {st : List Value} {x y : Int32} {h : Hp} : ex (d) 209 1098 L (.int y :: .int x :: st) h = ex d 209 1099 L (.int (x + y) :: st) h := (ex_of d209_1098 (d) L (.int y :: .int x :: st) h).trans (rfl)
theorem d209_1099 : decode (mB 209) 1099 = .ok (.iaload, 1) := by decide +kernel
theorem x209_1099 {d : Nat} {L : Lc} {st : List Value} {a j : Nat} {h : Hp} (ht : (h.2.1 a).1 = 20) (hj : j < (h.2.1 a).2) (hb : j < 2147483648) : ex (d) 209 1099 L (.int (nI j) :: .ref a :: st) h = ex d 209 1100 L (h.1 a j :: st) h := (ex_of d209_1099 (d) L (.int (nI j) :: .ref a :: st) h).trans (fin_iaload (Or.inl ht) hj hb)
theorem d209_1100 : decode (mB 209) 1100 = .ok (.invokevirtual 137, 3) := by decide +kernel
theorem x209_1100 {d : Nat} {L : Lc} {s0 : Value} {a : Nat} {v0 : Int32} {v1 : Int32} {h : Hp} (ht : (h.2.1 a).1 = 11) : ex (d + 1) 209 1100 L (.int v1 :: .int v0 :: .ref a :: [s0]) h = bnd (ex d 197 0 [some (.ref a), some (.int v0), some (.int v1)] [] h) (fun v h' => ex (d + 1) 209 1103 L (v.toList ++ [s0]) h') := (ex_of d209_1100 (d + 1) L (.int v1 :: .int v0 :: .ref a :: [s0]) h).trans (fin_vi (mi := 209) i13_137 ht rfl rfl (by simp [cat1_i, cat1_r]) (by simp) (Nat.le_of_ble_eq_true rfl))
theorem d209_1103 : decode (mB 209) 1103 = .ok (.if_icmp .eq 235, 3) := by decide +kernel
theorem x209_1103 {d : Nat} {L : Lc} {st : List Value} {x y : Int32} {h : Hp} : ex (d) 209 1103 L (.int y :: .int x :: st) h = if x = y then ex d 209 1338 L st h else ex d 209 1106 L st h := (ex_of d209_1103 (d) L (.int y :: .int x :: st) h).trans (fin_brq (off := 235) (tgt := 1338) rfl (by decide))
theorem d209_1106 : decode (mB 209) 1106 = .ok (.iconst 0, 1) := by decide +kernel
theorem x209_1106 {d : Nat} {L : Lc} {st : List Value} {h : Hp} : ex (d) 209 1106 L st h = ex d 209 1107 L (.int (nI 0) :: st) h := (ex_of d209_1106 (d) L st h).trans (rfl)
theorem d209_1107 : decode (mB 209) 1107 = .ok (.ireturn, 1) := by decide +kernel
theorem x209_1107 {d : Nat} {L : Lc} {x : Int32} {h : Hp} (hx : x = 0 ∨ x = 1) : ex (d) 209 1107 L [.int x] h = some (some (.int x), h) := (ex_of d209_1107 (d) L [.int x] h).trans (fin_retb rfl hx)
theorem d209_1108 : decode (mB 209) 1108 = .ok (.aload_n 1, 1) := by decide +kernel
theorem x209_1108 {d : Nat} {l0 l2 l3 : Option Value} {st : List Value} {a : Nat} {h : Hp} : ex (d) 209 1108 [l0, some (.ref a), l2, l3] st h = ex d 209 1109 [l0, some (.ref a), l2, l3] (.ref a :: st) h := (ex_of d209_1108 (d) [l0, some (.ref a), l2, l3] st h).trans (rfl)
theorem x209_1108n {d : Nat} {l0 l2 l3 : Option Value} {st : List Value} {h : Hp} : ex (d) 209 1108 [l0, some .null, l2, l3] st h = ex d 209 1109 [l0, some .null, l2, l3] (.null :: st) h := (ex_of d209_1108 (d) [l0, some .null, l2, l3] st h).trans (rfl)
theorem x209_1108q {d : Nat} {l0 l2 l3 : Option Value} {st : List Value} {a : Option Nat} {h : Hp} : ex (d) 209 1108 [l0, some (va_rf a), l2, l3] st h = ex d 209 1109 [l0, some (va_rf a), l2, l3] (va_rf a :: st) h := (ex_of d209_1108 (d) [l0, some (va_rf a), l2, l3] st h).trans (by cases a <;> rfl)
theorem d209_1109 : decode (mB 209) 1109 = .ok (.aload_n 0, 1) := by decide +kernel
theorem x209_1109 {d : Nat} {l1 l2 l3 : Option Value} {st : List Value} {a : Nat} {h : Hp} : ex (d) 209 1109 [some (.ref a), l1, l2, l3] st h = ex d 209 1110 [some (.ref a), l1, l2, l3] (.ref a :: st) h := (ex_of d209_1109 (d) [some (.ref a), l1, l2, l3] st h).trans (rfl)
theorem d209_1110 : decode (mB 209) 1110 = .ok (.iload_n 3, 1) := by decide +kernel
theorem x209_1110 {d : Nat} {l0 l1 l2 : Option Value} {st : List Value} {x : Int32} {h : Hp} : ex (d) 209 1110 [l0, l1, l2, some (.int x)] st h = ex d 209 1111 [l0, l1, l2, some (.int x)] (.int x :: st) h := (ex_of d209_1110 (d) [l0, l1, l2, some (.int x)] st h).trans (rfl)
theorem d209_1111 : decode (mB 209) 1111 = .ok (.iconst 1, 1) := by decide +kernel
theorem x209_1111 {d : Nat} {L : Lc} {st : List Value} {h : Hp} : ex (d) 209 1111 L st h = ex d 209 1112 L (.int (nI 1) :: st) h := (ex_of d209_1111 (d) L st h).trans (rfl)
theorem d209_1112 : decode (mB 209) 1112 = .ok (.iadd, 1) := by decide +kernel
theorem x209_1112 {d : Nat} {L : Lc} {st : List Value} {x y : Int32} {h : Hp} : ex (d) 209 1112 L (.int y :: .int x :: st) h = ex d 209 1113 L (.int (x + y) :: st) h := (ex_of d209_1112 (d) L (.int y :: .int x :: st) h).trans (rfl)
theorem d209_1113 : decode (mB 209) 1113 = .ok (.iaload, 1) := by decide +kernel
theorem x209_1113 {d : Nat} {L : Lc} {st : List Value} {a j : Nat} {h : Hp} (ht : (h.2.1 a).1 = 20) (hj : j < (h.2.1 a).2) (hb : j < 2147483648) : ex (d) 209 1113 L (.int (nI j) :: .ref a :: st) h = ex d 209 1114 L (h.1 a j :: st) h := (ex_of d209_1113 (d) L (.int (nI j) :: .ref a :: st) h).trans (fin_iaload (Or.inl ht) hj hb)
theorem d209_1114 : decode (mB 209) 1114 = .ok (.aload_n 0, 1) := by decide +kernel
theorem x209_1114 {d : Nat} {l1 l2 l3 : Option Value} {st : List Value} {a : Nat} {h : Hp} : ex (d) 209 1114 [some (.ref a), l1, l2, l3] st h = ex d 209 1115 [some (.ref a), l1, l2, l3] (.ref a :: st) h := (ex_of d209_1114 (d) [some (.ref a), l1, l2, l3] st h).trans (rfl)
theorem d209_1115 : decode (mB 209) 1115 = .ok (.iload_n 3, 1) := by decide +kernel
theorem x209_1115 {d : Nat} {l0 l1 l2 : Option Value} {st : List Value} {x : Int32} {h : Hp} : ex (d) 209 1115 [l0, l1, l2, some (.int x)] st h = ex d 209 1116 [l0, l1, l2, some (.int x)] (.int x :: st) h := (ex_of d209_1115 (d) [l0, l1, l2, some (.int x)] st h).trans (rfl)
theorem d209_1116 : decode (mB 209) 1116 = .ok (.iconst 2, 1) := by decide +kernel
theorem x209_1116 {d : Nat} {L : Lc} {st : List Value} {h : Hp} : ex (d) 209 1116 L st h = ex d 209 1117 L (.int (nI 2) :: st) h := (ex_of d209_1116 (d) L st h).trans (rfl)
theorem d209_1117 : decode (mB 209) 1117 = .ok (.iadd, 1) := by decide +kernel
theorem x209_1117 {d : Nat} {L : Lc} {st : List Value} {x y : Int32} {h : Hp} : ex (d) 209 1117 L (.int y :: .int x :: st) h = ex d 209 1118 L (.int (x + y) :: st) h := (ex_of d209_1117 (d) L (.int y :: .int x :: st) h).trans (rfl)
theorem d209_1118 : decode (mB 209) 1118 = .ok (.iaload, 1) := by decide +kernel
theorem x209_1118 {d : Nat} {L : Lc} {st : List Value} {a j : Nat} {h : Hp} (ht : (h.2.1 a).1 = 20) (hj : j < (h.2.1 a).2) (hb : j < 2147483648) : ex (d) 209 1118 L (.int (nI j) :: .ref a :: st) h = ex d 209 1119 L (h.1 a j :: st) h := (ex_of d209_1118 (d) L (.int (nI j) :: .ref a :: st) h).trans (fin_iaload (Or.inl ht) hj hb)
theorem d209_1119 : decode (mB 209) 1119 = .ok (.aload_n 0, 1) := by decide +kernel
theorem x209_1119 {d : Nat} {l1 l2 l3 : Option Value} {st : List Value} {a : Nat} {h : Hp} : ex (d) 209 1119 [some (.ref a), l1, l2, l3] st h = ex d 209 1120 [some (.ref a), l1, l2, l3] (.ref a :: st) h := (ex_of d209_1119 (d) [some (.ref a), l1, l2, l3] st h).trans (rfl)
theorem d209_1120 : decode (mB 209) 1120 = .ok (.iload_n 3, 1) := by decide +kernel
theorem x209_1120 {d : Nat} {l0 l1 l2 : Option Value} {st : List Value} {x : Int32} {h : Hp} : ex (d) 209 1120 [l0, l1, l2, some (.int x)] st h = ex d 209 1121 [l0, l1, l2, some (.int x)] (.int x :: st) h := (ex_of d209_1120 (d) [l0, l1, l2, some (.int x)] st h).trans (rfl)
theorem d209_1121 : decode (mB 209) 1121 = .ok (.iconst 3, 1) := by decide +kernel
theorem x209_1121 {d : Nat} {L : Lc} {st : List Value} {h : Hp} : ex (d) 209 1121 L st h = ex d 209 1122 L (.int (nI 3) :: st) h := (ex_of d209_1121 (d) L st h).trans (rfl)
theorem d209_1122 : decode (mB 209) 1122 = .ok (.iadd, 1) := by decide +kernel
theorem x209_1122 {d : Nat} {L : Lc} {st : List Value} {x y : Int32} {h : Hp} : ex (d) 209 1122 L (.int y :: .int x :: st) h = ex d 209 1123 L (.int (x + y) :: st) h := (ex_of d209_1122 (d) L (.int y :: .int x :: st) h).trans (rfl)
theorem d209_1123 : decode (mB 209) 1123 = .ok (.iaload, 1) := by decide +kernel
theorem x209_1123 {d : Nat} {L : Lc} {st : List Value} {a j : Nat} {h : Hp} (ht : (h.2.1 a).1 = 20) (hj : j < (h.2.1 a).2) (hb : j < 2147483648) : ex (d) 209 1123 L (.int (nI j) :: .ref a :: st) h = ex d 209 1124 L (h.1 a j :: st) h := (ex_of d209_1123 (d) L (.int (nI j) :: .ref a :: st) h).trans (fin_iaload (Or.inl ht) hj hb)
theorem d209_1124 : decode (mB 209) 1124 = .ok (.aload_n 0, 1) := by decide +kernel
theorem x209_1124 {d : Nat} {l1 l2 l3 : Option Value} {st : List Value} {a : Nat} {h : Hp} : ex (d) 209 1124 [some (.ref a), l1, l2, l3] st h = ex d 209 1125 [some (.ref a), l1, l2, l3] (.ref a :: st) h := (ex_of d209_1124 (d) [some (.ref a), l1, l2, l3] st h).trans (rfl)
theorem d209_1125 : decode (mB 209) 1125 = .ok (.iload_n 3, 1) := by decide +kernel
theorem x209_1125 {d : Nat} {l0 l1 l2 : Option Value} {st : List Value} {x : Int32} {h : Hp} : ex (d) 209 1125 [l0, l1, l2, some (.int x)] st h = ex d 209 1126 [l0, l1, l2, some (.int x)] (.int x :: st) h := (ex_of d209_1125 (d) [l0, l1, l2, some (.int x)] st h).trans (rfl)
theorem d209_1126 : decode (mB 209) 1126 = .ok (.iconst 4, 1) := by decide +kernel
theorem x209_1126 {d : Nat} {L : Lc} {st : List Value} {h : Hp} : ex (d) 209 1126 L st h = ex d 209 1127 L (.int (nI 4) :: st) h := (ex_of d209_1126 (d) L st h).trans (rfl)
theorem d209_1127 : decode (mB 209) 1127 = .ok (.iadd, 1) := by decide +kernel
theorem x209_1127 {d : Nat} {L : Lc} {st : List Value} {x y : Int32} {h : Hp} : ex (d) 209 1127 L (.int y :: .int x :: st) h = ex d 209 1128 L (.int (x + y) :: st) h := (ex_of d209_1127 (d) L (.int y :: .int x :: st) h).trans (rfl)
theorem d209_1128 : decode (mB 209) 1128 = .ok (.iaload, 1) := by decide +kernel
theorem x209_1128 {d : Nat} {L : Lc} {st : List Value} {a j : Nat} {h : Hp} (ht : (h.2.1 a).1 = 20) (hj : j < (h.2.1 a).2) (hb : j < 2147483648) : ex (d) 209 1128 L (.int (nI j) :: .ref a :: st) h = ex d 209 1129 L (h.1 a j :: st) h := (ex_of d209_1128 (d) L (.int (nI j) :: .ref a :: st) h).trans (fin_iaload (Or.inl ht) hj hb)
theorem d209_1129 : decode (mB 209) 1129 = .ok (.invokevirtual 138, 3) := by decide +kernel
theorem x209_1129 {d : Nat} {L : Lc} {a : Nat} {v0 : Int32} {v1 : Int32} {v2 : Int32} {v3 : Int32} {h : Hp} (ht : (h.2.1 a).1 = 10) : ex (d + 1) 209 1129 L (.int v3 :: .int v2 :: .int v1 :: .int v0 :: .ref a :: []) h = bnd (ex d 74 0 [some (.ref a), some (.int v0), some (.int v1), some (.int v2), some (.int v3), none, none, none] [] h) (fun v h' => ex (d + 1) 209 1132 L (v.toList ++ []) h') := (ex_of d209_1129 (d + 1) L (.int v3 :: .int v2 :: .int v1 :: .int v0 :: .ref a :: []) h).trans (fin_vi (mi := 209) i13_138 ht rfl rfl (by simp [cat1_i, cat1_r]) (by simp) (Nat.le_of_ble_eq_true rfl))
theorem d209_1132 : decode (mB 209) 1132 = .ok (.aload_n 2, 1) := by decide +kernel
theorem x209_1132 {d : Nat} {l0 l1 l3 : Option Value} {st : List Value} {a : Nat} {h : Hp} : ex (d) 209 1132 [l0, l1, some (.ref a), l3] st h = ex d 209 1133 [l0, l1, some (.ref a), l3] (.ref a :: st) h := (ex_of d209_1132 (d) [l0, l1, some (.ref a), l3] st h).trans (rfl)
theorem x209_1132n {d : Nat} {l0 l1 l3 : Option Value} {st : List Value} {h : Hp} : ex (d) 209 1132 [l0, l1, some .null, l3] st h = ex d 209 1133 [l0, l1, some .null, l3] (.null :: st) h := (ex_of d209_1132 (d) [l0, l1, some .null, l3] st h).trans (rfl)
theorem x209_1132q {d : Nat} {l0 l1 l3 : Option Value} {st : List Value} {a : Option Nat} {h : Hp} : ex (d) 209 1132 [l0, l1, some (va_rf a), l3] st h = ex d 209 1133 [l0, l1, some (va_rf a), l3] (va_rf a :: st) h := (ex_of d209_1132 (d) [l0, l1, some (va_rf a), l3] st h).trans (by cases a <;> rfl)
theorem d209_1133 : decode (mB 209) 1133 = .ok (.aload_n 0, 1) := by decide +kernel
theorem x209_1133 {d : Nat} {l1 l2 l3 : Option Value} {st : List Value} {a : Nat} {h : Hp} : ex (d) 209 1133 [some (.ref a), l1, l2, l3] st h = ex d 209 1134 [some (.ref a), l1, l2, l3] (.ref a :: st) h := (ex_of d209_1133 (d) [some (.ref a), l1, l2, l3] st h).trans (rfl)
theorem d209_1134 : decode (mB 209) 1134 = .ok (.iload_n 3, 1) := by decide +kernel
theorem x209_1134 {d : Nat} {l0 l1 l2 : Option Value} {st : List Value} {x : Int32} {h : Hp} : ex (d) 209 1134 [l0, l1, l2, some (.int x)] st h = ex d 209 1135 [l0, l1, l2, some (.int x)] (.int x :: st) h := (ex_of d209_1134 (d) [l0, l1, l2, some (.int x)] st h).trans (rfl)
theorem d209_1135 : decode (mB 209) 1135 = .ok (.iconst 1, 1) := by decide +kernel
theorem x209_1135 {d : Nat} {L : Lc} {st : List Value} {h : Hp} : ex (d) 209 1135 L st h = ex d 209 1136 L (.int (nI 1) :: st) h := (ex_of d209_1135 (d) L st h).trans (rfl)
theorem d209_1136 : decode (mB 209) 1136 = .ok (.iadd, 1) := by decide +kernel
theorem x209_1136 {d : Nat} {L : Lc} {st : List Value} {x y : Int32} {h : Hp} : ex (d) 209 1136 L (.int y :: .int x :: st) h = ex d 209 1137 L (.int (x + y) :: st) h := (ex_of d209_1136 (d) L (.int y :: .int x :: st) h).trans (rfl)
theorem d209_1137 : decode (mB 209) 1137 = .ok (.iaload, 1) := by decide +kernel
theorem x209_1137 {d : Nat} {L : Lc} {st : List Value} {a j : Nat} {h : Hp} (ht : (h.2.1 a).1 = 20) (hj : j < (h.2.1 a).2) (hb : j < 2147483648) : ex (d) 209 1137 L (.int (nI j) :: .ref a :: st) h = ex d 209 1138 L (h.1 a j :: st) h := (ex_of d209_1137 (d) L (.int (nI j) :: .ref a :: st) h).trans (fin_iaload (Or.inl ht) hj hb)
theorem d209_1138 : decode (mB 209) 1138 = .ok (.aload_n 0, 1) := by decide +kernel
theorem x209_1138 {d : Nat} {l1 l2 l3 : Option Value} {st : List Value} {a : Nat} {h : Hp} : ex (d) 209 1138 [some (.ref a), l1, l2, l3] st h = ex d 209 1139 [some (.ref a), l1, l2, l3] (.ref a :: st) h := (ex_of d209_1138 (d) [some (.ref a), l1, l2, l3] st h).trans (rfl)
theorem d209_1139 : decode (mB 209) 1139 = .ok (.iload_n 3, 1) := by decide +kernel
theorem x209_1139 {d : Nat} {l0 l1 l2 : Option Value} {st : List Value} {x : Int32} {h : Hp} : ex (d) 209 1139 [l0, l1, l2, some (.int x)] st h = ex d 209 1140 [l0, l1, l2, some (.int x)] (.int x :: st) h := (ex_of d209_1139 (d) [l0, l1, l2, some (.int x)] st h).trans (rfl)
theorem d209_1140 : decode (mB 209) 1140 = .ok (.iconst 2, 1) := by decide +kernel
theorem x209_1140 {d : Nat} {L : Lc} {st : List Value} {h : Hp} : ex (d) 209 1140 L st h = ex d 209 1141 L (.int (nI 2) :: st) h := (ex_of d209_1140 (d) L st h).trans (rfl)
theorem d209_1141 : decode (mB 209) 1141 = .ok (.iadd, 1) := by decide +kernel
theorem x209_1141 {d : Nat} {L : Lc} {st : List Value} {x y : Int32} {h : Hp} : ex (d) 209 1141 L (.int y :: .int x :: st) h = ex d 209 1142 L (.int (x + y) :: st) h := (ex_of d209_1141 (d) L (.int y :: .int x :: st) h).trans (rfl)
theorem d209_1142 : decode (mB 209) 1142 = .ok (.iaload, 1) := by decide +kernel
theorem x209_1142 {d : Nat} {L : Lc} {st : List Value} {a j : Nat} {h : Hp} (ht : (h.2.1 a).1 = 20) (hj : j < (h.2.1 a).2) (hb : j < 2147483648) : ex (d) 209 1142 L (.int (nI j) :: .ref a :: st) h = ex d 209 1143 L (h.1 a j :: st) h := (ex_of d209_1142 (d) L (.int (nI j) :: .ref a :: st) h).trans (fin_iaload (Or.inl ht) hj hb)
theorem d209_1143 : decode (mB 209) 1143 = .ok (.aload_n 0, 1) := by decide +kernel
theorem x209_1143 {d : Nat} {l1 l2 l3 : Option Value} {st : List Value} {a : Nat} {h : Hp} : ex (d) 209 1143 [some (.ref a), l1, l2, l3] st h = ex d 209 1144 [some (.ref a), l1, l2, l3] (.ref a :: st) h := (ex_of d209_1143 (d) [some (.ref a), l1, l2, l3] st h).trans (rfl)
theorem d209_1144 : decode (mB 209) 1144 = .ok (.iload_n 3, 1) := by decide +kernel
theorem x209_1144 {d : Nat} {l0 l1 l2 : Option Value} {st : List Value} {x : Int32} {h : Hp} : ex (d) 209 1144 [l0, l1, l2, some (.int x)] st h = ex d 209 1145 [l0, l1, l2, some (.int x)] (.int x :: st) h := (ex_of d209_1144 (d) [l0, l1, l2, some (.int x)] st h).trans (rfl)
theorem d209_1145 : decode (mB 209) 1145 = .ok (.iconst 3, 1) := by decide +kernel
theorem x209_1145 {d : Nat} {L : Lc} {st : List Value} {h : Hp} : ex (d) 209 1145 L st h = ex d 209 1146 L (.int (nI 3) :: st) h := (ex_of d209_1145 (d) L st h).trans (rfl)
theorem d209_1146 : decode (mB 209) 1146 = .ok (.iadd, 1) := by decide +kernel
theorem x209_1146 {d : Nat} {L : Lc} {st : List Value} {x y : Int32} {h : Hp} : ex (d) 209 1146 L (.int y :: .int x :: st) h = ex d 209 1147 L (.int (x + y) :: st) h := (ex_of d209_1146 (d) L (.int y :: .int x :: st) h).trans (rfl)
theorem d209_1147 : decode (mB 209) 1147 = .ok (.iaload, 1) := by decide +kernel
theorem x209_1147 {d : Nat} {L : Lc} {st : List Value} {a j : Nat} {h : Hp} (ht : (h.2.1 a).1 = 20) (hj : j < (h.2.1 a).2) (hb : j < 2147483648) : ex (d) 209 1147 L (.int (nI j) :: .ref a :: st) h = ex d 209 1148 L (h.1 a j :: st) h := (ex_of d209_1147 (d) L (.int (nI j) :: .ref a :: st) h).trans (fin_iaload (Or.inl ht) hj hb)
theorem d209_1148 : decode (mB 209) 1148 = .ok (.aload_n 0, 1) := by decide +kernel
theorem x209_1148 {d : Nat} {l1 l2 l3 : Option Value} {st : List Value} {a : Nat} {h : Hp} : ex (d) 209 1148 [some (.ref a), l1, l2, l3] st h = ex d 209 1149 [some (.ref a), l1, l2, l3] (.ref a :: st) h := (ex_of d209_1148 (d) [some (.ref a), l1, l2, l3] st h).trans (rfl)
theorem d209_1149 : decode (mB 209) 1149 = .ok (.iload_n 3, 1) := by decide +kernel
theorem x209_1149 {d : Nat} {l0 l1 l2 : Option Value} {st : List Value} {x : Int32} {h : Hp} : ex (d) 209 1149 [l0, l1, l2, some (.int x)] st h = ex d 209 1150 [l0, l1, l2, some (.int x)] (.int x :: st) h := (ex_of d209_1149 (d) [l0, l1, l2, some (.int x)] st h).trans (rfl)
theorem d209_1150 : decode (mB 209) 1150 = .ok (.iconst 4, 1) := by decide +kernel
theorem x209_1150 {d : Nat} {L : Lc} {st : List Value} {h : Hp} : ex (d) 209 1150 L st h = ex d 209 1151 L (.int (nI 4) :: st) h := (ex_of d209_1150 (d) L st h).trans (rfl)
theorem d209_1151 : decode (mB 209) 1151 = .ok (.iadd, 1) := by decide +kernel
theorem x209_1151 {d : Nat} {L : Lc} {st : List Value} {x y : Int32} {h : Hp} : ex (d) 209 1151 L (.int y :: .int x :: st) h = ex d 209 1152 L (.int (x + y) :: st) h := (ex_of d209_1151 (d) L (.int y :: .int x :: st) h).trans (rfl)
theorem d209_1152 : decode (mB 209) 1152 = .ok (.iaload, 1) := by decide +kernel
theorem x209_1152 {d : Nat} {L : Lc} {st : List Value} {a j : Nat} {h : Hp} (ht : (h.2.1 a).1 = 20) (hj : j < (h.2.1 a).2) (hb : j < 2147483648) : ex (d) 209 1152 L (.int (nI j) :: .ref a :: st) h = ex d 209 1153 L (h.1 a j :: st) h := (ex_of d209_1152 (d) L (.int (nI j) :: .ref a :: st) h).trans (fin_iaload (Or.inl ht) hj hb)
theorem d209_1153 : decode (mB 209) 1153 = .ok (.invokevirtual 141, 3) := by decide +kernel
theorem x209_1153 {d : Nat} {L : Lc} {s0 : Value} {a : Nat} {v0 : Int32} {v1 : Int32} {v2 : Int32} {v3 : Int32} {h : Hp} (ht : (h.2.1 a).1 = 11) : ex (d + 1) 209 1153 L (.int v3 :: .int v2 :: .int v1 :: .int v0 :: .ref a :: [s0]) h = bnd (ex d 198 0 [some (.ref a), some (.int v0), some (.int v1), some (.int v2), some (.int v3), none, none, none, none] [] h) (fun v h' => ex (d + 1) 209 1156 L (v.toList ++ [s0]) h') := (ex_of d209_1153 (d + 1) L (.int v3 :: .int v2 :: .int v1 :: .int v0 :: .ref a :: [s0]) h).trans (fin_vi (mi := 209) i13_141 ht rfl rfl (by simp [cat1_i, cat1_r]) (by simp) (Nat.le_of_ble_eq_true rfl))
theorem d209_1156 : decode (mB 209) 1156 = .ok (.if_icmp .eq 182, 3) := by decide +kernel
theorem x209_1156 {d : Nat} {L : Lc} {st : List Value} {x y : Int32} {h : Hp} : ex (d) 209 1156 L (.int y :: .int x :: st) h = if x = y then ex d 209 1338 L st h else ex d 209 1159 L st h := (ex_of d209_1156 (d) L (.int y :: .int x :: st) h).trans (fin_brq (off := 182) (tgt := 1338) rfl (by decide))
theorem d209_1159 : decode (mB 209) 1159 = .ok (.iconst 0, 1) := by decide +kernel
theorem x209_1159 {d : Nat} {L : Lc} {st : List Value} {h : Hp} : ex (d) 209 1159 L st h = ex d 209 1160 L (.int (nI 0) :: st) h := (ex_of d209_1159 (d) L st h).trans (rfl)
theorem d209_1160 : decode (mB 209) 1160 = .ok (.ireturn, 1) := by decide +kernel
theorem x209_1160 {d : Nat} {L : Lc} {x : Int32} {h : Hp} (hx : x = 0 ∨ x = 1) : ex (d) 209 1160 L [.int x] h = some (some (.int x), h) := (ex_of d209_1160 (d) L [.int x] h).trans (fin_retb rfl hx)
theorem d209_1161 : decode (mB 209) 1161 = .ok (.aload_n 1, 1) := by decide +kernel
theorem x209_1161 {d : Nat} {l0 l2 l3 : Option Value} {st : List Value} {a : Nat} {h : Hp} : ex (d) 209 1161 [l0, some (.ref a), l2, l3] st h = ex d 209 1162 [l0, some (.ref a), l2, l3] (.ref a :: st) h := (ex_of d209_1161 (d) [l0, some (.ref a), l2, l3] st h).trans (rfl)
theorem x209_1161n {d : Nat} {l0 l2 l3 : Option Value} {st : List Value} {h : Hp} : ex (d) 209 1161 [l0, some .null, l2, l3] st h = ex d 209 1162 [l0, some .null, l2, l3] (.null :: st) h := (ex_of d209_1161 (d) [l0, some .null, l2, l3] st h).trans (rfl)
theorem x209_1161q {d : Nat} {l0 l2 l3 : Option Value} {st : List Value} {a : Option Nat} {h : Hp} : ex (d) 209 1161 [l0, some (va_rf a), l2, l3] st h = ex d 209 1162 [l0, some (va_rf a), l2, l3] (va_rf a :: st) h := (ex_of d209_1161 (d) [l0, some (va_rf a), l2, l3] st h).trans (by cases a <;> rfl)
theorem d209_1162 : decode (mB 209) 1162 = .ok (.invokevirtual 142, 3) := by decide +kernel
theorem x209_1162 {d : Nat} {L : Lc} {a : Nat} {h : Hp} (ht : (h.2.1 a).1 = 10) : ex (d + 1) 209 1162 L (.ref a :: []) h = bnd (ex d 75 0 [some (.ref a)] [] h) (fun v h' => ex (d + 1) 209 1165 L (v.toList ++ []) h') := (ex_of d209_1162 (d + 1) L (.ref a :: []) h).trans (fin_vi (mi := 209) i13_142 ht rfl rfl (by simp [cat1_i, cat1_r]) (by simp) (Nat.le_of_ble_eq_true rfl))
theorem d209_1165 : decode (mB 209) 1165 = .ok (.aload_n 2, 1) := by decide +kernel
theorem x209_1165 {d : Nat} {l0 l1 l3 : Option Value} {st : List Value} {a : Nat} {h : Hp} : ex (d) 209 1165 [l0, l1, some (.ref a), l3] st h = ex d 209 1166 [l0, l1, some (.ref a), l3] (.ref a :: st) h := (ex_of d209_1165 (d) [l0, l1, some (.ref a), l3] st h).trans (rfl)
theorem x209_1165n {d : Nat} {l0 l1 l3 : Option Value} {st : List Value} {h : Hp} : ex (d) 209 1165 [l0, l1, some .null, l3] st h = ex d 209 1166 [l0, l1, some .null, l3] (.null :: st) h := (ex_of d209_1165 (d) [l0, l1, some .null, l3] st h).trans (rfl)
theorem x209_1165q {d : Nat} {l0 l1 l3 : Option Value} {st : List Value} {a : Option Nat} {h : Hp} : ex (d) 209 1165 [l0, l1, some (va_rf a), l3] st h = ex d 209 1166 [l0, l1, some (va_rf a), l3] (va_rf a :: st) h := (ex_of d209_1165 (d) [l0, l1, some (va_rf a), l3] st h).trans (by cases a <;> rfl)
theorem d209_1166 : decode (mB 209) 1166 = .ok (.invokevirtual 145, 3) := by decide +kernel
theorem x209_1166 {d : Nat} {L : Lc} {s0 : Value} {a : Nat} {h : Hp} (ht : (h.2.1 a).1 = 11) : ex (d + 1) 209 1166 L (.ref a :: [s0]) h = bnd (ex d 199 0 [some (.ref a)] [] h) (fun v h' => ex (d + 1) 209 1169 L (v.toList ++ [s0]) h') := (ex_of d209_1166 (d + 1) L (.ref a :: [s0]) h).trans (fin_vi (mi := 209) i13_145 ht rfl rfl (by simp [cat1_i, cat1_r]) (by simp) (Nat.le_of_ble_eq_true rfl))
theorem d209_1169 : decode (mB 209) 1169 = .ok (.if_icmp .eq 169, 3) := by decide +kernel
theorem x209_1169 {d : Nat} {L : Lc} {st : List Value} {x y : Int32} {h : Hp} : ex (d) 209 1169 L (.int y :: .int x :: st) h = if x = y then ex d 209 1338 L st h else ex d 209 1172 L st h := (ex_of d209_1169 (d) L (.int y :: .int x :: st) h).trans (fin_brq (off := 169) (tgt := 1338) rfl (by decide))
theorem d209_1172 : decode (mB 209) 1172 = .ok (.iconst 0, 1) := by decide +kernel
theorem x209_1172 {d : Nat} {L : Lc} {st : List Value} {h : Hp} : ex (d) 209 1172 L st h = ex d 209 1173 L (.int (nI 0) :: st) h := (ex_of d209_1172 (d) L st h).trans (rfl)
theorem d209_1173 : decode (mB 209) 1173 = .ok (.ireturn, 1) := by decide +kernel
theorem x209_1173 {d : Nat} {L : Lc} {x : Int32} {h : Hp} (hx : x = 0 ∨ x = 1) : ex (d) 209 1173 L [.int x] h = some (some (.int x), h) := (ex_of d209_1173 (d) L [.int x] h).trans (fin_retb rfl hx)
theorem d209_1174 : decode (mB 209) 1174 = .ok (.aload_n 1, 1) := by decide +kernel
theorem x209_1174 {d : Nat} {l0 l2 l3 : Option Value} {st : List Value} {a : Nat} {h : Hp} : ex (d) 209 1174 [l0, some (.ref a), l2, l3] st h = ex d 209 1175 [l0, some (.ref a), l2, l3] (.ref a :: st) h := (ex_of d209_1174 (d) [l0, some (.ref a), l2, l3] st h).trans (rfl)
theorem x209_1174n {d : Nat} {l0 l2 l3 : Option Value} {st : List Value} {h : Hp} : ex (d) 209 1174 [l0, some .null, l2, l3] st h = ex d 209 1175 [l0, some .null, l2, l3] (.null :: st) h := (ex_of d209_1174 (d) [l0, some .null, l2, l3] st h).trans (rfl)
theorem x209_1174q {d : Nat} {l0 l2 l3 : Option Value} {st : List Value} {a : Option Nat} {h : Hp} : ex (d) 209 1174 [l0, some (va_rf a), l2, l3] st h = ex d 209 1175 [l0, some (va_rf a), l2, l3] (va_rf a :: st) h := (ex_of d209_1174 (d) [l0, some (va_rf a), l2, l3] st h).trans (by cases a <;> rfl)
theorem d209_1175 : decode (mB 209) 1175 = .ok (.invokevirtual 146, 3) := by decide +kernel
theorem x209_1175 {d : Nat} {L : Lc} {a : Nat} {h : Hp} (ht : (h.2.1 a).1 = 10) : ex (d + 1) 209 1175 L (.ref a :: []) h = bnd (ex d 76 0 [some (.ref a)] [] h) (fun v h' => ex (d + 1) 209 1178 L (v.toList ++ []) h') := (ex_of d209_1175 (d + 1) L (.ref a :: []) h).trans (fin_vi (mi := 209) i13_146 ht rfl rfl (by simp [cat1_i, cat1_r]) (by simp) (Nat.le_of_ble_eq_true rfl))
theorem d209_1178 : decode (mB 209) 1178 = .ok (.aload_n 2, 1) := by decide +kernel
theorem x209_1178 {d : Nat} {l0 l1 l3 : Option Value} {st : List Value} {a : Nat} {h : Hp} : ex (d) 209 1178 [l0, l1, some (.ref a), l3] st h = ex d 209 1179 [l0, l1, some (.ref a), l3] (.ref a :: st) h := (ex_of d209_1178 (d) [l0, l1, some (.ref a), l3] st h).trans (rfl)
theorem x209_1178n {d : Nat} {l0 l1 l3 : Option Value} {st : List Value} {h : Hp} : ex (d) 209 1178 [l0, l1, some .null, l3] st h = ex d 209 1179 [l0, l1, some .null, l3] (.null :: st) h := (ex_of d209_1178 (d) [l0, l1, some .null, l3] st h).trans (rfl)
theorem x209_1178q {d : Nat} {l0 l1 l3 : Option Value} {st : List Value} {a : Option Nat} {h : Hp} : ex (d) 209 1178 [l0, l1, some (va_rf a), l3] st h = ex d 209 1179 [l0, l1, some (va_rf a), l3] (va_rf a :: st) h := (ex_of d209_1178 (d) [l0, l1, some (va_rf a), l3] st h).trans (by cases a <;> rfl)
theorem d209_1179 : decode (mB 209) 1179 = .ok (.invokevirtual 149, 3) := by decide +kernel
theorem x209_1179 {d : Nat} {L : Lc} {s0 : Value} {a : Nat} {h : Hp} (ht : (h.2.1 a).1 = 11) : ex (d + 1) 209 1179 L (.ref a :: [s0]) h = bnd (ex d 200 0 [some (.ref a)] [] h) (fun v h' => ex (d + 1) 209 1182 L (v.toList ++ [s0]) h') := (ex_of d209_1179 (d + 1) L (.ref a :: [s0]) h).trans (fin_vi (mi := 209) i13_149 ht rfl rfl (by simp [cat1_i, cat1_r]) (by simp) (Nat.le_of_ble_eq_true rfl))
theorem d209_1182 : decode (mB 209) 1182 = .ok (.if_icmp .eq 156, 3) := by decide +kernel
theorem x209_1182 {d : Nat} {L : Lc} {st : List Value} {x y : Int32} {h : Hp} : ex (d) 209 1182 L (.int y :: .int x :: st) h = if x = y then ex d 209 1338 L st h else ex d 209 1185 L st h := (ex_of d209_1182 (d) L (.int y :: .int x :: st) h).trans (fin_brq (off := 156) (tgt := 1338) rfl (by decide))
theorem d209_1185 : decode (mB 209) 1185 = .ok (.iconst 0, 1) := by decide +kernel
theorem x209_1185 {d : Nat} {L : Lc} {st : List Value} {h : Hp} : ex (d) 209 1185 L st h = ex d 209 1186 L (.int (nI 0) :: st) h := (ex_of d209_1185 (d) L st h).trans (rfl)
theorem d209_1186 : decode (mB 209) 1186 = .ok (.ireturn, 1) := by decide +kernel
theorem x209_1186 {d : Nat} {L : Lc} {x : Int32} {h : Hp} (hx : x = 0 ∨ x = 1) : ex (d) 209 1186 L [.int x] h = some (some (.int x), h) := (ex_of d209_1186 (d) L [.int x] h).trans (fin_retb rfl hx)
theorem d209_1187 : decode (mB 209) 1187 = .ok (.aload_n 1, 1) := by decide +kernel
theorem x209_1187 {d : Nat} {l0 l2 l3 : Option Value} {st : List Value} {a : Nat} {h : Hp} : ex (d) 209 1187 [l0, some (.ref a), l2, l3] st h = ex d 209 1188 [l0, some (.ref a), l2, l3] (.ref a :: st) h := (ex_of d209_1187 (d) [l0, some (.ref a), l2, l3] st h).trans (rfl)
theorem x209_1187n {d : Nat} {l0 l2 l3 : Option Value} {st : List Value} {h : Hp} : ex (d) 209 1187 [l0, some .null, l2, l3] st h = ex d 209 1188 [l0, some .null, l2, l3] (.null :: st) h := (ex_of d209_1187 (d) [l0, some .null, l2, l3] st h).trans (rfl)
theorem x209_1187q {d : Nat} {l0 l2 l3 : Option Value} {st : List Value} {a : Option Nat} {h : Hp} : ex (d) 209 1187 [l0, some (va_rf a), l2, l3] st h = ex d 209 1188 [l0, some (va_rf a), l2, l3] (va_rf a :: st) h := (ex_of d209_1187 (d) [l0, some (va_rf a), l2, l3] st h).trans (by cases a <;> rfl)
theorem d209_1188 : decode (mB 209) 1188 = .ok (.aload_n 0, 1) := by decide +kernel
theorem x209_1188 {d : Nat} {l1 l2 l3 : Option Value} {st : List Value} {a : Nat} {h : Hp} : ex (d) 209 1188 [some (.ref a), l1, l2, l3] st h = ex d 209 1189 [some (.ref a), l1, l2, l3] (.ref a :: st) h := (ex_of d209_1188 (d) [some (.ref a), l1, l2, l3] st h).trans (rfl)
theorem d209_1189 : decode (mB 209) 1189 = .ok (.iload_n 3, 1) := by decide +kernel
theorem x209_1189 {d : Nat} {l0 l1 l2 : Option Value} {st : List Value} {x : Int32} {h : Hp} : ex (d) 209 1189 [l0, l1, l2, some (.int x)] st h = ex d 209 1190 [l0, l1, l2, some (.int x)] (.int x :: st) h := (ex_of d209_1189 (d) [l0, l1, l2, some (.int x)] st h).trans (rfl)
theorem d209_1190 : decode (mB 209) 1190 = .ok (.iconst 1, 1) := by decide +kernel
theorem x209_1190 {d : Nat} {L : Lc} {st : List Value} {h : Hp} : ex (d) 209 1190 L st h = ex d 209 1191 L (.int (nI 1) :: st) h := (ex_of d209_1190 (d) L st h).trans (rfl)
theorem d209_1191 : decode (mB 209) 1191 = .ok (.iadd, 1) := by decide +kernel
theorem x209_1191 {d : Nat} {L : Lc} {st : List Value} {x y : Int32} {h : Hp} : ex (d) 209 1191 L (.int y :: .int x :: st) h = ex d 209 1192 L (.int (x + y) :: st) h := (ex_of d209_1191 (d) L (.int y :: .int x :: st) h).trans (rfl)
theorem d209_1192 : decode (mB 209) 1192 = .ok (.iaload, 1) := by decide +kernel
theorem x209_1192 {d : Nat} {L : Lc} {st : List Value} {a j : Nat} {h : Hp} (ht : (h.2.1 a).1 = 20) (hj : j < (h.2.1 a).2) (hb : j < 2147483648) : ex (d) 209 1192 L (.int (nI j) :: .ref a :: st) h = ex d 209 1193 L (h.1 a j :: st) h := (ex_of d209_1192 (d) L (.int (nI j) :: .ref a :: st) h).trans (fin_iaload (Or.inl ht) hj hb)
theorem d209_1193 : decode (mB 209) 1193 = .ok (.aload_n 0, 1) := by decide +kernel
theorem x209_1193 {d : Nat} {l1 l2 l3 : Option Value} {st : List Value} {a : Nat} {h : Hp} : ex (d) 209 1193 [some (.ref a), l1, l2, l3] st h = ex d 209 1194 [some (.ref a), l1, l2, l3] (.ref a :: st) h := (ex_of d209_1193 (d) [some (.ref a), l1, l2, l3] st h).trans (rfl)
theorem d209_1194 : decode (mB 209) 1194 = .ok (.iload_n 3, 1) := by decide +kernel
theorem x209_1194 {d : Nat} {l0 l1 l2 : Option Value} {st : List Value} {x : Int32} {h : Hp} : ex (d) 209 1194 [l0, l1, l2, some (.int x)] st h = ex d 209 1195 [l0, l1, l2, some (.int x)] (.int x :: st) h := (ex_of d209_1194 (d) [l0, l1, l2, some (.int x)] st h).trans (rfl)
theorem d209_1195 : decode (mB 209) 1195 = .ok (.iconst 2, 1) := by decide +kernel
theorem x209_1195 {d : Nat} {L : Lc} {st : List Value} {h : Hp} : ex (d) 209 1195 L st h = ex d 209 1196 L (.int (nI 2) :: st) h := (ex_of d209_1195 (d) L st h).trans (rfl)
theorem d209_1196 : decode (mB 209) 1196 = .ok (.iadd, 1) := by decide +kernel
theorem x209_1196 {d : Nat} {L : Lc} {st : List Value} {x y : Int32} {h : Hp} : ex (d) 209 1196 L (.int y :: .int x :: st) h = ex d 209 1197 L (.int (x + y) :: st) h := (ex_of d209_1196 (d) L (.int y :: .int x :: st) h).trans (rfl)
theorem d209_1197 : decode (mB 209) 1197 = .ok (.iaload, 1) := by decide +kernel
theorem x209_1197 {d : Nat} {L : Lc} {st : List Value} {a j : Nat} {h : Hp} (ht : (h.2.1 a).1 = 20) (hj : j < (h.2.1 a).2) (hb : j < 2147483648) : ex (d) 209 1197 L (.int (nI j) :: .ref a :: st) h = ex d 209 1198 L (h.1 a j :: st) h := (ex_of d209_1197 (d) L (.int (nI j) :: .ref a :: st) h).trans (fin_iaload (Or.inl ht) hj hb)
theorem d209_1198 : decode (mB 209) 1198 = .ok (.invokevirtual 150, 3) := by decide +kernel
theorem x209_1198 {d : Nat} {L : Lc} {a : Nat} {v0 : Int32} {v1 : Int32} {h : Hp} (ht : (h.2.1 a).1 = 10) : ex (d + 1) 209 1198 L (.int v1 :: .int v0 :: .ref a :: []) h = bnd (ex d 77 0 [some (.ref a), some (.int v0), some (.int v1)] [] h) (fun v h' => ex (d + 1) 209 1201 L (v.toList ++ []) h') := (ex_of d209_1198 (d + 1) L (.int v1 :: .int v0 :: .ref a :: []) h).trans (fin_vi (mi := 209) i13_150 ht rfl rfl (by simp [cat1_i, cat1_r]) (by simp) (Nat.le_of_ble_eq_true rfl))
theorem d209_1201 : decode (mB 209) 1201 = .ok (.aload_n 2, 1) := by decide +kernel
theorem x209_1201 {d : Nat} {l0 l1 l3 : Option Value} {st : List Value} {a : Nat} {h : Hp} : ex (d) 209 1201 [l0, l1, some (.ref a), l3] st h = ex d 209 1202 [l0, l1, some (.ref a), l3] (.ref a :: st) h := (ex_of d209_1201 (d) [l0, l1, some (.ref a), l3] st h).trans (rfl)
theorem x209_1201n {d : Nat} {l0 l1 l3 : Option Value} {st : List Value} {h : Hp} : ex (d) 209 1201 [l0, l1, some .null, l3] st h = ex d 209 1202 [l0, l1, some .null, l3] (.null :: st) h := (ex_of d209_1201 (d) [l0, l1, some .null, l3] st h).trans (rfl)
theorem x209_1201q {d : Nat} {l0 l1 l3 : Option Value} {st : List Value} {a : Option Nat} {h : Hp} : ex (d) 209 1201 [l0, l1, some (va_rf a), l3] st h = ex d 209 1202 [l0, l1, some (va_rf a), l3] (va_rf a :: st) h := (ex_of d209_1201 (d) [l0, l1, some (va_rf a), l3] st h).trans (by cases a <;> rfl)
theorem d209_1202 : decode (mB 209) 1202 = .ok (.aload_n 0, 1) := by decide +kernel
theorem x209_1202 {d : Nat} {l1 l2 l3 : Option Value} {st : List Value} {a : Nat} {h : Hp} : ex (d) 209 1202 [some (.ref a), l1, l2, l3] st h = ex d 209 1203 [some (.ref a), l1, l2, l3] (.ref a :: st) h := (ex_of d209_1202 (d) [some (.ref a), l1, l2, l3] st h).trans (rfl)
theorem d209_1203 : decode (mB 209) 1203 = .ok (.iload_n 3, 1) := by decide +kernel
theorem x209_1203 {d : Nat} {l0 l1 l2 : Option Value} {st : List Value} {x : Int32} {h : Hp} : ex (d) 209 1203 [l0, l1, l2, some (.int x)] st h = ex d 209 1204 [l0, l1, l2, some (.int x)] (.int x :: st) h := (ex_of d209_1203 (d) [l0, l1, l2, some (.int x)] st h).trans (rfl)
theorem d209_1204 : decode (mB 209) 1204 = .ok (.iconst 1, 1) := by decide +kernel
theorem x209_1204 {d : Nat} {L : Lc} {st : List Value} {h : Hp} : ex (d) 209 1204 L st h = ex d 209 1205 L (.int (nI 1) :: st) h := (ex_of d209_1204 (d) L st h).trans (rfl)
theorem d209_1205 : decode (mB 209) 1205 = .ok (.iadd, 1) := by decide +kernel
theorem x209_1205 {d : Nat} {L : Lc} {st : List Value} {x y : Int32} {h : Hp} : ex (d) 209 1205 L (.int y :: .int x :: st) h = ex d 209 1206 L (.int (x + y) :: st) h := (ex_of d209_1205 (d) L (.int y :: .int x :: st) h).trans (rfl)
theorem d209_1206 : decode (mB 209) 1206 = .ok (.iaload, 1) := by decide +kernel
theorem x209_1206 {d : Nat} {L : Lc} {st : List Value} {a j : Nat} {h : Hp} (ht : (h.2.1 a).1 = 20) (hj : j < (h.2.1 a).2) (hb : j < 2147483648) : ex (d) 209 1206 L (.int (nI j) :: .ref a :: st) h = ex d 209 1207 L (h.1 a j :: st) h := (ex_of d209_1206 (d) L (.int (nI j) :: .ref a :: st) h).trans (fin_iaload (Or.inl ht) hj hb)
theorem d209_1207 : decode (mB 209) 1207 = .ok (.aload_n 0, 1) := by decide +kernel
theorem x209_1207 {d : Nat} {l1 l2 l3 : Option Value} {st : List Value} {a : Nat} {h : Hp} : ex (d) 209 1207 [some (.ref a), l1, l2, l3] st h = ex d 209 1208 [some (.ref a), l1, l2, l3] (.ref a :: st) h := (ex_of d209_1207 (d) [some (.ref a), l1, l2, l3] st h).trans (rfl)
theorem d209_1208 : decode (mB 209) 1208 = .ok (.iload_n 3, 1) := by decide +kernel
theorem x209_1208 {d : Nat} {l0 l1 l2 : Option Value} {st : List Value} {x : Int32} {h : Hp} : ex (d) 209 1208 [l0, l1, l2, some (.int x)] st h = ex d 209 1209 [l0, l1, l2, some (.int x)] (.int x :: st) h := (ex_of d209_1208 (d) [l0, l1, l2, some (.int x)] st h).trans (rfl)
theorem d209_1209 : decode (mB 209) 1209 = .ok (.iconst 2, 1) := by decide +kernel
theorem x209_1209 {d : Nat} {L : Lc} {st : List Value} {h : Hp} : ex (d) 209 1209 L st h = ex d 209 1210 L (.int (nI 2) :: st) h := (ex_of d209_1209 (d) L st h).trans (rfl)
theorem d209_1210 : decode (mB 209) 1210 = .ok (.iadd, 1) := by decide +kernel
theorem x209_1210 {d : Nat} {L : Lc} {st : List Value} {x y : Int32} {h : Hp} : ex (d) 209 1210 L (.int y :: .int x :: st) h = ex d 209 1211 L (.int (x + y) :: st) h := (ex_of d209_1210 (d) L (.int y :: .int x :: st) h).trans (rfl)
theorem d209_1211 : decode (mB 209) 1211 = .ok (.iaload, 1) := by decide +kernel
theorem x209_1211 {d : Nat} {L : Lc} {st : List Value} {a j : Nat} {h : Hp} (ht : (h.2.1 a).1 = 20) (hj : j < (h.2.1 a).2) (hb : j < 2147483648) : ex (d) 209 1211 L (.int (nI j) :: .ref a :: st) h = ex d 209 1212 L (h.1 a j :: st) h := (ex_of d209_1211 (d) L (.int (nI j) :: .ref a :: st) h).trans (fin_iaload (Or.inl ht) hj hb)
theorem d209_1212 : decode (mB 209) 1212 = .ok (.invokevirtual 153, 3) := by decide +kernel
theorem x209_1212 {d : Nat} {L : Lc} {s0 : Value} {a : Nat} {v0 : Int32} {v1 : Int32} {h : Hp} (ht : (h.2.1 a).1 = 11) : ex (d + 1) 209 1212 L (.int v1 :: .int v0 :: .ref a :: [s0]) h = bnd (ex d 201 0 [some (.ref a), some (.int v0), some (.int v1)] [] h) (fun v h' => ex (d + 1) 209 1215 L (v.toList ++ [s0]) h') := (ex_of d209_1212 (d + 1) L (.int v1 :: .int v0 :: .ref a :: [s0]) h).trans (fin_vi (mi := 209) i13_153 ht rfl rfl (by simp [cat1_i, cat1_r]) (by simp) (Nat.le_of_ble_eq_true rfl))
theorem d209_1215 : decode (mB 209) 1215 = .ok (.if_icmp .eq 123, 3) := by decide +kernel
theorem x209_1215 {d : Nat} {L : Lc} {st : List Value} {x y : Int32} {h : Hp} : ex (d) 209 1215 L (.int y :: .int x :: st) h = if x = y then ex d 209 1338 L st h else ex d 209 1218 L st h := (ex_of d209_1215 (d) L (.int y :: .int x :: st) h).trans (fin_brq (off := 123) (tgt := 1338) rfl (by decide))
theorem d209_1218 : decode (mB 209) 1218 = .ok (.iconst 0, 1) := by decide +kernel
theorem x209_1218 {d : Nat} {L : Lc} {st : List Value} {h : Hp} : ex (d) 209 1218 L st h = ex d 209 1219 L (.int (nI 0) :: st) h := (ex_of d209_1218 (d) L st h).trans (rfl)
theorem d209_1219 : decode (mB 209) 1219 = .ok (.ireturn, 1) := by decide +kernel
theorem x209_1219 {d : Nat} {L : Lc} {x : Int32} {h : Hp} (hx : x = 0 ∨ x = 1) : ex (d) 209 1219 L [.int x] h = some (some (.int x), h) := (ex_of d209_1219 (d) L [.int x] h).trans (fin_retb rfl hx)
theorem d209_1220 : decode (mB 209) 1220 = .ok (.aload_n 1, 1) := by decide +kernel
theorem x209_1220 {d : Nat} {l0 l2 l3 : Option Value} {st : List Value} {a : Nat} {h : Hp} : ex (d) 209 1220 [l0, some (.ref a), l2, l3] st h = ex d 209 1221 [l0, some (.ref a), l2, l3] (.ref a :: st) h := (ex_of d209_1220 (d) [l0, some (.ref a), l2, l3] st h).trans (rfl)
theorem x209_1220n {d : Nat} {l0 l2 l3 : Option Value} {st : List Value} {h : Hp} : ex (d) 209 1220 [l0, some .null, l2, l3] st h = ex d 209 1221 [l0, some .null, l2, l3] (.null :: st) h := (ex_of d209_1220 (d) [l0, some .null, l2, l3] st h).trans (rfl)
theorem x209_1220q {d : Nat} {l0 l2 l3 : Option Value} {st : List Value} {a : Option Nat} {h : Hp} : ex (d) 209 1220 [l0, some (va_rf a), l2, l3] st h = ex d 209 1221 [l0, some (va_rf a), l2, l3] (va_rf a :: st) h := (ex_of d209_1220 (d) [l0, some (va_rf a), l2, l3] st h).trans (by cases a <;> rfl)
theorem d209_1221 : decode (mB 209) 1221 = .ok (.aload_n 0, 1) := by decide +kernel
theorem x209_1221 {d : Nat} {l1 l2 l3 : Option Value} {st : List Value} {a : Nat} {h : Hp} : ex (d) 209 1221 [some (.ref a), l1, l2, l3] st h = ex d 209 1222 [some (.ref a), l1, l2, l3] (.ref a :: st) h := (ex_of d209_1221 (d) [some (.ref a), l1, l2, l3] st h).trans (rfl)
theorem d209_1222 : decode (mB 209) 1222 = .ok (.iload_n 3, 1) := by decide +kernel
theorem x209_1222 {d : Nat} {l0 l1 l2 : Option Value} {st : List Value} {x : Int32} {h : Hp} : ex (d) 209 1222 [l0, l1, l2, some (.int x)] st h = ex d 209 1223 [l0, l1, l2, some (.int x)] (.int x :: st) h := (ex_of d209_1222 (d) [l0, l1, l2, some (.int x)] st h).trans (rfl)
theorem d209_1223 : decode (mB 209) 1223 = .ok (.iconst 1, 1) := by decide +kernel
theorem x209_1223 {d : Nat} {L : Lc} {st : List Value} {h : Hp} : ex (d) 209 1223 L st h = ex d 209 1224 L (.int (nI 1) :: st) h := (ex_of d209_1223 (d) L st h).trans (rfl)
theorem d209_1224 : decode (mB 209) 1224 = .ok (.iadd, 1) := by decide +kernel
theorem x209_1224 {d : Nat} {L : Lc} {st : List Value} {x y : Int32} {h : Hp} : ex (d) 209 1224 L (.int y :: .int x :: st) h = ex d 209 1225 L (.int (x + y) :: st) h := (ex_of d209_1224 (d) L (.int y :: .int x :: st) h).trans (rfl)
theorem d209_1225 : decode (mB 209) 1225 = .ok (.iaload, 1) := by decide +kernel
theorem x209_1225 {d : Nat} {L : Lc} {st : List Value} {a j : Nat} {h : Hp} (ht : (h.2.1 a).1 = 20) (hj : j < (h.2.1 a).2) (hb : j < 2147483648) : ex (d) 209 1225 L (.int (nI j) :: .ref a :: st) h = ex d 209 1226 L (h.1 a j :: st) h := (ex_of d209_1225 (d) L (.int (nI j) :: .ref a :: st) h).trans (fin_iaload (Or.inl ht) hj hb)
theorem d209_1226 : decode (mB 209) 1226 = .ok (.aload_n 0, 1) := by decide +kernel
theorem x209_1226 {d : Nat} {l1 l2 l3 : Option Value} {st : List Value} {a : Nat} {h : Hp} : ex (d) 209 1226 [some (.ref a), l1, l2, l3] st h = ex d 209 1227 [some (.ref a), l1, l2, l3] (.ref a :: st) h := (ex_of d209_1226 (d) [some (.ref a), l1, l2, l3] st h).trans (rfl)
theorem d209_1227 : decode (mB 209) 1227 = .ok (.iload_n 3, 1) := by decide +kernel
theorem x209_1227 {d : Nat} {l0 l1 l2 : Option Value} {st : List Value} {x : Int32} {h : Hp} : ex (d) 209 1227 [l0, l1, l2, some (.int x)] st h = ex d 209 1228 [l0, l1, l2, some (.int x)] (.int x :: st) h := (ex_of d209_1227 (d) [l0, l1, l2, some (.int x)] st h).trans (rfl)
theorem d209_1228 : decode (mB 209) 1228 = .ok (.iconst 2, 1) := by decide +kernel
theorem x209_1228 {d : Nat} {L : Lc} {st : List Value} {h : Hp} : ex (d) 209 1228 L st h = ex d 209 1229 L (.int (nI 2) :: st) h := (ex_of d209_1228 (d) L st h).trans (rfl)
theorem d209_1229 : decode (mB 209) 1229 = .ok (.iadd, 1) := by decide +kernel
theorem x209_1229 {d : Nat} {L : Lc} {st : List Value} {x y : Int32} {h : Hp} : ex (d) 209 1229 L (.int y :: .int x :: st) h = ex d 209 1230 L (.int (x + y) :: st) h := (ex_of d209_1229 (d) L (.int y :: .int x :: st) h).trans (rfl)
theorem d209_1230 : decode (mB 209) 1230 = .ok (.iaload, 1) := by decide +kernel
theorem x209_1230 {d : Nat} {L : Lc} {st : List Value} {a j : Nat} {h : Hp} (ht : (h.2.1 a).1 = 20) (hj : j < (h.2.1 a).2) (hb : j < 2147483648) : ex (d) 209 1230 L (.int (nI j) :: .ref a :: st) h = ex d 209 1231 L (h.1 a j :: st) h := (ex_of d209_1230 (d) L (.int (nI j) :: .ref a :: st) h).trans (fin_iaload (Or.inl ht) hj hb)
theorem d209_1231 : decode (mB 209) 1231 = .ok (.invokevirtual 154, 3) := by decide +kernel
theorem x209_1231 {d : Nat} {L : Lc} {a : Nat} {v0 : Int32} {v1 : Int32} {h : Hp} (ht : (h.2.1 a).1 = 10) : ex (d + 1) 209 1231 L (.int v1 :: .int v0 :: .ref a :: []) h = bnd (ex d 78 0 [some (.ref a), some (.int v0), some (.int v1), none, none, none] [] h) (fun v h' => ex (d + 1) 209 1234 L (v.toList ++ []) h') := (ex_of d209_1231 (d + 1) L (.int v1 :: .int v0 :: .ref a :: []) h).trans (fin_vi (mi := 209) i13_154 ht rfl rfl (by simp [cat1_i, cat1_r]) (by simp) (Nat.le_of_ble_eq_true rfl))
theorem d209_1234 : decode (mB 209) 1234 = .ok (.aload_n 2, 1) := by decide +kernel
theorem x209_1234 {d : Nat} {l0 l1 l3 : Option Value} {st : List Value} {a : Nat} {h : Hp} : ex (d) 209 1234 [l0, l1, some (.ref a), l3] st h = ex d 209 1235 [l0, l1, some (.ref a), l3] (.ref a :: st) h := (ex_of d209_1234 (d) [l0, l1, some (.ref a), l3] st h).trans (rfl)
theorem x209_1234n {d : Nat} {l0 l1 l3 : Option Value} {st : List Value} {h : Hp} : ex (d) 209 1234 [l0, l1, some .null, l3] st h = ex d 209 1235 [l0, l1, some .null, l3] (.null :: st) h := (ex_of d209_1234 (d) [l0, l1, some .null, l3] st h).trans (rfl)
theorem x209_1234q {d : Nat} {l0 l1 l3 : Option Value} {st : List Value} {a : Option Nat} {h : Hp} : ex (d) 209 1234 [l0, l1, some (va_rf a), l3] st h = ex d 209 1235 [l0, l1, some (va_rf a), l3] (va_rf a :: st) h := (ex_of d209_1234 (d) [l0, l1, some (va_rf a), l3] st h).trans (by cases a <;> rfl)
theorem d209_1235 : decode (mB 209) 1235 = .ok (.aload_n 0, 1) := by decide +kernel
theorem x209_1235 {d : Nat} {l1 l2 l3 : Option Value} {st : List Value} {a : Nat} {h : Hp} : ex (d) 209 1235 [some (.ref a), l1, l2, l3] st h = ex d 209 1236 [some (.ref a), l1, l2, l3] (.ref a :: st) h := (ex_of d209_1235 (d) [some (.ref a), l1, l2, l3] st h).trans (rfl)
theorem d209_1236 : decode (mB 209) 1236 = .ok (.iload_n 3, 1) := by decide +kernel
theorem x209_1236 {d : Nat} {l0 l1 l2 : Option Value} {st : List Value} {x : Int32} {h : Hp} : ex (d) 209 1236 [l0, l1, l2, some (.int x)] st h = ex d 209 1237 [l0, l1, l2, some (.int x)] (.int x :: st) h := (ex_of d209_1236 (d) [l0, l1, l2, some (.int x)] st h).trans (rfl)
theorem d209_1237 : decode (mB 209) 1237 = .ok (.iconst 1, 1) := by decide +kernel
theorem x209_1237 {d : Nat} {L : Lc} {st : List Value} {h : Hp} : ex (d) 209 1237 L st h = ex d 209 1238 L (.int (nI 1) :: st) h := (ex_of d209_1237 (d) L st h).trans (rfl)
theorem d209_1238 : decode (mB 209) 1238 = .ok (.iadd, 1) := by decide +kernel
theorem x209_1238 {d : Nat} {L : Lc} {st : List Value} {x y : Int32} {h : Hp} : ex (d) 209 1238 L (.int y :: .int x :: st) h = ex d 209 1239 L (.int (x + y) :: st) h := (ex_of d209_1238 (d) L (.int y :: .int x :: st) h).trans (rfl)
theorem d209_1239 : decode (mB 209) 1239 = .ok (.iaload, 1) := by decide +kernel
theorem x209_1239 {d : Nat} {L : Lc} {st : List Value} {a j : Nat} {h : Hp} (ht : (h.2.1 a).1 = 20) (hj : j < (h.2.1 a).2) (hb : j < 2147483648) : ex (d) 209 1239 L (.int (nI j) :: .ref a :: st) h = ex d 209 1240 L (h.1 a j :: st) h := (ex_of d209_1239 (d) L (.int (nI j) :: .ref a :: st) h).trans (fin_iaload (Or.inl ht) hj hb)
theorem d209_1240 : decode (mB 209) 1240 = .ok (.aload_n 0, 1) := by decide +kernel
theorem x209_1240 {d : Nat} {l1 l2 l3 : Option Value} {st : List Value} {a : Nat} {h : Hp} : ex (d) 209 1240 [some (.ref a), l1, l2, l3] st h = ex d 209 1241 [some (.ref a), l1, l2, l3] (.ref a :: st) h := (ex_of d209_1240 (d) [some (.ref a), l1, l2, l3] st h).trans (rfl)
theorem d209_1241 : decode (mB 209) 1241 = .ok (.iload_n 3, 1) := by decide +kernel
theorem x209_1241 {d : Nat} {l0 l1 l2 : Option Value} {st : List Value} {x : Int32} {h : Hp} : ex (d) 209 1241 [l0, l1, l2, some (.int x)] st h = ex d 209 1242 [l0, l1, l2, some (.int x)] (.int x :: st) h := (ex_of d209_1241 (d) [l0, l1, l2, some (.int x)] st h).trans (rfl)
theorem d209_1242 : decode (mB 209) 1242 = .ok (.iconst 2, 1) := by decide +kernel
theorem x209_1242 {d : Nat} {L : Lc} {st : List Value} {h : Hp} : ex (d) 209 1242 L st h = ex d 209 1243 L (.int (nI 2) :: st) h := (ex_of d209_1242 (d) L st h).trans (rfl)
theorem d209_1243 : decode (mB 209) 1243 = .ok (.iadd, 1) := by decide +kernel
theorem x209_1243 {d : Nat} {L : Lc} {st : List Value} {x y : Int32} {h : Hp} : ex (d) 209 1243 L (.int y :: .int x :: st) h = ex d 209 1244 L (.int (x + y) :: st) h := (ex_of d209_1243 (d) L (.int y :: .int x :: st) h).trans (rfl)
theorem d209_1244 : decode (mB 209) 1244 = .ok (.iaload, 1) := by decide +kernel
theorem x209_1244 {d : Nat} {L : Lc} {st : List Value} {a j : Nat} {h : Hp} (ht : (h.2.1 a).1 = 20) (hj : j < (h.2.1 a).2) (hb : j < 2147483648) : ex (d) 209 1244 L (.int (nI j) :: .ref a :: st) h = ex d 209 1245 L (h.1 a j :: st) h := (ex_of d209_1244 (d) L (.int (nI j) :: .ref a :: st) h).trans (fin_iaload (Or.inl ht) hj hb)
theorem d209_1245 : decode (mB 209) 1245 = .ok (.invokevirtual 157, 3) := by decide +kernel
theorem x209_1245 {d : Nat} {L : Lc} {s0 : Value} {a : Nat} {v0 : Int32} {v1 : Int32} {h : Hp} (ht : (h.2.1 a).1 = 11) : ex (d + 1) 209 1245 L (.int v1 :: .int v0 :: .ref a :: [s0]) h = bnd (ex d 204 0 [some (.ref a), some (.int v0), some (.int v1), none, none] [] h) (fun v h' => ex (d + 1) 209 1248 L (v.toList ++ [s0]) h') := (ex_of d209_1245 (d + 1) L (.int v1 :: .int v0 :: .ref a :: [s0]) h).trans (fin_vi (mi := 209) i13_157 ht rfl rfl (by simp [cat1_i, cat1_r]) (by simp) (Nat.le_of_ble_eq_true rfl))
theorem d209_1248 : decode (mB 209) 1248 = .ok (.if_icmp .eq 90, 3) := by decide +kernel
theorem x209_1248 {d : Nat} {L : Lc} {st : List Value} {x y : Int32} {h : Hp} : ex (d) 209 1248 L (.int y :: .int x :: st) h = if x = y then ex d 209 1338 L st h else ex d 209 1251 L st h := (ex_of d209_1248 (d) L (.int y :: .int x :: st) h).trans (fin_brq (off := 90) (tgt := 1338) rfl (by decide))
theorem d209_1251 : decode (mB 209) 1251 = .ok (.iconst 0, 1) := by decide +kernel
theorem x209_1251 {d : Nat} {L : Lc} {st : List Value} {h : Hp} : ex (d) 209 1251 L st h = ex d 209 1252 L (.int (nI 0) :: st) h := (ex_of d209_1251 (d) L st h).trans (rfl)
theorem d209_1252 : decode (mB 209) 1252 = .ok (.ireturn, 1) := by decide +kernel
theorem x209_1252 {d : Nat} {L : Lc} {x : Int32} {h : Hp} (hx : x = 0 ∨ x = 1) : ex (d) 209 1252 L [.int x] h = some (some (.int x), h) := (ex_of d209_1252 (d) L [.int x] h).trans (fin_retb rfl hx)
theorem d209_1253 : decode (mB 209) 1253 = .ok (.aload_n 1, 1) := by decide +kernel
theorem x209_1253 {d : Nat} {l0 l2 l3 : Option Value} {st : List Value} {a : Nat} {h : Hp} : ex (d) 209 1253 [l0, some (.ref a), l2, l3] st h = ex d 209 1254 [l0, some (.ref a), l2, l3] (.ref a :: st) h := (ex_of d209_1253 (d) [l0, some (.ref a), l2, l3] st h).trans (rfl)
theorem x209_1253n {d : Nat} {l0 l2 l3 : Option Value} {st : List Value} {h : Hp} : ex (d) 209 1253 [l0, some .null, l2, l3] st h = ex d 209 1254 [l0, some .null, l2, l3] (.null :: st) h := (ex_of d209_1253 (d) [l0, some .null, l2, l3] st h).trans (rfl)
theorem x209_1253q {d : Nat} {l0 l2 l3 : Option Value} {st : List Value} {a : Option Nat} {h : Hp} : ex (d) 209 1253 [l0, some (va_rf a), l2, l3] st h = ex d 209 1254 [l0, some (va_rf a), l2, l3] (va_rf a :: st) h := (ex_of d209_1253 (d) [l0, some (va_rf a), l2, l3] st h).trans (by cases a <;> rfl)
theorem d209_1254 : decode (mB 209) 1254 = .ok (.aload_n 0, 1) := by decide +kernel
theorem x209_1254 {d : Nat} {l1 l2 l3 : Option Value} {st : List Value} {a : Nat} {h : Hp} : ex (d) 209 1254 [some (.ref a), l1, l2, l3] st h = ex d 209 1255 [some (.ref a), l1, l2, l3] (.ref a :: st) h := (ex_of d209_1254 (d) [some (.ref a), l1, l2, l3] st h).trans (rfl)
theorem d209_1255 : decode (mB 209) 1255 = .ok (.iload_n 3, 1) := by decide +kernel
theorem x209_1255 {d : Nat} {l0 l1 l2 : Option Value} {st : List Value} {x : Int32} {h : Hp} : ex (d) 209 1255 [l0, l1, l2, some (.int x)] st h = ex d 209 1256 [l0, l1, l2, some (.int x)] (.int x :: st) h := (ex_of d209_1255 (d) [l0, l1, l2, some (.int x)] st h).trans (rfl)
theorem d209_1256 : decode (mB 209) 1256 = .ok (.iconst 1, 1) := by decide +kernel
theorem x209_1256 {d : Nat} {L : Lc} {st : List Value} {h : Hp} : ex (d) 209 1256 L st h = ex d 209 1257 L (.int (nI 1) :: st) h := (ex_of d209_1256 (d) L st h).trans (rfl)
theorem d209_1257 : decode (mB 209) 1257 = .ok (.iadd, 1) := by decide +kernel
theorem x209_1257 {d : Nat} {L : Lc} {st : List Value} {x y : Int32} {h : Hp} : ex (d) 209 1257 L (.int y :: .int x :: st) h = ex d 209 1258 L (.int (x + y) :: st) h := (ex_of d209_1257 (d) L (.int y :: .int x :: st) h).trans (rfl)
theorem d209_1258 : decode (mB 209) 1258 = .ok (.iaload, 1) := by decide +kernel
theorem x209_1258 {d : Nat} {L : Lc} {st : List Value} {a j : Nat} {h : Hp} (ht : (h.2.1 a).1 = 20) (hj : j < (h.2.1 a).2) (hb : j < 2147483648) : ex (d) 209 1258 L (.int (nI j) :: .ref a :: st) h = ex d 209 1259 L (h.1 a j :: st) h := (ex_of d209_1258 (d) L (.int (nI j) :: .ref a :: st) h).trans (fin_iaload (Or.inl ht) hj hb)
theorem d209_1259 : decode (mB 209) 1259 = .ok (.invokevirtual 158, 3) := by decide +kernel
theorem x209_1259 {d : Nat} {L : Lc} {a : Nat} {v0 : Int32} {h : Hp} (ht : (h.2.1 a).1 = 10) : ex (d + 1) 209 1259 L (.int v0 :: .ref a :: []) h = bnd (ex d 79 0 [some (.ref a), some (.int v0), none, none] [] h) (fun v h' => ex (d + 1) 209 1262 L (v.toList ++ []) h') := (ex_of d209_1259 (d + 1) L (.int v0 :: .ref a :: []) h).trans (fin_vi (mi := 209) i13_158 ht rfl rfl (by simp [cat1_i, cat1_r]) (by simp) (Nat.le_of_ble_eq_true rfl))
theorem d209_1262 : decode (mB 209) 1262 = .ok (.aload_n 2, 1) := by decide +kernel
theorem x209_1262 {d : Nat} {l0 l1 l3 : Option Value} {st : List Value} {a : Nat} {h : Hp} : ex (d) 209 1262 [l0, l1, some (.ref a), l3] st h = ex d 209 1263 [l0, l1, some (.ref a), l3] (.ref a :: st) h := (ex_of d209_1262 (d) [l0, l1, some (.ref a), l3] st h).trans (rfl)
theorem x209_1262n {d : Nat} {l0 l1 l3 : Option Value} {st : List Value} {h : Hp} : ex (d) 209 1262 [l0, l1, some .null, l3] st h = ex d 209 1263 [l0, l1, some .null, l3] (.null :: st) h := (ex_of d209_1262 (d) [l0, l1, some .null, l3] st h).trans (rfl)
theorem x209_1262q {d : Nat} {l0 l1 l3 : Option Value} {st : List Value} {a : Option Nat} {h : Hp} : ex (d) 209 1262 [l0, l1, some (va_rf a), l3] st h = ex d 209 1263 [l0, l1, some (va_rf a), l3] (va_rf a :: st) h := (ex_of d209_1262 (d) [l0, l1, some (va_rf a), l3] st h).trans (by cases a <;> rfl)
theorem d209_1263 : decode (mB 209) 1263 = .ok (.aload_n 0, 1) := by decide +kernel
theorem x209_1263 {d : Nat} {l1 l2 l3 : Option Value} {st : List Value} {a : Nat} {h : Hp} : ex (d) 209 1263 [some (.ref a), l1, l2, l3] st h = ex d 209 1264 [some (.ref a), l1, l2, l3] (.ref a :: st) h := (ex_of d209_1263 (d) [some (.ref a), l1, l2, l3] st h).trans (rfl)
theorem d209_1264 : decode (mB 209) 1264 = .ok (.iload_n 3, 1) := by decide +kernel
theorem x209_1264 {d : Nat} {l0 l1 l2 : Option Value} {st : List Value} {x : Int32} {h : Hp} : ex (d) 209 1264 [l0, l1, l2, some (.int x)] st h = ex d 209 1265 [l0, l1, l2, some (.int x)] (.int x :: st) h := (ex_of d209_1264 (d) [l0, l1, l2, some (.int x)] st h).trans (rfl)
theorem d209_1265 : decode (mB 209) 1265 = .ok (.iconst 1, 1) := by decide +kernel
theorem x209_1265 {d : Nat} {L : Lc} {st : List Value} {h : Hp} : ex (d) 209 1265 L st h = ex d 209 1266 L (.int (nI 1) :: st) h := (ex_of d209_1265 (d) L st h).trans (rfl)
theorem d209_1266 : decode (mB 209) 1266 = .ok (.iadd, 1) := by decide +kernel
theorem x209_1266 {d : Nat} {L : Lc} {st : List Value} {x y : Int32} {h : Hp} : ex (d) 209 1266 L (.int y :: .int x :: st) h = ex d 209 1267 L (.int (x + y) :: st) h := (ex_of d209_1266 (d) L (.int y :: .int x :: st) h).trans (rfl)
theorem d209_1267 : decode (mB 209) 1267 = .ok (.iaload, 1) := by decide +kernel
theorem x209_1267 {d : Nat} {L : Lc} {st : List Value} {a j : Nat} {h : Hp} (ht : (h.2.1 a).1 = 20) (hj : j < (h.2.1 a).2) (hb : j < 2147483648) : ex (d) 209 1267 L (.int (nI j) :: .ref a :: st) h = ex d 209 1268 L (h.1 a j :: st) h := (ex_of d209_1267 (d) L (.int (nI j) :: .ref a :: st) h).trans (fin_iaload (Or.inl ht) hj hb)
theorem d209_1268 : decode (mB 209) 1268 = .ok (.invokevirtual 161, 3) := by decide +kernel
theorem x209_1268 {d : Nat} {L : Lc} {s0 : Value} {a : Nat} {v0 : Int32} {h : Hp} (ht : (h.2.1 a).1 = 11) : ex (d + 1) 209 1268 L (.int v0 :: .ref a :: [s0]) h = bnd (ex d 205 0 [some (.ref a), some (.int v0), none, none] [] h) (fun v h' => ex (d + 1) 209 1271 L (v.toList ++ [s0]) h') := (ex_of d209_1268 (d + 1) L (.int v0 :: .ref a :: [s0]) h).trans (fin_vi (mi := 209) i13_161 ht rfl rfl (by simp [cat1_i, cat1_r]) (by simp) (Nat.le_of_ble_eq_true rfl))
theorem d209_1271 : decode (mB 209) 1271 = .ok (.if_icmp .eq 67, 3) := by decide +kernel
theorem x209_1271 {d : Nat} {L : Lc} {st : List Value} {x y : Int32} {h : Hp} : ex (d) 209 1271 L (.int y :: .int x :: st) h = if x = y then ex d 209 1338 L st h else ex d 209 1274 L st h := (ex_of d209_1271 (d) L (.int y :: .int x :: st) h).trans (fin_brq (off := 67) (tgt := 1338) rfl (by decide))
theorem d209_1274 : decode (mB 209) 1274 = .ok (.iconst 0, 1) := by decide +kernel
theorem x209_1274 {d : Nat} {L : Lc} {st : List Value} {h : Hp} : ex (d) 209 1274 L st h = ex d 209 1275 L (.int (nI 0) :: st) h := (ex_of d209_1274 (d) L st h).trans (rfl)
theorem d209_1275 : decode (mB 209) 1275 = .ok (.ireturn, 1) := by decide +kernel
theorem x209_1275 {d : Nat} {L : Lc} {x : Int32} {h : Hp} (hx : x = 0 ∨ x = 1) : ex (d) 209 1275 L [.int x] h = some (some (.int x), h) := (ex_of d209_1275 (d) L [.int x] h).trans (fin_retb rfl hx)
theorem d209_1276 : decode (mB 209) 1276 = .ok (.aload_n 1, 1) := by decide +kernel
theorem x209_1276 {d : Nat} {l0 l2 l3 : Option Value} {st : List Value} {a : Nat} {h : Hp} : ex (d) 209 1276 [l0, some (.ref a), l2, l3] st h = ex d 209 1277 [l0, some (.ref a), l2, l3] (.ref a :: st) h := (ex_of d209_1276 (d) [l0, some (.ref a), l2, l3] st h).trans (rfl)
theorem x209_1276n {d : Nat} {l0 l2 l3 : Option Value} {st : List Value} {h : Hp} : ex (d) 209 1276 [l0, some .null, l2, l3] st h = ex d 209 1277 [l0, some .null, l2, l3] (.null :: st) h := (ex_of d209_1276 (d) [l0, some .null, l2, l3] st h).trans (rfl)
theorem x209_1276q {d : Nat} {l0 l2 l3 : Option Value} {st : List Value} {a : Option Nat} {h : Hp} : ex (d) 209 1276 [l0, some (va_rf a), l2, l3] st h = ex d 209 1277 [l0, some (va_rf a), l2, l3] (va_rf a :: st) h := (ex_of d209_1276 (d) [l0, some (va_rf a), l2, l3] st h).trans (by cases a <;> rfl)
theorem d209_1277 : decode (mB 209) 1277 = .ok (.invokevirtual 162, 3) := by decide +kernel
theorem x209_1277 {d : Nat} {L : Lc} {a : Nat} {h : Hp} (ht : (h.2.1 a).1 = 10) : ex (d + 1) 209 1277 L (.ref a :: []) h = bnd (ex d 80 0 [some (.ref a), none] [] h) (fun v h' => ex (d + 1) 209 1280 L (v.toList ++ []) h') := (ex_of d209_1277 (d + 1) L (.ref a :: []) h).trans (fin_vi (mi := 209) i13_162 ht rfl rfl (by simp [cat1_i, cat1_r]) (by simp) (Nat.le_of_ble_eq_true rfl))
theorem d209_1280 : decode (mB 209) 1280 = .ok (.aload_n 2, 1) := by decide +kernel
theorem x209_1280 {d : Nat} {l0 l1 l3 : Option Value} {st : List Value} {a : Nat} {h : Hp} : ex (d) 209 1280 [l0, l1, some (.ref a), l3] st h = ex d 209 1281 [l0, l1, some (.ref a), l3] (.ref a :: st) h := (ex_of d209_1280 (d) [l0, l1, some (.ref a), l3] st h).trans (rfl)
theorem x209_1280n {d : Nat} {l0 l1 l3 : Option Value} {st : List Value} {h : Hp} : ex (d) 209 1280 [l0, l1, some .null, l3] st h = ex d 209 1281 [l0, l1, some .null, l3] (.null :: st) h := (ex_of d209_1280 (d) [l0, l1, some .null, l3] st h).trans (rfl)
theorem x209_1280q {d : Nat} {l0 l1 l3 : Option Value} {st : List Value} {a : Option Nat} {h : Hp} : ex (d) 209 1280 [l0, l1, some (va_rf a), l3] st h = ex d 209 1281 [l0, l1, some (va_rf a), l3] (va_rf a :: st) h := (ex_of d209_1280 (d) [l0, l1, some (va_rf a), l3] st h).trans (by cases a <;> rfl)
theorem d209_1281 : decode (mB 209) 1281 = .ok (.invokevirtual 165, 3) := by decide +kernel
theorem x209_1281 {d : Nat} {L : Lc} {s0 : Value} {a : Nat} {h : Hp} (ht : (h.2.1 a).1 = 11) : ex (d + 1) 209 1281 L (.ref a :: [s0]) h = bnd (ex d 165 0 [some (.ref a), none, none, none, none, none, none] [] h) (fun v h' => ex (d + 1) 209 1284 L (v.toList ++ [s0]) h') := (ex_of d209_1281 (d + 1) L (.ref a :: [s0]) h).trans (fin_vi (mi := 209) i13_165 ht rfl rfl (by simp [cat1_i, cat1_r]) (by simp) (Nat.le_of_ble_eq_true rfl))
theorem d209_1284 : decode (mB 209) 1284 = .ok (.if_icmp .eq 54, 3) := by decide +kernel
theorem x209_1284 {d : Nat} {L : Lc} {st : List Value} {x y : Int32} {h : Hp} : ex (d) 209 1284 L (.int y :: .int x :: st) h = if x = y then ex d 209 1338 L st h else ex d 209 1287 L st h := (ex_of d209_1284 (d) L (.int y :: .int x :: st) h).trans (fin_brq (off := 54) (tgt := 1338) rfl (by decide))
theorem d209_1287 : decode (mB 209) 1287 = .ok (.iconst 0, 1) := by decide +kernel
theorem x209_1287 {d : Nat} {L : Lc} {st : List Value} {h : Hp} : ex (d) 209 1287 L st h = ex d 209 1288 L (.int (nI 0) :: st) h := (ex_of d209_1287 (d) L st h).trans (rfl)
theorem d209_1288 : decode (mB 209) 1288 = .ok (.ireturn, 1) := by decide +kernel
theorem x209_1288 {d : Nat} {L : Lc} {x : Int32} {h : Hp} (hx : x = 0 ∨ x = 1) : ex (d) 209 1288 L [.int x] h = some (some (.int x), h) := (ex_of d209_1288 (d) L [.int x] h).trans (fin_retb rfl hx)
theorem d209_1289 : decode (mB 209) 1289 = .ok (.aload_n 1, 1) := by decide +kernel
theorem x209_1289 {d : Nat} {l0 l2 l3 : Option Value} {st : List Value} {a : Nat} {h : Hp} : ex (d) 209 1289 [l0, some (.ref a), l2, l3] st h = ex d 209 1290 [l0, some (.ref a), l2, l3] (.ref a :: st) h := (ex_of d209_1289 (d) [l0, some (.ref a), l2, l3] st h).trans (rfl)
theorem x209_1289n {d : Nat} {l0 l2 l3 : Option Value} {st : List Value} {h : Hp} : ex (d) 209 1289 [l0, some .null, l2, l3] st h = ex d 209 1290 [l0, some .null, l2, l3] (.null :: st) h := (ex_of d209_1289 (d) [l0, some .null, l2, l3] st h).trans (rfl)
theorem x209_1289q {d : Nat} {l0 l2 l3 : Option Value} {st : List Value} {a : Option Nat} {h : Hp} : ex (d) 209 1289 [l0, some (va_rf a), l2, l3] st h = ex d 209 1290 [l0, some (va_rf a), l2, l3] (va_rf a :: st) h := (ex_of d209_1289 (d) [l0, some (va_rf a), l2, l3] st h).trans (by cases a <;> rfl)
theorem d209_1290 : decode (mB 209) 1290 = .ok (.aload_n 0, 1) := by decide +kernel
theorem x209_1290 {d : Nat} {l1 l2 l3 : Option Value} {st : List Value} {a : Nat} {h : Hp} : ex (d) 209 1290 [some (.ref a), l1, l2, l3] st h = ex d 209 1291 [some (.ref a), l1, l2, l3] (.ref a :: st) h := (ex_of d209_1290 (d) [some (.ref a), l1, l2, l3] st h).trans (rfl)
theorem d209_1291 : decode (mB 209) 1291 = .ok (.iload_n 3, 1) := by decide +kernel
theorem x209_1291 {d : Nat} {l0 l1 l2 : Option Value} {st : List Value} {x : Int32} {h : Hp} : ex (d) 209 1291 [l0, l1, l2, some (.int x)] st h = ex d 209 1292 [l0, l1, l2, some (.int x)] (.int x :: st) h := (ex_of d209_1291 (d) [l0, l1, l2, some (.int x)] st h).trans (rfl)
theorem d209_1292 : decode (mB 209) 1292 = .ok (.iconst 1, 1) := by decide +kernel
theorem x209_1292 {d : Nat} {L : Lc} {st : List Value} {h : Hp} : ex (d) 209 1292 L st h = ex d 209 1293 L (.int (nI 1) :: st) h := (ex_of d209_1292 (d) L st h).trans (rfl)
theorem d209_1293 : decode (mB 209) 1293 = .ok (.iadd, 1) := by decide +kernel
theorem x209_1293 {d : Nat} {L : Lc} {st : List Value} {x y : Int32} {h : Hp} : ex (d) 209 1293 L (.int y :: .int x :: st) h = ex d 209 1294 L (.int (x + y) :: st) h := (ex_of d209_1293 (d) L (.int y :: .int x :: st) h).trans (rfl)
theorem d209_1294 : decode (mB 209) 1294 = .ok (.iaload, 1) := by decide +kernel
theorem x209_1294 {d : Nat} {L : Lc} {st : List Value} {a j : Nat} {h : Hp} (ht : (h.2.1 a).1 = 20) (hj : j < (h.2.1 a).2) (hb : j < 2147483648) : ex (d) 209 1294 L (.int (nI j) :: .ref a :: st) h = ex d 209 1295 L (h.1 a j :: st) h := (ex_of d209_1294 (d) L (.int (nI j) :: .ref a :: st) h).trans (fin_iaload (Or.inl ht) hj hb)
theorem d209_1295 : decode (mB 209) 1295 = .ok (.invokevirtual 166, 3) := by decide +kernel
theorem x209_1295 {d : Nat} {L : Lc} {a : Nat} {v0 : Int32} {h : Hp} (ht : (h.2.1 a).1 = 10) : ex (d + 1) 209 1295 L (.int v0 :: .ref a :: []) h = bnd (ex d 81 0 [some (.ref a), some (.int v0)] [] h) (fun v h' => ex (d + 1) 209 1298 L (v.toList ++ []) h') := (ex_of d209_1295 (d + 1) L (.int v0 :: .ref a :: []) h).trans (fin_vi (mi := 209) i13_166 ht rfl rfl (by simp [cat1_i, cat1_r]) (by simp) (Nat.le_of_ble_eq_true rfl))
theorem d209_1298 : decode (mB 209) 1298 = .ok (.aload_n 2, 1) := by decide +kernel
theorem x209_1298 {d : Nat} {l0 l1 l3 : Option Value} {st : List Value} {a : Nat} {h : Hp} : ex (d) 209 1298 [l0, l1, some (.ref a), l3] st h = ex d 209 1299 [l0, l1, some (.ref a), l3] (.ref a :: st) h := (ex_of d209_1298 (d) [l0, l1, some (.ref a), l3] st h).trans (rfl)
theorem x209_1298n {d : Nat} {l0 l1 l3 : Option Value} {st : List Value} {h : Hp} : ex (d) 209 1298 [l0, l1, some .null, l3] st h = ex d 209 1299 [l0, l1, some .null, l3] (.null :: st) h := (ex_of d209_1298 (d) [l0, l1, some .null, l3] st h).trans (rfl)
theorem x209_1298q {d : Nat} {l0 l1 l3 : Option Value} {st : List Value} {a : Option Nat} {h : Hp} : ex (d) 209 1298 [l0, l1, some (va_rf a), l3] st h = ex d 209 1299 [l0, l1, some (va_rf a), l3] (va_rf a :: st) h := (ex_of d209_1298 (d) [l0, l1, some (va_rf a), l3] st h).trans (by cases a <;> rfl)
theorem d209_1299 : decode (mB 209) 1299 = .ok (.aload_n 0, 1) := by decide +kernel
theorem x209_1299 {d : Nat} {l1 l2 l3 : Option Value} {st : List Value} {a : Nat} {h : Hp} : ex (d) 209 1299 [some (.ref a), l1, l2, l3] st h = ex d 209 1300 [some (.ref a), l1, l2, l3] (.ref a :: st) h := (ex_of d209_1299 (d) [some (.ref a), l1, l2, l3] st h).trans (rfl)
theorem d209_1300 : decode (mB 209) 1300 = .ok (.iload_n 3, 1) := by decide +kernel
theorem x209_1300 {d : Nat} {l0 l1 l2 : Option Value} {st : List Value} {x : Int32} {h : Hp} : ex (d) 209 1300 [l0, l1, l2, some (.int x)] st h = ex d 209 1301 [l0, l1, l2, some (.int x)] (.int x :: st) h := (ex_of d209_1300 (d) [l0, l1, l2, some (.int x)] st h).trans (rfl)
theorem d209_1301 : decode (mB 209) 1301 = .ok (.iconst 1, 1) := by decide +kernel
theorem x209_1301 {d : Nat} {L : Lc} {st : List Value} {h : Hp} : ex (d) 209 1301 L st h = ex d 209 1302 L (.int (nI 1) :: st) h := (ex_of d209_1301 (d) L st h).trans (rfl)
theorem d209_1302 : decode (mB 209) 1302 = .ok (.iadd, 1) := by decide +kernel
theorem x209_1302 {d : Nat} {L : Lc} {st : List Value} {x y : Int32} {h : Hp} : ex (d) 209 1302 L (.int y :: .int x :: st) h = ex d 209 1303 L (.int (x + y) :: st) h := (ex_of d209_1302 (d) L (.int y :: .int x :: st) h).trans (rfl)
theorem d209_1303 : decode (mB 209) 1303 = .ok (.iaload, 1) := by decide +kernel
theorem x209_1303 {d : Nat} {L : Lc} {st : List Value} {a j : Nat} {h : Hp} (ht : (h.2.1 a).1 = 20) (hj : j < (h.2.1 a).2) (hb : j < 2147483648) : ex (d) 209 1303 L (.int (nI j) :: .ref a :: st) h = ex d 209 1304 L (h.1 a j :: st) h := (ex_of d209_1303 (d) L (.int (nI j) :: .ref a :: st) h).trans (fin_iaload (Or.inl ht) hj hb)
theorem d209_1304 : decode (mB 209) 1304 = .ok (.invokevirtual 169, 3) := by decide +kernel
theorem x209_1304 {d : Nat} {L : Lc} {s0 : Value} {a : Nat} {v0 : Int32} {h : Hp} (ht : (h.2.1 a).1 = 11) : ex (d + 1) 209 1304 L (.int v0 :: .ref a :: [s0]) h = bnd (ex d 206 0 [some (.ref a), some (.int v0)] [] h) (fun v h' => ex (d + 1) 209 1307 L (v.toList ++ [s0]) h') := (ex_of d209_1304 (d + 1) L (.int v0 :: .ref a :: [s0]) h).trans (fin_vi (mi := 209) i13_169 ht rfl rfl (by simp [cat1_i, cat1_r]) (by simp) (Nat.le_of_ble_eq_true rfl))
theorem d209_1307 : decode (mB 209) 1307 = .ok (.if_icmp .eq 31, 3) := by decide +kernel
theorem x209_1307 {d : Nat} {L : Lc} {st : List Value} {x y : Int32} {h : Hp} : ex (d) 209 1307 L (.int y :: .int x :: st) h = if x = y then ex d 209 1338 L st h else ex d 209 1310 L st h := (ex_of d209_1307 (d) L (.int y :: .int x :: st) h).trans (fin_brq (off := 31) (tgt := 1338) rfl (by decide))
theorem d209_1310 : decode (mB 209) 1310 = .ok (.iconst 0, 1) := by decide +kernel
theorem x209_1310 {d : Nat} {L : Lc} {st : List Value} {h : Hp} : ex (d) 209 1310 L st h = ex d 209 1311 L (.int (nI 0) :: st) h := (ex_of d209_1310 (d) L st h).trans (rfl)
theorem d209_1311 : decode (mB 209) 1311 = .ok (.ireturn, 1) := by decide +kernel
theorem x209_1311 {d : Nat} {L : Lc} {x : Int32} {h : Hp} (hx : x = 0 ∨ x = 1) : ex (d) 209 1311 L [.int x] h = some (some (.int x), h) := (ex_of d209_1311 (d) L [.int x] h).trans (fin_retb rfl hx)
theorem d209_1312 : decode (mB 209) 1312 = .ok (.aload_n 1, 1) := by decide +kernel
theorem x209_1312 {d : Nat} {l0 l2 l3 : Option Value} {st : List Value} {a : Nat} {h : Hp} : ex (d) 209 1312 [l0, some (.ref a), l2, l3] st h = ex d 209 1313 [l0, some (.ref a), l2, l3] (.ref a :: st) h := (ex_of d209_1312 (d) [l0, some (.ref a), l2, l3] st h).trans (rfl)
theorem x209_1312n {d : Nat} {l0 l2 l3 : Option Value} {st : List Value} {h : Hp} : ex (d) 209 1312 [l0, some .null, l2, l3] st h = ex d 209 1313 [l0, some .null, l2, l3] (.null :: st) h := (ex_of d209_1312 (d) [l0, some .null, l2, l3] st h).trans (rfl)
theorem x209_1312q {d : Nat} {l0 l2 l3 : Option Value} {st : List Value} {a : Option Nat} {h : Hp} : ex (d) 209 1312 [l0, some (va_rf a), l2, l3] st h = ex d 209 1313 [l0, some (va_rf a), l2, l3] (va_rf a :: st) h := (ex_of d209_1312 (d) [l0, some (va_rf a), l2, l3] st h).trans (by cases a <;> rfl)
theorem d209_1313 : decode (mB 209) 1313 = .ok (.invokevirtual 170, 3) := by decide +kernel
theorem x209_1313 {d : Nat} {L : Lc} {a : Nat} {h : Hp} (ht : (h.2.1 a).1 = 10) : ex (d + 1) 209 1313 L (.ref a :: []) h = bnd (ex d 82 0 [some (.ref a)] [] h) (fun v h' => ex (d + 1) 209 1316 L (v.toList ++ []) h') := (ex_of d209_1313 (d + 1) L (.ref a :: []) h).trans (fin_vi (mi := 209) i13_170 ht rfl rfl (by simp [cat1_i, cat1_r]) (by simp) (Nat.le_of_ble_eq_true rfl))
theorem d209_1316 : decode (mB 209) 1316 = .ok (.aload_n 2, 1) := by decide +kernel
theorem x209_1316 {d : Nat} {l0 l1 l3 : Option Value} {st : List Value} {a : Nat} {h : Hp} : ex (d) 209 1316 [l0, l1, some (.ref a), l3] st h = ex d 209 1317 [l0, l1, some (.ref a), l3] (.ref a :: st) h := (ex_of d209_1316 (d) [l0, l1, some (.ref a), l3] st h).trans (rfl)
theorem x209_1316n {d : Nat} {l0 l1 l3 : Option Value} {st : List Value} {h : Hp} : ex (d) 209 1316 [l0, l1, some .null, l3] st h = ex d 209 1317 [l0, l1, some .null, l3] (.null :: st) h := (ex_of d209_1316 (d) [l0, l1, some .null, l3] st h).trans (rfl)
theorem x209_1316q {d : Nat} {l0 l1 l3 : Option Value} {st : List Value} {a : Option Nat} {h : Hp} : ex (d) 209 1316 [l0, l1, some (va_rf a), l3] st h = ex d 209 1317 [l0, l1, some (va_rf a), l3] (va_rf a :: st) h := (ex_of d209_1316 (d) [l0, l1, some (va_rf a), l3] st h).trans (by cases a <;> rfl)
theorem d209_1317 : decode (mB 209) 1317 = .ok (.invokevirtual 173, 3) := by decide +kernel
theorem x209_1317 {d : Nat} {L : Lc} {s0 : Value} {a : Nat} {h : Hp} (ht : (h.2.1 a).1 = 11) : ex (d + 1) 209 1317 L (.ref a :: [s0]) h = bnd (ex d 207 0 [some (.ref a)] [] h) (fun v h' => ex (d + 1) 209 1320 L (v.toList ++ [s0]) h') := (ex_of d209_1317 (d + 1) L (.ref a :: [s0]) h).trans (fin_vi (mi := 209) i13_173 ht rfl rfl (by simp [cat1_i, cat1_r]) (by simp) (Nat.le_of_ble_eq_true rfl))
theorem d209_1320 : decode (mB 209) 1320 = .ok (.if_icmp .eq 18, 3) := by decide +kernel
theorem x209_1320 {d : Nat} {L : Lc} {st : List Value} {x y : Int32} {h : Hp} : ex (d) 209 1320 L (.int y :: .int x :: st) h = if x = y then ex d 209 1338 L st h else ex d 209 1323 L st h := (ex_of d209_1320 (d) L (.int y :: .int x :: st) h).trans (fin_brq (off := 18) (tgt := 1338) rfl (by decide))
theorem d209_1323 : decode (mB 209) 1323 = .ok (.iconst 0, 1) := by decide +kernel
theorem x209_1323 {d : Nat} {L : Lc} {st : List Value} {h : Hp} : ex (d) 209 1323 L st h = ex d 209 1324 L (.int (nI 0) :: st) h := (ex_of d209_1323 (d) L st h).trans (rfl)
theorem d209_1324 : decode (mB 209) 1324 = .ok (.ireturn, 1) := by decide +kernel
theorem x209_1324 {d : Nat} {L : Lc} {x : Int32} {h : Hp} (hx : x = 0 ∨ x = 1) : ex (d) 209 1324 L [.int x] h = some (some (.int x), h) := (ex_of d209_1324 (d) L [.int x] h).trans (fin_retb rfl hx)
theorem d209_1325 : decode (mB 209) 1325 = .ok (.aload_n 1, 1) := by decide +kernel
theorem x209_1325 {d : Nat} {l0 l2 l3 : Option Value} {st : List Value} {a : Nat} {h : Hp} : ex (d) 209 1325 [l0, some (.ref a), l2, l3] st h = ex d 209 1326 [l0, some (.ref a), l2, l3] (.ref a :: st) h := (ex_of d209_1325 (d) [l0, some (.ref a), l2, l3] st h).trans (rfl)
theorem x209_1325n {d : Nat} {l0 l2 l3 : Option Value} {st : List Value} {h : Hp} : ex (d) 209 1325 [l0, some .null, l2, l3] st h = ex d 209 1326 [l0, some .null, l2, l3] (.null :: st) h := (ex_of d209_1325 (d) [l0, some .null, l2, l3] st h).trans (rfl)
theorem x209_1325q {d : Nat} {l0 l2 l3 : Option Value} {st : List Value} {a : Option Nat} {h : Hp} : ex (d) 209 1325 [l0, some (va_rf a), l2, l3] st h = ex d 209 1326 [l0, some (va_rf a), l2, l3] (va_rf a :: st) h := (ex_of d209_1325 (d) [l0, some (va_rf a), l2, l3] st h).trans (by cases a <;> rfl)
theorem d209_1326 : decode (mB 209) 1326 = .ok (.invokevirtual 174, 3) := by decide +kernel
theorem x209_1326 {d : Nat} {L : Lc} {a : Nat} {h : Hp} (ht : (h.2.1 a).1 = 10) : ex (d + 1) 209 1326 L (.ref a :: []) h = bnd (ex d 83 0 [some (.ref a), none, none] [] h) (fun v h' => ex (d + 1) 209 1329 L (v.toList ++ []) h') := (ex_of d209_1326 (d + 1) L (.ref a :: []) h).trans (fin_vi (mi := 209) i13_174 ht rfl rfl (by simp [cat1_i, cat1_r]) (by simp) (Nat.le_of_ble_eq_true rfl))
theorem d209_1329 : decode (mB 209) 1329 = .ok (.aload_n 2, 1) := by decide +kernel
theorem x209_1329 {d : Nat} {l0 l1 l3 : Option Value} {st : List Value} {a : Nat} {h : Hp} : ex (d) 209 1329 [l0, l1, some (.ref a), l3] st h = ex d 209 1330 [l0, l1, some (.ref a), l3] (.ref a :: st) h := (ex_of d209_1329 (d) [l0, l1, some (.ref a), l3] st h).trans (rfl)
theorem x209_1329n {d : Nat} {l0 l1 l3 : Option Value} {st : List Value} {h : Hp} : ex (d) 209 1329 [l0, l1, some .null, l3] st h = ex d 209 1330 [l0, l1, some .null, l3] (.null :: st) h := (ex_of d209_1329 (d) [l0, l1, some .null, l3] st h).trans (rfl)
theorem x209_1329q {d : Nat} {l0 l1 l3 : Option Value} {st : List Value} {a : Option Nat} {h : Hp} : ex (d) 209 1329 [l0, l1, some (va_rf a), l3] st h = ex d 209 1330 [l0, l1, some (va_rf a), l3] (va_rf a :: st) h := (ex_of d209_1329 (d) [l0, l1, some (va_rf a), l3] st h).trans (by cases a <;> rfl)
theorem d209_1330 : decode (mB 209) 1330 = .ok (.invokevirtual 177, 3) := by decide +kernel
theorem x209_1330 {d : Nat} {L : Lc} {s0 : Value} {a : Nat} {h : Hp} (ht : (h.2.1 a).1 = 11) : ex (d + 1) 209 1330 L (.ref a :: [s0]) h = bnd (ex d 208 0 [some (.ref a), none, none, none] [] h) (fun v h' => ex (d + 1) 209 1333 L (v.toList ++ [s0]) h') := (ex_of d209_1330 (d + 1) L (.ref a :: [s0]) h).trans (fin_vi (mi := 209) i13_177 ht rfl rfl (by simp [cat1_i, cat1_r]) (by simp) (Nat.le_of_ble_eq_true rfl))
theorem d209_1333 : decode (mB 209) 1333 = .ok (.if_icmp .eq 5, 3) := by decide +kernel
theorem x209_1333 {d : Nat} {L : Lc} {st : List Value} {x y : Int32} {h : Hp} : ex (d) 209 1333 L (.int y :: .int x :: st) h = if x = y then ex d 209 1338 L st h else ex d 209 1336 L st h := (ex_of d209_1333 (d) L (.int y :: .int x :: st) h).trans (fin_brq (off := 5) (tgt := 1338) rfl (by decide))
theorem d209_1336 : decode (mB 209) 1336 = .ok (.iconst 0, 1) := by decide +kernel
theorem x209_1336 {d : Nat} {L : Lc} {st : List Value} {h : Hp} : ex (d) 209 1336 L st h = ex d 209 1337 L (.int (nI 0) :: st) h := (ex_of d209_1336 (d) L st h).trans (rfl)
theorem d209_1337 : decode (mB 209) 1337 = .ok (.ireturn, 1) := by decide +kernel
theorem x209_1337 {d : Nat} {L : Lc} {x : Int32} {h : Hp} (hx : x = 0 ∨ x = 1) : ex (d) 209 1337 L [.int x] h = some (some (.int x), h) := (ex_of d209_1337 (d) L [.int x] h).trans (fin_retb rfl hx)
theorem d209_1338 : decode (mB 209) 1338 = .ok (.iinc 3 5, 3) := by decide +kernel
theorem x209_1338 {d : Nat} {l0 l1 l2 : Option Value} {st : List Value} {x : Int32} {h : Hp} : ex (d) 209 1338 [l0, l1, l2, some (.int x)] st h = ex d 209 1341 [l0, l1, clr l2, some (.int (x + (nI 5)))] st h := (ex_of d209_1338 (d) [l0, l1, l2, some (.int x)] st h).trans (rfl)
theorem d209_1341 : decode (mB 209) 1341 = .ok (.goto (-1323), 3) := by decide +kernel
theorem x209_1341 {d : Nat} {L : Lc} {st : List Value} {h : Hp} : ex (d) 209 1341 L st h = ex d 209 18 L st h := (ex_of d209_1341 (d) L st h).trans (rfl)
theorem d209_1344 : decode (mB 209) 1344 = .ok (.iconst 1, 1) := by decide +kernel
theorem x209_1344 {d : Nat} {L : Lc} {st : List Value} {h : Hp} : ex (d) 209 1344 L st h = ex d 209 1345 L (.int (nI 1) :: st) h := (ex_of d209_1344 (d) L st h).trans (rfl)
theorem d209_1345 : decode (mB 209) 1345 = .ok (.ireturn, 1) := by decide +kernel
theorem x209_1345 {d : Nat} {L : Lc} {x : Int32} {h : Hp} (hx : x = 0 ∨ x = 1) : ex (d) 209 1345 L [.int x] h = some (some (.int x), h) := (ex_of d209_1345 (d) L [.int x] h).trans (fin_retb rfl hx)
