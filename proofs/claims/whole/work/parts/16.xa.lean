/-! ===== x-rows, printed by wip/whole/gen/genx.py: X0_init, X1_init, X2_init, X2_canAlter, X3_init, X4_init, X4_hasSlot, X4_lay, X4_isSet, X4_isTrunk, X4_above, X5_init, X5_revert, X7_init, X7_revert, X8_init, X8_revert, X9_init, X9_hasPlace, X9_kept, ===== -/
theorem d0_0 : decode (mB 0) 0 = .ok (.aload_n 0, 1) := by decide +kernel
theorem x0_0 {d : Nat} {st : List Value} {a : Nat} {h : Hp} : ex (d) 0 0 [some (.ref a)] st h = ex d 0 1 [some (.ref a)] (.ref a :: st) h := (ex_of d0_0 (d) [some (.ref a)] st h).trans (rfl)
theorem d0_1 : decode (mB 0) 1 = .ok (.invokespecial 3, 3) := by decide +kernel
theorem x0_1 {d : Nat} {L : Lc} {a : Nat} {h : Hp} : ex (d) 0 1 L (.ref a :: []) h = ex d 0 4 L [] h := (ex_of d0_1 (d) L (.ref a :: []) h).trans (rfl)
theorem d0_4 : decode (mB 0) 4 = .ok (.aload_n 0, 1) := by decide +kernel
theorem x0_4 {d : Nat} {st : List Value} {a : Nat} {h : Hp} : ex (d) 0 4 [some (.ref a)] st h = ex d 0 5 [some (.ref a)] (.ref a :: st) h := (ex_of d0_4 (d) [some (.ref a)] st h).trans (rfl)
theorem d0_5 : decode (mB 0) 5 = .ok (.bipush 6, 2) := by decide +kernel
theorem x0_5 {d : Nat} {L : Lc} {st : List Value} {h : Hp} : ex (d) 0 5 L st h = ex d 0 7 L (.int (nI 6) :: st) h := (ex_of d0_5 (d) L st h).trans (rfl)
theorem d0_7 : decode (mB 0) 7 = .ok (.newarray .int, 2) := by decide +kernel
theorem x0_7 {d : Nat} {L : Lc} {st : List Value} {n : Nat} {h : Hp} (hn : n ≤ 10000) : ex (d) 0 7 L (.int (nI n) :: st) h = ex d 0 9 L (.ref h.2.2.1 :: st) (mnw h.1 h.2.2.1 (fun _ => .int 0), mnw h.2.1 h.2.2.1 (20, n), h.2.2.1 + 1, h.2.2.2 + n) := (ex_of d0_7 (d) L (.int (nI n) :: st) h).trans (fin_nwa hn)
theorem d0_9 : decode (mB 0) 9 = .ok (.dup, 1) := by decide +kernel
theorem x0_9 {d : Nat} {L : Lc} {st : List Value} {a : Nat} {h : Hp} : ex (d) 0 9 L (.ref a :: st) h = ex d 0 10 L (.ref a :: .ref a :: st) h := (ex_of d0_9 (d) L (.ref a :: st) h).trans (rfl)
theorem x0_9i {d : Nat} {L : Lc} {st : List Value} {x : Int32} {h : Hp} : ex (d) 0 9 L (.int x :: st) h = ex d 0 10 L (.int x :: .int x :: st) h := (ex_of d0_9 (d) L (.int x :: st) h).trans (rfl)
theorem d0_10 : decode (mB 0) 10 = .ok (.iconst 0, 1) := by decide +kernel
theorem x0_10 {d : Nat} {L : Lc} {st : List Value} {h : Hp} : ex (d) 0 10 L st h = ex d 0 11 L (.int (nI 0) :: st) h := (ex_of d0_10 (d) L st h).trans (rfl)
theorem d0_11 : decode (mB 0) 11 = .ok (.iconst (-1), 1) := by decide +kernel
theorem x0_11 {d : Nat} {L : Lc} {st : List Value} {h : Hp} : ex (d) 0 11 L st h = ex d 0 12 L (.int (-1) :: st) h := (ex_of d0_11 (d) L st h).trans (rfl)
theorem d0_12 : decode (mB 0) 12 = .ok (.iastore, 1) := by decide +kernel
theorem x0_12 {d : Nat} {L : Lc} {st : List Value} {a j : Nat} {x : Int32} {h : Hp} (ht : (h.2.1 a).1 = 20) (hj : j < (h.2.1 a).2) (hb : j < 2147483648) : ex (d) 0 12 L (.int x :: .int (nI j) :: .ref a :: st) h = ex d 0 13 L st (mup h.1 a j (.int x), h.2) := (ex_of d0_12 (d) L (.int x :: .int (nI j) :: .ref a :: st) h).trans (fin_iastore ht hj hb)
theorem d0_13 : decode (mB 0) 13 = .ok (.dup, 1) := by decide +kernel
theorem x0_13 {d : Nat} {L : Lc} {st : List Value} {a : Nat} {h : Hp} : ex (d) 0 13 L (.ref a :: st) h = ex d 0 14 L (.ref a :: .ref a :: st) h := (ex_of d0_13 (d) L (.ref a :: st) h).trans (rfl)
theorem x0_13i {d : Nat} {L : Lc} {st : List Value} {x : Int32} {h : Hp} : ex (d) 0 13 L (.int x :: st) h = ex d 0 14 L (.int x :: .int x :: st) h := (ex_of d0_13 (d) L (.int x :: st) h).trans (rfl)
theorem d0_14 : decode (mB 0) 14 = .ok (.iconst 1, 1) := by decide +kernel
theorem x0_14 {d : Nat} {L : Lc} {st : List Value} {h : Hp} : ex (d) 0 14 L st h = ex d 0 15 L (.int (nI 1) :: st) h := (ex_of d0_14 (d) L st h).trans (rfl)
theorem d0_15 : decode (mB 0) 15 = .ok (.iconst (-1), 1) := by decide +kernel
theorem x0_15 {d : Nat} {L : Lc} {st : List Value} {h : Hp} : ex (d) 0 15 L st h = ex d 0 16 L (.int (-1) :: st) h := (ex_of d0_15 (d) L st h).trans (rfl)
theorem d0_16 : decode (mB 0) 16 = .ok (.iastore, 1) := by decide +kernel
theorem x0_16 {d : Nat} {L : Lc} {st : List Value} {a j : Nat} {x : Int32} {h : Hp} (ht : (h.2.1 a).1 = 20) (hj : j < (h.2.1 a).2) (hb : j < 2147483648) : ex (d) 0 16 L (.int x :: .int (nI j) :: .ref a :: st) h = ex d 0 17 L st (mup h.1 a j (.int x), h.2) := (ex_of d0_16 (d) L (.int x :: .int (nI j) :: .ref a :: st) h).trans (fin_iastore ht hj hb)
theorem d0_17 : decode (mB 0) 17 = .ok (.dup, 1) := by decide +kernel
theorem x0_17 {d : Nat} {L : Lc} {st : List Value} {a : Nat} {h : Hp} : ex (d) 0 17 L (.ref a :: st) h = ex d 0 18 L (.ref a :: .ref a :: st) h := (ex_of d0_17 (d) L (.ref a :: st) h).trans (rfl)
theorem x0_17i {d : Nat} {L : Lc} {st : List Value} {x : Int32} {h : Hp} : ex (d) 0 17 L (.int x :: st) h = ex d 0 18 L (.int x :: .int x :: st) h := (ex_of d0_17 (d) L (.int x :: st) h).trans (rfl)
theorem d0_18 : decode (mB 0) 18 = .ok (.iconst 2, 1) := by decide +kernel
theorem x0_18 {d : Nat} {L : Lc} {st : List Value} {h : Hp} : ex (d) 0 18 L st h = ex d 0 19 L (.int (nI 2) :: st) h := (ex_of d0_18 (d) L st h).trans (rfl)
theorem d0_19 : decode (mB 0) 19 = .ok (.iconst (-1), 1) := by decide +kernel
theorem x0_19 {d : Nat} {L : Lc} {st : List Value} {h : Hp} : ex (d) 0 19 L st h = ex d 0 20 L (.int (-1) :: st) h := (ex_of d0_19 (d) L st h).trans (rfl)
theorem d0_20 : decode (mB 0) 20 = .ok (.iastore, 1) := by decide +kernel
theorem x0_20 {d : Nat} {L : Lc} {st : List Value} {a j : Nat} {x : Int32} {h : Hp} (ht : (h.2.1 a).1 = 20) (hj : j < (h.2.1 a).2) (hb : j < 2147483648) : ex (d) 0 20 L (.int x :: .int (nI j) :: .ref a :: st) h = ex d 0 21 L st (mup h.1 a j (.int x), h.2) := (ex_of d0_20 (d) L (.int x :: .int (nI j) :: .ref a :: st) h).trans (fin_iastore ht hj hb)
theorem d0_21 : decode (mB 0) 21 = .ok (.dup, 1) := by decide +kernel
theorem x0_21 {d : Nat} {L : Lc} {st : List Value} {a : Nat} {h : Hp} : ex (d) 0 21 L (.ref a :: st) h = ex d 0 22 L (.ref a :: .ref a :: st) h := (ex_of d0_21 (d) L (.ref a :: st) h).trans (rfl)
theorem x0_21i {d : Nat} {L : Lc} {st : List Value} {x : Int32} {h : Hp} : ex (d) 0 21 L (.int x :: st) h = ex d 0 22 L (.int x :: .int x :: st) h := (ex_of d0_21 (d) L (.int x :: st) h).trans (rfl)
theorem d0_22 : decode (mB 0) 22 = .ok (.iconst 3, 1) := by decide +kernel
theorem x0_22 {d : Nat} {L : Lc} {st : List Value} {h : Hp} : ex (d) 0 22 L st h = ex d 0 23 L (.int (nI 3) :: st) h := (ex_of d0_22 (d) L st h).trans (rfl)
theorem d0_23 : decode (mB 0) 23 = .ok (.iconst (-1), 1) := by decide +kernel
theorem x0_23 {d : Nat} {L : Lc} {st : List Value} {h : Hp} : ex (d) 0 23 L st h = ex d 0 24 L (.int (-1) :: st) h := (ex_of d0_23 (d) L st h).trans (rfl)
theorem d0_24 : decode (mB 0) 24 = .ok (.iastore, 1) := by decide +kernel
theorem x0_24 {d : Nat} {L : Lc} {st : List Value} {a j : Nat} {x : Int32} {h : Hp} (ht : (h.2.1 a).1 = 20) (hj : j < (h.2.1 a).2) (hb : j < 2147483648) : ex (d) 0 24 L (.int x :: .int (nI j) :: .ref a :: st) h = ex d 0 25 L st (mup h.1 a j (.int x), h.2) := (ex_of d0_24 (d) L (.int x :: .int (nI j) :: .ref a :: st) h).trans (fin_iastore ht hj hb)
theorem d0_25 : decode (mB 0) 25 = .ok (.dup, 1) := by decide +kernel
theorem x0_25 {d : Nat} {L : Lc} {st : List Value} {a : Nat} {h : Hp} : ex (d) 0 25 L (.ref a :: st) h = ex d 0 26 L (.ref a :: .ref a :: st) h := (ex_of d0_25 (d) L (.ref a :: st) h).trans (rfl)
theorem x0_25i {d : Nat} {L : Lc} {st : List Value} {x : Int32} {h : Hp} : ex (d) 0 25 L (.int x :: st) h = ex d 0 26 L (.int x :: .int x :: st) h := (ex_of d0_25 (d) L (.int x :: st) h).trans (rfl)
theorem d0_26 : decode (mB 0) 26 = .ok (.iconst 4, 1) := by decide +kernel
theorem x0_26 {d : Nat} {L : Lc} {st : List Value} {h : Hp} : ex (d) 0 26 L st h = ex d 0 27 L (.int (nI 4) :: st) h := (ex_of d0_26 (d) L st h).trans (rfl)
theorem d0_27 : decode (mB 0) 27 = .ok (.iconst (-1), 1) := by decide +kernel
theorem x0_27 {d : Nat} {L : Lc} {st : List Value} {h : Hp} : ex (d) 0 27 L st h = ex d 0 28 L (.int (-1) :: st) h := (ex_of d0_27 (d) L st h).trans (rfl)
theorem d0_28 : decode (mB 0) 28 = .ok (.iastore, 1) := by decide +kernel
theorem x0_28 {d : Nat} {L : Lc} {st : List Value} {a j : Nat} {x : Int32} {h : Hp} (ht : (h.2.1 a).1 = 20) (hj : j < (h.2.1 a).2) (hb : j < 2147483648) : ex (d) 0 28 L (.int x :: .int (nI j) :: .ref a :: st) h = ex d 0 29 L st (mup h.1 a j (.int x), h.2) := (ex_of d0_28 (d) L (.int x :: .int (nI j) :: .ref a :: st) h).trans (fin_iastore ht hj hb)
theorem d0_29 : decode (mB 0) 29 = .ok (.dup, 1) := by decide +kernel
theorem x0_29 {d : Nat} {L : Lc} {st : List Value} {a : Nat} {h : Hp} : ex (d) 0 29 L (.ref a :: st) h = ex d 0 30 L (.ref a :: .ref a :: st) h := (ex_of d0_29 (d) L (.ref a :: st) h).trans (rfl)
theorem x0_29i {d : Nat} {L : Lc} {st : List Value} {x : Int32} {h : Hp} : ex (d) 0 29 L (.int x :: st) h = ex d 0 30 L (.int x :: .int x :: st) h := (ex_of d0_29 (d) L (.int x :: st) h).trans (rfl)
theorem d0_30 : decode (mB 0) 30 = .ok (.iconst 5, 1) := by decide +kernel
theorem x0_30 {d : Nat} {L : Lc} {st : List Value} {h : Hp} : ex (d) 0 30 L st h = ex d 0 31 L (.int (nI 5) :: st) h := (ex_of d0_30 (d) L st h).trans (rfl)
theorem d0_31 : decode (mB 0) 31 = .ok (.iconst (-1), 1) := by decide +kernel
theorem x0_31 {d : Nat} {L : Lc} {st : List Value} {h : Hp} : ex (d) 0 31 L st h = ex d 0 32 L (.int (-1) :: st) h := (ex_of d0_31 (d) L st h).trans (rfl)
theorem d0_32 : decode (mB 0) 32 = .ok (.iastore, 1) := by decide +kernel
theorem x0_32 {d : Nat} {L : Lc} {st : List Value} {a j : Nat} {x : Int32} {h : Hp} (ht : (h.2.1 a).1 = 20) (hj : j < (h.2.1 a).2) (hb : j < 2147483648) : ex (d) 0 32 L (.int x :: .int (nI j) :: .ref a :: st) h = ex d 0 33 L st (mup h.1 a j (.int x), h.2) := (ex_of d0_32 (d) L (.int x :: .int (nI j) :: .ref a :: st) h).trans (fin_iastore ht hj hb)
theorem d0_33 : decode (mB 0) 33 = .ok (.putfield 9, 3) := by decide +kernel
theorem x0_33 {d : Nat} {L : Lc} {st : List Value} {a b : Nat} {h : Hp} (ht : (h.2.1 a).1 = 0) : ex (d) 0 33 L (.ref b :: .ref a :: st) h = ex d 0 36 L st (mup h.1 a 0 (.ref b), h.2) := (ex_of d0_33 (d) L (.ref b :: .ref a :: st) h).trans (fin_put (mi := 0) f0_9 ht rfl rfl (by decide +kernel))
theorem x0_33n {d : Nat} {L : Lc} {st : List Value} {a : Nat} {h : Hp} (ht : (h.2.1 a).1 = 0) : ex (d) 0 33 L (.null :: .ref a :: st) h = ex d 0 36 L st (mup h.1 a 0 .null, h.2) := (ex_of d0_33 (d) L (.null :: .ref a :: st) h).trans (fin_put (mi := 0) f0_9 ht rfl rfl (by decide +kernel))
theorem x0_33q {d : Nat} {L : Lc} {st : List Value} {a : Nat} {b : Option Nat} {h : Hp} (ht : (h.2.1 a).1 = 0) : ex (d) 0 33 L (va_rf b :: .ref a :: st) h = ex d 0 36 L st (mup h.1 a 0 (va_rf b), h.2) := (ex_of d0_33 (d) L (va_rf b :: .ref a :: st) h).trans (by cases b <;> exact fin_put (mi := 0) f0_9 ht rfl rfl (by decide +kernel))
theorem d0_36 : decode (mB 0) 36 = .ok (.return_, 1) := by decide +kernel
theorem x0_36 {d : Nat} {L : Lc}  {h : Hp} : ex (d) 0 36 L [] h = some (none, h) := (ex_of d0_36 (d) L [] h).trans (rfl)
theorem d1_0 : decode (mB 1) 0 = .ok (.aload_n 0, 1) := by decide +kernel
theorem x1_0 {d : Nat} {st : List Value} {a : Nat} {h : Hp} : ex (d) 1 0 [some (.ref a)] st h = ex d 1 1 [some (.ref a)] (.ref a :: st) h := (ex_of d1_0 (d) [some (.ref a)] st h).trans (rfl)
theorem d1_1 : decode (mB 1) 1 = .ok (.invokespecial 1, 3) := by decide +kernel
theorem x1_1 {d : Nat} {L : Lc} {a : Nat} {h : Hp} : ex (d) 1 1 L (.ref a :: []) h = ex d 1 4 L [] h := (ex_of d1_1 (d) L (.ref a :: []) h).trans (rfl)
theorem d1_4 : decode (mB 1) 4 = .ok (.return_, 1) := by decide +kernel
theorem x1_4 {d : Nat} {L : Lc}  {h : Hp} : ex (d) 1 4 L [] h = some (none, h) := (ex_of d1_4 (d) L [] h).trans (rfl)
theorem d2_0 : decode (mB 2) 0 = .ok (.aload_n 0, 1) := by decide +kernel
theorem x2_0 {d : Nat} {l1 l2 : Option Value} {st : List Value} {a : Nat} {h : Hp} : ex (d) 2 0 [some (.ref a), l1, l2] st h = ex d 2 1 [some (.ref a), l1, l2] (.ref a :: st) h := (ex_of d2_0 (d) [some (.ref a), l1, l2] st h).trans (rfl)
theorem d2_1 : decode (mB 2) 1 = .ok (.iload_n 1, 1) := by decide +kernel
theorem x2_1 {d : Nat} {l0 l2 : Option Value} {st : List Value} {x : Int32} {h : Hp} : ex (d) 2 1 [l0, some (.int x), l2] st h = ex d 2 2 [l0, some (.int x), l2] (.int x :: st) h := (ex_of d2_1 (d) [l0, some (.int x), l2] st h).trans (rfl)
theorem d2_2 : decode (mB 2) 2 = .ok (.iload_n 2, 1) := by decide +kernel
theorem x2_2 {d : Nat} {l0 l1 : Option Value} {st : List Value} {x : Int32} {h : Hp} : ex (d) 2 2 [l0, l1, some (.int x)] st h = ex d 2 3 [l0, l1, some (.int x)] (.int x :: st) h := (ex_of d2_2 (d) [l0, l1, some (.int x)] st h).trans (rfl)
theorem d2_3 : decode (mB 2) 3 = .ok (.invokespecial 3, 3) := by decide +kernel
theorem x2_3 {d : Nat} {L : Lc} {a : Nat} {v0 : Int32} {v1 : Int32} {h : Hp} : ex (d + 1) 2 3 L (.int v1 :: .int v0 :: .ref a :: []) h = bnd (ex d 38 0 [some (.ref a), some (.int v0), some (.int v1)] [] h) (fun v h' => ex (d + 1) 2 6 L (v.toList ++ []) h') := (ex_of d2_3 (d + 1) L (.int v1 :: .int v0 :: .ref a :: []) h).trans (fin_sp (mi := 2) i1_3 (Or.inl rfl) rfl (by simp [cat1_i, cat1_r]) (by simp) (Nat.le_of_ble_eq_true rfl))
theorem d2_6 : decode (mB 2) 6 = .ok (.aload_n 0, 1) := by decide +kernel
theorem x2_6 {d : Nat} {l1 l2 : Option Value} {st : List Value} {a : Nat} {h : Hp} : ex (d) 2 6 [some (.ref a), l1, l2] st h = ex d 2 7 [some (.ref a), l1, l2] (.ref a :: st) h := (ex_of d2_6 (d) [some (.ref a), l1, l2] st h).trans (rfl)
theorem d2_7 : decode (mB 2) 7 = .ok (.bipush 6, 2) := by decide +kernel
theorem x2_7 {d : Nat} {L : Lc} {st : List Value} {h : Hp} : ex (d) 2 7 L st h = ex d 2 9 L (.int (nI 6) :: st) h := (ex_of d2_7 (d) L st h).trans (rfl)
theorem d2_9 : decode (mB 2) 9 = .ok (.newarray .int, 2) := by decide +kernel
theorem x2_9 {d : Nat} {L : Lc} {st : List Value} {n : Nat} {h : Hp} (hn : n ≤ 10000) : ex (d) 2 9 L (.int (nI n) :: st) h = ex d 2 11 L (.ref h.2.2.1 :: st) (mnw h.1 h.2.2.1 (fun _ => .int 0), mnw h.2.1 h.2.2.1 (20, n), h.2.2.1 + 1, h.2.2.2 + n) := (ex_of d2_9 (d) L (.int (nI n) :: st) h).trans (fin_nwa hn)
theorem d2_11 : decode (mB 2) 11 = .ok (.putfield 9, 3) := by decide +kernel
theorem x2_11 {d : Nat} {L : Lc} {st : List Value} {a b : Nat} {h : Hp} (ht : (h.2.1 a).1 = 1) : ex (d) 2 11 L (.ref b :: .ref a :: st) h = ex d 2 14 L st (mup h.1 a 6 (.ref b), h.2) := (ex_of d2_11 (d) L (.ref b :: .ref a :: st) h).trans (fin_put (mi := 2) f1_9 ht rfl rfl (by decide +kernel))
theorem x2_11n {d : Nat} {L : Lc} {st : List Value} {a : Nat} {h : Hp} (ht : (h.2.1 a).1 = 1) : ex (d) 2 11 L (.null :: .ref a :: st) h = ex d 2 14 L st (mup h.1 a 6 .null, h.2) := (ex_of d2_11 (d) L (.null :: .ref a :: st) h).trans (fin_put (mi := 2) f1_9 ht rfl rfl (by decide +kernel))
theorem x2_11q {d : Nat} {L : Lc} {st : List Value} {a : Nat} {b : Option Nat} {h : Hp} (ht : (h.2.1 a).1 = 1) : ex (d) 2 11 L (va_rf b :: .ref a :: st) h = ex d 2 14 L st (mup h.1 a 6 (va_rf b), h.2) := (ex_of d2_11 (d) L (va_rf b :: .ref a :: st) h).trans (by cases b <;> exact fin_put (mi := 2) f1_9 ht rfl rfl (by decide +kernel))
theorem d2_14 : decode (mB 2) 14 = .ok (.aload_n 0, 1) := by decide +kernel
theorem x2_14 {d : Nat} {l1 l2 : Option Value} {st : List Value} {a : Nat} {h : Hp} : ex (d) 2 14 [some (.ref a), l1, l2] st h = ex d 2 15 [some (.ref a), l1, l2] (.ref a :: st) h := (ex_of d2_14 (d) [some (.ref a), l1, l2] st h).trans (rfl)
theorem d2_15 : decode (mB 2) 15 = .ok (.bipush 6, 2) := by decide +kernel
theorem x2_15 {d : Nat} {L : Lc} {st : List Value} {h : Hp} : ex (d) 2 15 L st h = ex d 2 17 L (.int (nI 6) :: st) h := (ex_of d2_15 (d) L st h).trans (rfl)
theorem d2_17 : decode (mB 2) 17 = .ok (.newarray .int, 2) := by decide +kernel
theorem x2_17 {d : Nat} {L : Lc} {st : List Value} {n : Nat} {h : Hp} (hn : n ≤ 10000) : ex (d) 2 17 L (.int (nI n) :: st) h = ex d 2 19 L (.ref h.2.2.1 :: st) (mnw h.1 h.2.2.1 (fun _ => .int 0), mnw h.2.1 h.2.2.1 (20, n), h.2.2.1 + 1, h.2.2.2 + n) := (ex_of d2_17 (d) L (.int (nI n) :: st) h).trans (fin_nwa hn)
theorem d2_19 : decode (mB 2) 19 = .ok (.putfield 15, 3) := by decide +kernel
theorem x2_19 {d : Nat} {L : Lc} {st : List Value} {a b : Nat} {h : Hp} (ht : (h.2.1 a).1 = 1) : ex (d) 2 19 L (.ref b :: .ref a :: st) h = ex d 2 22 L st (mup h.1 a 7 (.ref b), h.2) := (ex_of d2_19 (d) L (.ref b :: .ref a :: st) h).trans (fin_put (mi := 2) f1_15 ht rfl rfl (by decide +kernel))
theorem x2_19n {d : Nat} {L : Lc} {st : List Value} {a : Nat} {h : Hp} (ht : (h.2.1 a).1 = 1) : ex (d) 2 19 L (.null :: .ref a :: st) h = ex d 2 22 L st (mup h.1 a 7 .null, h.2) := (ex_of d2_19 (d) L (.null :: .ref a :: st) h).trans (fin_put (mi := 2) f1_15 ht rfl rfl (by decide +kernel))
theorem x2_19q {d : Nat} {L : Lc} {st : List Value} {a : Nat} {b : Option Nat} {h : Hp} (ht : (h.2.1 a).1 = 1) : ex (d) 2 19 L (va_rf b :: .ref a :: st) h = ex d 2 22 L st (mup h.1 a 7 (va_rf b), h.2) := (ex_of d2_19 (d) L (va_rf b :: .ref a :: st) h).trans (by cases b <;> exact fin_put (mi := 2) f1_15 ht rfl rfl (by decide +kernel))
theorem d2_22 : decode (mB 2) 22 = .ok (.aload_n 0, 1) := by decide +kernel
theorem x2_22 {d : Nat} {l1 l2 : Option Value} {st : List Value} {a : Nat} {h : Hp} : ex (d) 2 22 [some (.ref a), l1, l2] st h = ex d 2 23 [some (.ref a), l1, l2] (.ref a :: st) h := (ex_of d2_22 (d) [some (.ref a), l1, l2] st h).trans (rfl)
theorem d2_23 : decode (mB 2) 23 = .ok (.bipush 6, 2) := by decide +kernel
theorem x2_23 {d : Nat} {L : Lc} {st : List Value} {h : Hp} : ex (d) 2 23 L st h = ex d 2 25 L (.int (nI 6) :: st) h := (ex_of d2_23 (d) L st h).trans (rfl)
theorem d2_25 : decode (mB 2) 25 = .ok (.newarray .int, 2) := by decide +kernel
theorem x2_25 {d : Nat} {L : Lc} {st : List Value} {n : Nat} {h : Hp} (hn : n ≤ 10000) : ex (d) 2 25 L (.int (nI n) :: st) h = ex d 2 27 L (.ref h.2.2.1 :: st) (mnw h.1 h.2.2.1 (fun _ => .int 0), mnw h.2.1 h.2.2.1 (20, n), h.2.2.1 + 1, h.2.2.2 + n) := (ex_of d2_25 (d) L (.int (nI n) :: st) h).trans (fin_nwa hn)
theorem d2_27 : decode (mB 2) 27 = .ok (.putfield 18, 3) := by decide +kernel
theorem x2_27 {d : Nat} {L : Lc} {st : List Value} {a b : Nat} {h : Hp} (ht : (h.2.1 a).1 = 1) : ex (d) 2 27 L (.ref b :: .ref a :: st) h = ex d 2 30 L st (mup h.1 a 8 (.ref b), h.2) := (ex_of d2_27 (d) L (.ref b :: .ref a :: st) h).trans (fin_put (mi := 2) f1_18 ht rfl rfl (by decide +kernel))
theorem x2_27n {d : Nat} {L : Lc} {st : List Value} {a : Nat} {h : Hp} (ht : (h.2.1 a).1 = 1) : ex (d) 2 27 L (.null :: .ref a :: st) h = ex d 2 30 L st (mup h.1 a 8 .null, h.2) := (ex_of d2_27 (d) L (.null :: .ref a :: st) h).trans (fin_put (mi := 2) f1_18 ht rfl rfl (by decide +kernel))
theorem x2_27q {d : Nat} {L : Lc} {st : List Value} {a : Nat} {b : Option Nat} {h : Hp} (ht : (h.2.1 a).1 = 1) : ex (d) 2 27 L (va_rf b :: .ref a :: st) h = ex d 2 30 L st (mup h.1 a 8 (va_rf b), h.2) := (ex_of d2_27 (d) L (va_rf b :: .ref a :: st) h).trans (by cases b <;> exact fin_put (mi := 2) f1_18 ht rfl rfl (by decide +kernel))
theorem d2_30 : decode (mB 2) 30 = .ok (.return_, 1) := by decide +kernel
theorem x2_30 {d : Nat} {L : Lc}  {h : Hp} : ex (d) 2 30 L [] h = some (none, h) := (ex_of d2_30 (d) L [] h).trans (rfl)
theorem d3_0 : decode (mB 3) 0 = .ok (.aload_n 0, 1) := by decide +kernel
theorem x3_0 {d : Nat} {l1 l2 : Option Value} {st : List Value} {a : Nat} {h : Hp} : ex (d) 3 0 [some (.ref a), l1, l2] st h = ex d 3 1 [some (.ref a), l1, l2] (.ref a :: st) h := (ex_of d3_0 (d) [some (.ref a), l1, l2] st h).trans (rfl)
theorem d3_1 : decode (mB 3) 1 = .ok (.getfield 9, 3) := by decide +kernel
theorem x3_1 {d : Nat} {L : Lc} {st : List Value} {a : Nat} {h : Hp} (ht : (h.2.1 a).1 = 1) : ex (d) 3 1 L (.ref a :: st) h = ex d 3 4 L (h.1 a 6 :: st) h := (ex_of d3_1 (d) L (.ref a :: st) h).trans (fin_get (mi := 3) f1_9 (tg1 ht rfl))
theorem d3_4 : decode (mB 3) 4 = .ok (.iload_n 1, 1) := by decide +kernel
theorem x3_4 {d : Nat} {l0 l2 : Option Value} {st : List Value} {x : Int32} {h : Hp} : ex (d) 3 4 [l0, some (.int x), l2] st h = ex d 3 5 [l0, some (.int x), l2] (.int x :: st) h := (ex_of d3_4 (d) [l0, some (.int x), l2] st h).trans (rfl)
theorem d3_5 : decode (mB 3) 5 = .ok (.iaload, 1) := by decide +kernel
theorem x3_5 {d : Nat} {L : Lc} {st : List Value} {a j : Nat} {h : Hp} (ht : (h.2.1 a).1 = 20) (hj : j < (h.2.1 a).2) (hb : j < 2147483648) : ex (d) 3 5 L (.int (nI j) :: .ref a :: st) h = ex d 3 6 L (h.1 a j :: st) h := (ex_of d3_5 (d) L (.int (nI j) :: .ref a :: st) h).trans (fin_iaload (Or.inl ht) hj hb)
theorem d3_6 : decode (mB 3) 6 = .ok (.iload_n 2, 1) := by decide +kernel
theorem x3_6 {d : Nat} {l0 l1 : Option Value} {st : List Value} {x : Int32} {h : Hp} : ex (d) 3 6 [l0, l1, some (.int x)] st h = ex d 3 7 [l0, l1, some (.int x)] (.int x :: st) h := (ex_of d3_6 (d) [l0, l1, some (.int x)] st h).trans (rfl)
theorem d3_7 : decode (mB 3) 7 = .ok (.iadd, 1) := by decide +kernel
theorem x3_7 {d : Nat} {L : Lc} {st : List Value} {x y : Int32} {h : Hp} : ex (d) 3 7 L (.int y :: .int x :: st) h = ex d 3 8 L (.int (x + y) :: st) h := (ex_of d3_7 (d) L (.int y :: .int x :: st) h).trans (rfl)
theorem d3_8 : decode (mB 3) 8 = .ok (.iconst 1, 1) := by decide +kernel
theorem x3_8 {d : Nat} {L : Lc} {st : List Value} {h : Hp} : ex (d) 3 8 L st h = ex d 3 9 L (.int (nI 1) :: st) h := (ex_of d3_8 (d) L st h).trans (rfl)
theorem d3_9 : decode (mB 3) 9 = .ok (.sipush 255, 3) := by decide +kernel
theorem x3_9 {d : Nat} {L : Lc} {st : List Value} {h : Hp} : ex (d) 3 9 L st h = ex d 3 12 L (.int (nI 255) :: st) h := (ex_of d3_9 (d) L st h).trans (rfl)
theorem d3_12 : decode (mB 3) 12 = .ok (.invokestatic 21, 3) := by decide +kernel
theorem x3_12 {d : Nat} {L : Lc}  {v0 : Int32} {v1 : Int32} {v2 : Int32} {h : Hp} : ex (d + 1) 3 12 L (.int v2 :: .int v1 :: .int v0 :: []) h = bnd (ex d 92 0 [some (.int v0), some (.int v1), some (.int v2)] [] h) (fun v h' => ex (d + 1) 3 15 L (v.toList ++ []) h') := (ex_of d3_12 (d + 1) L (.int v2 :: .int v1 :: .int v0 :: []) h).trans (fin_st (mi := 3) i1_21 (Or.inr rfl) (by simp) (by simp [cat1_i, cat1_r]) (by simp) (Nat.le_of_ble_eq_true rfl))
theorem d3_15 : decode (mB 3) 15 = .ok (.ifCond .eq 43, 3) := by decide +kernel
theorem x3_15 {d : Nat} {L : Lc} {st : List Value} {x : Int32} {h : Hp} : ex (d) 3 15 L (.int x :: st) h = if x = 0 then ex d 3 58 L st h else ex d 3 18 L st h := (ex_of d3_15 (d) L (.int x :: st) h).trans (fin_brq (off := 43) (tgt := 58) rfl (by decide))
theorem d3_18 : decode (mB 3) 18 = .ok (.aload_n 0, 1) := by decide +kernel
theorem x3_18 {d : Nat} {l1 l2 : Option Value} {st : List Value} {a : Nat} {h : Hp} : ex (d) 3 18 [some (.ref a), l1, l2] st h = ex d 3 19 [some (.ref a), l1, l2] (.ref a :: st) h := (ex_of d3_18 (d) [some (.ref a), l1, l2] st h).trans (rfl)
theorem d3_19 : decode (mB 3) 19 = .ok (.getfield 15, 3) := by decide +kernel
theorem x3_19 {d : Nat} {L : Lc} {st : List Value} {a : Nat} {h : Hp} (ht : (h.2.1 a).1 = 1) : ex (d) 3 19 L (.ref a :: st) h = ex d 3 22 L (h.1 a 7 :: st) h := (ex_of d3_19 (d) L (.ref a :: st) h).trans (fin_get (mi := 3) f1_15 (tg1 ht rfl))
theorem d3_22 : decode (mB 3) 22 = .ok (.iload_n 1, 1) := by decide +kernel
theorem x3_22 {d : Nat} {l0 l2 : Option Value} {st : List Value} {x : Int32} {h : Hp} : ex (d) 3 22 [l0, some (.int x), l2] st h = ex d 3 23 [l0, some (.int x), l2] (.int x :: st) h := (ex_of d3_22 (d) [l0, some (.int x), l2] st h).trans (rfl)
theorem d3_23 : decode (mB 3) 23 = .ok (.iaload, 1) := by decide +kernel
theorem x3_23 {d : Nat} {L : Lc} {st : List Value} {a j : Nat} {h : Hp} (ht : (h.2.1 a).1 = 20) (hj : j < (h.2.1 a).2) (hb : j < 2147483648) : ex (d) 3 23 L (.int (nI j) :: .ref a :: st) h = ex d 3 24 L (h.1 a j :: st) h := (ex_of d3_23 (d) L (.int (nI j) :: .ref a :: st) h).trans (fin_iaload (Or.inl ht) hj hb)
theorem d3_24 : decode (mB 3) 24 = .ok (.iload_n 2, 1) := by decide +kernel
theorem x3_24 {d : Nat} {l0 l1 : Option Value} {st : List Value} {x : Int32} {h : Hp} : ex (d) 3 24 [l0, l1, some (.int x)] st h = ex d 3 25 [l0, l1, some (.int x)] (.int x :: st) h := (ex_of d3_24 (d) [l0, l1, some (.int x)] st h).trans (rfl)
theorem d3_25 : decode (mB 3) 25 = .ok (.iadd, 1) := by decide +kernel
theorem x3_25 {d : Nat} {L : Lc} {st : List Value} {x y : Int32} {h : Hp} : ex (d) 3 25 L (.int y :: .int x :: st) h = ex d 3 26 L (.int (x + y) :: st) h := (ex_of d3_25 (d) L (.int y :: .int x :: st) h).trans (rfl)
theorem d3_26 : decode (mB 3) 26 = .ok (.iconst 0, 1) := by decide +kernel
theorem x3_26 {d : Nat} {L : Lc} {st : List Value} {h : Hp} : ex (d) 3 26 L st h = ex d 3 27 L (.int (nI 0) :: st) h := (ex_of d3_26 (d) L st h).trans (rfl)
theorem d3_27 : decode (mB 3) 27 = .ok (.sipush 255, 3) := by decide +kernel
theorem x3_27 {d : Nat} {L : Lc} {st : List Value} {h : Hp} : ex (d) 3 27 L st h = ex d 3 30 L (.int (nI 255) :: st) h := (ex_of d3_27 (d) L st h).trans (rfl)
theorem d3_30 : decode (mB 3) 30 = .ok (.invokestatic 21, 3) := by decide +kernel
theorem x3_30 {d : Nat} {L : Lc}  {v0 : Int32} {v1 : Int32} {v2 : Int32} {h : Hp} : ex (d + 1) 3 30 L (.int v2 :: .int v1 :: .int v0 :: []) h = bnd (ex d 92 0 [some (.int v0), some (.int v1), some (.int v2)] [] h) (fun v h' => ex (d + 1) 3 33 L (v.toList ++ []) h') := (ex_of d3_30 (d + 1) L (.int v2 :: .int v1 :: .int v0 :: []) h).trans (fin_st (mi := 3) i1_21 (Or.inr rfl) (by simp) (by simp [cat1_i, cat1_r]) (by simp) (Nat.le_of_ble_eq_true rfl))
theorem d3_33 : decode (mB 3) 33 = .ok (.ifCond .eq 25, 3) := by decide +kernel
theorem x3_33 {d : Nat} {L : Lc} {st : List Value} {x : Int32} {h : Hp} : ex (d) 3 33 L (.int x :: st) h = if x = 0 then ex d 3 58 L st h else ex d 3 36 L st h := (ex_of d3_33 (d) L (.int x :: st) h).trans (fin_brq (off := 25) (tgt := 58) rfl (by decide))
theorem d3_36 : decode (mB 3) 36 = .ok (.aload_n 0, 1) := by decide +kernel
theorem x3_36 {d : Nat} {l1 l2 : Option Value} {st : List Value} {a : Nat} {h : Hp} : ex (d) 3 36 [some (.ref a), l1, l2] st h = ex d 3 37 [some (.ref a), l1, l2] (.ref a :: st) h := (ex_of d3_36 (d) [some (.ref a), l1, l2] st h).trans (rfl)
theorem d3_37 : decode (mB 3) 37 = .ok (.getfield 18, 3) := by decide +kernel
theorem x3_37 {d : Nat} {L : Lc} {st : List Value} {a : Nat} {h : Hp} (ht : (h.2.1 a).1 = 1) : ex (d) 3 37 L (.ref a :: st) h = ex d 3 40 L (h.1 a 8 :: st) h := (ex_of d3_37 (d) L (.ref a :: st) h).trans (fin_get (mi := 3) f1_18 (tg1 ht rfl))
theorem d3_40 : decode (mB 3) 40 = .ok (.iload_n 1, 1) := by decide +kernel
theorem x3_40 {d : Nat} {l0 l2 : Option Value} {st : List Value} {x : Int32} {h : Hp} : ex (d) 3 40 [l0, some (.int x), l2] st h = ex d 3 41 [l0, some (.int x), l2] (.int x :: st) h := (ex_of d3_40 (d) [l0, some (.int x), l2] st h).trans (rfl)
theorem d3_41 : decode (mB 3) 41 = .ok (.iaload, 1) := by decide +kernel
theorem x3_41 {d : Nat} {L : Lc} {st : List Value} {a j : Nat} {h : Hp} (ht : (h.2.1 a).1 = 20) (hj : j < (h.2.1 a).2) (hb : j < 2147483648) : ex (d) 3 41 L (.int (nI j) :: .ref a :: st) h = ex d 3 42 L (h.1 a j :: st) h := (ex_of d3_41 (d) L (.int (nI j) :: .ref a :: st) h).trans (fin_iaload (Or.inl ht) hj hb)
theorem d3_42 : decode (mB 3) 42 = .ok (.iload_n 2, 1) := by decide +kernel
theorem x3_42 {d : Nat} {l0 l1 : Option Value} {st : List Value} {x : Int32} {h : Hp} : ex (d) 3 42 [l0, l1, some (.int x)] st h = ex d 3 43 [l0, l1, some (.int x)] (.int x :: st) h := (ex_of d3_42 (d) [l0, l1, some (.int x)] st h).trans (rfl)
theorem d3_43 : decode (mB 3) 43 = .ok (.isub, 1) := by decide +kernel
theorem x3_43 {d : Nat} {L : Lc} {st : List Value} {x y : Int32} {h : Hp} : ex (d) 3 43 L (.int y :: .int x :: st) h = ex d 3 44 L (.int (x - y) :: st) h := (ex_of d3_43 (d) L (.int y :: .int x :: st) h).trans (rfl)
theorem d3_44 : decode (mB 3) 44 = .ok (.iconst 0, 1) := by decide +kernel
theorem x3_44 {d : Nat} {L : Lc} {st : List Value} {h : Hp} : ex (d) 3 44 L st h = ex d 3 45 L (.int (nI 0) :: st) h := (ex_of d3_44 (d) L st h).trans (rfl)
theorem d3_45 : decode (mB 3) 45 = .ok (.sipush 255, 3) := by decide +kernel
theorem x3_45 {d : Nat} {L : Lc} {st : List Value} {h : Hp} : ex (d) 3 45 L st h = ex d 3 48 L (.int (nI 255) :: st) h := (ex_of d3_45 (d) L st h).trans (rfl)
theorem d3_48 : decode (mB 3) 48 = .ok (.invokestatic 21, 3) := by decide +kernel
theorem x3_48 {d : Nat} {L : Lc}  {v0 : Int32} {v1 : Int32} {v2 : Int32} {h : Hp} : ex (d + 1) 3 48 L (.int v2 :: .int v1 :: .int v0 :: []) h = bnd (ex d 92 0 [some (.int v0), some (.int v1), some (.int v2)] [] h) (fun v h' => ex (d + 1) 3 51 L (v.toList ++ []) h') := (ex_of d3_48 (d + 1) L (.int v2 :: .int v1 :: .int v0 :: []) h).trans (fin_st (mi := 3) i1_21 (Or.inr rfl) (by simp) (by simp [cat1_i, cat1_r]) (by simp) (Nat.le_of_ble_eq_true rfl))
theorem d3_51 : decode (mB 3) 51 = .ok (.ifCond .eq 7, 3) := by decide +kernel
theorem x3_51 {d : Nat} {L : Lc} {st : List Value} {x : Int32} {h : Hp} : ex (d) 3 51 L (.int x :: st) h = if x = 0 then ex d 3 58 L st h else ex d 3 54 L st h := (ex_of d3_51 (d) L (.int x :: st) h).trans (fin_brq (off := 7) (tgt := 58) rfl (by decide))
theorem d3_54 : decode (mB 3) 54 = .ok (.iconst 1, 1) := by decide +kernel
theorem x3_54 {d : Nat} {L : Lc} {st : List Value} {h : Hp} : ex (d) 3 54 L st h = ex d 3 55 L (.int (nI 1) :: st) h := (ex_of d3_54 (d) L st h).trans (rfl)
theorem d3_55 : decode (mB 3) 55 = .ok (.goto 4, 3) := by decide +kernel
theorem x3_55 {d : Nat} {L : Lc} {st : List Value} {h : Hp} : ex (d) 3 55 L st h = ex d 3 59 L st h := (ex_of d3_55 (d) L st h).trans (rfl)
theorem d3_58 : decode (mB 3) 58 = .ok (.iconst 0, 1) := by decide +kernel
theorem x3_58 {d : Nat} {L : Lc} {st : List Value} {h : Hp} : ex (d) 3 58 L st h = ex d 3 59 L (.int (nI 0) :: st) h := (ex_of d3_58 (d) L st h).trans (rfl)
theorem d3_59 : decode (mB 3) 59 = .ok (.ireturn, 1) := by decide +kernel
theorem x3_59 {d : Nat} {L : Lc} {x : Int32} {h : Hp} (hx : x = 0 ∨ x = 1) : ex (d) 3 59 L [.int x] h = some (some (.int x), h) := (ex_of d3_59 (d) L [.int x] h).trans (fin_retb rfl hx)
theorem d4_0 : decode (mB 4) 0 = .ok (.aload_n 0, 1) := by decide +kernel
theorem x4_0 {d : Nat} {l1 l2 : Option Value} {st : List Value} {a : Nat} {h : Hp} : ex (d) 4 0 [some (.ref a), l1, l2] st h = ex d 4 1 [some (.ref a), l1, l2] (.ref a :: st) h := (ex_of d4_0 (d) [some (.ref a), l1, l2] st h).trans (rfl)
theorem d4_1 : decode (mB 4) 1 = .ok (.invokespecial 3, 3) := by decide +kernel
theorem x4_1 {d : Nat} {L : Lc} {a : Nat} {h : Hp} : ex (d) 4 1 L (.ref a :: []) h = ex d 4 4 L [] h := (ex_of d4_1 (d) L (.ref a :: []) h).trans (rfl)
theorem d4_4 : decode (mB 4) 4 = .ok (.aload_n 0, 1) := by decide +kernel
theorem x4_4 {d : Nat} {l1 l2 : Option Value} {st : List Value} {a : Nat} {h : Hp} : ex (d) 4 4 [some (.ref a), l1, l2] st h = ex d 4 5 [some (.ref a), l1, l2] (.ref a :: st) h := (ex_of d4_4 (d) [some (.ref a), l1, l2] st h).trans (rfl)
theorem d4_5 : decode (mB 4) 5 = .ok (.aload_n 1, 1) := by decide +kernel
theorem x4_5 {d : Nat} {l0 l2 : Option Value} {st : List Value} {a : Nat} {h : Hp} : ex (d) 4 5 [l0, some (.ref a), l2] st h = ex d 4 6 [l0, some (.ref a), l2] (.ref a :: st) h := (ex_of d4_5 (d) [l0, some (.ref a), l2] st h).trans (rfl)
theorem x4_5n {d : Nat} {l0 l2 : Option Value} {st : List Value} {h : Hp} : ex (d) 4 5 [l0, some .null, l2] st h = ex d 4 6 [l0, some .null, l2] (.null :: st) h := (ex_of d4_5 (d) [l0, some .null, l2] st h).trans (rfl)
theorem x4_5q {d : Nat} {l0 l2 : Option Value} {st : List Value} {a : Option Nat} {h : Hp} : ex (d) 4 5 [l0, some (va_rf a), l2] st h = ex d 4 6 [l0, some (va_rf a), l2] (va_rf a :: st) h := (ex_of d4_5 (d) [l0, some (va_rf a), l2] st h).trans (by cases a <;> rfl)
theorem d4_6 : decode (mB 4) 6 = .ok (.putfield 9, 3) := by decide +kernel
theorem x4_6 {d : Nat} {L : Lc} {st : List Value} {a b : Nat} {h : Hp} (ht : (h.2.1 a).1 = 2) : ex (d) 4 6 L (.ref b :: .ref a :: st) h = ex d 4 9 L st (mup h.1 a 0 (.ref b), h.2) := (ex_of d4_6 (d) L (.ref b :: .ref a :: st) h).trans (fin_put (mi := 4) f2_9 ht rfl rfl (by decide +kernel))
theorem x4_6n {d : Nat} {L : Lc} {st : List Value} {a : Nat} {h : Hp} (ht : (h.2.1 a).1 = 2) : ex (d) 4 6 L (.null :: .ref a :: st) h = ex d 4 9 L st (mup h.1 a 0 .null, h.2) := (ex_of d4_6 (d) L (.null :: .ref a :: st) h).trans (fin_put (mi := 4) f2_9 ht rfl rfl (by decide +kernel))
theorem x4_6q {d : Nat} {L : Lc} {st : List Value} {a : Nat} {b : Option Nat} {h : Hp} (ht : (h.2.1 a).1 = 2) : ex (d) 4 6 L (va_rf b :: .ref a :: st) h = ex d 4 9 L st (mup h.1 a 0 (va_rf b), h.2) := (ex_of d4_6 (d) L (va_rf b :: .ref a :: st) h).trans (by cases b <;> exact fin_put (mi := 4) f2_9 ht rfl rfl (by decide +kernel))
theorem d4_9 : decode (mB 4) 9 = .ok (.aload_n 0, 1) := by decide +kernel
theorem x4_9 {d : Nat} {l1 l2 : Option Value} {st : List Value} {a : Nat} {h : Hp} : ex (d) 4 9 [some (.ref a), l1, l2] st h = ex d 4 10 [some (.ref a), l1, l2] (.ref a :: st) h := (ex_of d4_9 (d) [some (.ref a), l1, l2] st h).trans (rfl)
theorem d4_10 : decode (mB 4) 10 = .ok (.iload_n 2, 1) := by decide +kernel
theorem x4_10 {d : Nat} {l0 l1 : Option Value} {st : List Value} {x : Int32} {h : Hp} : ex (d) 4 10 [l0, l1, some (.int x)] st h = ex d 4 11 [l0, l1, some (.int x)] (.int x :: st) h := (ex_of d4_10 (d) [l0, l1, some (.int x)] st h).trans (rfl)
theorem d4_11 : decode (mB 4) 11 = .ok (.putfield 15, 3) := by decide +kernel
theorem x4_11 {d : Nat} {L : Lc} {st : List Value} {a : Nat} {x : Int32} {h : Hp} (ht : (h.2.1 a).1 = 2) : ex (d) 4 11 L (.int x :: .ref a :: st) h = ex d 4 14 L st (mup h.1 a 1 (.int x), h.2) := (ex_of d4_11 (d) L (.int x :: .ref a :: st) h).trans (fin_put (mi := 4) f2_15 ht rfl rfl (by decide +kernel))
theorem d4_14 : decode (mB 4) 14 = .ok (.aload_n 0, 1) := by decide +kernel
theorem x4_14 {d : Nat} {l1 l2 : Option Value} {st : List Value} {a : Nat} {h : Hp} : ex (d) 4 14 [some (.ref a), l1, l2] st h = ex d 4 15 [some (.ref a), l1, l2] (.ref a :: st) h := (ex_of d4_14 (d) [some (.ref a), l1, l2] st h).trans (rfl)
theorem d4_15 : decode (mB 4) 15 = .ok (.iconst 0, 1) := by decide +kernel
theorem x4_15 {d : Nat} {L : Lc} {st : List Value} {h : Hp} : ex (d) 4 15 L st h = ex d 4 16 L (.int (nI 0) :: st) h := (ex_of d4_15 (d) L st h).trans (rfl)
theorem d4_16 : decode (mB 4) 16 = .ok (.putfield 19, 3) := by decide +kernel
theorem x4_16 {d : Nat} {L : Lc} {st : List Value} {a : Nat} {x : Int32} {h : Hp} (ht : (h.2.1 a).1 = 2) : ex (d) 4 16 L (.int x :: .ref a :: st) h = ex d 4 19 L st (mup h.1 a 2 (.int x), h.2) := (ex_of d4_16 (d) L (.int x :: .ref a :: st) h).trans (fin_put (mi := 4) f2_19 ht rfl rfl (by decide +kernel))
theorem d4_19 : decode (mB 4) 19 = .ok (.return_, 1) := by decide +kernel
theorem x4_19 {d : Nat} {L : Lc}  {h : Hp} : ex (d) 4 19 L [] h = some (none, h) := (ex_of d4_19 (d) L [] h).trans (rfl)
theorem d5_0 : decode (mB 5) 0 = .ok (.aload_n 0, 1) := by decide +kernel
theorem x5_0 {d : Nat} {l1 l2 l3 : Option Value} {st : List Value} {a : Nat} {h : Hp} : ex (d) 5 0 [some (.ref a), l1, l2, l3] st h = ex d 5 1 [some (.ref a), l1, l2, l3] (.ref a :: st) h := (ex_of d5_0 (d) [some (.ref a), l1, l2, l3] st h).trans (rfl)
theorem d5_1 : decode (mB 5) 1 = .ok (.invokespecial 3, 3) := by decide +kernel
theorem x5_1 {d : Nat} {L : Lc} {a : Nat} {h : Hp} : ex (d) 5 1 L (.ref a :: []) h = ex d 5 4 L [] h := (ex_of d5_1 (d) L (.ref a :: []) h).trans (rfl)
theorem d5_4 : decode (mB 5) 4 = .ok (.aload_n 0, 1) := by decide +kernel
theorem x5_4 {d : Nat} {l1 l2 l3 : Option Value} {st : List Value} {a : Nat} {h : Hp} : ex (d) 5 4 [some (.ref a), l1, l2, l3] st h = ex d 5 5 [some (.ref a), l1, l2, l3] (.ref a :: st) h := (ex_of d5_4 (d) [some (.ref a), l1, l2, l3] st h).trans (rfl)
theorem d5_5 : decode (mB 5) 5 = .ok (.iload_n 1, 1) := by decide +kernel
theorem x5_5 {d : Nat} {l0 l2 l3 : Option Value} {st : List Value} {x : Int32} {h : Hp} : ex (d) 5 5 [l0, some (.int x), l2, l3] st h = ex d 5 6 [l0, some (.int x), l2, l3] (.int x :: st) h := (ex_of d5_5 (d) [l0, some (.int x), l2, l3] st h).trans (rfl)
theorem d5_6 : decode (mB 5) 6 = .ok (.putfield 9, 3) := by decide +kernel
theorem x5_6 {d : Nat} {L : Lc} {st : List Value} {a : Nat} {x : Int32} {h : Hp} (ht : (h.2.1 a).1 = 3) : ex (d) 5 6 L (.int x :: .ref a :: st) h = ex d 5 9 L st (mup h.1 a 0 (.int x), h.2) := (ex_of d5_6 (d) L (.int x :: .ref a :: st) h).trans (fin_put (mi := 5) f3_9 ht rfl rfl (by decide +kernel))
theorem d5_9 : decode (mB 5) 9 = .ok (.aload_n 0, 1) := by decide +kernel
theorem x5_9 {d : Nat} {l1 l2 l3 : Option Value} {st : List Value} {a : Nat} {h : Hp} : ex (d) 5 9 [some (.ref a), l1, l2, l3] st h = ex d 5 10 [some (.ref a), l1, l2, l3] (.ref a :: st) h := (ex_of d5_9 (d) [some (.ref a), l1, l2, l3] st h).trans (rfl)
theorem d5_10 : decode (mB 5) 10 = .ok (.aload_n 2, 1) := by decide +kernel
theorem x5_10 {d : Nat} {l0 l1 l3 : Option Value} {st : List Value} {a : Nat} {h : Hp} : ex (d) 5 10 [l0, l1, some (.ref a), l3] st h = ex d 5 11 [l0, l1, some (.ref a), l3] (.ref a :: st) h := (ex_of d5_10 (d) [l0, l1, some (.ref a), l3] st h).trans (rfl)
theorem x5_10n {d : Nat} {l0 l1 l3 : Option Value} {st : List Value} {h : Hp} : ex (d) 5 10 [l0, l1, some .null, l3] st h = ex d 5 11 [l0, l1, some .null, l3] (.null :: st) h := (ex_of d5_10 (d) [l0, l1, some .null, l3] st h).trans (rfl)
theorem x5_10q {d : Nat} {l0 l1 l3 : Option Value} {st : List Value} {a : Option Nat} {h : Hp} : ex (d) 5 10 [l0, l1, some (va_rf a), l3] st h = ex d 5 11 [l0, l1, some (va_rf a), l3] (va_rf a :: st) h := (ex_of d5_10 (d) [l0, l1, some (va_rf a), l3] st h).trans (by cases a <;> rfl)
theorem d5_11 : decode (mB 5) 11 = .ok (.putfield 15, 3) := by decide +kernel
theorem x5_11 {d : Nat} {L : Lc} {st : List Value} {a b : Nat} {h : Hp} (ht : (h.2.1 a).1 = 3) : ex (d) 5 11 L (.ref b :: .ref a :: st) h = ex d 5 14 L st (mup h.1 a 1 (.ref b), h.2) := (ex_of d5_11 (d) L (.ref b :: .ref a :: st) h).trans (fin_put (mi := 5) f3_15 ht rfl rfl (by decide +kernel))
theorem x5_11n {d : Nat} {L : Lc} {st : List Value} {a : Nat} {h : Hp} (ht : (h.2.1 a).1 = 3) : ex (d) 5 11 L (.null :: .ref a :: st) h = ex d 5 14 L st (mup h.1 a 1 .null, h.2) := (ex_of d5_11 (d) L (.null :: .ref a :: st) h).trans (fin_put (mi := 5) f3_15 ht rfl rfl (by decide +kernel))
theorem x5_11q {d : Nat} {L : Lc} {st : List Value} {a : Nat} {b : Option Nat} {h : Hp} (ht : (h.2.1 a).1 = 3) : ex (d) 5 11 L (va_rf b :: .ref a :: st) h = ex d 5 14 L st (mup h.1 a 1 (va_rf b), h.2) := (ex_of d5_11 (d) L (va_rf b :: .ref a :: st) h).trans (by cases b <;> exact fin_put (mi := 5) f3_15 ht rfl rfl (by decide +kernel))
theorem d5_14 : decode (mB 5) 14 = .ok (.aload_n 0, 1) := by decide +kernel
theorem x5_14 {d : Nat} {l1 l2 l3 : Option Value} {st : List Value} {a : Nat} {h : Hp} : ex (d) 5 14 [some (.ref a), l1, l2, l3] st h = ex d 5 15 [some (.ref a), l1, l2, l3] (.ref a :: st) h := (ex_of d5_14 (d) [some (.ref a), l1, l2, l3] st h).trans (rfl)
theorem d5_15 : decode (mB 5) 15 = .ok (.iload_n 3, 1) := by decide +kernel
theorem x5_15 {d : Nat} {l0 l1 l2 : Option Value} {st : List Value} {x : Int32} {h : Hp} : ex (d) 5 15 [l0, l1, l2, some (.int x)] st h = ex d 5 16 [l0, l1, l2, some (.int x)] (.int x :: st) h := (ex_of d5_15 (d) [l0, l1, l2, some (.int x)] st h).trans (rfl)
theorem d5_16 : decode (mB 5) 16 = .ok (.anewarray 19, 3) := by decide +kernel
theorem x5_16 {d : Nat} {L : Lc} {st : List Value} {n : Nat} {h : Hp} (hn : n ≤ 10000) : ex (d) 5 16 L (.int (nI n) :: st) h = ex d 5 19 L (.ref h.2.2.1 :: st) (mnw h.1 h.2.2.1 (fun _ => .null), mnw h.2.1 h.2.2.1 (21, n), h.2.2.1 + 1, h.2.2.2 + n) := (ex_of d5_16 (d) L (.int (nI n) :: st) h).trans (fin_anw (mi := 5) k3_19 rfl (by decide) hn)
theorem d5_19 : decode (mB 5) 19 = .ok (.putfield 21, 3) := by decide +kernel
theorem x5_19 {d : Nat} {L : Lc} {st : List Value} {a b : Nat} {h : Hp} (ht : (h.2.1 a).1 = 3) : ex (d) 5 19 L (.ref b :: .ref a :: st) h = ex d 5 22 L st (mup h.1 a 2 (.ref b), h.2) := (ex_of d5_19 (d) L (.ref b :: .ref a :: st) h).trans (fin_put (mi := 5) f3_21 ht rfl rfl (by decide +kernel))
theorem x5_19n {d : Nat} {L : Lc} {st : List Value} {a : Nat} {h : Hp} (ht : (h.2.1 a).1 = 3) : ex (d) 5 19 L (.null :: .ref a :: st) h = ex d 5 22 L st (mup h.1 a 2 .null, h.2) := (ex_of d5_19 (d) L (.null :: .ref a :: st) h).trans (fin_put (mi := 5) f3_21 ht rfl rfl (by decide +kernel))
theorem x5_19q {d : Nat} {L : Lc} {st : List Value} {a : Nat} {b : Option Nat} {h : Hp} (ht : (h.2.1 a).1 = 3) : ex (d) 5 19 L (va_rf b :: .ref a :: st) h = ex d 5 22 L st (mup h.1 a 2 (va_rf b), h.2) := (ex_of d5_19 (d) L (va_rf b :: .ref a :: st) h).trans (by cases b <;> exact fin_put (mi := 5) f3_21 ht rfl rfl (by decide +kernel))
theorem d5_22 : decode (mB 5) 22 = .ok (.return_, 1) := by decide +kernel
theorem x5_22 {d : Nat} {L : Lc}  {h : Hp} : ex (d) 5 22 L [] h = some (none, h) := (ex_of d5_22 (d) L [] h).trans (rfl)
theorem d6_0 : decode (mB 6) 0 = .ok (.iload_n 1, 1) := by decide +kernel
theorem x6_0 {d : Nat} {l0 : Option Value} {st : List Value} {x : Int32} {h : Hp} : ex (d) 6 0 [l0, some (.int x)] st h = ex d 6 1 [l0, some (.int x)] (.int x :: st) h := (ex_of d6_0 (d) [l0, some (.int x)] st h).trans (rfl)
theorem d6_1 : decode (mB 6) 1 = .ok (.ifCond .lt 16, 3) := by decide +kernel
theorem x6_1 {d : Nat} {L : Lc} {st : List Value} {x : Int32} {h : Hp} : ex (d) 6 1 L (.int x :: st) h = if x < 0 then ex d 6 17 L st h else ex d 6 4 L st h := (ex_of d6_1 (d) L (.int x :: st) h).trans (fin_brq (off := 16) (tgt := 17) rfl (by decide))
theorem d6_4 : decode (mB 6) 4 = .ok (.iload_n 1, 1) := by decide +kernel
theorem x6_4 {d : Nat} {l0 : Option Value} {st : List Value} {x : Int32} {h : Hp} : ex (d) 6 4 [l0, some (.int x)] st h = ex d 6 5 [l0, some (.int x)] (.int x :: st) h := (ex_of d6_4 (d) [l0, some (.int x)] st h).trans (rfl)
theorem d6_5 : decode (mB 6) 5 = .ok (.aload_n 0, 1) := by decide +kernel
theorem x6_5 {d : Nat} {l1 : Option Value} {st : List Value} {a : Nat} {h : Hp} : ex (d) 6 5 [some (.ref a), l1] st h = ex d 6 6 [some (.ref a), l1] (.ref a :: st) h := (ex_of d6_5 (d) [some (.ref a), l1] st h).trans (rfl)
theorem d6_6 : decode (mB 6) 6 = .ok (.getfield 21, 3) := by decide +kernel
theorem x6_6 {d : Nat} {L : Lc} {st : List Value} {a : Nat} {h : Hp} (ht : (h.2.1 a).1 = 3) : ex (d) 6 6 L (.ref a :: st) h = ex d 6 9 L (h.1 a 2 :: st) h := (ex_of d6_6 (d) L (.ref a :: st) h).trans (fin_get (mi := 6) f3_21 (tg1 ht rfl))
theorem d6_9 : decode (mB 6) 9 = .ok (.arraylength, 1) := by decide +kernel
theorem x6_9 {d : Nat} {L : Lc} {st : List Value} {a : Nat} {h : Hp} (ht : 20 ≤ (h.2.1 a).1 ∧ (h.2.1 a).1 ≤ 30) : ex (d) 6 9 L (.ref a :: st) h = ex d 6 10 L (.int (nI (h.2.1 a).2) :: st) h := (ex_of d6_9 (d) L (.ref a :: st) h).trans (fin_alen ht)
theorem d6_10 : decode (mB 6) 10 = .ok (.if_icmp .ge 7, 3) := by decide +kernel
theorem x6_10 {d : Nat} {L : Lc} {st : List Value} {x y : Int32} {h : Hp} : ex (d) 6 10 L (.int y :: .int x :: st) h = if y ≤ x then ex d 6 17 L st h else ex d 6 13 L st h := (ex_of d6_10 (d) L (.int y :: .int x :: st) h).trans (fin_brq (off := 7) (tgt := 17) rfl (by decide))
theorem d6_13 : decode (mB 6) 13 = .ok (.iconst 1, 1) := by decide +kernel
theorem x6_13 {d : Nat} {L : Lc} {st : List Value} {h : Hp} : ex (d) 6 13 L st h = ex d 6 14 L (.int (nI 1) :: st) h := (ex_of d6_13 (d) L st h).trans (rfl)
theorem d6_14 : decode (mB 6) 14 = .ok (.goto 4, 3) := by decide +kernel
theorem x6_14 {d : Nat} {L : Lc} {st : List Value} {h : Hp} : ex (d) 6 14 L st h = ex d 6 18 L st h := (ex_of d6_14 (d) L st h).trans (rfl)
theorem d6_17 : decode (mB 6) 17 = .ok (.iconst 0, 1) := by decide +kernel
theorem x6_17 {d : Nat} {L : Lc} {st : List Value} {h : Hp} : ex (d) 6 17 L st h = ex d 6 18 L (.int (nI 0) :: st) h := (ex_of d6_17 (d) L st h).trans (rfl)
theorem d6_18 : decode (mB 6) 18 = .ok (.ireturn, 1) := by decide +kernel
theorem x6_18 {d : Nat} {L : Lc} {x : Int32} {h : Hp} (hx : x = 0 ∨ x = 1) : ex (d) 6 18 L [.int x] h = some (some (.int x), h) := (ex_of d6_18 (d) L [.int x] h).trans (fin_retb rfl hx)
theorem d7_0 : decode (mB 7) 0 = .ok (.aload_n 0, 1) := by decide +kernel
theorem x7_0 {d : Nat} {l1 l2 : Option Value} {st : List Value} {a : Nat} {h : Hp} : ex (d) 7 0 [some (.ref a), l1, l2] st h = ex d 7 1 [some (.ref a), l1, l2] (.ref a :: st) h := (ex_of d7_0 (d) [some (.ref a), l1, l2] st h).trans (rfl)
theorem d7_1 : decode (mB 7) 1 = .ok (.iload_n 1, 1) := by decide +kernel
theorem x7_1 {d : Nat} {l0 l2 : Option Value} {st : List Value} {x : Int32} {h : Hp} : ex (d) 7 1 [l0, some (.int x), l2] st h = ex d 7 2 [l0, some (.int x), l2] (.int x :: st) h := (ex_of d7_1 (d) [l0, some (.int x), l2] st h).trans (rfl)
theorem d7_2 : decode (mB 7) 2 = .ok (.invokevirtual 25, 3) := by decide +kernel
theorem x7_2 {d : Nat} {L : Lc} {a : Nat} {v0 : Int32} {h : Hp} (ht : (h.2.1 a).1 = 3) : ex (d + 1) 7 2 L (.int v0 :: .ref a :: []) h = bnd (ex d 6 0 [some (.ref a), some (.int v0)] [] h) (fun v h' => ex (d + 1) 7 5 L (v.toList ++ []) h') := (ex_of d7_2 (d + 1) L (.int v0 :: .ref a :: []) h).trans (fin_vi (mi := 7) i3_25 ht rfl rfl (by simp [cat1_i, cat1_r]) (by simp) (Nat.le_of_ble_eq_true rfl))
theorem d7_5 : decode (mB 7) 5 = .ok (.ifCond .eq 10, 3) := by decide +kernel
theorem x7_5 {d : Nat} {L : Lc} {st : List Value} {x : Int32} {h : Hp} : ex (d) 7 5 L (.int x :: st) h = if x = 0 then ex d 7 15 L st h else ex d 7 8 L st h := (ex_of d7_5 (d) L (.int x :: st) h).trans (fin_brq (off := 10) (tgt := 15) rfl (by decide))
theorem d7_8 : decode (mB 7) 8 = .ok (.aload_n 0, 1) := by decide +kernel
theorem x7_8 {d : Nat} {l1 l2 : Option Value} {st : List Value} {a : Nat} {h : Hp} : ex (d) 7 8 [some (.ref a), l1, l2] st h = ex d 7 9 [some (.ref a), l1, l2] (.ref a :: st) h := (ex_of d7_8 (d) [some (.ref a), l1, l2] st h).trans (rfl)
theorem d7_9 : decode (mB 7) 9 = .ok (.getfield 21, 3) := by decide +kernel
theorem x7_9 {d : Nat} {L : Lc} {st : List Value} {a : Nat} {h : Hp} (ht : (h.2.1 a).1 = 3) : ex (d) 7 9 L (.ref a :: st) h = ex d 7 12 L (h.1 a 2 :: st) h := (ex_of d7_9 (d) L (.ref a :: st) h).trans (fin_get (mi := 7) f3_21 (tg1 ht rfl))
theorem d7_12 : decode (mB 7) 12 = .ok (.iload_n 1, 1) := by decide +kernel
theorem x7_12 {d : Nat} {l0 l2 : Option Value} {st : List Value} {x : Int32} {h : Hp} : ex (d) 7 12 [l0, some (.int x), l2] st h = ex d 7 13 [l0, some (.int x), l2] (.int x :: st) h := (ex_of d7_12 (d) [l0, some (.int x), l2] st h).trans (rfl)
theorem d7_13 : decode (mB 7) 13 = .ok (.aload_n 2, 1) := by decide +kernel
theorem x7_13 {d : Nat} {l0 l1 : Option Value} {st : List Value} {a : Nat} {h : Hp} : ex (d) 7 13 [l0, l1, some (.ref a)] st h = ex d 7 14 [l0, l1, some (.ref a)] (.ref a :: st) h := (ex_of d7_13 (d) [l0, l1, some (.ref a)] st h).trans (rfl)
theorem x7_13n {d : Nat} {l0 l1 : Option Value} {st : List Value} {h : Hp} : ex (d) 7 13 [l0, l1, some .null] st h = ex d 7 14 [l0, l1, some .null] (.null :: st) h := (ex_of d7_13 (d) [l0, l1, some .null] st h).trans (rfl)
theorem x7_13q {d : Nat} {l0 l1 : Option Value} {st : List Value} {a : Option Nat} {h : Hp} : ex (d) 7 13 [l0, l1, some (va_rf a)] st h = ex d 7 14 [l0, l1, some (va_rf a)] (va_rf a :: st) h := (ex_of d7_13 (d) [l0, l1, some (va_rf a)] st h).trans (by cases a <;> rfl)
theorem d7_14 : decode (mB 7) 14 = .ok (.aastore, 1) := by decide +kernel
theorem x7_14 {d : Nat} {L : Lc} {st : List Value} {a j v : Nat} {h : Hp} (ht : 21 ≤ (h.2.1 a).1 ∧ (h.2.1 a).1 ≤ 25) (hc : casts.contains ((h.2.1 v).1, elT (h.2.1 a).1) = true) (hj : j < (h.2.1 a).2) (hb : j < 2147483648) : ex (d) 7 14 L (.ref v :: .int (nI j) :: .ref a :: st) h = ex d 7 15 L st (mup h.1 a j (.ref v), h.2) := (ex_of d7_14 (d) L (.ref v :: .int (nI j) :: .ref a :: st) h).trans (fin_aastore ht hc hj hb)
theorem x7_14n {d : Nat} {L : Lc} {st : List Value} {a j : Nat} {h : Hp} (ht : 21 ≤ (h.2.1 a).1 ∧ (h.2.1 a).1 ≤ 25) (hj : j < (h.2.1 a).2) (hb : j < 2147483648) : ex (d) 7 14 L (.null :: .int (nI j) :: .ref a :: st) h = ex d 7 15 L st (mup h.1 a j .null, h.2) := (ex_of d7_14 (d) L (.null :: .int (nI j) :: .ref a :: st) h).trans (fin_aastoreN ht hj hb)
theorem d7_15 : decode (mB 7) 15 = .ok (.return_, 1) := by decide +kernel
theorem x7_15 {d : Nat} {L : Lc}  {h : Hp} : ex (d) 7 15 L [] h = some (none, h) := (ex_of d7_15 (d) L [] h).trans (rfl)
theorem d8_0 : decode (mB 8) 0 = .ok (.aload_n 0, 1) := by decide +kernel
theorem x8_0 {d : Nat} {st : List Value} {a : Nat} {h : Hp} : ex (d) 8 0 [some (.ref a)] st h = ex d 8 1 [some (.ref a)] (.ref a :: st) h := (ex_of d8_0 (d) [some (.ref a)] st h).trans (rfl)
theorem d8_1 : decode (mB 8) 1 = .ok (.getfield 15, 3) := by decide +kernel
theorem x8_1 {d : Nat} {L : Lc} {st : List Value} {a : Nat} {h : Hp} (ht : (h.2.1 a).1 = 3) : ex (d) 8 1 L (.ref a :: st) h = ex d 8 4 L (h.1 a 1 :: st) h := (ex_of d8_1 (d) L (.ref a :: st) h).trans (fin_get (mi := 8) f3_15 (tg1 ht rfl))
theorem d8_4 : decode (mB 8) 4 = .ok (.ifnull 18, 3) := by decide +kernel
theorem x8_4n {d : Nat} {L : Lc} {st : List Value} {h : Hp} : ex (d) 8 4 L (.null :: st) h = ex d 8 22 L st h := (ex_of d8_4 (d) L (.null :: st) h).trans (rfl)
theorem x8_4 {d : Nat} {L : Lc} {st : List Value} {a : Nat} {h : Hp} : ex (d) 8 4 L (.ref a :: st) h = ex d 8 7 L st h := (ex_of d8_4 (d) L (.ref a :: st) h).trans (rfl)
theorem d8_7 : decode (mB 8) 7 = .ok (.aload_n 0, 1) := by decide +kernel
theorem x8_7 {d : Nat} {st : List Value} {a : Nat} {h : Hp} : ex (d) 8 7 [some (.ref a)] st h = ex d 8 8 [some (.ref a)] (.ref a :: st) h := (ex_of d8_7 (d) [some (.ref a)] st h).trans (rfl)
theorem d8_8 : decode (mB 8) 8 = .ok (.getfield 15, 3) := by decide +kernel
theorem x8_8 {d : Nat} {L : Lc} {st : List Value} {a : Nat} {h : Hp} (ht : (h.2.1 a).1 = 3) : ex (d) 8 8 L (.ref a :: st) h = ex d 8 11 L (h.1 a 1 :: st) h := (ex_of d8_8 (d) L (.ref a :: st) h).trans (fin_get (mi := 8) f3_15 (tg1 ht rfl))
theorem d8_11 : decode (mB 8) 11 = .ok (.getfield 29, 3) := by decide +kernel
theorem x8_11 {d : Nat} {L : Lc} {st : List Value} {a : Nat} {h : Hp} (ht : isTh (h.2.1 a).1 = true) : ex (d) 8 11 L (.ref a :: st) h = ex d 8 14 L (h.1 a 1 :: st) h := (ex_of d8_11 (d) L (.ref a :: st) h).trans (fin_get (mi := 8) f3_29 ht)
theorem d8_14 : decode (mB 8) 14 = .ok (.iconst 4, 1) := by decide +kernel
theorem x8_14 {d : Nat} {L : Lc} {st : List Value} {h : Hp} : ex (d) 8 14 L st h = ex d 8 15 L (.int (nI 4) :: st) h := (ex_of d8_14 (d) L st h).trans (rfl)
theorem d8_15 : decode (mB 8) 15 = .ok (.if_icmp .ne 7, 3) := by decide +kernel
theorem x8_15 {d : Nat} {L : Lc} {st : List Value} {x y : Int32} {h : Hp} : ex (d) 8 15 L (.int y :: .int x :: st) h = if ¬ x = y then ex d 8 22 L st h else ex d 8 18 L st h := (ex_of d8_15 (d) L (.int y :: .int x :: st) h).trans (fin_brq (off := 7) (tgt := 22) rfl (by decide))
theorem d8_18 : decode (mB 8) 18 = .ok (.iconst 1, 1) := by decide +kernel
theorem x8_18 {d : Nat} {L : Lc} {st : List Value} {h : Hp} : ex (d) 8 18 L st h = ex d 8 19 L (.int (nI 1) :: st) h := (ex_of d8_18 (d) L st h).trans (rfl)
theorem d8_19 : decode (mB 8) 19 = .ok (.goto 4, 3) := by decide +kernel
theorem x8_19 {d : Nat} {L : Lc} {st : List Value} {h : Hp} : ex (d) 8 19 L st h = ex d 8 23 L st h := (ex_of d8_19 (d) L st h).trans (rfl)
theorem d8_22 : decode (mB 8) 22 = .ok (.iconst 0, 1) := by decide +kernel
theorem x8_22 {d : Nat} {L : Lc} {st : List Value} {h : Hp} : ex (d) 8 22 L st h = ex d 8 23 L (.int (nI 0) :: st) h := (ex_of d8_22 (d) L st h).trans (rfl)
theorem d8_23 : decode (mB 8) 23 = .ok (.ireturn, 1) := by decide +kernel
theorem x8_23 {d : Nat} {L : Lc} {x : Int32} {h : Hp} (hx : x = 0 ∨ x = 1) : ex (d) 8 23 L [.int x] h = some (some (.int x), h) := (ex_of d8_23 (d) L [.int x] h).trans (fin_retb rfl hx)
theorem d9_0 : decode (mB 9) 0 = .ok (.aload_n 0, 1) := by decide +kernel
theorem x9_0 {d : Nat} {st : List Value} {a : Nat} {h : Hp} : ex (d) 9 0 [some (.ref a)] st h = ex d 9 1 [some (.ref a)] (.ref a :: st) h := (ex_of d9_0 (d) [some (.ref a)] st h).trans (rfl)
theorem d9_1 : decode (mB 9) 1 = .ok (.getfield 15, 3) := by decide +kernel
theorem x9_1 {d : Nat} {L : Lc} {st : List Value} {a : Nat} {h : Hp} (ht : (h.2.1 a).1 = 3) : ex (d) 9 1 L (.ref a :: st) h = ex d 9 4 L (h.1 a 1 :: st) h := (ex_of d9_1 (d) L (.ref a :: st) h).trans (fin_get (mi := 9) f3_15 (tg1 ht rfl))
theorem d9_4 : decode (mB 9) 4 = .ok (.ifnull 18, 3) := by decide +kernel
theorem x9_4n {d : Nat} {L : Lc} {st : List Value} {h : Hp} : ex (d) 9 4 L (.null :: st) h = ex d 9 22 L st h := (ex_of d9_4 (d) L (.null :: st) h).trans (rfl)
theorem x9_4 {d : Nat} {L : Lc} {st : List Value} {a : Nat} {h : Hp} : ex (d) 9 4 L (.ref a :: st) h = ex d 9 7 L st h := (ex_of d9_4 (d) L (.ref a :: st) h).trans (rfl)
theorem d9_7 : decode (mB 9) 7 = .ok (.aload_n 0, 1) := by decide +kernel
theorem x9_7 {d : Nat} {st : List Value} {a : Nat} {h : Hp} : ex (d) 9 7 [some (.ref a)] st h = ex d 9 8 [some (.ref a)] (.ref a :: st) h := (ex_of d9_7 (d) [some (.ref a)] st h).trans (rfl)
theorem d9_8 : decode (mB 9) 8 = .ok (.getfield 15, 3) := by decide +kernel
theorem x9_8 {d : Nat} {L : Lc} {st : List Value} {a : Nat} {h : Hp} (ht : (h.2.1 a).1 = 3) : ex (d) 9 8 L (.ref a :: st) h = ex d 9 11 L (h.1 a 1 :: st) h := (ex_of d9_8 (d) L (.ref a :: st) h).trans (fin_get (mi := 9) f3_15 (tg1 ht rfl))
theorem d9_11 : decode (mB 9) 11 = .ok (.getfield 29, 3) := by decide +kernel
theorem x9_11 {d : Nat} {L : Lc} {st : List Value} {a : Nat} {h : Hp} (ht : isTh (h.2.1 a).1 = true) : ex (d) 9 11 L (.ref a :: st) h = ex d 9 14 L (h.1 a 1 :: st) h := (ex_of d9_11 (d) L (.ref a :: st) h).trans (fin_get (mi := 9) f3_29 ht)
theorem d9_14 : decode (mB 9) 14 = .ok (.iconst 5, 1) := by decide +kernel
theorem x9_14 {d : Nat} {L : Lc} {st : List Value} {h : Hp} : ex (d) 9 14 L st h = ex d 9 15 L (.int (nI 5) :: st) h := (ex_of d9_14 (d) L st h).trans (rfl)
theorem d9_15 : decode (mB 9) 15 = .ok (.if_icmp .ne 7, 3) := by decide +kernel
theorem x9_15 {d : Nat} {L : Lc} {st : List Value} {x y : Int32} {h : Hp} : ex (d) 9 15 L (.int y :: .int x :: st) h = if ¬ x = y then ex d 9 22 L st h else ex d 9 18 L st h := (ex_of d9_15 (d) L (.int y :: .int x :: st) h).trans (fin_brq (off := 7) (tgt := 22) rfl (by decide))
theorem d9_18 : decode (mB 9) 18 = .ok (.iconst 1, 1) := by decide +kernel
theorem x9_18 {d : Nat} {L : Lc} {st : List Value} {h : Hp} : ex (d) 9 18 L st h = ex d 9 19 L (.int (nI 1) :: st) h := (ex_of d9_18 (d) L st h).trans (rfl)
theorem d9_19 : decode (mB 9) 19 = .ok (.goto 4, 3) := by decide +kernel
theorem x9_19 {d : Nat} {L : Lc} {st : List Value} {h : Hp} : ex (d) 9 19 L st h = ex d 9 23 L st h := (ex_of d9_19 (d) L st h).trans (rfl)
theorem d9_22 : decode (mB 9) 22 = .ok (.iconst 0, 1) := by decide +kernel
theorem x9_22 {d : Nat} {L : Lc} {st : List Value} {h : Hp} : ex (d) 9 22 L st h = ex d 9 23 L (.int (nI 0) :: st) h := (ex_of d9_22 (d) L st h).trans (rfl)
theorem d9_23 : decode (mB 9) 23 = .ok (.ireturn, 1) := by decide +kernel
theorem x9_23 {d : Nat} {L : Lc} {x : Int32} {h : Hp} (hx : x = 0 ∨ x = 1) : ex (d) 9 23 L [.int x] h = some (some (.int x), h) := (ex_of d9_23 (d) L [.int x] h).trans (fin_retb rfl hx)
theorem d10_0 : decode (mB 10) 0 = .ok (.aload_n 0, 1) := by decide +kernel
theorem x10_0 {d : Nat} {st : List Value} {a : Nat} {h : Hp} : ex (d) 10 0 [some (.ref a)] st h = ex d 10 1 [some (.ref a)] (.ref a :: st) h := (ex_of d10_0 (d) [some (.ref a)] st h).trans (rfl)
theorem d10_1 : decode (mB 10) 1 = .ok (.getfield 15, 3) := by decide +kernel
theorem x10_1 {d : Nat} {L : Lc} {st : List Value} {a : Nat} {h : Hp} (ht : (h.2.1 a).1 = 3) : ex (d) 10 1 L (.ref a :: st) h = ex d 10 4 L (h.1 a 1 :: st) h := (ex_of d10_1 (d) L (.ref a :: st) h).trans (fin_get (mi := 10) f3_15 (tg1 ht rfl))
theorem d10_4 : decode (mB 10) 4 = .ok (.ifnonnull 7, 3) := by decide +kernel
theorem x10_4n {d : Nat} {L : Lc} {st : List Value} {h : Hp} : ex (d) 10 4 L (.null :: st) h = ex d 10 7 L st h := (ex_of d10_4 (d) L (.null :: st) h).trans (rfl)
theorem x10_4 {d : Nat} {L : Lc} {st : List Value} {a : Nat} {h : Hp} : ex (d) 10 4 L (.ref a :: st) h = ex d 10 11 L st h := (ex_of d10_4 (d) L (.ref a :: st) h).trans (rfl)
theorem d10_7 : decode (mB 10) 7 = .ok (.aconst_null, 1) := by decide +kernel
theorem x10_7 {d : Nat} {L : Lc} {st : List Value} {h : Hp} : ex (d) 10 7 L st h = ex d 10 8 L (.null :: st) h := (ex_of d10_7 (d) L st h).trans (rfl)
theorem d10_8 : decode (mB 10) 8 = .ok (.goto 10, 3) := by decide +kernel
theorem x10_8 {d : Nat} {L : Lc} {st : List Value} {h : Hp} : ex (d) 10 8 L st h = ex d 10 18 L st h := (ex_of d10_8 (d) L st h).trans (rfl)
theorem d10_11 : decode (mB 10) 11 = .ok (.aload_n 0, 1) := by decide +kernel
theorem x10_11 {d : Nat} {st : List Value} {a : Nat} {h : Hp} : ex (d) 10 11 [some (.ref a)] st h = ex d 10 12 [some (.ref a)] (.ref a :: st) h := (ex_of d10_11 (d) [some (.ref a)] st h).trans (rfl)
theorem d10_12 : decode (mB 10) 12 = .ok (.getfield 15, 3) := by decide +kernel
theorem x10_12 {d : Nat} {L : Lc} {st : List Value} {a : Nat} {h : Hp} (ht : (h.2.1 a).1 = 3) : ex (d) 10 12 L (.ref a :: st) h = ex d 10 15 L (h.1 a 1 :: st) h := (ex_of d10_12 (d) L (.ref a :: st) h).trans (fin_get (mi := 10) f3_15 (tg1 ht rfl))
theorem d10_15 : decode (mB 10) 15 = .ok (.getfield 32, 3) := by decide +kernel
theorem x10_15 {d : Nat} {L : Lc} {st : List Value} {a : Nat} {h : Hp} (ht : isTh (h.2.1 a).1 = true) : ex (d) 10 15 L (.ref a :: st) h = ex d 10 18 L (h.1 a 3 :: st) h := (ex_of d10_15 (d) L (.ref a :: st) h).trans (fin_get (mi := 10) f3_32 ht)
theorem d10_18 : decode (mB 10) 18 = .ok (.areturn, 1) := by decide +kernel
theorem x10_18 {d : Nat} {L : Lc} {a : Nat} {h : Hp} : ex (d) 10 18 L [.ref a] h = some (some (.ref a), h) := (ex_of d10_18 (d) L [.ref a] h).trans (rfl)
theorem x10_18n {d : Nat} {L : Lc}  {h : Hp} : ex (d) 10 18 L [.null] h = some (some .null, h) := (ex_of d10_18 (d) L [.null] h).trans (rfl)
theorem x10_18q {d : Nat} {L : Lc} {a : Option Nat} {h : Hp} : ex (d) 10 18 L [va_rf a] h = some (some (va_rf a), h) := (ex_of d10_18 (d) L [va_rf a] h).trans (by cases a <;> rfl)
theorem d11_0 : decode (mB 11) 0 = .ok (.aload_n 0, 1) := by decide +kernel
theorem x11_0 {d : Nat} {l1 l2 l3 l4 : Option Value} {st : List Value} {a : Nat} {h : Hp} : ex (d) 11 0 [some (.ref a), l1, l2, l3, l4] st h = ex d 11 1 [some (.ref a), l1, l2, l3, l4] (.ref a :: st) h := (ex_of d11_0 (d) [some (.ref a), l1, l2, l3, l4] st h).trans (rfl)
theorem d11_1 : decode (mB 11) 1 = .ok (.invokespecial 1, 3) := by decide +kernel
theorem x11_1 {d : Nat} {L : Lc} {a : Nat} {h : Hp} : ex (d + 1) 11 1 L (.ref a :: []) h = bnd (ex d 1 0 [some (.ref a)] [] h) (fun v h' => ex (d + 1) 11 4 L (v.toList ++ []) h') := (ex_of d11_1 (d + 1) L (.ref a :: []) h).trans (fin_sp (mi := 11) i4_1 (Or.inr rfl) rfl (by simp [cat1_i, cat1_r]) (by simp) (Nat.le_of_ble_eq_true rfl))
theorem d11_4 : decode (mB 11) 4 = .ok (.aload_n 0, 1) := by decide +kernel
theorem x11_4 {d : Nat} {l1 l2 l3 l4 : Option Value} {st : List Value} {a : Nat} {h : Hp} : ex (d) 11 4 [some (.ref a), l1, l2, l3, l4] st h = ex d 11 5 [some (.ref a), l1, l2, l3, l4] (.ref a :: st) h := (ex_of d11_4 (d) [some (.ref a), l1, l2, l3, l4] st h).trans (rfl)
theorem d11_5 : decode (mB 11) 5 = .ok (.aload_n 1, 1) := by decide +kernel
theorem x11_5 {d : Nat} {l0 l2 l3 l4 : Option Value} {st : List Value} {a : Nat} {h : Hp} : ex (d) 11 5 [l0, some (.ref a), l2, l3, l4] st h = ex d 11 6 [l0, some (.ref a), l2, l3, l4] (.ref a :: st) h := (ex_of d11_5 (d) [l0, some (.ref a), l2, l3, l4] st h).trans (rfl)
theorem x11_5n {d : Nat} {l0 l2 l3 l4 : Option Value} {st : List Value} {h : Hp} : ex (d) 11 5 [l0, some .null, l2, l3, l4] st h = ex d 11 6 [l0, some .null, l2, l3, l4] (.null :: st) h := (ex_of d11_5 (d) [l0, some .null, l2, l3, l4] st h).trans (rfl)
theorem x11_5q {d : Nat} {l0 l2 l3 l4 : Option Value} {st : List Value} {a : Option Nat} {h : Hp} : ex (d) 11 5 [l0, some (va_rf a), l2, l3, l4] st h = ex d 11 6 [l0, some (va_rf a), l2, l3, l4] (va_rf a :: st) h := (ex_of d11_5 (d) [l0, some (va_rf a), l2, l3, l4] st h).trans (by cases a <;> rfl)
theorem d11_6 : decode (mB 11) 6 = .ok (.putfield 7, 3) := by decide +kernel
theorem x11_6 {d : Nat} {L : Lc} {st : List Value} {a b : Nat} {h : Hp} (ht : (h.2.1 a).1 = 4) : ex (d) 11 6 L (.ref b :: .ref a :: st) h = ex d 11 9 L st (mup h.1 a 0 (.ref b), h.2) := (ex_of d11_6 (d) L (.ref b :: .ref a :: st) h).trans (fin_put (mi := 11) f4_7 ht rfl rfl (by decide +kernel))
theorem x11_6n {d : Nat} {L : Lc} {st : List Value} {a : Nat} {h : Hp} (ht : (h.2.1 a).1 = 4) : ex (d) 11 6 L (.null :: .ref a :: st) h = ex d 11 9 L st (mup h.1 a 0 .null, h.2) := (ex_of d11_6 (d) L (.null :: .ref a :: st) h).trans (fin_put (mi := 11) f4_7 ht rfl rfl (by decide +kernel))
theorem x11_6q {d : Nat} {L : Lc} {st : List Value} {a : Nat} {b : Option Nat} {h : Hp} (ht : (h.2.1 a).1 = 4) : ex (d) 11 6 L (va_rf b :: .ref a :: st) h = ex d 11 9 L st (mup h.1 a 0 (va_rf b), h.2) := (ex_of d11_6 (d) L (va_rf b :: .ref a :: st) h).trans (by cases b <;> exact fin_put (mi := 11) f4_7 ht rfl rfl (by decide +kernel))
theorem d11_9 : decode (mB 11) 9 = .ok (.aload_n 0, 1) := by decide +kernel
theorem x11_9 {d : Nat} {l1 l2 l3 l4 : Option Value} {st : List Value} {a : Nat} {h : Hp} : ex (d) 11 9 [some (.ref a), l1, l2, l3, l4] st h = ex d 11 10 [some (.ref a), l1, l2, l3, l4] (.ref a :: st) h := (ex_of d11_9 (d) [some (.ref a), l1, l2, l3, l4] st h).trans (rfl)
theorem d11_10 : decode (mB 11) 10 = .ok (.aload_n 1, 1) := by decide +kernel
theorem x11_10 {d : Nat} {l0 l2 l3 l4 : Option Value} {st : List Value} {a : Nat} {h : Hp} : ex (d) 11 10 [l0, some (.ref a), l2, l3, l4] st h = ex d 11 11 [l0, some (.ref a), l2, l3, l4] (.ref a :: st) h := (ex_of d11_10 (d) [l0, some (.ref a), l2, l3, l4] st h).trans (rfl)
theorem x11_10n {d : Nat} {l0 l2 l3 l4 : Option Value} {st : List Value} {h : Hp} : ex (d) 11 10 [l0, some .null, l2, l3, l4] st h = ex d 11 11 [l0, some .null, l2, l3, l4] (.null :: st) h := (ex_of d11_10 (d) [l0, some .null, l2, l3, l4] st h).trans (rfl)
theorem x11_10q {d : Nat} {l0 l2 l3 l4 : Option Value} {st : List Value} {a : Option Nat} {h : Hp} : ex (d) 11 10 [l0, some (va_rf a), l2, l3, l4] st h = ex d 11 11 [l0, some (va_rf a), l2, l3, l4] (va_rf a :: st) h := (ex_of d11_10 (d) [l0, some (va_rf a), l2, l3, l4] st h).trans (by cases a <;> rfl)
theorem d11_11 : decode (mB 11) 11 = .ok (.getfield 13, 3) := by decide +kernel
theorem x11_11 {d : Nat} {L : Lc} {st : List Value} {a : Nat} {h : Hp} (ht : isTh (h.2.1 a).1 = true) : ex (d) 11 11 L (.ref a :: st) h = ex d 11 14 L (h.1 a 2 :: st) h := (ex_of d11_11 (d) L (.ref a :: st) h).trans (fin_get (mi := 11) f4_13 ht)
theorem d11_14 : decode (mB 11) 14 = .ok (.putfield 19, 3) := by decide +kernel
theorem x11_14 {d : Nat} {L : Lc} {st : List Value} {a : Nat} {x : Int32} {h : Hp} (ht : (h.2.1 a).1 = 4) : ex (d) 11 14 L (.int x :: .ref a :: st) h = ex d 11 17 L st (mup h.1 a 1 (.int x), h.2) := (ex_of d11_14 (d) L (.int x :: .ref a :: st) h).trans (fin_put (mi := 11) f4_19 ht rfl rfl (by decide +kernel))
theorem d11_17 : decode (mB 11) 17 = .ok (.aload_n 0, 1) := by decide +kernel
theorem x11_17 {d : Nat} {l1 l2 l3 l4 : Option Value} {st : List Value} {a : Nat} {h : Hp} : ex (d) 11 17 [some (.ref a), l1, l2, l3, l4] st h = ex d 11 18 [some (.ref a), l1, l2, l3, l4] (.ref a :: st) h := (ex_of d11_17 (d) [some (.ref a), l1, l2, l3, l4] st h).trans (rfl)
theorem d11_18 : decode (mB 11) 18 = .ok (.aload_n 1, 1) := by decide +kernel
theorem x11_18 {d : Nat} {l0 l2 l3 l4 : Option Value} {st : List Value} {a : Nat} {h : Hp} : ex (d) 11 18 [l0, some (.ref a), l2, l3, l4] st h = ex d 11 19 [l0, some (.ref a), l2, l3, l4] (.ref a :: st) h := (ex_of d11_18 (d) [l0, some (.ref a), l2, l3, l4] st h).trans (rfl)
theorem x11_18n {d : Nat} {l0 l2 l3 l4 : Option Value} {st : List Value} {h : Hp} : ex (d) 11 18 [l0, some .null, l2, l3, l4] st h = ex d 11 19 [l0, some .null, l2, l3, l4] (.null :: st) h := (ex_of d11_18 (d) [l0, some .null, l2, l3, l4] st h).trans (rfl)
theorem x11_18q {d : Nat} {l0 l2 l3 l4 : Option Value} {st : List Value} {a : Option Nat} {h : Hp} : ex (d) 11 18 [l0, some (va_rf a), l2, l3, l4] st h = ex d 11 19 [l0, some (va_rf a), l2, l3, l4] (va_rf a :: st) h := (ex_of d11_18 (d) [l0, some (va_rf a), l2, l3, l4] st h).trans (by cases a <;> rfl)
theorem d11_19 : decode (mB 11) 19 = .ok (.getfield 20, 3) := by decide +kernel
theorem x11_19 {d : Nat} {L : Lc} {st : List Value} {a : Nat} {h : Hp} (ht : isTh (h.2.1 a).1 = true) : ex (d) 11 19 L (.ref a :: st) h = ex d 11 22 L (h.1 a 3 :: st) h := (ex_of d11_19 (d) L (.ref a :: st) h).trans (fin_get (mi := 11) f4_20 ht)
theorem d11_22 : decode (mB 11) 22 = .ok (.putfield 24, 3) := by decide +kernel
theorem x11_22 {d : Nat} {L : Lc} {st : List Value} {a b : Nat} {h : Hp} (ht : (h.2.1 a).1 = 4) : ex (d) 11 22 L (.ref b :: .ref a :: st) h = ex d 11 25 L st (mup h.1 a 2 (.ref b), h.2) := (ex_of d11_22 (d) L (.ref b :: .ref a :: st) h).trans (fin_put (mi := 11) f4_24 ht rfl rfl (by decide +kernel))
theorem x11_22n {d : Nat} {L : Lc} {st : List Value} {a : Nat} {h : Hp} (ht : (h.2.1 a).1 = 4) : ex (d) 11 22 L (.null :: .ref a :: st) h = ex d 11 25 L st (mup h.1 a 2 .null, h.2) := (ex_of d11_22 (d) L (.null :: .ref a :: st) h).trans (fin_put (mi := 11) f4_24 ht rfl rfl (by decide +kernel))
theorem x11_22q {d : Nat} {L : Lc} {st : List Value} {a : Nat} {b : Option Nat} {h : Hp} (ht : (h.2.1 a).1 = 4) : ex (d) 11 22 L (va_rf b :: .ref a :: st) h = ex d 11 25 L st (mup h.1 a 2 (va_rf b), h.2) := (ex_of d11_22 (d) L (va_rf b :: .ref a :: st) h).trans (by cases b <;> exact fin_put (mi := 11) f4_24 ht rfl rfl (by decide +kernel))
theorem d11_25 : decode (mB 11) 25 = .ok (.aload_n 0, 1) := by decide +kernel
theorem x11_25 {d : Nat} {l1 l2 l3 l4 : Option Value} {st : List Value} {a : Nat} {h : Hp} : ex (d) 11 25 [some (.ref a), l1, l2, l3, l4] st h = ex d 11 26 [some (.ref a), l1, l2, l3, l4] (.ref a :: st) h := (ex_of d11_25 (d) [some (.ref a), l1, l2, l3, l4] st h).trans (rfl)
theorem d11_26 : decode (mB 11) 26 = .ok (.aload_n 1, 1) := by decide +kernel
theorem x11_26 {d : Nat} {l0 l2 l3 l4 : Option Value} {st : List Value} {a : Nat} {h : Hp} : ex (d) 11 26 [l0, some (.ref a), l2, l3, l4] st h = ex d 11 27 [l0, some (.ref a), l2, l3, l4] (.ref a :: st) h := (ex_of d11_26 (d) [l0, some (.ref a), l2, l3, l4] st h).trans (rfl)
theorem x11_26n {d : Nat} {l0 l2 l3 l4 : Option Value} {st : List Value} {h : Hp} : ex (d) 11 26 [l0, some .null, l2, l3, l4] st h = ex d 11 27 [l0, some .null, l2, l3, l4] (.null :: st) h := (ex_of d11_26 (d) [l0, some .null, l2, l3, l4] st h).trans (rfl)
theorem x11_26q {d : Nat} {l0 l2 l3 l4 : Option Value} {st : List Value} {a : Option Nat} {h : Hp} : ex (d) 11 26 [l0, some (va_rf a), l2, l3, l4] st h = ex d 11 27 [l0, some (va_rf a), l2, l3, l4] (va_rf a :: st) h := (ex_of d11_26 (d) [l0, some (va_rf a), l2, l3, l4] st h).trans (by cases a <;> rfl)
theorem d11_27 : decode (mB 11) 27 = .ok (.getfield 25, 3) := by decide +kernel
theorem x11_27 {d : Nat} {L : Lc} {st : List Value} {a : Nat} {h : Hp} (ht : isTh (h.2.1 a).1 = true) : ex (d) 11 27 L (.ref a :: st) h = ex d 11 30 L (h.1 a 4 :: st) h := (ex_of d11_27 (d) L (.ref a :: st) h).trans (fin_get (mi := 11) f4_25 ht)
theorem d11_30 : decode (mB 11) 30 = .ok (.putfield 28, 3) := by decide +kernel
theorem x11_30 {d : Nat} {L : Lc} {st : List Value} {a : Nat} {x : Int32} {h : Hp} (ht : (h.2.1 a).1 = 4) : ex (d) 11 30 L (.int x :: .ref a :: st) h = ex d 11 33 L st (mup h.1 a 3 (.int x), h.2) := (ex_of d11_30 (d) L (.int x :: .ref a :: st) h).trans (fin_put (mi := 11) f4_28 ht rfl rfl (by decide +kernel))
theorem d11_33 : decode (mB 11) 33 = .ok (.aload_n 0, 1) := by decide +kernel
theorem x11_33 {d : Nat} {l1 l2 l3 l4 : Option Value} {st : List Value} {a : Nat} {h : Hp} : ex (d) 11 33 [some (.ref a), l1, l2, l3, l4] st h = ex d 11 34 [some (.ref a), l1, l2, l3, l4] (.ref a :: st) h := (ex_of d11_33 (d) [some (.ref a), l1, l2, l3, l4] st h).trans (rfl)
theorem d11_34 : decode (mB 11) 34 = .ok (.iload_n 2, 1) := by decide +kernel
theorem x11_34 {d : Nat} {l0 l1 l3 l4 : Option Value} {st : List Value} {x : Int32} {h : Hp} : ex (d) 11 34 [l0, l1, some (.int x), l3, l4] st h = ex d 11 35 [l0, l1, some (.int x), l3, l4] (.int x :: st) h := (ex_of d11_34 (d) [l0, l1, some (.int x), l3, l4] st h).trans (rfl)
theorem d11_35 : decode (mB 11) 35 = .ok (.putfield 29, 3) := by decide +kernel
theorem x11_35 {d : Nat} {L : Lc} {st : List Value} {a : Nat} {x : Int32} {h : Hp} (ht : (h.2.1 a).1 = 4) : ex (d) 11 35 L (.int x :: .ref a :: st) h = ex d 11 38 L st (mup h.1 a 4 (.int x), h.2) := (ex_of d11_35 (d) L (.int x :: .ref a :: st) h).trans (fin_put (mi := 11) f4_29 ht rfl rfl (by decide +kernel))
theorem d11_38 : decode (mB 11) 38 = .ok (.aload_n 0, 1) := by decide +kernel
theorem x11_38 {d : Nat} {l1 l2 l3 l4 : Option Value} {st : List Value} {a : Nat} {h : Hp} : ex (d) 11 38 [some (.ref a), l1, l2, l3, l4] st h = ex d 11 39 [some (.ref a), l1, l2, l3, l4] (.ref a :: st) h := (ex_of d11_38 (d) [some (.ref a), l1, l2, l3, l4] st h).trans (rfl)
theorem d11_39 : decode (mB 11) 39 = .ok (.aload_n 3, 1) := by decide +kernel
theorem x11_39 {d : Nat} {l0 l1 l2 l4 : Option Value} {st : List Value} {a : Nat} {h : Hp} : ex (d) 11 39 [l0, l1, l2, some (.ref a), l4] st h = ex d 11 40 [l0, l1, l2, some (.ref a), l4] (.ref a :: st) h := (ex_of d11_39 (d) [l0, l1, l2, some (.ref a), l4] st h).trans (rfl)
theorem x11_39n {d : Nat} {l0 l1 l2 l4 : Option Value} {st : List Value} {h : Hp} : ex (d) 11 39 [l0, l1, l2, some .null, l4] st h = ex d 11 40 [l0, l1, l2, some .null, l4] (.null :: st) h := (ex_of d11_39 (d) [l0, l1, l2, some .null, l4] st h).trans (rfl)
theorem x11_39q {d : Nat} {l0 l1 l2 l4 : Option Value} {st : List Value} {a : Option Nat} {h : Hp} : ex (d) 11 39 [l0, l1, l2, some (va_rf a), l4] st h = ex d 11 40 [l0, l1, l2, some (va_rf a), l4] (va_rf a :: st) h := (ex_of d11_39 (d) [l0, l1, l2, some (va_rf a), l4] st h).trans (by cases a <;> rfl)
theorem d11_40 : decode (mB 11) 40 = .ok (.putfield 32, 3) := by decide +kernel
theorem x11_40 {d : Nat} {L : Lc} {st : List Value} {a b : Nat} {h : Hp} (ht : (h.2.1 a).1 = 4) : ex (d) 11 40 L (.ref b :: .ref a :: st) h = ex d 11 43 L st (mup h.1 a 5 (.ref b), h.2) := (ex_of d11_40 (d) L (.ref b :: .ref a :: st) h).trans (fin_put (mi := 11) f4_32 ht rfl rfl (by decide +kernel))
theorem x11_40n {d : Nat} {L : Lc} {st : List Value} {a : Nat} {h : Hp} (ht : (h.2.1 a).1 = 4) : ex (d) 11 40 L (.null :: .ref a :: st) h = ex d 11 43 L st (mup h.1 a 5 .null, h.2) := (ex_of d11_40 (d) L (.null :: .ref a :: st) h).trans (fin_put (mi := 11) f4_32 ht rfl rfl (by decide +kernel))
theorem x11_40q {d : Nat} {L : Lc} {st : List Value} {a : Nat} {b : Option Nat} {h : Hp} (ht : (h.2.1 a).1 = 4) : ex (d) 11 40 L (va_rf b :: .ref a :: st) h = ex d 11 43 L st (mup h.1 a 5 (va_rf b), h.2) := (ex_of d11_40 (d) L (va_rf b :: .ref a :: st) h).trans (by cases b <;> exact fin_put (mi := 11) f4_32 ht rfl rfl (by decide +kernel))
theorem d11_43 : decode (mB 11) 43 = .ok (.aload_n 0, 1) := by decide +kernel
theorem x11_43 {d : Nat} {l1 l2 l3 l4 : Option Value} {st : List Value} {a : Nat} {h : Hp} : ex (d) 11 43 [some (.ref a), l1, l2, l3, l4] st h = ex d 11 44 [some (.ref a), l1, l2, l3, l4] (.ref a :: st) h := (ex_of d11_43 (d) [some (.ref a), l1, l2, l3, l4] st h).trans (rfl)
theorem d11_44 : decode (mB 11) 44 = .ok (.iload 4, 2) := by decide +kernel
theorem x11_44 {d : Nat} {l0 l1 l2 l3 : Option Value} {st : List Value} {x : Int32} {h : Hp} : ex (d) 11 44 [l0, l1, l2, l3, some (.int x)] st h = ex d 11 46 [l0, l1, l2, l3, some (.int x)] (.int x :: st) h := (ex_of d11_44 (d) [l0, l1, l2, l3, some (.int x)] st h).trans (rfl)
theorem d11_46 : decode (mB 11) 46 = .ok (.putfield 36, 3) := by decide +kernel
theorem x11_46 {d : Nat} {L : Lc} {st : List Value} {a : Nat} {x : Int32} {h : Hp} (ht : (h.2.1 a).1 = 4) : ex (d) 11 46 L (.int x :: .ref a :: st) h = ex d 11 49 L st (mup h.1 a 6 (.int x), h.2) := (ex_of d11_46 (d) L (.int x :: .ref a :: st) h).trans (fin_put (mi := 11) f4_36 ht rfl rfl (by decide +kernel))
theorem d11_49 : decode (mB 11) 49 = .ok (.return_, 1) := by decide +kernel
theorem x11_49 {d : Nat} {L : Lc}  {h : Hp} : ex (d) 11 49 L [] h = some (none, h) := (ex_of d11_49 (d) L [] h).trans (rfl)
theorem d12_0 : decode (mB 12) 0 = .ok (.aload_n 0, 1) := by decide +kernel
theorem x12_0 {d : Nat} {l1 : Option Value} {st : List Value} {a : Nat} {h : Hp} : ex (d) 12 0 [some (.ref a), l1] st h = ex d 12 1 [some (.ref a), l1] (.ref a :: st) h := (ex_of d12_0 (d) [some (.ref a), l1] st h).trans (rfl)
theorem d12_1 : decode (mB 12) 1 = .ok (.getfield 7, 3) := by decide +kernel
theorem x12_1 {d : Nat} {L : Lc} {st : List Value} {a : Nat} {h : Hp} (ht : (h.2.1 a).1 = 4) : ex (d) 12 1 L (.ref a :: st) h = ex d 12 4 L (h.1 a 0 :: st) h := (ex_of d12_1 (d) L (.ref a :: st) h).trans (fin_get (mi := 12) f4_7 (tg1 ht rfl))
theorem d12_4 : decode (mB 12) 4 = .ok (.aload_n 0, 1) := by decide +kernel
theorem x12_4 {d : Nat} {l1 : Option Value} {st : List Value} {a : Nat} {h : Hp} : ex (d) 12 4 [some (.ref a), l1] st h = ex d 12 5 [some (.ref a), l1] (.ref a :: st) h := (ex_of d12_4 (d) [some (.ref a), l1] st h).trans (rfl)
theorem d12_5 : decode (mB 12) 5 = .ok (.getfield 19, 3) := by decide +kernel
theorem x12_5 {d : Nat} {L : Lc} {st : List Value} {a : Nat} {h : Hp} (ht : (h.2.1 a).1 = 4) : ex (d) 12 5 L (.ref a :: st) h = ex d 12 8 L (h.1 a 1 :: st) h := (ex_of d12_5 (d) L (.ref a :: st) h).trans (fin_get (mi := 12) f4_19 (tg1 ht rfl))
theorem d12_8 : decode (mB 12) 8 = .ok (.aload_n 0, 1) := by decide +kernel
theorem x12_8 {d : Nat} {l1 : Option Value} {st : List Value} {a : Nat} {h : Hp} : ex (d) 12 8 [some (.ref a), l1] st h = ex d 12 9 [some (.ref a), l1] (.ref a :: st) h := (ex_of d12_8 (d) [some (.ref a), l1] st h).trans (rfl)
theorem d12_9 : decode (mB 12) 9 = .ok (.getfield 24, 3) := by decide +kernel
theorem x12_9 {d : Nat} {L : Lc} {st : List Value} {a : Nat} {h : Hp} (ht : (h.2.1 a).1 = 4) : ex (d) 12 9 L (.ref a :: st) h = ex d 12 12 L (h.1 a 2 :: st) h := (ex_of d12_9 (d) L (.ref a :: st) h).trans (fin_get (mi := 12) f4_24 (tg1 ht rfl))
theorem d12_12 : decode (mB 12) 12 = .ok (.aload_n 0, 1) := by decide +kernel
theorem x12_12 {d : Nat} {l1 : Option Value} {st : List Value} {a : Nat} {h : Hp} : ex (d) 12 12 [some (.ref a), l1] st h = ex d 12 13 [some (.ref a), l1] (.ref a :: st) h := (ex_of d12_12 (d) [some (.ref a), l1] st h).trans (rfl)
theorem d12_13 : decode (mB 12) 13 = .ok (.getfield 28, 3) := by decide +kernel
theorem x12_13 {d : Nat} {L : Lc} {st : List Value} {a : Nat} {h : Hp} (ht : (h.2.1 a).1 = 4) : ex (d) 12 13 L (.ref a :: st) h = ex d 12 16 L (h.1 a 3 :: st) h := (ex_of d12_13 (d) L (.ref a :: st) h).trans (fin_get (mi := 12) f4_28 (tg1 ht rfl))
theorem d12_16 : decode (mB 12) 16 = .ok (.invokevirtual 39, 3) := by decide +kernel
theorem x12_16 {d : Nat} {L : Lc} {a : Nat} {v0 : Int32} {v1 : Value} {v2 : Int32} {h : Hp} (ht : isTh (h.2.1 a).1 = true) (hv1 : isR v1 = true) : ex (d + 1) 12 16 L (.int v2 :: v1 :: .int v0 :: .ref a :: []) h = bnd (ex d 42 0 [some (.ref a), some (.int v0), some v1, some (.int v2)] [] h) (fun v h' => ex (d + 1) 12 19 L (v.toList ++ []) h') := (ex_of d12_16 (d + 1) L (.int v2 :: v1 :: .int v0 :: .ref a :: []) h).trans (fin_viT (mi := 12) i4_39 ht (by decide +kernel) rfl (by simp [cat1_i, cat1_r, isR_cat1 hv1]) (by simp) (Nat.le_of_ble_eq_true rfl))
theorem d12_19 : decode (mB 12) 19 = .ok (.aload_n 1, 1) := by decide +kernel
theorem x12_19 {d : Nat} {l0 : Option Value} {st : List Value} {a : Nat} {h : Hp} : ex (d) 12 19 [l0, some (.ref a)] st h = ex d 12 20 [l0, some (.ref a)] (.ref a :: st) h := (ex_of d12_19 (d) [l0, some (.ref a)] st h).trans (rfl)
theorem x12_19n {d : Nat} {l0 : Option Value} {st : List Value} {h : Hp} : ex (d) 12 19 [l0, some .null] st h = ex d 12 20 [l0, some .null] (.null :: st) h := (ex_of d12_19 (d) [l0, some .null] st h).trans (rfl)
theorem x12_19q {d : Nat} {l0 : Option Value} {st : List Value} {a : Option Nat} {h : Hp} : ex (d) 12 19 [l0, some (va_rf a)] st h = ex d 12 20 [l0, some (va_rf a)] (va_rf a :: st) h := (ex_of d12_19 (d) [l0, some (va_rf a)] st h).trans (by cases a <;> rfl)
theorem d12_20 : decode (mB 12) 20 = .ok (.aload_n 0, 1) := by decide +kernel
theorem x12_20 {d : Nat} {l1 : Option Value} {st : List Value} {a : Nat} {h : Hp} : ex (d) 12 20 [some (.ref a), l1] st h = ex d 12 21 [some (.ref a), l1] (.ref a :: st) h := (ex_of d12_20 (d) [some (.ref a), l1] st h).trans (rfl)
theorem d12_21 : decode (mB 12) 21 = .ok (.getfield 29, 3) := by decide +kernel
theorem x12_21 {d : Nat} {L : Lc} {st : List Value} {a : Nat} {h : Hp} (ht : (h.2.1 a).1 = 4) : ex (d) 12 21 L (.ref a :: st) h = ex d 12 24 L (h.1 a 4 :: st) h := (ex_of d12_21 (d) L (.ref a :: st) h).trans (fin_get (mi := 12) f4_29 (tg1 ht rfl))
theorem d12_24 : decode (mB 12) 24 = .ok (.putfield 43, 3) := by decide +kernel
theorem x12_24 {d : Nat} {L : Lc} {st : List Value} {a : Nat} {x : Int32} {h : Hp} (ht : (h.2.1 a).1 = 10) : ex (d) 12 24 L (.int x :: .ref a :: st) h = ex d 12 27 L st (mup h.1 a 11 (.int x), h.2) := (ex_of d12_24 (d) L (.int x :: .ref a :: st) h).trans (fin_put (mi := 12) f4_43 ht rfl rfl (by decide +kernel))
theorem d12_27 : decode (mB 12) 27 = .ok (.aload_n 0, 1) := by decide +kernel
theorem x12_27 {d : Nat} {l1 : Option Value} {st : List Value} {a : Nat} {h : Hp} : ex (d) 12 27 [some (.ref a), l1] st h = ex d 12 28 [some (.ref a), l1] (.ref a :: st) h := (ex_of d12_27 (d) [some (.ref a), l1] st h).trans (rfl)
theorem d12_28 : decode (mB 12) 28 = .ok (.getfield 32, 3) := by decide +kernel
theorem x12_28 {d : Nat} {L : Lc} {st : List Value} {a : Nat} {h : Hp} (ht : (h.2.1 a).1 = 4) : ex (d) 12 28 L (.ref a :: st) h = ex d 12 31 L (h.1 a 5 :: st) h := (ex_of d12_28 (d) L (.ref a :: st) h).trans (fin_get (mi := 12) f4_32 (tg1 ht rfl))
theorem d12_31 : decode (mB 12) 31 = .ok (.ifnull 14, 3) := by decide +kernel
theorem x12_31n {d : Nat} {L : Lc} {st : List Value} {h : Hp} : ex (d) 12 31 L (.null :: st) h = ex d 12 45 L st h := (ex_of d12_31 (d) L (.null :: st) h).trans (rfl)
theorem x12_31 {d : Nat} {L : Lc} {st : List Value} {a : Nat} {h : Hp} : ex (d) 12 31 L (.ref a :: st) h = ex d 12 34 L st h := (ex_of d12_31 (d) L (.ref a :: st) h).trans (rfl)
theorem d12_34 : decode (mB 12) 34 = .ok (.aload_n 0, 1) := by decide +kernel
theorem x12_34 {d : Nat} {l1 : Option Value} {st : List Value} {a : Nat} {h : Hp} : ex (d) 12 34 [some (.ref a), l1] st h = ex d 12 35 [some (.ref a), l1] (.ref a :: st) h := (ex_of d12_34 (d) [some (.ref a), l1] st h).trans (rfl)
theorem d12_35 : decode (mB 12) 35 = .ok (.getfield 32, 3) := by decide +kernel
theorem x12_35 {d : Nat} {L : Lc} {st : List Value} {a : Nat} {h : Hp} (ht : (h.2.1 a).1 = 4) : ex (d) 12 35 L (.ref a :: st) h = ex d 12 38 L (h.1 a 5 :: st) h := (ex_of d12_35 (d) L (.ref a :: st) h).trans (fin_get (mi := 12) f4_32 (tg1 ht rfl))
theorem d12_38 : decode (mB 12) 38 = .ok (.aload_n 0, 1) := by decide +kernel
theorem x12_38 {d : Nat} {l1 : Option Value} {st : List Value} {a : Nat} {h : Hp} : ex (d) 12 38 [some (.ref a), l1] st h = ex d 12 39 [some (.ref a), l1] (.ref a :: st) h := (ex_of d12_38 (d) [some (.ref a), l1] st h).trans (rfl)
theorem d12_39 : decode (mB 12) 39 = .ok (.getfield 36, 3) := by decide +kernel
theorem x12_39 {d : Nat} {L : Lc} {st : List Value} {a : Nat} {h : Hp} (ht : (h.2.1 a).1 = 4) : ex (d) 12 39 L (.ref a :: st) h = ex d 12 42 L (h.1 a 6 :: st) h := (ex_of d12_39 (d) L (.ref a :: st) h).trans (fin_get (mi := 12) f4_36 (tg1 ht rfl))
theorem d12_42 : decode (mB 12) 42 = .ok (.putfield 46, 3) := by decide +kernel
theorem x12_42 {d : Nat} {L : Lc} {st : List Value} {a : Nat} {x : Int32} {h : Hp} (ht : (h.2.1 a).1 = 2) : ex (d) 12 42 L (.int x :: .ref a :: st) h = ex d 12 45 L st (mup h.1 a 2 (.int x), h.2) := (ex_of d12_42 (d) L (.int x :: .ref a :: st) h).trans (fin_put (mi := 12) f4_46 ht rfl rfl (by decide +kernel))
theorem d12_45 : decode (mB 12) 45 = .ok (.return_, 1) := by decide +kernel
theorem x12_45 {d : Nat} {L : Lc}  {h : Hp} : ex (d) 12 45 L [] h = some (none, h) := (ex_of d12_45 (d) L [] h).trans (rfl)
theorem d31_0 : decode (mB 31) 0 = .ok (.aload_n 0, 1) := by decide +kernel
theorem x31_0 {d : Nat} {l1 l2 : Option Value} {st : List Value} {a : Nat} {h : Hp} : ex (d) 31 0 [some (.ref a), l1, l2] st h = ex d 31 1 [some (.ref a), l1, l2] (.ref a :: st) h := (ex_of d31_0 (d) [some (.ref a), l1, l2] st h).trans (rfl)
theorem d31_1 : decode (mB 31) 1 = .ok (.invokespecial 1, 3) := by decide +kernel
theorem x31_1 {d : Nat} {L : Lc} {a : Nat} {h : Hp} : ex (d + 1) 31 1 L (.ref a :: []) h = bnd (ex d 1 0 [some (.ref a)] [] h) (fun v h' => ex (d + 1) 31 4 L (v.toList ++ []) h') := (ex_of d31_1 (d + 1) L (.ref a :: []) h).trans (fin_sp (mi := 31) i6_1 (Or.inr rfl) rfl (by simp [cat1_i, cat1_r]) (by simp) (Nat.le_of_ble_eq_true rfl))
theorem d31_4 : decode (mB 31) 4 = .ok (.aload_n 0, 1) := by decide +kernel
theorem x31_4 {d : Nat} {l1 l2 : Option Value} {st : List Value} {a : Nat} {h : Hp} : ex (d) 31 4 [some (.ref a), l1, l2] st h = ex d 31 5 [some (.ref a), l1, l2] (.ref a :: st) h := (ex_of d31_4 (d) [some (.ref a), l1, l2] st h).trans (rfl)
theorem d31_5 : decode (mB 31) 5 = .ok (.aload_n 1, 1) := by decide +kernel
theorem x31_5 {d : Nat} {l0 l2 : Option Value} {st : List Value} {a : Nat} {h : Hp} : ex (d) 31 5 [l0, some (.ref a), l2] st h = ex d 31 6 [l0, some (.ref a), l2] (.ref a :: st) h := (ex_of d31_5 (d) [l0, some (.ref a), l2] st h).trans (rfl)
theorem x31_5n {d : Nat} {l0 l2 : Option Value} {st : List Value} {h : Hp} : ex (d) 31 5 [l0, some .null, l2] st h = ex d 31 6 [l0, some .null, l2] (.null :: st) h := (ex_of d31_5 (d) [l0, some .null, l2] st h).trans (rfl)
theorem x31_5q {d : Nat} {l0 l2 : Option Value} {st : List Value} {a : Option Nat} {h : Hp} : ex (d) 31 5 [l0, some (va_rf a), l2] st h = ex d 31 6 [l0, some (va_rf a), l2] (va_rf a :: st) h := (ex_of d31_5 (d) [l0, some (va_rf a), l2] st h).trans (by cases a <;> rfl)
theorem d31_6 : decode (mB 31) 6 = .ok (.putfield 7, 3) := by decide +kernel
theorem x31_6 {d : Nat} {L : Lc} {st : List Value} {a b : Nat} {h : Hp} (ht : (h.2.1 a).1 = 6) : ex (d) 31 6 L (.ref b :: .ref a :: st) h = ex d 31 9 L st (mup h.1 a 0 (.ref b), h.2) := (ex_of d31_6 (d) L (.ref b :: .ref a :: st) h).trans (fin_put (mi := 31) f6_7 ht rfl rfl (by decide +kernel))
theorem x31_6n {d : Nat} {L : Lc} {st : List Value} {a : Nat} {h : Hp} (ht : (h.2.1 a).1 = 6) : ex (d) 31 6 L (.null :: .ref a :: st) h = ex d 31 9 L st (mup h.1 a 0 .null, h.2) := (ex_of d31_6 (d) L (.null :: .ref a :: st) h).trans (fin_put (mi := 31) f6_7 ht rfl rfl (by decide +kernel))
theorem x31_6q {d : Nat} {L : Lc} {st : List Value} {a : Nat} {b : Option Nat} {h : Hp} (ht : (h.2.1 a).1 = 6) : ex (d) 31 6 L (va_rf b :: .ref a :: st) h = ex d 31 9 L st (mup h.1 a 0 (va_rf b), h.2) := (ex_of d31_6 (d) L (va_rf b :: .ref a :: st) h).trans (by cases b <;> exact fin_put (mi := 31) f6_7 ht rfl rfl (by decide +kernel))
theorem d31_9 : decode (mB 31) 9 = .ok (.aload_n 0, 1) := by decide +kernel
theorem x31_9 {d : Nat} {l1 l2 : Option Value} {st : List Value} {a : Nat} {h : Hp} : ex (d) 31 9 [some (.ref a), l1, l2] st h = ex d 31 10 [some (.ref a), l1, l2] (.ref a :: st) h := (ex_of d31_9 (d) [some (.ref a), l1, l2] st h).trans (rfl)
theorem d31_10 : decode (mB 31) 10 = .ok (.iload_n 2, 1) := by decide +kernel
theorem x31_10 {d : Nat} {l0 l1 : Option Value} {st : List Value} {x : Int32} {h : Hp} : ex (d) 31 10 [l0, l1, some (.int x)] st h = ex d 31 11 [l0, l1, some (.int x)] (.int x :: st) h := (ex_of d31_10 (d) [l0, l1, some (.int x)] st h).trans (rfl)
theorem d31_11 : decode (mB 31) 11 = .ok (.putfield 13, 3) := by decide +kernel
theorem x31_11 {d : Nat} {L : Lc} {st : List Value} {a : Nat} {x : Int32} {h : Hp} (ht : (h.2.1 a).1 = 6) : ex (d) 31 11 L (.int x :: .ref a :: st) h = ex d 31 14 L st (mup h.1 a 1 (.int x), h.2) := (ex_of d31_11 (d) L (.int x :: .ref a :: st) h).trans (fin_put (mi := 31) f6_13 ht rfl rfl (by decide +kernel))
theorem d31_14 : decode (mB 31) 14 = .ok (.aload_n 0, 1) := by decide +kernel
theorem x31_14 {d : Nat} {l1 l2 : Option Value} {st : List Value} {a : Nat} {h : Hp} : ex (d) 31 14 [some (.ref a), l1, l2] st h = ex d 31 15 [some (.ref a), l1, l2] (.ref a :: st) h := (ex_of d31_14 (d) [some (.ref a), l1, l2] st h).trans (rfl)
theorem d31_15 : decode (mB 31) 15 = .ok (.aload_n 1, 1) := by decide +kernel
theorem x31_15 {d : Nat} {l0 l2 : Option Value} {st : List Value} {a : Nat} {h : Hp} : ex (d) 31 15 [l0, some (.ref a), l2] st h = ex d 31 16 [l0, some (.ref a), l2] (.ref a :: st) h := (ex_of d31_15 (d) [l0, some (.ref a), l2] st h).trans (rfl)
theorem x31_15n {d : Nat} {l0 l2 : Option Value} {st : List Value} {h : Hp} : ex (d) 31 15 [l0, some .null, l2] st h = ex d 31 16 [l0, some .null, l2] (.null :: st) h := (ex_of d31_15 (d) [l0, some .null, l2] st h).trans (rfl)
theorem x31_15q {d : Nat} {l0 l2 : Option Value} {st : List Value} {a : Option Nat} {h : Hp} : ex (d) 31 15 [l0, some (va_rf a), l2] st h = ex d 31 16 [l0, some (va_rf a), l2] (va_rf a :: st) h := (ex_of d31_15 (d) [l0, some (va_rf a), l2] st h).trans (by cases a <;> rfl)
theorem d31_16 : decode (mB 31) 16 = .ok (.getfield 17, 3) := by decide +kernel
theorem x31_16 {d : Nat} {L : Lc} {st : List Value} {a : Nat} {h : Hp} (ht : (h.2.1 a).1 = 0) : ex (d) 31 16 L (.ref a :: st) h = ex d 31 19 L (h.1 a 0 :: st) h := (ex_of d31_16 (d) L (.ref a :: st) h).trans (fin_get (mi := 31) f6_17 (tg1 ht rfl))
theorem d31_19 : decode (mB 31) 19 = .ok (.iload_n 2, 1) := by decide +kernel
theorem x31_19 {d : Nat} {l0 l1 : Option Value} {st : List Value} {x : Int32} {h : Hp} : ex (d) 31 19 [l0, l1, some (.int x)] st h = ex d 31 20 [l0, l1, some (.int x)] (.int x :: st) h := (ex_of d31_19 (d) [l0, l1, some (.int x)] st h).trans (rfl)
theorem d31_20 : decode (mB 31) 20 = .ok (.iaload, 1) := by decide +kernel
theorem x31_20 {d : Nat} {L : Lc} {st : List Value} {a j : Nat} {h : Hp} (ht : (h.2.1 a).1 = 20) (hj : j < (h.2.1 a).2) (hb : j < 2147483648) : ex (d) 31 20 L (.int (nI j) :: .ref a :: st) h = ex d 31 21 L (h.1 a j :: st) h := (ex_of d31_20 (d) L (.int (nI j) :: .ref a :: st) h).trans (fin_iaload (Or.inl ht) hj hb)
theorem d31_21 : decode (mB 31) 21 = .ok (.putfield 23, 3) := by decide +kernel
theorem x31_21 {d : Nat} {L : Lc} {st : List Value} {a : Nat} {x : Int32} {h : Hp} (ht : (h.2.1 a).1 = 6) : ex (d) 31 21 L (.int x :: .ref a :: st) h = ex d 31 24 L st (mup h.1 a 2 (.int x), h.2) := (ex_of d31_21 (d) L (.int x :: .ref a :: st) h).trans (fin_put (mi := 31) f6_23 ht rfl rfl (by decide +kernel))
theorem d31_24 : decode (mB 31) 24 = .ok (.return_, 1) := by decide +kernel
theorem x31_24 {d : Nat} {L : Lc}  {h : Hp} : ex (d) 31 24 L [] h = some (none, h) := (ex_of d31_24 (d) L [] h).trans (rfl)
theorem d32_0 : decode (mB 32) 0 = .ok (.aload_n 0, 1) := by decide +kernel
theorem x32_0 {d : Nat} {l1 : Option Value} {st : List Value} {a : Nat} {h : Hp} : ex (d) 32 0 [some (.ref a), l1] st h = ex d 32 1 [some (.ref a), l1] (.ref a :: st) h := (ex_of d32_0 (d) [some (.ref a), l1] st h).trans (rfl)
theorem d32_1 : decode (mB 32) 1 = .ok (.getfield 7, 3) := by decide +kernel
theorem x32_1 {d : Nat} {L : Lc} {st : List Value} {a : Nat} {h : Hp} (ht : (h.2.1 a).1 = 6) : ex (d) 32 1 L (.ref a :: st) h = ex d 32 4 L (h.1 a 0 :: st) h := (ex_of d32_1 (d) L (.ref a :: st) h).trans (fin_get (mi := 32) f6_7 (tg1 ht rfl))
theorem d32_4 : decode (mB 32) 4 = .ok (.getfield 17, 3) := by decide +kernel
theorem x32_4 {d : Nat} {L : Lc} {st : List Value} {a : Nat} {h : Hp} (ht : (h.2.1 a).1 = 0) : ex (d) 32 4 L (.ref a :: st) h = ex d 32 7 L (h.1 a 0 :: st) h := (ex_of d32_4 (d) L (.ref a :: st) h).trans (fin_get (mi := 32) f6_17 (tg1 ht rfl))
theorem d32_7 : decode (mB 32) 7 = .ok (.aload_n 0, 1) := by decide +kernel
theorem x32_7 {d : Nat} {l1 : Option Value} {st : List Value} {a : Nat} {h : Hp} : ex (d) 32 7 [some (.ref a), l1] st h = ex d 32 8 [some (.ref a), l1] (.ref a :: st) h := (ex_of d32_7 (d) [some (.ref a), l1] st h).trans (rfl)
theorem d32_8 : decode (mB 32) 8 = .ok (.getfield 13, 3) := by decide +kernel
theorem x32_8 {d : Nat} {L : Lc} {st : List Value} {a : Nat} {h : Hp} (ht : (h.2.1 a).1 = 6) : ex (d) 32 8 L (.ref a :: st) h = ex d 32 11 L (h.1 a 1 :: st) h := (ex_of d32_8 (d) L (.ref a :: st) h).trans (fin_get (mi := 32) f6_13 (tg1 ht rfl))
theorem d32_11 : decode (mB 32) 11 = .ok (.aload_n 0, 1) := by decide +kernel
theorem x32_11 {d : Nat} {l1 : Option Value} {st : List Value} {a : Nat} {h : Hp} : ex (d) 32 11 [some (.ref a), l1] st h = ex d 32 12 [some (.ref a), l1] (.ref a :: st) h := (ex_of d32_11 (d) [some (.ref a), l1] st h).trans (rfl)
theorem d32_12 : decode (mB 32) 12 = .ok (.getfield 23, 3) := by decide +kernel
theorem x32_12 {d : Nat} {L : Lc} {st : List Value} {a : Nat} {h : Hp} (ht : (h.2.1 a).1 = 6) : ex (d) 32 12 L (.ref a :: st) h = ex d 32 15 L (h.1 a 2 :: st) h := (ex_of d32_12 (d) L (.ref a :: st) h).trans (fin_get (mi := 32) f6_23 (tg1 ht rfl))
theorem d32_15 : decode (mB 32) 15 = .ok (.iastore, 1) := by decide +kernel
theorem x32_15 {d : Nat} {L : Lc} {st : List Value} {a j : Nat} {x : Int32} {h : Hp} (ht : (h.2.1 a).1 = 20) (hj : j < (h.2.1 a).2) (hb : j < 2147483648) : ex (d) 32 15 L (.int x :: .int (nI j) :: .ref a :: st) h = ex d 32 16 L st (mup h.1 a j (.int x), h.2) := (ex_of d32_15 (d) L (.int x :: .int (nI j) :: .ref a :: st) h).trans (fin_iastore ht hj hb)
theorem d32_16 : decode (mB 32) 16 = .ok (.return_, 1) := by decide +kernel
theorem x32_16 {d : Nat} {L : Lc}  {h : Hp} : ex (d) 32 16 L [] h = some (none, h) := (ex_of d32_16 (d) L [] h).trans (rfl)
theorem d33_0 : decode (mB 33) 0 = .ok (.aload_n 0, 1) := by decide +kernel
theorem x33_0 {d : Nat} {l1 l2 l3 : Option Value} {st : List Value} {a : Nat} {h : Hp} : ex (d) 33 0 [some (.ref a), l1, l2, l3] st h = ex d 33 1 [some (.ref a), l1, l2, l3] (.ref a :: st) h := (ex_of d33_0 (d) [some (.ref a), l1, l2, l3] st h).trans (rfl)
theorem d33_1 : decode (mB 33) 1 = .ok (.invokespecial 1, 3) := by decide +kernel
theorem x33_1 {d : Nat} {L : Lc} {a : Nat} {h : Hp} : ex (d + 1) 33 1 L (.ref a :: []) h = bnd (ex d 1 0 [some (.ref a)] [] h) (fun v h' => ex (d + 1) 33 4 L (v.toList ++ []) h') := (ex_of d33_1 (d + 1) L (.ref a :: []) h).trans (fin_sp (mi := 33) i7_1 (Or.inr rfl) rfl (by simp [cat1_i, cat1_r]) (by simp) (Nat.le_of_ble_eq_true rfl))
theorem d33_4 : decode (mB 33) 4 = .ok (.aload_n 0, 1) := by decide +kernel
theorem x33_4 {d : Nat} {l1 l2 l3 : Option Value} {st : List Value} {a : Nat} {h : Hp} : ex (d) 33 4 [some (.ref a), l1, l2, l3] st h = ex d 33 5 [some (.ref a), l1, l2, l3] (.ref a :: st) h := (ex_of d33_4 (d) [some (.ref a), l1, l2, l3] st h).trans (rfl)
theorem d33_5 : decode (mB 33) 5 = .ok (.aload_n 1, 1) := by decide +kernel
theorem x33_5 {d : Nat} {l0 l2 l3 : Option Value} {st : List Value} {a : Nat} {h : Hp} : ex (d) 33 5 [l0, some (.ref a), l2, l3] st h = ex d 33 6 [l0, some (.ref a), l2, l3] (.ref a :: st) h := (ex_of d33_5 (d) [l0, some (.ref a), l2, l3] st h).trans (rfl)
theorem x33_5n {d : Nat} {l0 l2 l3 : Option Value} {st : List Value} {h : Hp} : ex (d) 33 5 [l0, some .null, l2, l3] st h = ex d 33 6 [l0, some .null, l2, l3] (.null :: st) h := (ex_of d33_5 (d) [l0, some .null, l2, l3] st h).trans (rfl)
theorem x33_5q {d : Nat} {l0 l2 l3 : Option Value} {st : List Value} {a : Option Nat} {h : Hp} : ex (d) 33 5 [l0, some (va_rf a), l2, l3] st h = ex d 33 6 [l0, some (va_rf a), l2, l3] (va_rf a :: st) h := (ex_of d33_5 (d) [l0, some (va_rf a), l2, l3] st h).trans (by cases a <;> rfl)
theorem d33_6 : decode (mB 33) 6 = .ok (.putfield 7, 3) := by decide +kernel
theorem x33_6 {d : Nat} {L : Lc} {st : List Value} {a b : Nat} {h : Hp} (ht : (h.2.1 a).1 = 7) : ex (d) 33 6 L (.ref b :: .ref a :: st) h = ex d 33 9 L st (mup h.1 a 0 (.ref b), h.2) := (ex_of d33_6 (d) L (.ref b :: .ref a :: st) h).trans (fin_put (mi := 33) f7_7 ht rfl rfl (by decide +kernel))
theorem x33_6n {d : Nat} {L : Lc} {st : List Value} {a : Nat} {h : Hp} (ht : (h.2.1 a).1 = 7) : ex (d) 33 6 L (.null :: .ref a :: st) h = ex d 33 9 L st (mup h.1 a 0 .null, h.2) := (ex_of d33_6 (d) L (.null :: .ref a :: st) h).trans (fin_put (mi := 33) f7_7 ht rfl rfl (by decide +kernel))
theorem x33_6q {d : Nat} {L : Lc} {st : List Value} {a : Nat} {b : Option Nat} {h : Hp} (ht : (h.2.1 a).1 = 7) : ex (d) 33 6 L (va_rf b :: .ref a :: st) h = ex d 33 9 L st (mup h.1 a 0 (va_rf b), h.2) := (ex_of d33_6 (d) L (va_rf b :: .ref a :: st) h).trans (by cases b <;> exact fin_put (mi := 33) f7_7 ht rfl rfl (by decide +kernel))
theorem d33_9 : decode (mB 33) 9 = .ok (.aload_n 0, 1) := by decide +kernel
theorem x33_9 {d : Nat} {l1 l2 l3 : Option Value} {st : List Value} {a : Nat} {h : Hp} : ex (d) 33 9 [some (.ref a), l1, l2, l3] st h = ex d 33 10 [some (.ref a), l1, l2, l3] (.ref a :: st) h := (ex_of d33_9 (d) [some (.ref a), l1, l2, l3] st h).trans (rfl)
theorem d33_10 : decode (mB 33) 10 = .ok (.iload_n 2, 1) := by decide +kernel
theorem x33_10 {d : Nat} {l0 l1 l3 : Option Value} {st : List Value} {x : Int32} {h : Hp} : ex (d) 33 10 [l0, l1, some (.int x), l3] st h = ex d 33 11 [l0, l1, some (.int x), l3] (.int x :: st) h := (ex_of d33_10 (d) [l0, l1, some (.int x), l3] st h).trans (rfl)
theorem d33_11 : decode (mB 33) 11 = .ok (.putfield 13, 3) := by decide +kernel
theorem x33_11 {d : Nat} {L : Lc} {st : List Value} {a : Nat} {x : Int32} {h : Hp} (ht : (h.2.1 a).1 = 7) : ex (d) 33 11 L (.int x :: .ref a :: st) h = ex d 33 14 L st (mup h.1 a 1 (.int x), h.2) := (ex_of d33_11 (d) L (.int x :: .ref a :: st) h).trans (fin_put (mi := 33) f7_13 ht rfl rfl (by decide +kernel))
theorem d33_14 : decode (mB 33) 14 = .ok (.aload_n 0, 1) := by decide +kernel
theorem x33_14 {d : Nat} {l1 l2 l3 : Option Value} {st : List Value} {a : Nat} {h : Hp} : ex (d) 33 14 [some (.ref a), l1, l2, l3] st h = ex d 33 15 [some (.ref a), l1, l2, l3] (.ref a :: st) h := (ex_of d33_14 (d) [some (.ref a), l1, l2, l3] st h).trans (rfl)
theorem d33_15 : decode (mB 33) 15 = .ok (.aload_n 1, 1) := by decide +kernel
theorem x33_15 {d : Nat} {l0 l2 l3 : Option Value} {st : List Value} {a : Nat} {h : Hp} : ex (d) 33 15 [l0, some (.ref a), l2, l3] st h = ex d 33 16 [l0, some (.ref a), l2, l3] (.ref a :: st) h := (ex_of d33_15 (d) [l0, some (.ref a), l2, l3] st h).trans (rfl)
theorem x33_15n {d : Nat} {l0 l2 l3 : Option Value} {st : List Value} {h : Hp} : ex (d) 33 15 [l0, some .null, l2, l3] st h = ex d 33 16 [l0, some .null, l2, l3] (.null :: st) h := (ex_of d33_15 (d) [l0, some .null, l2, l3] st h).trans (rfl)
theorem x33_15q {d : Nat} {l0 l2 l3 : Option Value} {st : List Value} {a : Option Nat} {h : Hp} : ex (d) 33 15 [l0, some (va_rf a), l2, l3] st h = ex d 33 16 [l0, some (va_rf a), l2, l3] (va_rf a :: st) h := (ex_of d33_15 (d) [l0, some (va_rf a), l2, l3] st h).trans (by cases a <;> rfl)
theorem d33_16 : decode (mB 33) 16 = .ok (.getfield 17, 3) := by decide +kernel
theorem x33_16 {d : Nat} {L : Lc} {st : List Value} {a : Nat} {h : Hp} (ht : (h.2.1 a).1 = 1) : ex (d) 33 16 L (.ref a :: st) h = ex d 33 19 L (h.1 a 6 :: st) h := (ex_of d33_16 (d) L (.ref a :: st) h).trans (fin_get (mi := 33) f7_17 (tg1 ht rfl))
theorem d33_19 : decode (mB 33) 19 = .ok (.iload_n 2, 1) := by decide +kernel
theorem x33_19 {d : Nat} {l0 l1 l3 : Option Value} {st : List Value} {x : Int32} {h : Hp} : ex (d) 33 19 [l0, l1, some (.int x), l3] st h = ex d 33 20 [l0, l1, some (.int x), l3] (.int x :: st) h := (ex_of d33_19 (d) [l0, l1, some (.int x), l3] st h).trans (rfl)
theorem d33_20 : decode (mB 33) 20 = .ok (.iaload, 1) := by decide +kernel
theorem x33_20 {d : Nat} {L : Lc} {st : List Value} {a j : Nat} {h : Hp} (ht : (h.2.1 a).1 = 20) (hj : j < (h.2.1 a).2) (hb : j < 2147483648) : ex (d) 33 20 L (.int (nI j) :: .ref a :: st) h = ex d 33 21 L (h.1 a j :: st) h := (ex_of d33_20 (d) L (.int (nI j) :: .ref a :: st) h).trans (fin_iaload (Or.inl ht) hj hb)
theorem d33_21 : decode (mB 33) 21 = .ok (.putfield 23, 3) := by decide +kernel
theorem x33_21 {d : Nat} {L : Lc} {st : List Value} {a : Nat} {x : Int32} {h : Hp} (ht : (h.2.1 a).1 = 7) : ex (d) 33 21 L (.int x :: .ref a :: st) h = ex d 33 24 L st (mup h.1 a 2 (.int x), h.2) := (ex_of d33_21 (d) L (.int x :: .ref a :: st) h).trans (fin_put (mi := 33) f7_23 ht rfl rfl (by decide +kernel))
theorem d33_24 : decode (mB 33) 24 = .ok (.aload_n 0, 1) := by decide +kernel
theorem x33_24 {d : Nat} {l1 l2 l3 : Option Value} {st : List Value} {a : Nat} {h : Hp} : ex (d) 33 24 [some (.ref a), l1, l2, l3] st h = ex d 33 25 [some (.ref a), l1, l2, l3] (.ref a :: st) h := (ex_of d33_24 (d) [some (.ref a), l1, l2, l3] st h).trans (rfl)
theorem d33_25 : decode (mB 33) 25 = .ok (.aload_n 1, 1) := by decide +kernel
theorem x33_25 {d : Nat} {l0 l2 l3 : Option Value} {st : List Value} {a : Nat} {h : Hp} : ex (d) 33 25 [l0, some (.ref a), l2, l3] st h = ex d 33 26 [l0, some (.ref a), l2, l3] (.ref a :: st) h := (ex_of d33_25 (d) [l0, some (.ref a), l2, l3] st h).trans (rfl)
theorem x33_25n {d : Nat} {l0 l2 l3 : Option Value} {st : List Value} {h : Hp} : ex (d) 33 25 [l0, some .null, l2, l3] st h = ex d 33 26 [l0, some .null, l2, l3] (.null :: st) h := (ex_of d33_25 (d) [l0, some .null, l2, l3] st h).trans (rfl)
theorem x33_25q {d : Nat} {l0 l2 l3 : Option Value} {st : List Value} {a : Option Nat} {h : Hp} : ex (d) 33 25 [l0, some (va_rf a), l2, l3] st h = ex d 33 26 [l0, some (va_rf a), l2, l3] (va_rf a :: st) h := (ex_of d33_25 (d) [l0, some (va_rf a), l2, l3] st h).trans (by cases a <;> rfl)
theorem d33_26 : decode (mB 33) 26 = .ok (.getfield 26, 3) := by decide +kernel
theorem x33_26 {d : Nat} {L : Lc} {st : List Value} {a : Nat} {h : Hp} (ht : (h.2.1 a).1 = 1) : ex (d) 33 26 L (.ref a :: st) h = ex d 33 29 L (h.1 a 7 :: st) h := (ex_of d33_26 (d) L (.ref a :: st) h).trans (fin_get (mi := 33) f7_26 (tg1 ht rfl))
theorem d33_29 : decode (mB 33) 29 = .ok (.iload_n 2, 1) := by decide +kernel
theorem x33_29 {d : Nat} {l0 l1 l3 : Option Value} {st : List Value} {x : Int32} {h : Hp} : ex (d) 33 29 [l0, l1, some (.int x), l3] st h = ex d 33 30 [l0, l1, some (.int x), l3] (.int x :: st) h := (ex_of d33_29 (d) [l0, l1, some (.int x), l3] st h).trans (rfl)
theorem d33_30 : decode (mB 33) 30 = .ok (.iaload, 1) := by decide +kernel
theorem x33_30 {d : Nat} {L : Lc} {st : List Value} {a j : Nat} {h : Hp} (ht : (h.2.1 a).1 = 20) (hj : j < (h.2.1 a).2) (hb : j < 2147483648) : ex (d) 33 30 L (.int (nI j) :: .ref a :: st) h = ex d 33 31 L (h.1 a j :: st) h := (ex_of d33_30 (d) L (.int (nI j) :: .ref a :: st) h).trans (fin_iaload (Or.inl ht) hj hb)
theorem d33_31 : decode (mB 33) 31 = .ok (.putfield 29, 3) := by decide +kernel
theorem x33_31 {d : Nat} {L : Lc} {st : List Value} {a : Nat} {x : Int32} {h : Hp} (ht : (h.2.1 a).1 = 7) : ex (d) 33 31 L (.int x :: .ref a :: st) h = ex d 33 34 L st (mup h.1 a 3 (.int x), h.2) := (ex_of d33_31 (d) L (.int x :: .ref a :: st) h).trans (fin_put (mi := 33) f7_29 ht rfl rfl (by decide +kernel))
theorem d33_34 : decode (mB 33) 34 = .ok (.aload_n 0, 1) := by decide +kernel
theorem x33_34 {d : Nat} {l1 l2 l3 : Option Value} {st : List Value} {a : Nat} {h : Hp} : ex (d) 33 34 [some (.ref a), l1, l2, l3] st h = ex d 33 35 [some (.ref a), l1, l2, l3] (.ref a :: st) h := (ex_of d33_34 (d) [some (.ref a), l1, l2, l3] st h).trans (rfl)
theorem d33_35 : decode (mB 33) 35 = .ok (.aload_n 1, 1) := by decide +kernel
theorem x33_35 {d : Nat} {l0 l2 l3 : Option Value} {st : List Value} {a : Nat} {h : Hp} : ex (d) 33 35 [l0, some (.ref a), l2, l3] st h = ex d 33 36 [l0, some (.ref a), l2, l3] (.ref a :: st) h := (ex_of d33_35 (d) [l0, some (.ref a), l2, l3] st h).trans (rfl)
theorem x33_35n {d : Nat} {l0 l2 l3 : Option Value} {st : List Value} {h : Hp} : ex (d) 33 35 [l0, some .null, l2, l3] st h = ex d 33 36 [l0, some .null, l2, l3] (.null :: st) h := (ex_of d33_35 (d) [l0, some .null, l2, l3] st h).trans (rfl)
theorem x33_35q {d : Nat} {l0 l2 l3 : Option Value} {st : List Value} {a : Option Nat} {h : Hp} : ex (d) 33 35 [l0, some (va_rf a), l2, l3] st h = ex d 33 36 [l0, some (va_rf a), l2, l3] (va_rf a :: st) h := (ex_of d33_35 (d) [l0, some (va_rf a), l2, l3] st h).trans (by cases a <;> rfl)
theorem d33_36 : decode (mB 33) 36 = .ok (.getfield 32, 3) := by decide +kernel
theorem x33_36 {d : Nat} {L : Lc} {st : List Value} {a : Nat} {h : Hp} (ht : (h.2.1 a).1 = 1) : ex (d) 33 36 L (.ref a :: st) h = ex d 33 39 L (h.1 a 8 :: st) h := (ex_of d33_36 (d) L (.ref a :: st) h).trans (fin_get (mi := 33) f7_32 (tg1 ht rfl))
theorem d33_39 : decode (mB 33) 39 = .ok (.iload_n 2, 1) := by decide +kernel
theorem x33_39 {d : Nat} {l0 l1 l3 : Option Value} {st : List Value} {x : Int32} {h : Hp} : ex (d) 33 39 [l0, l1, some (.int x), l3] st h = ex d 33 40 [l0, l1, some (.int x), l3] (.int x :: st) h := (ex_of d33_39 (d) [l0, l1, some (.int x), l3] st h).trans (rfl)
theorem d33_40 : decode (mB 33) 40 = .ok (.iaload, 1) := by decide +kernel
theorem x33_40 {d : Nat} {L : Lc} {st : List Value} {a j : Nat} {h : Hp} (ht : (h.2.1 a).1 = 20) (hj : j < (h.2.1 a).2) (hb : j < 2147483648) : ex (d) 33 40 L (.int (nI j) :: .ref a :: st) h = ex d 33 41 L (h.1 a j :: st) h := (ex_of d33_40 (d) L (.int (nI j) :: .ref a :: st) h).trans (fin_iaload (Or.inl ht) hj hb)
theorem d33_41 : decode (mB 33) 41 = .ok (.putfield 35, 3) := by decide +kernel
theorem x33_41 {d : Nat} {L : Lc} {st : List Value} {a : Nat} {x : Int32} {h : Hp} (ht : (h.2.1 a).1 = 7) : ex (d) 33 41 L (.int x :: .ref a :: st) h = ex d 33 44 L st (mup h.1 a 4 (.int x), h.2) := (ex_of d33_41 (d) L (.int x :: .ref a :: st) h).trans (fin_put (mi := 33) f7_35 ht rfl rfl (by decide +kernel))
theorem d33_44 : decode (mB 33) 44 = .ok (.aload_n 0, 1) := by decide +kernel
theorem x33_44 {d : Nat} {l1 l2 l3 : Option Value} {st : List Value} {a : Nat} {h : Hp} : ex (d) 33 44 [some (.ref a), l1, l2, l3] st h = ex d 33 45 [some (.ref a), l1, l2, l3] (.ref a :: st) h := (ex_of d33_44 (d) [some (.ref a), l1, l2, l3] st h).trans (rfl)
theorem d33_45 : decode (mB 33) 45 = .ok (.iload_n 3, 1) := by decide +kernel
theorem x33_45 {d : Nat} {l0 l1 l2 : Option Value} {st : List Value} {x : Int32} {h : Hp} : ex (d) 33 45 [l0, l1, l2, some (.int x)] st h = ex d 33 46 [l0, l1, l2, some (.int x)] (.int x :: st) h := (ex_of d33_45 (d) [l0, l1, l2, some (.int x)] st h).trans (rfl)
theorem d33_46 : decode (mB 33) 46 = .ok (.putfield 38, 3) := by decide +kernel
theorem x33_46 {d : Nat} {L : Lc} {st : List Value} {a : Nat} {x : Int32} {h : Hp} (ht : (h.2.1 a).1 = 7) : ex (d) 33 46 L (.int x :: .ref a :: st) h = ex d 33 49 L st (mup h.1 a 5 (.int x), h.2) := (ex_of d33_46 (d) L (.int x :: .ref a :: st) h).trans (fin_put (mi := 33) f7_38 ht rfl rfl (by decide +kernel))
theorem d33_49 : decode (mB 33) 49 = .ok (.return_, 1) := by decide +kernel
theorem x33_49 {d : Nat} {L : Lc}  {h : Hp} : ex (d) 33 49 L [] h = some (none, h) := (ex_of d33_49 (d) L [] h).trans (rfl)
theorem d34_0 : decode (mB 34) 0 = .ok (.aload_n 0, 1) := by decide +kernel
theorem x34_0 {d : Nat} {l1 : Option Value} {st : List Value} {a : Nat} {h : Hp} : ex (d) 34 0 [some (.ref a), l1] st h = ex d 34 1 [some (.ref a), l1] (.ref a :: st) h := (ex_of d34_0 (d) [some (.ref a), l1] st h).trans (rfl)
theorem d34_1 : decode (mB 34) 1 = .ok (.getfield 7, 3) := by decide +kernel
theorem x34_1 {d : Nat} {L : Lc} {st : List Value} {a : Nat} {h : Hp} (ht : (h.2.1 a).1 = 7) : ex (d) 34 1 L (.ref a :: st) h = ex d 34 4 L (h.1 a 0 :: st) h := (ex_of d34_1 (d) L (.ref a :: st) h).trans (fin_get (mi := 34) f7_7 (tg1 ht rfl))
theorem d34_4 : decode (mB 34) 4 = .ok (.getfield 17, 3) := by decide +kernel
theorem x34_4 {d : Nat} {L : Lc} {st : List Value} {a : Nat} {h : Hp} (ht : (h.2.1 a).1 = 1) : ex (d) 34 4 L (.ref a :: st) h = ex d 34 7 L (h.1 a 6 :: st) h := (ex_of d34_4 (d) L (.ref a :: st) h).trans (fin_get (mi := 34) f7_17 (tg1 ht rfl))
theorem d34_7 : decode (mB 34) 7 = .ok (.aload_n 0, 1) := by decide +kernel
theorem x34_7 {d : Nat} {l1 : Option Value} {st : List Value} {a : Nat} {h : Hp} : ex (d) 34 7 [some (.ref a), l1] st h = ex d 34 8 [some (.ref a), l1] (.ref a :: st) h := (ex_of d34_7 (d) [some (.ref a), l1] st h).trans (rfl)
theorem d34_8 : decode (mB 34) 8 = .ok (.getfield 13, 3) := by decide +kernel
theorem x34_8 {d : Nat} {L : Lc} {st : List Value} {a : Nat} {h : Hp} (ht : (h.2.1 a).1 = 7) : ex (d) 34 8 L (.ref a :: st) h = ex d 34 11 L (h.1 a 1 :: st) h := (ex_of d34_8 (d) L (.ref a :: st) h).trans (fin_get (mi := 34) f7_13 (tg1 ht rfl))
theorem d34_11 : decode (mB 34) 11 = .ok (.aload_n 0, 1) := by decide +kernel
theorem x34_11 {d : Nat} {l1 : Option Value} {st : List Value} {a : Nat} {h : Hp} : ex (d) 34 11 [some (.ref a), l1] st h = ex d 34 12 [some (.ref a), l1] (.ref a :: st) h := (ex_of d34_11 (d) [some (.ref a), l1] st h).trans (rfl)
theorem d34_12 : decode (mB 34) 12 = .ok (.getfield 23, 3) := by decide +kernel
theorem x34_12 {d : Nat} {L : Lc} {st : List Value} {a : Nat} {h : Hp} (ht : (h.2.1 a).1 = 7) : ex (d) 34 12 L (.ref a :: st) h = ex d 34 15 L (h.1 a 2 :: st) h := (ex_of d34_12 (d) L (.ref a :: st) h).trans (fin_get (mi := 34) f7_23 (tg1 ht rfl))
theorem d34_15 : decode (mB 34) 15 = .ok (.iastore, 1) := by decide +kernel
theorem x34_15 {d : Nat} {L : Lc} {st : List Value} {a j : Nat} {x : Int32} {h : Hp} (ht : (h.2.1 a).1 = 20) (hj : j < (h.2.1 a).2) (hb : j < 2147483648) : ex (d) 34 15 L (.int x :: .int (nI j) :: .ref a :: st) h = ex d 34 16 L st (mup h.1 a j (.int x), h.2) := (ex_of d34_15 (d) L (.int x :: .int (nI j) :: .ref a :: st) h).trans (fin_iastore ht hj hb)
theorem d34_16 : decode (mB 34) 16 = .ok (.aload_n 0, 1) := by decide +kernel
theorem x34_16 {d : Nat} {l1 : Option Value} {st : List Value} {a : Nat} {h : Hp} : ex (d) 34 16 [some (.ref a), l1] st h = ex d 34 17 [some (.ref a), l1] (.ref a :: st) h := (ex_of d34_16 (d) [some (.ref a), l1] st h).trans (rfl)
theorem d34_17 : decode (mB 34) 17 = .ok (.getfield 7, 3) := by decide +kernel
theorem x34_17 {d : Nat} {L : Lc} {st : List Value} {a : Nat} {h : Hp} (ht : (h.2.1 a).1 = 7) : ex (d) 34 17 L (.ref a :: st) h = ex d 34 20 L (h.1 a 0 :: st) h := (ex_of d34_17 (d) L (.ref a :: st) h).trans (fin_get (mi := 34) f7_7 (tg1 ht rfl))
theorem d34_20 : decode (mB 34) 20 = .ok (.getfield 26, 3) := by decide +kernel
theorem x34_20 {d : Nat} {L : Lc} {st : List Value} {a : Nat} {h : Hp} (ht : (h.2.1 a).1 = 1) : ex (d) 34 20 L (.ref a :: st) h = ex d 34 23 L (h.1 a 7 :: st) h := (ex_of d34_20 (d) L (.ref a :: st) h).trans (fin_get (mi := 34) f7_26 (tg1 ht rfl))
theorem d34_23 : decode (mB 34) 23 = .ok (.aload_n 0, 1) := by decide +kernel
theorem x34_23 {d : Nat} {l1 : Option Value} {st : List Value} {a : Nat} {h : Hp} : ex (d) 34 23 [some (.ref a), l1] st h = ex d 34 24 [some (.ref a), l1] (.ref a :: st) h := (ex_of d34_23 (d) [some (.ref a), l1] st h).trans (rfl)
theorem d34_24 : decode (mB 34) 24 = .ok (.getfield 13, 3) := by decide +kernel
theorem x34_24 {d : Nat} {L : Lc} {st : List Value} {a : Nat} {h : Hp} (ht : (h.2.1 a).1 = 7) : ex (d) 34 24 L (.ref a :: st) h = ex d 34 27 L (h.1 a 1 :: st) h := (ex_of d34_24 (d) L (.ref a :: st) h).trans (fin_get (mi := 34) f7_13 (tg1 ht rfl))
theorem d34_27 : decode (mB 34) 27 = .ok (.aload_n 0, 1) := by decide +kernel
theorem x34_27 {d : Nat} {l1 : Option Value} {st : List Value} {a : Nat} {h : Hp} : ex (d) 34 27 [some (.ref a), l1] st h = ex d 34 28 [some (.ref a), l1] (.ref a :: st) h := (ex_of d34_27 (d) [some (.ref a), l1] st h).trans (rfl)
theorem d34_28 : decode (mB 34) 28 = .ok (.getfield 29, 3) := by decide +kernel
theorem x34_28 {d : Nat} {L : Lc} {st : List Value} {a : Nat} {h : Hp} (ht : (h.2.1 a).1 = 7) : ex (d) 34 28 L (.ref a :: st) h = ex d 34 31 L (h.1 a 3 :: st) h := (ex_of d34_28 (d) L (.ref a :: st) h).trans (fin_get (mi := 34) f7_29 (tg1 ht rfl))
theorem d34_31 : decode (mB 34) 31 = .ok (.iastore, 1) := by decide +kernel
theorem x34_31 {d : Nat} {L : Lc} {st : List Value} {a j : Nat} {x : Int32} {h : Hp} (ht : (h.2.1 a).1 = 20) (hj : j < (h.2.1 a).2) (hb : j < 2147483648) : ex (d) 34 31 L (.int x :: .int (nI j) :: .ref a :: st) h = ex d 34 32 L st (mup h.1 a j (.int x), h.2) := (ex_of d34_31 (d) L (.int x :: .int (nI j) :: .ref a :: st) h).trans (fin_iastore ht hj hb)
theorem d34_32 : decode (mB 34) 32 = .ok (.aload_n 0, 1) := by decide +kernel
theorem x34_32 {d : Nat} {l1 : Option Value} {st : List Value} {a : Nat} {h : Hp} : ex (d) 34 32 [some (.ref a), l1] st h = ex d 34 33 [some (.ref a), l1] (.ref a :: st) h := (ex_of d34_32 (d) [some (.ref a), l1] st h).trans (rfl)
theorem d34_33 : decode (mB 34) 33 = .ok (.getfield 7, 3) := by decide +kernel
theorem x34_33 {d : Nat} {L : Lc} {st : List Value} {a : Nat} {h : Hp} (ht : (h.2.1 a).1 = 7) : ex (d) 34 33 L (.ref a :: st) h = ex d 34 36 L (h.1 a 0 :: st) h := (ex_of d34_33 (d) L (.ref a :: st) h).trans (fin_get (mi := 34) f7_7 (tg1 ht rfl))
theorem d34_36 : decode (mB 34) 36 = .ok (.getfield 32, 3) := by decide +kernel
theorem x34_36 {d : Nat} {L : Lc} {st : List Value} {a : Nat} {h : Hp} (ht : (h.2.1 a).1 = 1) : ex (d) 34 36 L (.ref a :: st) h = ex d 34 39 L (h.1 a 8 :: st) h := (ex_of d34_36 (d) L (.ref a :: st) h).trans (fin_get (mi := 34) f7_32 (tg1 ht rfl))
theorem d34_39 : decode (mB 34) 39 = .ok (.aload_n 0, 1) := by decide +kernel
theorem x34_39 {d : Nat} {l1 : Option Value} {st : List Value} {a : Nat} {h : Hp} : ex (d) 34 39 [some (.ref a), l1] st h = ex d 34 40 [some (.ref a), l1] (.ref a :: st) h := (ex_of d34_39 (d) [some (.ref a), l1] st h).trans (rfl)
theorem d34_40 : decode (mB 34) 40 = .ok (.getfield 13, 3) := by decide +kernel
theorem x34_40 {d : Nat} {L : Lc} {st : List Value} {a : Nat} {h : Hp} (ht : (h.2.1 a).1 = 7) : ex (d) 34 40 L (.ref a :: st) h = ex d 34 43 L (h.1 a 1 :: st) h := (ex_of d34_40 (d) L (.ref a :: st) h).trans (fin_get (mi := 34) f7_13 (tg1 ht rfl))
theorem d34_43 : decode (mB 34) 43 = .ok (.aload_n 0, 1) := by decide +kernel
theorem x34_43 {d : Nat} {l1 : Option Value} {st : List Value} {a : Nat} {h : Hp} : ex (d) 34 43 [some (.ref a), l1] st h = ex d 34 44 [some (.ref a), l1] (.ref a :: st) h := (ex_of d34_43 (d) [some (.ref a), l1] st h).trans (rfl)
theorem d34_44 : decode (mB 34) 44 = .ok (.getfield 35, 3) := by decide +kernel
theorem x34_44 {d : Nat} {L : Lc} {st : List Value} {a : Nat} {h : Hp} (ht : (h.2.1 a).1 = 7) : ex (d) 34 44 L (.ref a :: st) h = ex d 34 47 L (h.1 a 4 :: st) h := (ex_of d34_44 (d) L (.ref a :: st) h).trans (fin_get (mi := 34) f7_35 (tg1 ht rfl))
theorem d34_47 : decode (mB 34) 47 = .ok (.iastore, 1) := by decide +kernel
theorem x34_47 {d : Nat} {L : Lc} {st : List Value} {a j : Nat} {x : Int32} {h : Hp} (ht : (h.2.1 a).1 = 20) (hj : j < (h.2.1 a).2) (hb : j < 2147483648) : ex (d) 34 47 L (.int x :: .int (nI j) :: .ref a :: st) h = ex d 34 48 L st (mup h.1 a j (.int x), h.2) := (ex_of d34_47 (d) L (.int x :: .int (nI j) :: .ref a :: st) h).trans (fin_iastore ht hj hb)
theorem d34_48 : decode (mB 34) 48 = .ok (.aload_n 1, 1) := by decide +kernel
theorem x34_48 {d : Nat} {l0 : Option Value} {st : List Value} {a : Nat} {h : Hp} : ex (d) 34 48 [l0, some (.ref a)] st h = ex d 34 49 [l0, some (.ref a)] (.ref a :: st) h := (ex_of d34_48 (d) [l0, some (.ref a)] st h).trans (rfl)
theorem x34_48n {d : Nat} {l0 : Option Value} {st : List Value} {h : Hp} : ex (d) 34 48 [l0, some .null] st h = ex d 34 49 [l0, some .null] (.null :: st) h := (ex_of d34_48 (d) [l0, some .null] st h).trans (rfl)
theorem x34_48q {d : Nat} {l0 : Option Value} {st : List Value} {a : Option Nat} {h : Hp} : ex (d) 34 48 [l0, some (va_rf a)] st h = ex d 34 49 [l0, some (va_rf a)] (va_rf a :: st) h := (ex_of d34_48 (d) [l0, some (va_rf a)] st h).trans (by cases a <;> rfl)
theorem d34_49 : decode (mB 34) 49 = .ok (.aload_n 0, 1) := by decide +kernel
theorem x34_49 {d : Nat} {l1 : Option Value} {st : List Value} {a : Nat} {h : Hp} : ex (d) 34 49 [some (.ref a), l1] st h = ex d 34 50 [some (.ref a), l1] (.ref a :: st) h := (ex_of d34_49 (d) [some (.ref a), l1] st h).trans (rfl)
theorem d34_50 : decode (mB 34) 50 = .ok (.getfield 38, 3) := by decide +kernel
theorem x34_50 {d : Nat} {L : Lc} {st : List Value} {a : Nat} {h : Hp} (ht : (h.2.1 a).1 = 7) : ex (d) 34 50 L (.ref a :: st) h = ex d 34 53 L (h.1 a 5 :: st) h := (ex_of d34_50 (d) L (.ref a :: st) h).trans (fin_get (mi := 34) f7_38 (tg1 ht rfl))
theorem d34_53 : decode (mB 34) 53 = .ok (.putfield 41, 3) := by decide +kernel
theorem x34_53 {d : Nat} {L : Lc} {st : List Value} {a : Nat} {x : Int32} {h : Hp} (ht : (h.2.1 a).1 = 10) : ex (d) 34 53 L (.int x :: .ref a :: st) h = ex d 34 56 L st (mup h.1 a 12 (.int x), h.2) := (ex_of d34_53 (d) L (.int x :: .ref a :: st) h).trans (fin_put (mi := 34) f7_41 ht rfl rfl (by decide +kernel))
theorem d34_56 : decode (mB 34) 56 = .ok (.return_, 1) := by decide +kernel
theorem x34_56 {d : Nat} {L : Lc}  {h : Hp} : ex (d) 34 56 L [] h = some (none, h) := (ex_of d34_56 (d) L [] h).trans (rfl)
theorem d35_0 : decode (mB 35) 0 = .ok (.aload_n 0, 1) := by decide +kernel
theorem x35_0 {d : Nat} {l1 l2 l3 : Option Value} {st : List Value} {a : Nat} {h : Hp} : ex (d) 35 0 [some (.ref a), l1, l2, l3] st h = ex d 35 1 [some (.ref a), l1, l2, l3] (.ref a :: st) h := (ex_of d35_0 (d) [some (.ref a), l1, l2, l3] st h).trans (rfl)
theorem d35_1 : decode (mB 35) 1 = .ok (.iload_n 1, 1) := by decide +kernel
theorem x35_1 {d : Nat} {l0 l2 l3 : Option Value} {st : List Value} {x : Int32} {h : Hp} : ex (d) 35 1 [l0, some (.int x), l2, l3] st h = ex d 35 2 [l0, some (.int x), l2, l3] (.int x :: st) h := (ex_of d35_1 (d) [l0, some (.int x), l2, l3] st h).trans (rfl)
theorem d35_2 : decode (mB 35) 2 = .ok (.iload_n 2, 1) := by decide +kernel
theorem x35_2 {d : Nat} {l0 l1 l3 : Option Value} {st : List Value} {x : Int32} {h : Hp} : ex (d) 35 2 [l0, l1, some (.int x), l3] st h = ex d 35 3 [l0, l1, some (.int x), l3] (.int x :: st) h := (ex_of d35_2 (d) [l0, l1, some (.int x), l3] st h).trans (rfl)
theorem d35_3 : decode (mB 35) 3 = .ok (.invokespecial 3, 3) := by decide +kernel
theorem x35_3 {d : Nat} {L : Lc} {a : Nat} {v0 : Int32} {v1 : Int32} {h : Hp} : ex (d + 1) 35 3 L (.int v1 :: .int v0 :: .ref a :: []) h = bnd (ex d 38 0 [some (.ref a), some (.int v0), some (.int v1)] [] h) (fun v h' => ex (d + 1) 35 6 L (v.toList ++ []) h') := (ex_of d35_3 (d + 1) L (.int v1 :: .int v0 :: .ref a :: []) h).trans (fin_sp (mi := 35) i8_3 (Or.inl rfl) rfl (by simp [cat1_i, cat1_r]) (by simp) (Nat.le_of_ble_eq_true rfl))
theorem d35_6 : decode (mB 35) 6 = .ok (.aload_n 0, 1) := by decide +kernel
theorem x35_6 {d : Nat} {l1 l2 l3 : Option Value} {st : List Value} {a : Nat} {h : Hp} : ex (d) 35 6 [some (.ref a), l1, l2, l3] st h = ex d 35 7 [some (.ref a), l1, l2, l3] (.ref a :: st) h := (ex_of d35_6 (d) [some (.ref a), l1, l2, l3] st h).trans (rfl)
theorem d35_7 : decode (mB 35) 7 = .ok (.iload_n 3, 1) := by decide +kernel
theorem x35_7 {d : Nat} {l0 l1 l2 : Option Value} {st : List Value} {x : Int32} {h : Hp} : ex (d) 35 7 [l0, l1, l2, some (.int x)] st h = ex d 35 8 [l0, l1, l2, some (.int x)] (.int x :: st) h := (ex_of d35_7 (d) [l0, l1, l2, some (.int x)] st h).trans (rfl)
theorem d35_8 : decode (mB 35) 8 = .ok (.newarray .int, 2) := by decide +kernel
theorem x35_8 {d : Nat} {L : Lc} {st : List Value} {n : Nat} {h : Hp} (hn : n ≤ 10000) : ex (d) 35 8 L (.int (nI n) :: st) h = ex d 35 10 L (.ref h.2.2.1 :: st) (mnw h.1 h.2.2.1 (fun _ => .int 0), mnw h.2.1 h.2.2.1 (20, n), h.2.2.1 + 1, h.2.2.2 + n) := (ex_of d35_8 (d) L (.int (nI n) :: st) h).trans (fin_nwa hn)
theorem d35_10 : decode (mB 35) 10 = .ok (.putfield 9, 3) := by decide +kernel
theorem x35_10 {d : Nat} {L : Lc} {st : List Value} {a b : Nat} {h : Hp} (ht : (h.2.1 a).1 = 8) : ex (d) 35 10 L (.ref b :: .ref a :: st) h = ex d 35 13 L st (mup h.1 a 6 (.ref b), h.2) := (ex_of d35_10 (d) L (.ref b :: .ref a :: st) h).trans (fin_put (mi := 35) f8_9 ht rfl rfl (by decide +kernel))
theorem x35_10n {d : Nat} {L : Lc} {st : List Value} {a : Nat} {h : Hp} (ht : (h.2.1 a).1 = 8) : ex (d) 35 10 L (.null :: .ref a :: st) h = ex d 35 13 L st (mup h.1 a 6 .null, h.2) := (ex_of d35_10 (d) L (.null :: .ref a :: st) h).trans (fin_put (mi := 35) f8_9 ht rfl rfl (by decide +kernel))
theorem x35_10q {d : Nat} {L : Lc} {st : List Value} {a : Nat} {b : Option Nat} {h : Hp} (ht : (h.2.1 a).1 = 8) : ex (d) 35 10 L (va_rf b :: .ref a :: st) h = ex d 35 13 L st (mup h.1 a 6 (va_rf b), h.2) := (ex_of d35_10 (d) L (va_rf b :: .ref a :: st) h).trans (by cases b <;> exact fin_put (mi := 35) f8_9 ht rfl rfl (by decide +kernel))
theorem d35_13 : decode (mB 35) 13 = .ok (.return_, 1) := by decide +kernel
theorem x35_13 {d : Nat} {L : Lc}  {h : Hp} : ex (d) 35 13 L [] h = some (none, h) := (ex_of d35_13 (d) L [] h).trans (rfl)
theorem d36_0 : decode (mB 36) 0 = .ok (.iload_n 1, 1) := by decide +kernel
theorem x36_0 {d : Nat} {l0 : Option Value} {st : List Value} {x : Int32} {h : Hp} : ex (d) 36 0 [l0, some (.int x)] st h = ex d 36 1 [l0, some (.int x)] (.int x :: st) h := (ex_of d36_0 (d) [l0, some (.int x)] st h).trans (rfl)
theorem d36_1 : decode (mB 36) 1 = .ok (.ifCond .lt 16, 3) := by decide +kernel
theorem x36_1 {d : Nat} {L : Lc} {st : List Value} {x : Int32} {h : Hp} : ex (d) 36 1 L (.int x :: st) h = if x < 0 then ex d 36 17 L st h else ex d 36 4 L st h := (ex_of d36_1 (d) L (.int x :: st) h).trans (fin_brq (off := 16) (tgt := 17) rfl (by decide))
theorem d36_4 : decode (mB 36) 4 = .ok (.iload_n 1, 1) := by decide +kernel
theorem x36_4 {d : Nat} {l0 : Option Value} {st : List Value} {x : Int32} {h : Hp} : ex (d) 36 4 [l0, some (.int x)] st h = ex d 36 5 [l0, some (.int x)] (.int x :: st) h := (ex_of d36_4 (d) [l0, some (.int x)] st h).trans (rfl)
theorem d36_5 : decode (mB 36) 5 = .ok (.aload_n 0, 1) := by decide +kernel
theorem x36_5 {d : Nat} {l1 : Option Value} {st : List Value} {a : Nat} {h : Hp} : ex (d) 36 5 [some (.ref a), l1] st h = ex d 36 6 [some (.ref a), l1] (.ref a :: st) h := (ex_of d36_5 (d) [some (.ref a), l1] st h).trans (rfl)
theorem d36_6 : decode (mB 36) 6 = .ok (.getfield 9, 3) := by decide +kernel
theorem x36_6 {d : Nat} {L : Lc} {st : List Value} {a : Nat} {h : Hp} (ht : (h.2.1 a).1 = 8) : ex (d) 36 6 L (.ref a :: st) h = ex d 36 9 L (h.1 a 6 :: st) h := (ex_of d36_6 (d) L (.ref a :: st) h).trans (fin_get (mi := 36) f8_9 (tg1 ht rfl))
theorem d36_9 : decode (mB 36) 9 = .ok (.arraylength, 1) := by decide +kernel
theorem x36_9 {d : Nat} {L : Lc} {st : List Value} {a : Nat} {h : Hp} (ht : 20 ≤ (h.2.1 a).1 ∧ (h.2.1 a).1 ≤ 30) : ex (d) 36 9 L (.ref a :: st) h = ex d 36 10 L (.int (nI (h.2.1 a).2) :: st) h := (ex_of d36_9 (d) L (.ref a :: st) h).trans (fin_alen ht)
theorem d36_10 : decode (mB 36) 10 = .ok (.if_icmp .ge 7, 3) := by decide +kernel
theorem x36_10 {d : Nat} {L : Lc} {st : List Value} {x y : Int32} {h : Hp} : ex (d) 36 10 L (.int y :: .int x :: st) h = if y ≤ x then ex d 36 17 L st h else ex d 36 13 L st h := (ex_of d36_10 (d) L (.int y :: .int x :: st) h).trans (fin_brq (off := 7) (tgt := 17) rfl (by decide))
theorem d36_13 : decode (mB 36) 13 = .ok (.iconst 1, 1) := by decide +kernel
theorem x36_13 {d : Nat} {L : Lc} {st : List Value} {h : Hp} : ex (d) 36 13 L st h = ex d 36 14 L (.int (nI 1) :: st) h := (ex_of d36_13 (d) L st h).trans (rfl)
theorem d36_14 : decode (mB 36) 14 = .ok (.goto 4, 3) := by decide +kernel
theorem x36_14 {d : Nat} {L : Lc} {st : List Value} {h : Hp} : ex (d) 36 14 L st h = ex d 36 18 L st h := (ex_of d36_14 (d) L st h).trans (rfl)
theorem d36_17 : decode (mB 36) 17 = .ok (.iconst 0, 1) := by decide +kernel
theorem x36_17 {d : Nat} {L : Lc} {st : List Value} {h : Hp} : ex (d) 36 17 L st h = ex d 36 18 L (.int (nI 0) :: st) h := (ex_of d36_17 (d) L st h).trans (rfl)
theorem d36_18 : decode (mB 36) 18 = .ok (.ireturn, 1) := by decide +kernel
theorem x36_18 {d : Nat} {L : Lc} {x : Int32} {h : Hp} (hx : x = 0 ∨ x = 1) : ex (d) 36 18 L [.int x] h = some (some (.int x), h) := (ex_of d36_18 (d) L [.int x] h).trans (fin_retb rfl hx)
theorem d37_0 : decode (mB 37) 0 = .ok (.aload_n 0, 1) := by decide +kernel
theorem x37_0 {d : Nat} {l1 : Option Value} {st : List Value} {a : Nat} {h : Hp} : ex (d) 37 0 [some (.ref a), l1] st h = ex d 37 1 [some (.ref a), l1] (.ref a :: st) h := (ex_of d37_0 (d) [some (.ref a), l1] st h).trans (rfl)
theorem d37_1 : decode (mB 37) 1 = .ok (.getfield 15, 3) := by decide +kernel
theorem x37_1 {d : Nat} {L : Lc} {st : List Value} {a : Nat} {h : Hp} (ht : (h.2.1 a).1 = 8) : ex (d) 37 1 L (.ref a :: st) h = ex d 37 4 L (h.1 a 1 :: st) h := (ex_of d37_1 (d) L (.ref a :: st) h).trans (fin_get (mi := 37) f8_15 (tg1 ht rfl))
theorem d37_4 : decode (mB 37) 4 = .ok (.lookupswitch 39 #[(6, 28), (8, 34)], 28) := by decide +kernel
theorem x37_4 {d : Nat} {L : Lc} {st : List Value} {x : Int32} {h : Hp} : ex (d) 37 4 L (.int x :: st) h = if x = (nI 6) then ex d 37 32 L st h else if x = (nI 8) then ex d 37 38 L st h else ex d 37 43 L st h := by
  refine (ex_of d37_4 _ _ _ _).trans ?_
  simp only [stp]
  rw [if_pos (by decide +kernel)]
  simp only [swq]
  (repeat' split) <;> first | rfl | (simp_all [nI] <;> contradiction)
theorem d37_32 : decode (mB 37) 32 = .ok (.iload_n 1, 1) := by decide +kernel
theorem x37_32 {d : Nat} {l0 : Option Value} {st : List Value} {x : Int32} {h : Hp} : ex (d) 37 32 [l0, some (.int x)] st h = ex d 37 33 [l0, some (.int x)] (.int x :: st) h := (ex_of d37_32 (d) [l0, some (.int x)] st h).trans (rfl)
theorem d37_33 : decode (mB 37) 33 = .ok (.sipush 255, 3) := by decide +kernel
theorem x37_33 {d : Nat} {L : Lc} {st : List Value} {h : Hp} : ex (d) 37 33 L st h = ex d 37 36 L (.int (nI 255) :: st) h := (ex_of d37_33 (d) L st h).trans (rfl)
theorem d37_36 : decode (mB 37) 36 = .ok (.iand, 1) := by decide +kernel
theorem x37_36 {d : Nat} {L : Lc} {st : List Value} {x y : Int32} {h : Hp} : ex (d) 37 36 L (.int y :: .int x :: st) h = ex d 37 37 L (.int (x &&& y) :: st) h := (ex_of d37_36 (d) L (.int y :: .int x :: st) h).trans (rfl)
theorem d37_37 : decode (mB 37) 37 = .ok (.ireturn, 1) := by decide +kernel
theorem x37_37 {d : Nat} {L : Lc} {x : Int32} {h : Hp} : ex (d) 37 37 L [.int x] h = some (some (.int x), h) := (ex_of d37_37 (d) L [.int x] h).trans (rfl)
theorem d37_38 : decode (mB 37) 38 = .ok (.iload_n 1, 1) := by decide +kernel
theorem x37_38 {d : Nat} {l0 : Option Value} {st : List Value} {x : Int32} {h : Hp} : ex (d) 37 38 [l0, some (.int x)] st h = ex d 37 39 [l0, some (.int x)] (.int x :: st) h := (ex_of d37_38 (d) [l0, some (.int x)] st h).trans (rfl)
theorem d37_39 : decode (mB 37) 39 = .ok (.ldc 19, 2) := by decide +kernel
theorem x37_39 {d : Nat} {L : Lc} {st : List Value} {h : Hp} : ex (d) 37 39 L st h = ex d 37 41 L (.int (nI 65535) :: st) h := (ex_of d37_39 (d) L st h).trans (fin_ldc (mi := 37) c8_19)
theorem d37_41 : decode (mB 37) 41 = .ok (.iand, 1) := by decide +kernel
theorem x37_41 {d : Nat} {L : Lc} {st : List Value} {x y : Int32} {h : Hp} : ex (d) 37 41 L (.int y :: .int x :: st) h = ex d 37 42 L (.int (x &&& y) :: st) h := (ex_of d37_41 (d) L (.int y :: .int x :: st) h).trans (rfl)
theorem d37_42 : decode (mB 37) 42 = .ok (.ireturn, 1) := by decide +kernel
theorem x37_42 {d : Nat} {L : Lc} {x : Int32} {h : Hp} : ex (d) 37 42 L [.int x] h = some (some (.int x), h) := (ex_of d37_42 (d) L [.int x] h).trans (rfl)
theorem d37_43 : decode (mB 37) 43 = .ok (.iload_n 1, 1) := by decide +kernel
theorem x37_43 {d : Nat} {l0 : Option Value} {st : List Value} {x : Int32} {h : Hp} : ex (d) 37 43 [l0, some (.int x)] st h = ex d 37 44 [l0, some (.int x)] (.int x :: st) h := (ex_of d37_43 (d) [l0, some (.int x)] st h).trans (rfl)
theorem d37_44 : decode (mB 37) 44 = .ok (.ireturn, 1) := by decide +kernel
theorem x37_44 {d : Nat} {L : Lc} {x : Int32} {h : Hp} : ex (d) 37 44 L [.int x] h = some (some (.int x), h) := (ex_of d37_44 (d) L [.int x] h).trans (rfl)
theorem d38_0 : decode (mB 38) 0 = .ok (.aload_n 0, 1) := by decide +kernel
theorem x38_0 {d : Nat} {l1 l2 : Option Value} {st : List Value} {a : Nat} {h : Hp} : ex (d) 38 0 [some (.ref a), l1, l2] st h = ex d 38 1 [some (.ref a), l1, l2] (.ref a :: st) h := (ex_of d38_0 (d) [some (.ref a), l1, l2] st h).trans (rfl)
theorem d38_1 : decode (mB 38) 1 = .ok (.invokespecial 3, 3) := by decide +kernel
theorem x38_1 {d : Nat} {L : Lc} {a : Nat} {h : Hp} : ex (d) 38 1 L (.ref a :: []) h = ex d 38 4 L [] h := (ex_of d38_1 (d) L (.ref a :: []) h).trans (rfl)
theorem d38_4 : decode (mB 38) 4 = .ok (.aload_n 0, 1) := by decide +kernel
theorem x38_4 {d : Nat} {l1 l2 : Option Value} {st : List Value} {a : Nat} {h : Hp} : ex (d) 38 4 [some (.ref a), l1, l2] st h = ex d 38 5 [some (.ref a), l1, l2] (.ref a :: st) h := (ex_of d38_4 (d) [some (.ref a), l1, l2] st h).trans (rfl)
theorem d38_5 : decode (mB 38) 5 = .ok (.iload_n 1, 1) := by decide +kernel
theorem x38_5 {d : Nat} {l0 l2 : Option Value} {st : List Value} {x : Int32} {h : Hp} : ex (d) 38 5 [l0, some (.int x), l2] st h = ex d 38 6 [l0, some (.int x), l2] (.int x :: st) h := (ex_of d38_5 (d) [l0, some (.int x), l2] st h).trans (rfl)
theorem d38_6 : decode (mB 38) 6 = .ok (.putfield 9, 3) := by decide +kernel
theorem x38_6 {d : Nat} {L : Lc} {st : List Value} {a : Nat} {x : Int32} {h : Hp} (ht : isTh (h.2.1 a).1 = true) : ex (d) 38 6 L (.int x :: .ref a :: st) h = ex d 38 9 L st (mup h.1 a 0 (.int x), h.2) := (ex_of d38_6 (d) L (.int x :: .ref a :: st) h).trans (fin_putT (mi := 38) f9_9 ht (allT ⟨rfl, rfl, by decide +kernel⟩ ⟨rfl, rfl, by decide +kernel⟩ ⟨rfl, rfl, by decide +kernel⟩))
theorem d38_9 : decode (mB 38) 9 = .ok (.aload_n 0, 1) := by decide +kernel
theorem x38_9 {d : Nat} {l1 l2 : Option Value} {st : List Value} {a : Nat} {h : Hp} : ex (d) 38 9 [some (.ref a), l1, l2] st h = ex d 38 10 [some (.ref a), l1, l2] (.ref a :: st) h := (ex_of d38_9 (d) [some (.ref a), l1, l2] st h).trans (rfl)
theorem d38_10 : decode (mB 38) 10 = .ok (.iload_n 2, 1) := by decide +kernel
theorem x38_10 {d : Nat} {l0 l1 : Option Value} {st : List Value} {x : Int32} {h : Hp} : ex (d) 38 10 [l0, l1, some (.int x)] st h = ex d 38 11 [l0, l1, some (.int x)] (.int x :: st) h := (ex_of d38_10 (d) [l0, l1, some (.int x)] st h).trans (rfl)
theorem d38_11 : decode (mB 38) 11 = .ok (.putfield 15, 3) := by decide +kernel
theorem x38_11 {d : Nat} {L : Lc} {st : List Value} {a : Nat} {x : Int32} {h : Hp} (ht : isTh (h.2.1 a).1 = true) : ex (d) 38 11 L (.int x :: .ref a :: st) h = ex d 38 14 L st (mup h.1 a 1 (.int x), h.2) := (ex_of d38_11 (d) L (.int x :: .ref a :: st) h).trans (fin_putT (mi := 38) f9_15 ht (allT ⟨rfl, rfl, by decide +kernel⟩ ⟨rfl, rfl, by decide +kernel⟩ ⟨rfl, rfl, by decide +kernel⟩))
theorem d38_14 : decode (mB 38) 14 = .ok (.aload_n 0, 1) := by decide +kernel
theorem x38_14 {d : Nat} {l1 l2 : Option Value} {st : List Value} {a : Nat} {h : Hp} : ex (d) 38 14 [some (.ref a), l1, l2] st h = ex d 38 15 [some (.ref a), l1, l2] (.ref a :: st) h := (ex_of d38_14 (d) [some (.ref a), l1, l2] st h).trans (rfl)
theorem d38_15 : decode (mB 38) 15 = .ok (.iconst 0, 1) := by decide +kernel
theorem x38_15 {d : Nat} {L : Lc} {st : List Value} {h : Hp} : ex (d) 38 15 L st h = ex d 38 16 L (.int (nI 0) :: st) h := (ex_of d38_15 (d) L st h).trans (rfl)
theorem d38_16 : decode (mB 38) 16 = .ok (.putfield 18, 3) := by decide +kernel
theorem x38_16 {d : Nat} {L : Lc} {st : List Value} {a : Nat} {x : Int32} {h : Hp} (ht : isTh (h.2.1 a).1 = true) : ex (d) 38 16 L (.int x :: .ref a :: st) h = ex d 38 19 L st (mup h.1 a 2 (.int x), h.2) := (ex_of d38_16 (d) L (.int x :: .ref a :: st) h).trans (fin_putT (mi := 38) f9_18 ht (allT ⟨rfl, rfl, by decide +kernel⟩ ⟨rfl, rfl, by decide +kernel⟩ ⟨rfl, rfl, by decide +kernel⟩))
theorem d38_19 : decode (mB 38) 19 = .ok (.return_, 1) := by decide +kernel
theorem x38_19 {d : Nat} {L : Lc}  {h : Hp} : ex (d) 38 19 L [] h = some (none, h) := (ex_of d38_19 (d) L [] h).trans (rfl)
theorem d39_0 : decode (mB 39) 0 = .ok (.aload_n 0, 1) := by decide +kernel
theorem x39_0 {d : Nat} {st : List Value} {a : Nat} {h : Hp} : ex (d) 39 0 [some (.ref a)] st h = ex d 39 1 [some (.ref a)] (.ref a :: st) h := (ex_of d39_0 (d) [some (.ref a)] st h).trans (rfl)
theorem d39_1 : decode (mB 39) 1 = .ok (.getfield 15, 3) := by decide +kernel
theorem x39_1 {d : Nat} {L : Lc} {st : List Value} {a : Nat} {h : Hp} (ht : isTh (h.2.1 a).1 = true) : ex (d) 39 1 L (.ref a :: st) h = ex d 39 4 L (h.1 a 1 :: st) h := (ex_of d39_1 (d) L (.ref a :: st) h).trans (fin_get (mi := 39) f9_15 ht)
theorem d39_4 : decode (mB 39) 4 = .ok (.iconst 4, 1) := by decide +kernel
theorem x39_4 {d : Nat} {L : Lc} {st : List Value} {h : Hp} : ex (d) 39 4 L st h = ex d 39 5 L (.int (nI 4) :: st) h := (ex_of d39_4 (d) L st h).trans (rfl)
theorem d39_5 : decode (mB 39) 5 = .ok (.if_icmp .gt 7, 3) := by decide +kernel
theorem x39_5 {d : Nat} {L : Lc} {st : List Value} {x y : Int32} {h : Hp} : ex (d) 39 5 L (.int y :: .int x :: st) h = if y < x then ex d 39 12 L st h else ex d 39 8 L st h := (ex_of d39_5 (d) L (.int y :: .int x :: st) h).trans (fin_brq (off := 7) (tgt := 12) rfl (by decide))
theorem d39_8 : decode (mB 39) 8 = .ok (.iconst 1, 1) := by decide +kernel
theorem x39_8 {d : Nat} {L : Lc} {st : List Value} {h : Hp} : ex (d) 39 8 L st h = ex d 39 9 L (.int (nI 1) :: st) h := (ex_of d39_8 (d) L st h).trans (rfl)
theorem d39_9 : decode (mB 39) 9 = .ok (.goto 4, 3) := by decide +kernel
theorem x39_9 {d : Nat} {L : Lc} {st : List Value} {h : Hp} : ex (d) 39 9 L st h = ex d 39 13 L st h := (ex_of d39_9 (d) L st h).trans (rfl)
theorem d39_12 : decode (mB 39) 12 = .ok (.iconst 0, 1) := by decide +kernel
theorem x39_12 {d : Nat} {L : Lc} {st : List Value} {h : Hp} : ex (d) 39 12 L st h = ex d 39 13 L (.int (nI 0) :: st) h := (ex_of d39_12 (d) L st h).trans (rfl)
theorem d39_13 : decode (mB 39) 13 = .ok (.ireturn, 1) := by decide +kernel
theorem x39_13 {d : Nat} {L : Lc} {x : Int32} {h : Hp} (hx : x = 0 ∨ x = 1) : ex (d) 39 13 L [.int x] h = some (some (.int x), h) := (ex_of d39_13 (d) L [.int x] h).trans (fin_retb rfl hx)
theorem d40_0 : decode (mB 40) 0 = .ok (.aload_n 0, 1) := by decide +kernel
theorem x40_0 {d : Nat} {l1 : Option Value} {st : List Value} {a : Nat} {h : Hp} : ex (d) 40 0 [some (.ref a), l1] st h = ex d 40 1 [some (.ref a), l1] (.ref a :: st) h := (ex_of d40_0 (d) [some (.ref a), l1] st h).trans (rfl)
theorem d40_1 : decode (mB 40) 1 = .ok (.getfield 15, 3) := by decide +kernel
theorem x40_1 {d : Nat} {L : Lc} {st : List Value} {a : Nat} {h : Hp} (ht : isTh (h.2.1 a).1 = true) : ex (d) 40 1 L (.ref a :: st) h = ex d 40 4 L (h.1 a 1 :: st) h := (ex_of d40_1 (d) L (.ref a :: st) h).trans (fin_get (mi := 40) f9_15 ht)
theorem d40_4 : decode (mB 40) 4 = .ok (.iload_n 1, 1) := by decide +kernel
theorem x40_4 {d : Nat} {l0 : Option Value} {st : List Value} {x : Int32} {h : Hp} : ex (d) 40 4 [l0, some (.int x)] st h = ex d 40 5 [l0, some (.int x)] (.int x :: st) h := (ex_of d40_4 (d) [l0, some (.int x)] st h).trans (rfl)
theorem d40_5 : decode (mB 40) 5 = .ok (.if_icmp .eq 19, 3) := by decide +kernel
theorem x40_5 {d : Nat} {L : Lc} {st : List Value} {x y : Int32} {h : Hp} : ex (d) 40 5 L (.int y :: .int x :: st) h = if x = y then ex d 40 24 L st h else ex d 40 8 L st h := (ex_of d40_5 (d) L (.int y :: .int x :: st) h).trans (fin_brq (off := 19) (tgt := 24) rfl (by decide))
theorem d40_8 : decode (mB 40) 8 = .ok (.aload_n 0, 1) := by decide +kernel
theorem x40_8 {d : Nat} {l1 : Option Value} {st : List Value} {a : Nat} {h : Hp} : ex (d) 40 8 [some (.ref a), l1] st h = ex d 40 9 [some (.ref a), l1] (.ref a :: st) h := (ex_of d40_8 (d) [some (.ref a), l1] st h).trans (rfl)
theorem d40_9 : decode (mB 40) 9 = .ok (.getfield 15, 3) := by decide +kernel
theorem x40_9 {d : Nat} {L : Lc} {st : List Value} {a : Nat} {h : Hp} (ht : isTh (h.2.1 a).1 = true) : ex (d) 40 9 L (.ref a :: st) h = ex d 40 12 L (h.1 a 1 :: st) h := (ex_of d40_9 (d) L (.ref a :: st) h).trans (fin_get (mi := 40) f9_15 ht)
theorem d40_12 : decode (mB 40) 12 = .ok (.iconst 2, 1) := by decide +kernel
theorem x40_12 {d : Nat} {L : Lc} {st : List Value} {h : Hp} : ex (d) 40 12 L st h = ex d 40 13 L (.int (nI 2) :: st) h := (ex_of d40_12 (d) L st h).trans (rfl)
theorem d40_13 : decode (mB 40) 13 = .ok (.if_icmp .gt 15, 3) := by decide +kernel
theorem x40_13 {d : Nat} {L : Lc} {st : List Value} {x y : Int32} {h : Hp} : ex (d) 40 13 L (.int y :: .int x :: st) h = if y < x then ex d 40 28 L st h else ex d 40 16 L st h := (ex_of d40_13 (d) L (.int y :: .int x :: st) h).trans (fin_brq (off := 15) (tgt := 28) rfl (by decide))
theorem d40_16 : decode (mB 40) 16 = .ok (.iload_n 1, 1) := by decide +kernel
theorem x40_16 {d : Nat} {l0 : Option Value} {st : List Value} {x : Int32} {h : Hp} : ex (d) 40 16 [l0, some (.int x)] st h = ex d 40 17 [l0, some (.int x)] (.int x :: st) h := (ex_of d40_16 (d) [l0, some (.int x)] st h).trans (rfl)
theorem d40_17 : decode (mB 40) 17 = .ok (.aload_n 0, 1) := by decide +kernel
theorem x40_17 {d : Nat} {l1 : Option Value} {st : List Value} {a : Nat} {h : Hp} : ex (d) 40 17 [some (.ref a), l1] st h = ex d 40 18 [some (.ref a), l1] (.ref a :: st) h := (ex_of d40_17 (d) [some (.ref a), l1] st h).trans (rfl)
theorem d40_18 : decode (mB 40) 18 = .ok (.getfield 15, 3) := by decide +kernel
theorem x40_18 {d : Nat} {L : Lc} {st : List Value} {a : Nat} {h : Hp} (ht : isTh (h.2.1 a).1 = true) : ex (d) 40 18 L (.ref a :: st) h = ex d 40 21 L (h.1 a 1 :: st) h := (ex_of d40_18 (d) L (.ref a :: st) h).trans (fin_get (mi := 40) f9_15 ht)
theorem d40_21 : decode (mB 40) 21 = .ok (.if_icmp .gt 7, 3) := by decide +kernel
theorem x40_21 {d : Nat} {L : Lc} {st : List Value} {x y : Int32} {h : Hp} : ex (d) 40 21 L (.int y :: .int x :: st) h = if y < x then ex d 40 28 L st h else ex d 40 24 L st h := (ex_of d40_21 (d) L (.int y :: .int x :: st) h).trans (fin_brq (off := 7) (tgt := 28) rfl (by decide))
theorem d40_24 : decode (mB 40) 24 = .ok (.iconst 1, 1) := by decide +kernel
theorem x40_24 {d : Nat} {L : Lc} {st : List Value} {h : Hp} : ex (d) 40 24 L st h = ex d 40 25 L (.int (nI 1) :: st) h := (ex_of d40_24 (d) L st h).trans (rfl)
theorem d40_25 : decode (mB 40) 25 = .ok (.goto 4, 3) := by decide +kernel
theorem x40_25 {d : Nat} {L : Lc} {st : List Value} {h : Hp} : ex (d) 40 25 L st h = ex d 40 29 L st h := (ex_of d40_25 (d) L st h).trans (rfl)
theorem d40_28 : decode (mB 40) 28 = .ok (.iconst 0, 1) := by decide +kernel
theorem x40_28 {d : Nat} {L : Lc} {st : List Value} {h : Hp} : ex (d) 40 28 L st h = ex d 40 29 L (.int (nI 0) :: st) h := (ex_of d40_28 (d) L st h).trans (rfl)
theorem d40_29 : decode (mB 40) 29 = .ok (.ireturn, 1) := by decide +kernel
theorem x40_29 {d : Nat} {L : Lc} {x : Int32} {h : Hp} (hx : x = 0 ∨ x = 1) : ex (d) 40 29 L [.int x] h = some (some (.int x), h) := (ex_of d40_29 (d) L [.int x] h).trans (fin_retb rfl hx)
theorem d41_0 : decode (mB 41) 0 = .ok (.aload_n 0, 1) := by decide +kernel
theorem x41_0 {d : Nat} {st : List Value} {a : Nat} {h : Hp} : ex (d) 41 0 [some (.ref a)] st h = ex d 41 1 [some (.ref a)] (.ref a :: st) h := (ex_of d41_0 (d) [some (.ref a)] st h).trans (rfl)
theorem d41_1 : decode (mB 41) 1 = .ok (.getfield 21, 3) := by decide +kernel
theorem x41_1 {d : Nat} {L : Lc} {st : List Value} {a : Nat} {h : Hp} (ht : isTh (h.2.1 a).1 = true) : ex (d) 41 1 L (.ref a :: st) h = ex d 41 4 L (h.1 a 3 :: st) h := (ex_of d41_1 (d) L (.ref a :: st) h).trans (fin_get (mi := 41) f9_21 ht)
theorem d41_4 : decode (mB 41) 4 = .ok (.ifnull 17, 3) := by decide +kernel
theorem x41_4n {d : Nat} {L : Lc} {st : List Value} {h : Hp} : ex (d) 41 4 L (.null :: st) h = ex d 41 21 L st h := (ex_of d41_4 (d) L (.null :: st) h).trans (rfl)
theorem x41_4 {d : Nat} {L : Lc} {st : List Value} {a : Nat} {h : Hp} : ex (d) 41 4 L (.ref a :: st) h = ex d 41 7 L st h := (ex_of d41_4 (d) L (.ref a :: st) h).trans (rfl)
theorem d41_7 : decode (mB 41) 7 = .ok (.aload_n 0, 1) := by decide +kernel
theorem x41_7 {d : Nat} {st : List Value} {a : Nat} {h : Hp} : ex (d) 41 7 [some (.ref a)] st h = ex d 41 8 [some (.ref a)] (.ref a :: st) h := (ex_of d41_7 (d) [some (.ref a)] st h).trans (rfl)
theorem d41_8 : decode (mB 41) 8 = .ok (.getfield 21, 3) := by decide +kernel
theorem x41_8 {d : Nat} {L : Lc} {st : List Value} {a : Nat} {h : Hp} (ht : isTh (h.2.1 a).1 = true) : ex (d) 41 8 L (.ref a :: st) h = ex d 41 11 L (h.1 a 3 :: st) h := (ex_of d41_8 (d) L (.ref a :: st) h).trans (fin_get (mi := 41) f9_21 ht)
theorem d41_11 : decode (mB 41) 11 = .ok (.getfield 25, 3) := by decide +kernel
theorem x41_11 {d : Nat} {L : Lc} {st : List Value} {a : Nat} {h : Hp} (ht : (h.2.1 a).1 = 3) : ex (d) 41 11 L (.ref a :: st) h = ex d 41 14 L (h.1 a 1 :: st) h := (ex_of d41_11 (d) L (.ref a :: st) h).trans (fin_get (mi := 41) f9_25 (tg1 ht rfl))
theorem d41_14 : decode (mB 41) 14 = .ok (.ifnonnull 7, 3) := by decide +kernel
theorem x41_14n {d : Nat} {L : Lc} {st : List Value} {h : Hp} : ex (d) 41 14 L (.null :: st) h = ex d 41 17 L st h := (ex_of d41_14 (d) L (.null :: st) h).trans (rfl)
theorem x41_14 {d : Nat} {L : Lc} {st : List Value} {a : Nat} {h : Hp} : ex (d) 41 14 L (.ref a :: st) h = ex d 41 21 L st h := (ex_of d41_14 (d) L (.ref a :: st) h).trans (rfl)
theorem d41_17 : decode (mB 41) 17 = .ok (.iconst 1, 1) := by decide +kernel
theorem x41_17 {d : Nat} {L : Lc} {st : List Value} {h : Hp} : ex (d) 41 17 L st h = ex d 41 18 L (.int (nI 1) :: st) h := (ex_of d41_17 (d) L st h).trans (rfl)
theorem d41_18 : decode (mB 41) 18 = .ok (.goto 4, 3) := by decide +kernel
theorem x41_18 {d : Nat} {L : Lc} {st : List Value} {h : Hp} : ex (d) 41 18 L st h = ex d 41 22 L st h := (ex_of d41_18 (d) L st h).trans (rfl)
theorem d41_21 : decode (mB 41) 21 = .ok (.iconst 0, 1) := by decide +kernel
theorem x41_21 {d : Nat} {L : Lc} {st : List Value} {h : Hp} : ex (d) 41 21 L st h = ex d 41 22 L (.int (nI 0) :: st) h := (ex_of d41_21 (d) L st h).trans (rfl)
theorem d41_22 : decode (mB 41) 22 = .ok (.ireturn, 1) := by decide +kernel
theorem x41_22 {d : Nat} {L : Lc} {x : Int32} {h : Hp} (hx : x = 0 ∨ x = 1) : ex (d) 41 22 L [.int x] h = some (some (.int x), h) := (ex_of d41_22 (d) L [.int x] h).trans (fin_retb rfl hx)
theorem d42_0 : decode (mB 42) 0 = .ok (.aload_n 0, 1) := by decide +kernel
theorem x42_0 {d : Nat} {l1 l2 l3 : Option Value} {st : List Value} {a : Nat} {h : Hp} : ex (d) 42 0 [some (.ref a), l1, l2, l3] st h = ex d 42 1 [some (.ref a), l1, l2, l3] (.ref a :: st) h := (ex_of d42_0 (d) [some (.ref a), l1, l2, l3] st h).trans (rfl)
theorem d42_1 : decode (mB 42) 1 = .ok (.getfield 21, 3) := by decide +kernel
theorem x42_1 {d : Nat} {L : Lc} {st : List Value} {a : Nat} {h : Hp} (ht : isTh (h.2.1 a).1 = true) : ex (d) 42 1 L (.ref a :: st) h = ex d 42 4 L (h.1 a 3 :: st) h := (ex_of d42_1 (d) L (.ref a :: st) h).trans (fin_get (mi := 42) f9_21 ht)
theorem d42_4 : decode (mB 42) 4 = .ok (.ifnull 15, 3) := by decide +kernel
theorem x42_4n {d : Nat} {L : Lc} {st : List Value} {h : Hp} : ex (d) 42 4 L (.null :: st) h = ex d 42 19 L st h := (ex_of d42_4 (d) L (.null :: st) h).trans (rfl)
theorem x42_4 {d : Nat} {L : Lc} {st : List Value} {a : Nat} {h : Hp} : ex (d) 42 4 L (.ref a :: st) h = ex d 42 7 L st h := (ex_of d42_4 (d) L (.ref a :: st) h).trans (rfl)
theorem d42_7 : decode (mB 42) 7 = .ok (.aload_n 0, 1) := by decide +kernel
theorem x42_7 {d : Nat} {l1 l2 l3 : Option Value} {st : List Value} {a : Nat} {h : Hp} : ex (d) 42 7 [some (.ref a), l1, l2, l3] st h = ex d 42 8 [some (.ref a), l1, l2, l3] (.ref a :: st) h := (ex_of d42_7 (d) [some (.ref a), l1, l2, l3] st h).trans (rfl)
theorem d42_8 : decode (mB 42) 8 = .ok (.getfield 21, 3) := by decide +kernel
theorem x42_8 {d : Nat} {L : Lc} {st : List Value} {a : Nat} {h : Hp} (ht : isTh (h.2.1 a).1 = true) : ex (d) 42 8 L (.ref a :: st) h = ex d 42 11 L (h.1 a 3 :: st) h := (ex_of d42_8 (d) L (.ref a :: st) h).trans (fin_get (mi := 42) f9_21 ht)
theorem d42_11 : decode (mB 42) 11 = .ok (.aload_n 0, 1) := by decide +kernel
theorem x42_11 {d : Nat} {l1 l2 l3 : Option Value} {st : List Value} {a : Nat} {h : Hp} : ex (d) 42 11 [some (.ref a), l1, l2, l3] st h = ex d 42 12 [some (.ref a), l1, l2, l3] (.ref a :: st) h := (ex_of d42_11 (d) [some (.ref a), l1, l2, l3] st h).trans (rfl)
theorem d42_12 : decode (mB 42) 12 = .ok (.getfield 31, 3) := by decide +kernel
theorem x42_12 {d : Nat} {L : Lc} {st : List Value} {a : Nat} {h : Hp} (ht : isTh (h.2.1 a).1 = true) : ex (d) 42 12 L (.ref a :: st) h = ex d 42 15 L (h.1 a 4 :: st) h := (ex_of d42_12 (d) L (.ref a :: st) h).trans (fin_get (mi := 42) f9_31 ht)
theorem d42_15 : decode (mB 42) 15 = .ok (.aconst_null, 1) := by decide +kernel
theorem x42_15 {d : Nat} {L : Lc} {st : List Value} {h : Hp} : ex (d) 42 15 L st h = ex d 42 16 L (.null :: st) h := (ex_of d42_15 (d) L st h).trans (rfl)
theorem d42_16 : decode (mB 42) 16 = .ok (.invokevirtual 34, 3) := by decide +kernel
theorem x42_16 {d : Nat} {L : Lc} {a : Nat} {v0 : Int32} {v1 : Value} {h : Hp} (ht : (h.2.1 a).1 = 3) (hv1 : isR v1 = true) : ex (d + 1) 42 16 L (v1 :: .int v0 :: .ref a :: []) h = bnd (ex d 7 0 [some (.ref a), some (.int v0), some v1] [] h) (fun v h' => ex (d + 1) 42 19 L (v.toList ++ []) h') := (ex_of d42_16 (d + 1) L (v1 :: .int v0 :: .ref a :: []) h).trans (fin_vi (mi := 42) i9_34 ht rfl rfl (by simp [cat1_i, cat1_r, isR_cat1 hv1]) (by simp) (Nat.le_of_ble_eq_true rfl))
theorem d42_19 : decode (mB 42) 19 = .ok (.aload_n 0, 1) := by decide +kernel
theorem x42_19 {d : Nat} {l1 l2 l3 : Option Value} {st : List Value} {a : Nat} {h : Hp} : ex (d) 42 19 [some (.ref a), l1, l2, l3] st h = ex d 42 20 [some (.ref a), l1, l2, l3] (.ref a :: st) h := (ex_of d42_19 (d) [some (.ref a), l1, l2, l3] st h).trans (rfl)
theorem d42_20 : decode (mB 42) 20 = .ok (.iload_n 1, 1) := by decide +kernel
theorem x42_20 {d : Nat} {l0 l2 l3 : Option Value} {st : List Value} {x : Int32} {h : Hp} : ex (d) 42 20 [l0, some (.int x), l2, l3] st h = ex d 42 21 [l0, some (.int x), l2, l3] (.int x :: st) h := (ex_of d42_20 (d) [l0, some (.int x), l2, l3] st h).trans (rfl)
theorem d42_21 : decode (mB 42) 21 = .ok (.putfield 18, 3) := by decide +kernel
theorem x42_21 {d : Nat} {L : Lc} {st : List Value} {a : Nat} {x : Int32} {h : Hp} (ht : isTh (h.2.1 a).1 = true) : ex (d) 42 21 L (.int x :: .ref a :: st) h = ex d 42 24 L st (mup h.1 a 2 (.int x), h.2) := (ex_of d42_21 (d) L (.int x :: .ref a :: st) h).trans (fin_putT (mi := 42) f9_18 ht (allT ⟨rfl, rfl, by decide +kernel⟩ ⟨rfl, rfl, by decide +kernel⟩ ⟨rfl, rfl, by decide +kernel⟩))
theorem d42_24 : decode (mB 42) 24 = .ok (.aload_n 0, 1) := by decide +kernel
theorem x42_24 {d : Nat} {l1 l2 l3 : Option Value} {st : List Value} {a : Nat} {h : Hp} : ex (d) 42 24 [some (.ref a), l1, l2, l3] st h = ex d 42 25 [some (.ref a), l1, l2, l3] (.ref a :: st) h := (ex_of d42_24 (d) [some (.ref a), l1, l2, l3] st h).trans (rfl)
theorem d42_25 : decode (mB 42) 25 = .ok (.aload_n 2, 1) := by decide +kernel
theorem x42_25 {d : Nat} {l0 l1 l3 : Option Value} {st : List Value} {a : Nat} {h : Hp} : ex (d) 42 25 [l0, l1, some (.ref a), l3] st h = ex d 42 26 [l0, l1, some (.ref a), l3] (.ref a :: st) h := (ex_of d42_25 (d) [l0, l1, some (.ref a), l3] st h).trans (rfl)
theorem x42_25n {d : Nat} {l0 l1 l3 : Option Value} {st : List Value} {h : Hp} : ex (d) 42 25 [l0, l1, some .null, l3] st h = ex d 42 26 [l0, l1, some .null, l3] (.null :: st) h := (ex_of d42_25 (d) [l0, l1, some .null, l3] st h).trans (rfl)
theorem x42_25q {d : Nat} {l0 l1 l3 : Option Value} {st : List Value} {a : Option Nat} {h : Hp} : ex (d) 42 25 [l0, l1, some (va_rf a), l3] st h = ex d 42 26 [l0, l1, some (va_rf a), l3] (va_rf a :: st) h := (ex_of d42_25 (d) [l0, l1, some (va_rf a), l3] st h).trans (by cases a <;> rfl)
theorem d42_26 : decode (mB 42) 26 = .ok (.putfield 21, 3) := by decide +kernel
theorem x42_26 {d : Nat} {L : Lc} {st : List Value} {a b : Nat} {h : Hp} (ht : isTh (h.2.1 a).1 = true) : ex (d) 42 26 L (.ref b :: .ref a :: st) h = ex d 42 29 L st (mup h.1 a 3 (.ref b), h.2) := (ex_of d42_26 (d) L (.ref b :: .ref a :: st) h).trans (fin_putT (mi := 42) f9_21 ht (allT ⟨rfl, rfl, by decide +kernel⟩ ⟨rfl, rfl, by decide +kernel⟩ ⟨rfl, rfl, by decide +kernel⟩))
theorem x42_26n {d : Nat} {L : Lc} {st : List Value} {a : Nat} {h : Hp} (ht : isTh (h.2.1 a).1 = true) : ex (d) 42 26 L (.null :: .ref a :: st) h = ex d 42 29 L st (mup h.1 a 3 .null, h.2) := (ex_of d42_26 (d) L (.null :: .ref a :: st) h).trans (fin_putT (mi := 42) f9_21 ht (allT ⟨rfl, rfl, by decide +kernel⟩ ⟨rfl, rfl, by decide +kernel⟩ ⟨rfl, rfl, by decide +kernel⟩))
theorem x42_26q {d : Nat} {L : Lc} {st : List Value} {a : Nat} {b : Option Nat} {h : Hp} (ht : isTh (h.2.1 a).1 = true) : ex (d) 42 26 L (va_rf b :: .ref a :: st) h = ex d 42 29 L st (mup h.1 a 3 (va_rf b), h.2) := (ex_of d42_26 (d) L (va_rf b :: .ref a :: st) h).trans (by cases b <;> exact fin_putT (mi := 42) f9_21 ht (allT ⟨rfl, rfl, by decide +kernel⟩ ⟨rfl, rfl, by decide +kernel⟩ ⟨rfl, rfl, by decide +kernel⟩))
theorem d42_29 : decode (mB 42) 29 = .ok (.aload_n 0, 1) := by decide +kernel
theorem x42_29 {d : Nat} {l1 l2 l3 : Option Value} {st : List Value} {a : Nat} {h : Hp} : ex (d) 42 29 [some (.ref a), l1, l2, l3] st h = ex d 42 30 [some (.ref a), l1, l2, l3] (.ref a :: st) h := (ex_of d42_29 (d) [some (.ref a), l1, l2, l3] st h).trans (rfl)
theorem d42_30 : decode (mB 42) 30 = .ok (.iload_n 3, 1) := by decide +kernel
theorem x42_30 {d : Nat} {l0 l1 l2 : Option Value} {st : List Value} {x : Int32} {h : Hp} : ex (d) 42 30 [l0, l1, l2, some (.int x)] st h = ex d 42 31 [l0, l1, l2, some (.int x)] (.int x :: st) h := (ex_of d42_30 (d) [l0, l1, l2, some (.int x)] st h).trans (rfl)
theorem d42_31 : decode (mB 42) 31 = .ok (.putfield 31, 3) := by decide +kernel
theorem x42_31 {d : Nat} {L : Lc} {st : List Value} {a : Nat} {x : Int32} {h : Hp} (ht : isTh (h.2.1 a).1 = true) : ex (d) 42 31 L (.int x :: .ref a :: st) h = ex d 42 34 L st (mup h.1 a 4 (.int x), h.2) := (ex_of d42_31 (d) L (.int x :: .ref a :: st) h).trans (fin_putT (mi := 42) f9_31 ht (allT ⟨rfl, rfl, by decide +kernel⟩ ⟨rfl, rfl, by decide +kernel⟩ ⟨rfl, rfl, by decide +kernel⟩))
theorem d42_34 : decode (mB 42) 34 = .ok (.aload_n 2, 1) := by decide +kernel
theorem x42_34 {d : Nat} {l0 l1 l3 : Option Value} {st : List Value} {a : Nat} {h : Hp} : ex (d) 42 34 [l0, l1, some (.ref a), l3] st h = ex d 42 35 [l0, l1, some (.ref a), l3] (.ref a :: st) h := (ex_of d42_34 (d) [l0, l1, some (.ref a), l3] st h).trans (rfl)
theorem x42_34n {d : Nat} {l0 l1 l3 : Option Value} {st : List Value} {h : Hp} : ex (d) 42 34 [l0, l1, some .null, l3] st h = ex d 42 35 [l0, l1, some .null, l3] (.null :: st) h := (ex_of d42_34 (d) [l0, l1, some .null, l3] st h).trans (rfl)
theorem x42_34q {d : Nat} {l0 l1 l3 : Option Value} {st : List Value} {a : Option Nat} {h : Hp} : ex (d) 42 34 [l0, l1, some (va_rf a), l3] st h = ex d 42 35 [l0, l1, some (va_rf a), l3] (va_rf a :: st) h := (ex_of d42_34 (d) [l0, l1, some (va_rf a), l3] st h).trans (by cases a <;> rfl)
theorem d42_35 : decode (mB 42) 35 = .ok (.ifnull 9, 3) := by decide +kernel
theorem x42_35n {d : Nat} {L : Lc} {st : List Value} {h : Hp} : ex (d) 42 35 L (.null :: st) h = ex d 42 44 L st h := (ex_of d42_35 (d) L (.null :: st) h).trans (rfl)
theorem x42_35 {d : Nat} {L : Lc} {st : List Value} {a : Nat} {h : Hp} : ex (d) 42 35 L (.ref a :: st) h = ex d 42 38 L st h := (ex_of d42_35 (d) L (.ref a :: st) h).trans (rfl)
theorem d42_38 : decode (mB 42) 38 = .ok (.aload_n 2, 1) := by decide +kernel
theorem x42_38 {d : Nat} {l0 l1 l3 : Option Value} {st : List Value} {a : Nat} {h : Hp} : ex (d) 42 38 [l0, l1, some (.ref a), l3] st h = ex d 42 39 [l0, l1, some (.ref a), l3] (.ref a :: st) h := (ex_of d42_38 (d) [l0, l1, some (.ref a), l3] st h).trans (rfl)
theorem x42_38n {d : Nat} {l0 l1 l3 : Option Value} {st : List Value} {h : Hp} : ex (d) 42 38 [l0, l1, some .null, l3] st h = ex d 42 39 [l0, l1, some .null, l3] (.null :: st) h := (ex_of d42_38 (d) [l0, l1, some .null, l3] st h).trans (rfl)
theorem x42_38q {d : Nat} {l0 l1 l3 : Option Value} {st : List Value} {a : Option Nat} {h : Hp} : ex (d) 42 38 [l0, l1, some (va_rf a), l3] st h = ex d 42 39 [l0, l1, some (va_rf a), l3] (va_rf a :: st) h := (ex_of d42_38 (d) [l0, l1, some (va_rf a), l3] st h).trans (by cases a <;> rfl)
theorem d42_39 : decode (mB 42) 39 = .ok (.iload_n 3, 1) := by decide +kernel
theorem x42_39 {d : Nat} {l0 l1 l2 : Option Value} {st : List Value} {x : Int32} {h : Hp} : ex (d) 42 39 [l0, l1, l2, some (.int x)] st h = ex d 42 40 [l0, l1, l2, some (.int x)] (.int x :: st) h := (ex_of d42_39 (d) [l0, l1, l2, some (.int x)] st h).trans (rfl)
theorem d42_40 : decode (mB 42) 40 = .ok (.aload_n 0, 1) := by decide +kernel
theorem x42_40 {d : Nat} {l1 l2 l3 : Option Value} {st : List Value} {a : Nat} {h : Hp} : ex (d) 42 40 [some (.ref a), l1, l2, l3] st h = ex d 42 41 [some (.ref a), l1, l2, l3] (.ref a :: st) h := (ex_of d42_40 (d) [some (.ref a), l1, l2, l3] st h).trans (rfl)
theorem d42_41 : decode (mB 42) 41 = .ok (.invokevirtual 34, 3) := by decide +kernel
theorem x42_41 {d : Nat} {L : Lc} {a : Nat} {v0 : Int32} {v1 : Value} {h : Hp} (ht : (h.2.1 a).1 = 3) (hv1 : isR v1 = true) : ex (d + 1) 42 41 L (v1 :: .int v0 :: .ref a :: []) h = bnd (ex d 7 0 [some (.ref a), some (.int v0), some v1] [] h) (fun v h' => ex (d + 1) 42 44 L (v.toList ++ []) h') := (ex_of d42_41 (d + 1) L (v1 :: .int v0 :: .ref a :: []) h).trans (fin_vi (mi := 42) i9_34 ht rfl rfl (by simp [cat1_i, cat1_r, isR_cat1 hv1]) (by simp) (Nat.le_of_ble_eq_true rfl))
theorem d42_44 : decode (mB 42) 44 = .ok (.return_, 1) := by decide +kernel
theorem x42_44 {d : Nat} {L : Lc}  {h : Hp} : ex (d) 42 44 L [] h = some (none, h) := (ex_of d42_44 (d) L [] h).trans (rfl)
