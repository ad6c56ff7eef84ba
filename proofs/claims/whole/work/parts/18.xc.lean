/-! ===== x-rows, printed by wip/whole/gen/genx.py: X11_init, X11_rack, X11_wear, X11_set, X11_trunk, X11_row, X11_write, X11_value, X11_kind, X11_state, X11_holder, X11_put, X11_take, X11_inside, X11_size, X11_reach, X11_alter, X11_sizeOf, X11_actor,  ===== -/
theorem d43_0 : decode (mB 43) 0 = .ok (.aload_n 0, 1) := by decide +kernel
theorem x43_0 {d : Nat} {st : List Value} {a : Nat} {h : Hp} : ex (d) 43 0 [some (.ref a)] st h = ex d 43 1 [some (.ref a)] (.ref a :: st) h := (ex_of d43_0 (d) [some (.ref a)] st h).trans (rfl)
theorem d43_1 : decode (mB 43) 1 = .ok (.invokespecial 1, 3) := by decide +kernel
theorem x43_1 {d : Nat} {L : Lc} {a : Nat} {h : Hp} : ex (d) 43 1 L (.ref a :: []) h = ex d 43 4 L [] h := (ex_of d43_1 (d) L (.ref a :: []) h).trans (rfl)
theorem d43_4 : decode (mB 43) 4 = .ok (.aload_n 0, 1) := by decide +kernel
theorem x43_4 {d : Nat} {st : List Value} {a : Nat} {h : Hp} : ex (d) 43 4 [some (.ref a)] st h = ex d 43 5 [some (.ref a)] (.ref a :: st) h := (ex_of d43_4 (d) [some (.ref a)] st h).trans (rfl)
theorem d43_5 : decode (mB 43) 5 = .ok (.sipush 200, 3) := by decide +kernel
theorem x43_5 {d : Nat} {L : Lc} {st : List Value} {h : Hp} : ex (d) 43 5 L st h = ex d 43 8 L (.int (nI 200) :: st) h := (ex_of d43_5 (d) L st h).trans (rfl)
theorem d43_8 : decode (mB 43) 8 = .ok (.anewarray 9, 3) := by decide +kernel
theorem x43_8 {d : Nat} {L : Lc} {st : List Value} {n : Nat} {h : Hp} (hn : n ≤ 10000) : ex (d) 43 8 L (.int (nI n) :: st) h = ex d 43 11 L (.ref h.2.2.1 :: st) (mnw h.1 h.2.2.1 (fun _ => .null), mnw h.2.1 h.2.2.1 (21, n), h.2.2.1 + 1, h.2.2.2 + n) := (ex_of d43_8 (d) L (.int (nI n) :: st) h).trans (fin_anw (mi := 43) k10_9 rfl (by decide) hn)
theorem d43_11 : decode (mB 43) 11 = .ok (.putfield 11, 3) := by decide +kernel
theorem x43_11 {d : Nat} {L : Lc} {st : List Value} {a b : Nat} {h : Hp} (ht : (h.2.1 a).1 = 10) : ex (d) 43 11 L (.ref b :: .ref a :: st) h = ex d 43 14 L st (mup h.1 a 0 (.ref b), h.2) := (ex_of d43_11 (d) L (.ref b :: .ref a :: st) h).trans (fin_put (mi := 43) f10_11 ht rfl rfl (by decide +kernel))
theorem x43_11n {d : Nat} {L : Lc} {st : List Value} {a : Nat} {h : Hp} (ht : (h.2.1 a).1 = 10) : ex (d) 43 11 L (.null :: .ref a :: st) h = ex d 43 14 L st (mup h.1 a 0 .null, h.2) := (ex_of d43_11 (d) L (.null :: .ref a :: st) h).trans (fin_put (mi := 43) f10_11 ht rfl rfl (by decide +kernel))
theorem x43_11q {d : Nat} {L : Lc} {st : List Value} {a : Nat} {b : Option Nat} {h : Hp} (ht : (h.2.1 a).1 = 10) : ex (d) 43 11 L (va_rf b :: .ref a :: st) h = ex d 43 14 L st (mup h.1 a 0 (va_rf b), h.2) := (ex_of d43_11 (d) L (va_rf b :: .ref a :: st) h).trans (by cases b <;> exact fin_put (mi := 43) f10_11 ht rfl rfl (by decide +kernel))
theorem d43_14 : decode (mB 43) 14 = .ok (.aload_n 0, 1) := by decide +kernel
theorem x43_14 {d : Nat} {st : List Value} {a : Nat} {h : Hp} : ex (d) 43 14 [some (.ref a)] st h = ex d 43 15 [some (.ref a)] (.ref a :: st) h := (ex_of d43_14 (d) [some (.ref a)] st h).trans (rfl)
theorem d43_15 : decode (mB 43) 15 = .ok (.bipush 12, 2) := by decide +kernel
theorem x43_15 {d : Nat} {L : Lc} {st : List Value} {h : Hp} : ex (d) 43 15 L st h = ex d 43 17 L (.int (nI 12) :: st) h := (ex_of d43_15 (d) L st h).trans (rfl)
theorem d43_17 : decode (mB 43) 17 = .ok (.anewarray 15, 3) := by decide +kernel
theorem x43_17 {d : Nat} {L : Lc} {st : List Value} {n : Nat} {h : Hp} (hn : n ≤ 10000) : ex (d) 43 17 L (.int (nI n) :: st) h = ex d 43 20 L (.ref h.2.2.1 :: st) (mnw h.1 h.2.2.1 (fun _ => .null), mnw h.2.1 h.2.2.1 (22, n), h.2.2.1 + 1, h.2.2.2 + n) := (ex_of d43_17 (d) L (.int (nI n) :: st) h).trans (fin_anw (mi := 43) k10_15 rfl (by decide) hn)
theorem d43_20 : decode (mB 43) 20 = .ok (.putfield 17, 3) := by decide +kernel
theorem x43_20 {d : Nat} {L : Lc} {st : List Value} {a b : Nat} {h : Hp} (ht : (h.2.1 a).1 = 10) : ex (d) 43 20 L (.ref b :: .ref a :: st) h = ex d 43 23 L st (mup h.1 a 2 (.ref b), h.2) := (ex_of d43_20 (d) L (.ref b :: .ref a :: st) h).trans (fin_put (mi := 43) f10_17 ht rfl rfl (by decide +kernel))
theorem x43_20n {d : Nat} {L : Lc} {st : List Value} {a : Nat} {h : Hp} (ht : (h.2.1 a).1 = 10) : ex (d) 43 20 L (.null :: .ref a :: st) h = ex d 43 23 L st (mup h.1 a 2 .null, h.2) := (ex_of d43_20 (d) L (.null :: .ref a :: st) h).trans (fin_put (mi := 43) f10_17 ht rfl rfl (by decide +kernel))
theorem x43_20q {d : Nat} {L : Lc} {st : List Value} {a : Nat} {b : Option Nat} {h : Hp} (ht : (h.2.1 a).1 = 10) : ex (d) 43 20 L (va_rf b :: .ref a :: st) h = ex d 43 23 L st (mup h.1 a 2 (va_rf b), h.2) := (ex_of d43_20 (d) L (va_rf b :: .ref a :: st) h).trans (by cases b <;> exact fin_put (mi := 43) f10_17 ht rfl rfl (by decide +kernel))
theorem d43_23 : decode (mB 43) 23 = .ok (.aload_n 0, 1) := by decide +kernel
theorem x43_23 {d : Nat} {st : List Value} {a : Nat} {h : Hp} : ex (d) 43 23 [some (.ref a)] st h = ex d 43 24 [some (.ref a)] (.ref a :: st) h := (ex_of d43_23 (d) [some (.ref a)] st h).trans (rfl)
theorem d43_24 : decode (mB 43) 24 = .ok (.bipush 40, 2) := by decide +kernel
theorem x43_24 {d : Nat} {L : Lc} {st : List Value} {h : Hp} : ex (d) 43 24 L st h = ex d 43 26 L (.int (nI 40) :: st) h := (ex_of d43_24 (d) L st h).trans (rfl)
theorem d43_26 : decode (mB 43) 26 = .ok (.anewarray 21, 3) := by decide +kernel
theorem x43_26 {d : Nat} {L : Lc} {st : List Value} {n : Nat} {h : Hp} (hn : n ≤ 10000) : ex (d) 43 26 L (.int (nI n) :: st) h = ex d 43 29 L (.ref h.2.2.1 :: st) (mnw h.1 h.2.2.1 (fun _ => .null), mnw h.2.1 h.2.2.1 (23, n), h.2.2.1 + 1, h.2.2.2 + n) := (ex_of d43_26 (d) L (.int (nI n) :: st) h).trans (fin_anw (mi := 43) k10_21 rfl (by decide) hn)
theorem d43_29 : decode (mB 43) 29 = .ok (.putfield 23, 3) := by decide +kernel
theorem x43_29 {d : Nat} {L : Lc} {st : List Value} {a b : Nat} {h : Hp} (ht : (h.2.1 a).1 = 10) : ex (d) 43 29 L (.ref b :: .ref a :: st) h = ex d 43 32 L st (mup h.1 a 4 (.ref b), h.2) := (ex_of d43_29 (d) L (.ref b :: .ref a :: st) h).trans (fin_put (mi := 43) f10_23 ht rfl rfl (by decide +kernel))
theorem x43_29n {d : Nat} {L : Lc} {st : List Value} {a : Nat} {h : Hp} (ht : (h.2.1 a).1 = 10) : ex (d) 43 29 L (.null :: .ref a :: st) h = ex d 43 32 L st (mup h.1 a 4 .null, h.2) := (ex_of d43_29 (d) L (.null :: .ref a :: st) h).trans (fin_put (mi := 43) f10_23 ht rfl rfl (by decide +kernel))
theorem x43_29q {d : Nat} {L : Lc} {st : List Value} {a : Nat} {b : Option Nat} {h : Hp} (ht : (h.2.1 a).1 = 10) : ex (d) 43 29 L (va_rf b :: .ref a :: st) h = ex d 43 32 L st (mup h.1 a 4 (va_rf b), h.2) := (ex_of d43_29 (d) L (va_rf b :: .ref a :: st) h).trans (by cases b <;> exact fin_put (mi := 43) f10_23 ht rfl rfl (by decide +kernel))
theorem d43_32 : decode (mB 43) 32 = .ok (.aload_n 0, 1) := by decide +kernel
theorem x43_32 {d : Nat} {st : List Value} {a : Nat} {h : Hp} : ex (d) 43 32 [some (.ref a)] st h = ex d 43 33 [some (.ref a)] (.ref a :: st) h := (ex_of d43_32 (d) [some (.ref a)] st h).trans (rfl)
theorem d43_33 : decode (mB 43) 33 = .ok (.sipush 300, 3) := by decide +kernel
theorem x43_33 {d : Nat} {L : Lc} {st : List Value} {h : Hp} : ex (d) 43 33 L st h = ex d 43 36 L (.int (nI 300) :: st) h := (ex_of d43_33 (d) L st h).trans (rfl)
theorem d43_36 : decode (mB 43) 36 = .ok (.anewarray 27, 3) := by decide +kernel
theorem x43_36 {d : Nat} {L : Lc} {st : List Value} {n : Nat} {h : Hp} (hn : n ≤ 10000) : ex (d) 43 36 L (.int (nI n) :: st) h = ex d 43 39 L (.ref h.2.2.1 :: st) (mnw h.1 h.2.2.1 (fun _ => .null), mnw h.2.1 h.2.2.1 (24, n), h.2.2.1 + 1, h.2.2.2 + n) := (ex_of d43_36 (d) L (.int (nI n) :: st) h).trans (fin_anw (mi := 43) k10_27 rfl (by decide) hn)
theorem d43_39 : decode (mB 43) 39 = .ok (.putfield 29, 3) := by decide +kernel
theorem x43_39 {d : Nat} {L : Lc} {st : List Value} {a b : Nat} {h : Hp} (ht : (h.2.1 a).1 = 10) : ex (d) 43 39 L (.ref b :: .ref a :: st) h = ex d 43 42 L st (mup h.1 a 6 (.ref b), h.2) := (ex_of d43_39 (d) L (.ref b :: .ref a :: st) h).trans (fin_put (mi := 43) f10_29 ht rfl rfl (by decide +kernel))
theorem x43_39n {d : Nat} {L : Lc} {st : List Value} {a : Nat} {h : Hp} (ht : (h.2.1 a).1 = 10) : ex (d) 43 39 L (.null :: .ref a :: st) h = ex d 43 42 L st (mup h.1 a 6 .null, h.2) := (ex_of d43_39 (d) L (.null :: .ref a :: st) h).trans (fin_put (mi := 43) f10_29 ht rfl rfl (by decide +kernel))
theorem x43_39q {d : Nat} {L : Lc} {st : List Value} {a : Nat} {b : Option Nat} {h : Hp} (ht : (h.2.1 a).1 = 10) : ex (d) 43 39 L (va_rf b :: .ref a :: st) h = ex d 43 42 L st (mup h.1 a 6 (va_rf b), h.2) := (ex_of d43_39 (d) L (va_rf b :: .ref a :: st) h).trans (by cases b <;> exact fin_put (mi := 43) f10_29 ht rfl rfl (by decide +kernel))
theorem d43_42 : decode (mB 43) 42 = .ok (.aload_n 0, 1) := by decide +kernel
theorem x43_42 {d : Nat} {st : List Value} {a : Nat} {h : Hp} : ex (d) 43 42 [some (.ref a)] st h = ex d 43 43 [some (.ref a)] (.ref a :: st) h := (ex_of d43_42 (d) [some (.ref a)] st h).trans (rfl)
theorem d43_43 : decode (mB 43) 43 = .ok (.sipush 512, 3) := by decide +kernel
theorem x43_43 {d : Nat} {L : Lc} {st : List Value} {h : Hp} : ex (d) 43 43 L st h = ex d 43 46 L (.int (nI 512) :: st) h := (ex_of d43_43 (d) L st h).trans (rfl)
theorem d43_46 : decode (mB 43) 46 = .ok (.anewarray 33, 3) := by decide +kernel
theorem x43_46 {d : Nat} {L : Lc} {st : List Value} {n : Nat} {h : Hp} (hn : n ≤ 10000) : ex (d) 43 46 L (.int (nI n) :: st) h = ex d 43 49 L (.ref h.2.2.1 :: st) (mnw h.1 h.2.2.1 (fun _ => .null), mnw h.2.1 h.2.2.1 (25, n), h.2.2.1 + 1, h.2.2.2 + n) := (ex_of d43_46 (d) L (.int (nI n) :: st) h).trans (fin_anw (mi := 43) k10_33 rfl (by decide) hn)
theorem d43_49 : decode (mB 43) 49 = .ok (.putfield 35, 3) := by decide +kernel
theorem x43_49 {d : Nat} {L : Lc} {st : List Value} {a b : Nat} {h : Hp} (ht : (h.2.1 a).1 = 10) : ex (d) 43 49 L (.ref b :: .ref a :: st) h = ex d 43 52 L st (mup h.1 a 8 (.ref b), h.2) := (ex_of d43_49 (d) L (.ref b :: .ref a :: st) h).trans (fin_put (mi := 43) f10_35 ht rfl rfl (by decide +kernel))
theorem x43_49n {d : Nat} {L : Lc} {st : List Value} {a : Nat} {h : Hp} (ht : (h.2.1 a).1 = 10) : ex (d) 43 49 L (.null :: .ref a :: st) h = ex d 43 52 L st (mup h.1 a 8 .null, h.2) := (ex_of d43_49 (d) L (.null :: .ref a :: st) h).trans (fin_put (mi := 43) f10_35 ht rfl rfl (by decide +kernel))
theorem x43_49q {d : Nat} {L : Lc} {st : List Value} {a : Nat} {b : Option Nat} {h : Hp} (ht : (h.2.1 a).1 = 10) : ex (d) 43 49 L (va_rf b :: .ref a :: st) h = ex d 43 52 L st (mup h.1 a 8 (va_rf b), h.2) := (ex_of d43_49 (d) L (va_rf b :: .ref a :: st) h).trans (by cases b <;> exact fin_put (mi := 43) f10_35 ht rfl rfl (by decide +kernel))
theorem d43_52 : decode (mB 43) 52 = .ok (.aload_n 0, 1) := by decide +kernel
theorem x43_52 {d : Nat} {st : List Value} {a : Nat} {h : Hp} : ex (d) 43 52 [some (.ref a)] st h = ex d 43 53 [some (.ref a)] (.ref a :: st) h := (ex_of d43_52 (d) [some (.ref a)] st h).trans (rfl)
theorem d43_53 : decode (mB 43) 53 = .ok (.new 39, 3) := by decide +kernel
theorem x43_53 {d : Nat} {L : Lc} {st : List Value} {h : Hp} : ex (d) 43 53 L st h = ex d 43 56 L (.ref h.2.2.1 :: st) (mnw h.1 h.2.2.1 (fun k => dfv (pty 5 k)), mnw h.2.1 h.2.2.1 (5, 18), h.2.2.1 + 1, h.2.2.2 + 18) := (ex_of d43_53 (d) L st h).trans (fin_new (mi := 43) k10_39 rfl (by decide))
theorem d43_56 : decode (mB 43) 56 = .ok (.dup, 1) := by decide +kernel
theorem x43_56 {d : Nat} {L : Lc} {st : List Value} {a : Nat} {h : Hp} : ex (d) 43 56 L (.ref a :: st) h = ex d 43 57 L (.ref a :: .ref a :: st) h := (ex_of d43_56 (d) L (.ref a :: st) h).trans (rfl)
theorem x43_56i {d : Nat} {L : Lc} {st : List Value} {x : Int32} {h : Hp} : ex (d) 43 56 L (.int x :: st) h = ex d 43 57 L (.int x :: .int x :: st) h := (ex_of d43_56 (d) L (.int x :: st) h).trans (rfl)
theorem d43_57 : decode (mB 43) 57 = .ok (.invokespecial 41, 3) := by decide +kernel
theorem x43_57 {d : Nat} {L : Lc} {s0 s1 : Value} {a : Nat} {h : Hp} : ex (d + 1) 43 57 L (.ref a :: [s0, s1]) h = bnd (ex d 13 0 [some (.ref a)] [] h) (fun v h' => ex (d + 1) 43 60 L (v.toList ++ [s0, s1]) h') := (ex_of d43_57 (d + 1) L (.ref a :: [s0, s1]) h).trans (fin_sp (mi := 43) i10_41 (Or.inr rfl) rfl (by simp [cat1_i, cat1_r]) (by simp) (Nat.le_of_ble_eq_true rfl))
theorem d43_60 : decode (mB 43) 60 = .ok (.putfield 42, 3) := by decide +kernel
theorem x43_60 {d : Nat} {L : Lc} {st : List Value} {a b : Nat} {h : Hp} (ht : (h.2.1 a).1 = 10) : ex (d) 43 60 L (.ref b :: .ref a :: st) h = ex d 43 63 L st (mup h.1 a 10 (.ref b), h.2) := (ex_of d43_60 (d) L (.ref b :: .ref a :: st) h).trans (fin_put (mi := 43) f10_42 ht rfl rfl (by decide +kernel))
theorem x43_60n {d : Nat} {L : Lc} {st : List Value} {a : Nat} {h : Hp} (ht : (h.2.1 a).1 = 10) : ex (d) 43 60 L (.null :: .ref a :: st) h = ex d 43 63 L st (mup h.1 a 10 .null, h.2) := (ex_of d43_60 (d) L (.null :: .ref a :: st) h).trans (fin_put (mi := 43) f10_42 ht rfl rfl (by decide +kernel))
theorem x43_60q {d : Nat} {L : Lc} {st : List Value} {a : Nat} {b : Option Nat} {h : Hp} (ht : (h.2.1 a).1 = 10) : ex (d) 43 60 L (va_rf b :: .ref a :: st) h = ex d 43 63 L st (mup h.1 a 10 (va_rf b), h.2) := (ex_of d43_60 (d) L (va_rf b :: .ref a :: st) h).trans (by cases b <;> exact fin_put (mi := 43) f10_42 ht rfl rfl (by decide +kernel))
theorem d43_63 : decode (mB 43) 63 = .ok (.aload_n 0, 1) := by decide +kernel
theorem x43_63 {d : Nat} {st : List Value} {a : Nat} {h : Hp} : ex (d) 43 63 [some (.ref a)] st h = ex d 43 64 [some (.ref a)] (.ref a :: st) h := (ex_of d43_63 (d) [some (.ref a)] st h).trans (rfl)
theorem d43_64 : decode (mB 43) 64 = .ok (.iconst 0, 1) := by decide +kernel
theorem x43_64 {d : Nat} {L : Lc} {st : List Value} {h : Hp} : ex (d) 43 64 L st h = ex d 43 65 L (.int (nI 0) :: st) h := (ex_of d43_64 (d) L st h).trans (rfl)
theorem d43_65 : decode (mB 43) 65 = .ok (.putfield 46, 3) := by decide +kernel
theorem x43_65 {d : Nat} {L : Lc} {st : List Value} {a : Nat} {x : Int32} {h : Hp} (ht : (h.2.1 a).1 = 10) : ex (d) 43 65 L (.int x :: .ref a :: st) h = ex d 43 68 L st (mup h.1 a 16 (.int x), h.2) := (ex_of d43_65 (d) L (.int x :: .ref a :: st) h).trans (fin_put (mi := 43) f10_46 ht rfl rfl (by decide +kernel))
theorem d43_68 : decode (mB 43) 68 = .ok (.return_, 1) := by decide +kernel
theorem x43_68 {d : Nat} {L : Lc}  {h : Hp} : ex (d) 43 68 L [] h = some (none, h) := (ex_of d43_68 (d) L [] h).trans (rfl)
theorem d44_0 : decode (mB 44) 0 = .ok (.iload_n 1, 1) := by decide +kernel
theorem x44_0 {d : Nat} {l0 l2 : Option Value} {st : List Value} {x : Int32} {h : Hp} : ex (d) 44 0 [l0, some (.int x), l2] st h = ex d 44 1 [l0, some (.int x), l2] (.int x :: st) h := (ex_of d44_0 (d) [l0, some (.int x), l2] st h).trans (rfl)
theorem d44_1 : decode (mB 44) 1 = .ok (.iconst 1, 1) := by decide +kernel
theorem x44_1 {d : Nat} {L : Lc} {st : List Value} {h : Hp} : ex (d) 44 1 L st h = ex d 44 2 L (.int (nI 1) :: st) h := (ex_of d44_1 (d) L st h).trans (rfl)
theorem d44_2 : decode (mB 44) 2 = .ok (.bipush 40, 2) := by decide +kernel
theorem x44_2 {d : Nat} {L : Lc} {st : List Value} {h : Hp} : ex (d) 44 2 L st h = ex d 44 4 L (.int (nI 40) :: st) h := (ex_of d44_2 (d) L st h).trans (rfl)
theorem d44_4 : decode (mB 44) 4 = .ok (.invokestatic 50, 3) := by decide +kernel
theorem x44_4 {d : Nat} {L : Lc}  {v0 : Int32} {v1 : Int32} {v2 : Int32} {h : Hp} : ex (d + 1) 44 4 L (.int v2 :: .int v1 :: .int v0 :: []) h = bnd (ex d 92 0 [some (.int v0), some (.int v1), some (.int v2)] [] h) (fun v h' => ex (d + 1) 44 7 L (v.toList ++ []) h') := (ex_of d44_4 (d + 1) L (.int v2 :: .int v1 :: .int v0 :: []) h).trans (fin_st (mi := 44) i10_50 (Or.inl rfl) (by simp) (by simp [cat1_i, cat1_r]) (by simp) (Nat.le_of_ble_eq_true rfl))
theorem d44_7 : decode (mB 44) 7 = .ok (.ifCond .eq 12, 3) := by decide +kernel
theorem x44_7 {d : Nat} {L : Lc} {st : List Value} {x : Int32} {h : Hp} : ex (d) 44 7 L (.int x :: st) h = if x = 0 then ex d 44 19 L st h else ex d 44 10 L st h := (ex_of d44_7 (d) L (.int x :: st) h).trans (fin_brq (off := 12) (tgt := 19) rfl (by decide))
theorem d44_10 : decode (mB 44) 10 = .ok (.aload_n 0, 1) := by decide +kernel
theorem x44_10 {d : Nat} {l1 l2 : Option Value} {st : List Value} {a : Nat} {h : Hp} : ex (d) 44 10 [some (.ref a), l1, l2] st h = ex d 44 11 [some (.ref a), l1, l2] (.ref a :: st) h := (ex_of d44_10 (d) [some (.ref a), l1, l2] st h).trans (rfl)
theorem d44_11 : decode (mB 44) 11 = .ok (.getfield 54, 3) := by decide +kernel
theorem x44_11 {d : Nat} {L : Lc} {st : List Value} {a : Nat} {h : Hp} (ht : (h.2.1 a).1 = 10) : ex (d) 44 11 L (.ref a :: st) h = ex d 44 14 L (h.1 a 3 :: st) h := (ex_of d44_11 (d) L (.ref a :: st) h).trans (fin_get (mi := 44) f10_54 (tg1 ht rfl))
theorem d44_14 : decode (mB 44) 14 = .ok (.bipush 12, 2) := by decide +kernel
theorem x44_14 {d : Nat} {L : Lc} {st : List Value} {h : Hp} : ex (d) 44 14 L st h = ex d 44 16 L (.int (nI 12) :: st) h := (ex_of d44_14 (d) L st h).trans (rfl)
theorem d44_16 : decode (mB 44) 16 = .ok (.if_icmp .lt 10, 3) := by decide +kernel
theorem x44_16 {d : Nat} {L : Lc} {st : List Value} {x y : Int32} {h : Hp} : ex (d) 44 16 L (.int y :: .int x :: st) h = if x < y then ex d 44 26 L st h else ex d 44 19 L st h := (ex_of d44_16 (d) L (.int y :: .int x :: st) h).trans (fin_brq (off := 10) (tgt := 26) rfl (by decide))
theorem d44_19 : decode (mB 44) 19 = .ok (.aload_n 0, 1) := by decide +kernel
theorem x44_19 {d : Nat} {l1 l2 : Option Value} {st : List Value} {a : Nat} {h : Hp} : ex (d) 44 19 [some (.ref a), l1, l2] st h = ex d 44 20 [some (.ref a), l1, l2] (.ref a :: st) h := (ex_of d44_19 (d) [some (.ref a), l1, l2] st h).trans (rfl)
theorem d44_20 : decode (mB 44) 20 = .ok (.bipush 6, 2) := by decide +kernel
theorem x44_20 {d : Nat} {L : Lc} {st : List Value} {h : Hp} : ex (d) 44 20 L st h = ex d 44 22 L (.int (nI 6) :: st) h := (ex_of d44_20 (d) L st h).trans (rfl)
theorem d44_22 : decode (mB 44) 22 = .ok (.invokevirtual 57, 3) := by decide +kernel
theorem x44_22 {d : Nat} {L : Lc} {a : Nat} {v0 : Int32} {h : Hp} (ht : (h.2.1 a).1 = 10) : ex (d + 1) 44 22 L (.int v0 :: .ref a :: []) h = bnd (ex d 84 0 [some (.ref a), some (.int v0)] [] h) (fun v h' => ex (d + 1) 44 25 L (v.toList ++ []) h') := (ex_of d44_22 (d + 1) L (.int v0 :: .ref a :: []) h).trans (fin_vi (mi := 44) i10_57 ht rfl rfl (by simp [cat1_i, cat1_r]) (by simp) (Nat.le_of_ble_eq_true rfl))
theorem d44_25 : decode (mB 44) 25 = .ok (.ireturn, 1) := by decide +kernel
theorem x44_25 {d : Nat} {L : Lc} {x : Int32} {h : Hp} : ex (d) 44 25 L [.int x] h = some (some (.int x), h) := (ex_of d44_25 (d) L [.int x] h).trans (rfl)
theorem d44_26 : decode (mB 44) 26 = .ok (.aload_n 0, 1) := by decide +kernel
theorem x44_26 {d : Nat} {l1 l2 : Option Value} {st : List Value} {a : Nat} {h : Hp} : ex (d) 44 26 [some (.ref a), l1, l2] st h = ex d 44 27 [some (.ref a), l1, l2] (.ref a :: st) h := (ex_of d44_26 (d) [some (.ref a), l1, l2] st h).trans (rfl)
theorem d44_27 : decode (mB 44) 27 = .ok (.getfield 54, 3) := by decide +kernel
theorem x44_27 {d : Nat} {L : Lc} {st : List Value} {a : Nat} {h : Hp} (ht : (h.2.1 a).1 = 10) : ex (d) 44 27 L (.ref a :: st) h = ex d 44 30 L (h.1 a 3 :: st) h := (ex_of d44_27 (d) L (.ref a :: st) h).trans (fin_get (mi := 44) f10_54 (tg1 ht rfl))
theorem d44_30 : decode (mB 44) 30 = .ok (.istore_n 2, 1) := by decide +kernel
theorem x44_30 {d : Nat} {l0 l1 l2 : Option Value} {st : List Value} {x : Int32} {h : Hp} : ex (d) 44 30 [l0, l1, l2] (.int x :: st) h = ex d 44 31 [l0, clr l1, some (.int x)] st h := (ex_of d44_30 (d) [l0, l1, l2] (.int x :: st) h).trans (rfl)
theorem d44_31 : decode (mB 44) 31 = .ok (.aload_n 0, 1) := by decide +kernel
theorem x44_31 {d : Nat} {l1 l2 : Option Value} {st : List Value} {a : Nat} {h : Hp} : ex (d) 44 31 [some (.ref a), l1, l2] st h = ex d 44 32 [some (.ref a), l1, l2] (.ref a :: st) h := (ex_of d44_31 (d) [some (.ref a), l1, l2] st h).trans (rfl)
theorem d44_32 : decode (mB 44) 32 = .ok (.getfield 17, 3) := by decide +kernel
theorem x44_32 {d : Nat} {L : Lc} {st : List Value} {a : Nat} {h : Hp} (ht : (h.2.1 a).1 = 10) : ex (d) 44 32 L (.ref a :: st) h = ex d 44 35 L (h.1 a 2 :: st) h := (ex_of d44_32 (d) L (.ref a :: st) h).trans (fin_get (mi := 44) f10_17 (tg1 ht rfl))
theorem d44_35 : decode (mB 44) 35 = .ok (.iload_n 2, 1) := by decide +kernel
theorem x44_35 {d : Nat} {l0 l1 : Option Value} {st : List Value} {x : Int32} {h : Hp} : ex (d) 44 35 [l0, l1, some (.int x)] st h = ex d 44 36 [l0, l1, some (.int x)] (.int x :: st) h := (ex_of d44_35 (d) [l0, l1, some (.int x)] st h).trans (rfl)
theorem d44_36 : decode (mB 44) 36 = .ok (.new 15, 3) := by decide +kernel
theorem x44_36 {d : Nat} {L : Lc} {st : List Value} {h : Hp} : ex (d) 44 36 L st h = ex d 44 39 L (.ref h.2.2.1 :: st) (mnw h.1 h.2.2.1 (fun k => dfv (pty 3 k)), mnw h.2.1 h.2.2.1 (3, 3), h.2.2.1 + 1, h.2.2.2 + 3) := (ex_of d44_36 (d) L st h).trans (fin_new (mi := 44) k10_15 rfl (by decide))
theorem d44_39 : decode (mB 44) 39 = .ok (.dup, 1) := by decide +kernel
theorem x44_39 {d : Nat} {L : Lc} {st : List Value} {a : Nat} {h : Hp} : ex (d) 44 39 L (.ref a :: st) h = ex d 44 40 L (.ref a :: .ref a :: st) h := (ex_of d44_39 (d) L (.ref a :: st) h).trans (rfl)
theorem x44_39i {d : Nat} {L : Lc} {st : List Value} {x : Int32} {h : Hp} : ex (d) 44 39 L (.int x :: st) h = ex d 44 40 L (.int x :: .int x :: st) h := (ex_of d44_39 (d) L (.int x :: st) h).trans (rfl)
theorem d44_40 : decode (mB 44) 40 = .ok (.iload_n 2, 1) := by decide +kernel
theorem x44_40 {d : Nat} {l0 l1 : Option Value} {st : List Value} {x : Int32} {h : Hp} : ex (d) 44 40 [l0, l1, some (.int x)] st h = ex d 44 41 [l0, l1, some (.int x)] (.int x :: st) h := (ex_of d44_40 (d) [l0, l1, some (.int x)] st h).trans (rfl)
theorem d44_41 : decode (mB 44) 41 = .ok (.aconst_null, 1) := by decide +kernel
theorem x44_41 {d : Nat} {L : Lc} {st : List Value} {h : Hp} : ex (d) 44 41 L st h = ex d 44 42 L (.null :: st) h := (ex_of d44_41 (d) L st h).trans (rfl)
theorem d44_42 : decode (mB 44) 42 = .ok (.iload_n 1, 1) := by decide +kernel
theorem x44_42 {d : Nat} {l0 l2 : Option Value} {st : List Value} {x : Int32} {h : Hp} : ex (d) 44 42 [l0, some (.int x), l2] st h = ex d 44 43 [l0, some (.int x), l2] (.int x :: st) h := (ex_of d44_42 (d) [l0, some (.int x), l2] st h).trans (rfl)
theorem d44_43 : decode (mB 44) 43 = .ok (.invokespecial 61, 3) := by decide +kernel
theorem x44_43 {d : Nat} {L : Lc} {s0 s1 s2 : Value} {a : Nat} {v0 : Int32} {v1 : Value} {v2 : Int32} {h : Hp} (hv1 : isR v1 = true) : ex (d + 1) 44 43 L (.int v2 :: v1 :: .int v0 :: .ref a :: [s0, s1, s2]) h = bnd (ex d 5 0 [some (.ref a), some (.int v0), some v1, some (.int v2)] [] h) (fun v h' => ex (d + 1) 44 46 L (v.toList ++ [s0, s1, s2]) h') := (ex_of d44_43 (d + 1) L (.int v2 :: v1 :: .int v0 :: .ref a :: [s0, s1, s2]) h).trans (fin_sp (mi := 44) i10_61 (Or.inl rfl) rfl (by simp [cat1_i, cat1_r, isR_cat1 hv1]) (by simp) (Nat.le_of_ble_eq_true rfl))
theorem d44_46 : decode (mB 44) 46 = .ok (.aastore, 1) := by decide +kernel
theorem x44_46 {d : Nat} {L : Lc} {st : List Value} {a j v : Nat} {h : Hp} (ht : 21 ≤ (h.2.1 a).1 ∧ (h.2.1 a).1 ≤ 25) (hc : casts.contains ((h.2.1 v).1, elT (h.2.1 a).1) = true) (hj : j < (h.2.1 a).2) (hb : j < 2147483648) : ex (d) 44 46 L (.ref v :: .int (nI j) :: .ref a :: st) h = ex d 44 47 L st (mup h.1 a j (.ref v), h.2) := (ex_of d44_46 (d) L (.ref v :: .int (nI j) :: .ref a :: st) h).trans (fin_aastore ht hc hj hb)
theorem x44_46n {d : Nat} {L : Lc} {st : List Value} {a j : Nat} {h : Hp} (ht : 21 ≤ (h.2.1 a).1 ∧ (h.2.1 a).1 ≤ 25) (hj : j < (h.2.1 a).2) (hb : j < 2147483648) : ex (d) 44 46 L (.null :: .int (nI j) :: .ref a :: st) h = ex d 44 47 L st (mup h.1 a j .null, h.2) := (ex_of d44_46 (d) L (.null :: .int (nI j) :: .ref a :: st) h).trans (fin_aastoreN ht hj hb)
theorem d44_47 : decode (mB 44) 47 = .ok (.aload_n 0, 1) := by decide +kernel
theorem x44_47 {d : Nat} {l1 l2 : Option Value} {st : List Value} {a : Nat} {h : Hp} : ex (d) 44 47 [some (.ref a), l1, l2] st h = ex d 44 48 [some (.ref a), l1, l2] (.ref a :: st) h := (ex_of d44_47 (d) [some (.ref a), l1, l2] st h).trans (rfl)
theorem d44_48 : decode (mB 44) 48 = .ok (.dup, 1) := by decide +kernel
theorem x44_48 {d : Nat} {L : Lc} {st : List Value} {a : Nat} {h : Hp} : ex (d) 44 48 L (.ref a :: st) h = ex d 44 49 L (.ref a :: .ref a :: st) h := (ex_of d44_48 (d) L (.ref a :: st) h).trans (rfl)
theorem x44_48i {d : Nat} {L : Lc} {st : List Value} {x : Int32} {h : Hp} : ex (d) 44 48 L (.int x :: st) h = ex d 44 49 L (.int x :: .int x :: st) h := (ex_of d44_48 (d) L (.int x :: st) h).trans (rfl)
theorem d44_49 : decode (mB 44) 49 = .ok (.getfield 54, 3) := by decide +kernel
theorem x44_49 {d : Nat} {L : Lc} {st : List Value} {a : Nat} {h : Hp} (ht : (h.2.1 a).1 = 10) : ex (d) 44 49 L (.ref a :: st) h = ex d 44 52 L (h.1 a 3 :: st) h := (ex_of d44_49 (d) L (.ref a :: st) h).trans (fin_get (mi := 44) f10_54 (tg1 ht rfl))
theorem d44_52 : decode (mB 44) 52 = .ok (.iconst 1, 1) := by decide +kernel
theorem x44_52 {d : Nat} {L : Lc} {st : List Value} {h : Hp} : ex (d) 44 52 L st h = ex d 44 53 L (.int (nI 1) :: st) h := (ex_of d44_52 (d) L st h).trans (rfl)
theorem d44_53 : decode (mB 44) 53 = .ok (.iadd, 1) := by decide +kernel
theorem x44_53 {d : Nat} {L : Lc} {st : List Value} {x y : Int32} {h : Hp} : ex (d) 44 53 L (.int y :: .int x :: st) h = ex d 44 54 L (.int (x + y) :: st) h := (ex_of d44_53 (d) L (.int y :: .int x :: st) h).trans (rfl)
theorem d44_54 : decode (mB 44) 54 = .ok (.putfield 54, 3) := by decide +kernel
theorem x44_54 {d : Nat} {L : Lc} {st : List Value} {a : Nat} {x : Int32} {h : Hp} (ht : (h.2.1 a).1 = 10) : ex (d) 44 54 L (.int x :: .ref a :: st) h = ex d 44 57 L st (mup h.1 a 3 (.int x), h.2) := (ex_of d44_54 (d) L (.int x :: .ref a :: st) h).trans (fin_put (mi := 44) f10_54 ht rfl rfl (by decide +kernel))
theorem d44_57 : decode (mB 44) 57 = .ok (.aload_n 0, 1) := by decide +kernel
theorem x44_57 {d : Nat} {l1 l2 : Option Value} {st : List Value} {a : Nat} {h : Hp} : ex (d) 44 57 [some (.ref a), l1, l2] st h = ex d 44 58 [some (.ref a), l1, l2] (.ref a :: st) h := (ex_of d44_57 (d) [some (.ref a), l1, l2] st h).trans (rfl)
theorem d44_58 : decode (mB 44) 58 = .ok (.iload_n 2, 1) := by decide +kernel
theorem x44_58 {d : Nat} {l0 l1 : Option Value} {st : List Value} {x : Int32} {h : Hp} : ex (d) 44 58 [l0, l1, some (.int x)] st h = ex d 44 59 [l0, l1, some (.int x)] (.int x :: st) h := (ex_of d44_58 (d) [l0, l1, some (.int x)] st h).trans (rfl)
theorem d44_59 : decode (mB 44) 59 = .ok (.invokevirtual 64, 3) := by decide +kernel
theorem x44_59 {d : Nat} {L : Lc} {a : Nat} {v0 : Int32} {h : Hp} (ht : (h.2.1 a).1 = 10) : ex (d + 1) 44 59 L (.int v0 :: .ref a :: []) h = bnd (ex d 85 0 [some (.ref a), some (.int v0)] [] h) (fun v h' => ex (d + 1) 44 62 L (v.toList ++ []) h') := (ex_of d44_59 (d + 1) L (.int v0 :: .ref a :: []) h).trans (fin_vi (mi := 44) i10_64 ht rfl rfl (by simp [cat1_i, cat1_r]) (by simp) (Nat.le_of_ble_eq_true rfl))
theorem d44_62 : decode (mB 44) 62 = .ok (.ireturn, 1) := by decide +kernel
theorem x44_62 {d : Nat} {L : Lc} {x : Int32} {h : Hp} : ex (d) 44 62 L [.int x] h = some (some (.int x), h) := (ex_of d44_62 (d) L [.int x] h).trans (rfl)
theorem d45_0 : decode (mB 45) 0 = .ok (.iload_n 1, 1) := by decide +kernel
theorem x45_0 {d : Nat} {l0 : Option Value} {st : List Value} {x : Int32} {h : Hp} : ex (d) 45 0 [l0, some (.int x)] st h = ex d 45 1 [l0, some (.int x)] (.int x :: st) h := (ex_of d45_0 (d) [l0, some (.int x)] st h).trans (rfl)
theorem d45_1 : decode (mB 45) 1 = .ok (.iconst 0, 1) := by decide +kernel
theorem x45_1 {d : Nat} {L : Lc} {st : List Value} {h : Hp} : ex (d) 45 1 L st h = ex d 45 2 L (.int (nI 0) :: st) h := (ex_of d45_1 (d) L st h).trans (rfl)
theorem d45_2 : decode (mB 45) 2 = .ok (.iconst 3, 1) := by decide +kernel
theorem x45_2 {d : Nat} {L : Lc} {st : List Value} {h : Hp} : ex (d) 45 2 L st h = ex d 45 3 L (.int (nI 3) :: st) h := (ex_of d45_2 (d) L st h).trans (rfl)
theorem d45_3 : decode (mB 45) 3 = .ok (.invokestatic 50, 3) := by decide +kernel
theorem x45_3 {d : Nat} {L : Lc}  {v0 : Int32} {v1 : Int32} {v2 : Int32} {h : Hp} : ex (d + 1) 45 3 L (.int v2 :: .int v1 :: .int v0 :: []) h = bnd (ex d 92 0 [some (.int v0), some (.int v1), some (.int v2)] [] h) (fun v h' => ex (d + 1) 45 6 L (v.toList ++ []) h') := (ex_of d45_3 (d + 1) L (.int v2 :: .int v1 :: .int v0 :: []) h).trans (fin_st (mi := 45) i10_50 (Or.inl rfl) (by simp) (by simp [cat1_i, cat1_r]) (by simp) (Nat.le_of_ble_eq_true rfl))
theorem d45_6 : decode (mB 45) 6 = .ok (.ifCond .eq 10, 3) := by decide +kernel
theorem x45_6 {d : Nat} {L : Lc} {st : List Value} {x : Int32} {h : Hp} : ex (d) 45 6 L (.int x :: st) h = if x = 0 then ex d 45 16 L st h else ex d 45 9 L st h := (ex_of d45_6 (d) L (.int x :: st) h).trans (fin_brq (off := 10) (tgt := 16) rfl (by decide))
theorem d45_9 : decode (mB 45) 9 = .ok (.aload_n 0, 1) := by decide +kernel
theorem x45_9 {d : Nat} {l1 : Option Value} {st : List Value} {a : Nat} {h : Hp} : ex (d) 45 9 [some (.ref a), l1] st h = ex d 45 10 [some (.ref a), l1] (.ref a :: st) h := (ex_of d45_9 (d) [some (.ref a), l1] st h).trans (rfl)
theorem d45_10 : decode (mB 45) 10 = .ok (.invokevirtual 67, 3) := by decide +kernel
theorem x45_10 {d : Nat} {L : Lc} {a : Nat} {h : Hp} (ht : (h.2.1 a).1 = 10) : ex (d + 1) 45 10 L (.ref a :: []) h = bnd (ex d 96 0 [some (.ref a)] [] h) (fun v h' => ex (d + 1) 45 13 L (v.toList ++ []) h') := (ex_of d45_10 (d + 1) L (.ref a :: []) h).trans (fin_vi (mi := 45) i10_67 ht rfl rfl (by simp [cat1_i, cat1_r]) (by simp) (Nat.le_of_ble_eq_true rfl))
theorem d45_13 : decode (mB 45) 13 = .ok (.ifCond .ne 10, 3) := by decide +kernel
theorem x45_13 {d : Nat} {L : Lc} {st : List Value} {x : Int32} {h : Hp} : ex (d) 45 13 L (.int x :: st) h = if ¬ x = 0 then ex d 45 23 L st h else ex d 45 16 L st h := (ex_of d45_13 (d) L (.int x :: st) h).trans (fin_brq (off := 10) (tgt := 23) rfl (by decide))
theorem d45_16 : decode (mB 45) 16 = .ok (.aload_n 0, 1) := by decide +kernel
theorem x45_16 {d : Nat} {l1 : Option Value} {st : List Value} {a : Nat} {h : Hp} : ex (d) 45 16 [some (.ref a), l1] st h = ex d 45 17 [some (.ref a), l1] (.ref a :: st) h := (ex_of d45_16 (d) [some (.ref a), l1] st h).trans (rfl)
theorem d45_17 : decode (mB 45) 17 = .ok (.bipush 6, 2) := by decide +kernel
theorem x45_17 {d : Nat} {L : Lc} {st : List Value} {h : Hp} : ex (d) 45 17 L st h = ex d 45 19 L (.int (nI 6) :: st) h := (ex_of d45_17 (d) L st h).trans (rfl)
theorem d45_19 : decode (mB 45) 19 = .ok (.invokevirtual 57, 3) := by decide +kernel
theorem x45_19 {d : Nat} {L : Lc} {a : Nat} {v0 : Int32} {h : Hp} (ht : (h.2.1 a).1 = 10) : ex (d + 1) 45 19 L (.int v0 :: .ref a :: []) h = bnd (ex d 84 0 [some (.ref a), some (.int v0)] [] h) (fun v h' => ex (d + 1) 45 22 L (v.toList ++ []) h') := (ex_of d45_19 (d + 1) L (.int v0 :: .ref a :: []) h).trans (fin_vi (mi := 45) i10_57 ht rfl rfl (by simp [cat1_i, cat1_r]) (by simp) (Nat.le_of_ble_eq_true rfl))
theorem d45_22 : decode (mB 45) 22 = .ok (.ireturn, 1) := by decide +kernel
theorem x45_22 {d : Nat} {L : Lc} {x : Int32} {h : Hp} : ex (d) 45 22 L [.int x] h = some (some (.int x), h) := (ex_of d45_22 (d) L [.int x] h).trans (rfl)
theorem d45_23 : decode (mB 45) 23 = .ok (.aload_n 0, 1) := by decide +kernel
theorem x45_23 {d : Nat} {l1 : Option Value} {st : List Value} {a : Nat} {h : Hp} : ex (d) 45 23 [some (.ref a), l1] st h = ex d 45 24 [some (.ref a), l1] (.ref a :: st) h := (ex_of d45_23 (d) [some (.ref a), l1] st h).trans (rfl)
theorem d45_24 : decode (mB 45) 24 = .ok (.new 71, 3) := by decide +kernel
theorem x45_24 {d : Nat} {L : Lc} {st : List Value} {h : Hp} : ex (d) 45 24 L st h = ex d 45 27 L (.ref h.2.2.1 :: st) (mnw h.1 h.2.2.1 (fun k => dfv (pty 1 k)), mnw h.2.1 h.2.2.1 (1, 9), h.2.2.1 + 1, h.2.2.2 + 9) := (ex_of d45_24 (d) L st h).trans (fin_new (mi := 45) k10_71 rfl (by decide))
theorem d45_27 : decode (mB 45) 27 = .ok (.dup, 1) := by decide +kernel
theorem x45_27 {d : Nat} {L : Lc} {st : List Value} {a : Nat} {h : Hp} : ex (d) 45 27 L (.ref a :: st) h = ex d 45 28 L (.ref a :: .ref a :: st) h := (ex_of d45_27 (d) L (.ref a :: st) h).trans (rfl)
theorem x45_27i {d : Nat} {L : Lc} {st : List Value} {x : Int32} {h : Hp} : ex (d) 45 27 L (.int x :: st) h = ex d 45 28 L (.int x :: .int x :: st) h := (ex_of d45_27 (d) L (.int x :: st) h).trans (rfl)
theorem d45_28 : decode (mB 45) 28 = .ok (.aload_n 0, 1) := by decide +kernel
theorem x45_28 {d : Nat} {l1 : Option Value} {st : List Value} {a : Nat} {h : Hp} : ex (d) 45 28 [some (.ref a), l1] st h = ex d 45 29 [some (.ref a), l1] (.ref a :: st) h := (ex_of d45_28 (d) [some (.ref a), l1] st h).trans (rfl)
theorem d45_29 : decode (mB 45) 29 = .ok (.getfield 73, 3) := by decide +kernel
theorem x45_29 {d : Nat} {L : Lc} {st : List Value} {a : Nat} {h : Hp} (ht : (h.2.1 a).1 = 10) : ex (d) 45 29 L (.ref a :: st) h = ex d 45 32 L (h.1 a 1 :: st) h := (ex_of d45_29 (d) L (.ref a :: st) h).trans (fin_get (mi := 45) f10_73 (tg1 ht rfl))
theorem d45_32 : decode (mB 45) 32 = .ok (.iload_n 1, 1) := by decide +kernel
theorem x45_32 {d : Nat} {l0 : Option Value} {st : List Value} {x : Int32} {h : Hp} : ex (d) 45 32 [l0, some (.int x)] st h = ex d 45 33 [l0, some (.int x)] (.int x :: st) h := (ex_of d45_32 (d) [l0, some (.int x)] st h).trans (rfl)
theorem d45_33 : decode (mB 45) 33 = .ok (.invokespecial 76, 3) := by decide +kernel
theorem x45_33 {d : Nat} {L : Lc} {s0 s1 : Value} {a : Nat} {v0 : Int32} {v1 : Int32} {h : Hp} : ex (d + 1) 45 33 L (.int v1 :: .int v0 :: .ref a :: [s0, s1]) h = bnd (ex d 2 0 [some (.ref a), some (.int v0), some (.int v1)] [] h) (fun v h' => ex (d + 1) 45 36 L (v.toList ++ [s0, s1]) h') := (ex_of d45_33 (d + 1) L (.int v1 :: .int v0 :: .ref a :: [s0, s1]) h).trans (fin_sp (mi := 45) i10_76 (Or.inl rfl) rfl (by simp [cat1_i, cat1_r]) (by simp) (Nat.le_of_ble_eq_true rfl))
theorem d45_36 : decode (mB 45) 36 = .ok (.invokevirtual 79, 3) := by decide +kernel
theorem x45_36 {d : Nat} {L : Lc} {a : Nat} {v0 : Value} {h : Hp} (ht : (h.2.1 a).1 = 10) (hv0 : isR v0 = true) : ex (d + 1) 45 36 L (v0 :: .ref a :: []) h = bnd (ex d 97 0 [some (.ref a), some v0] [] h) (fun v h' => ex (d + 1) 45 39 L (v.toList ++ []) h') := (ex_of d45_36 (d + 1) L (v0 :: .ref a :: []) h).trans (fin_vi (mi := 45) i10_79 ht rfl rfl (by simp [cat1_i, cat1_r, isR_cat1 hv0]) (by simp) (Nat.le_of_ble_eq_true rfl))
theorem d45_39 : decode (mB 45) 39 = .ok (.ireturn, 1) := by decide +kernel
theorem x45_39 {d : Nat} {L : Lc} {x : Int32} {h : Hp} : ex (d) 45 39 L [.int x] h = some (some (.int x), h) := (ex_of d45_39 (d) L [.int x] h).trans (rfl)
theorem d46_0 : decode (mB 46) 0 = .ok (.aload_n 0, 1) := by decide +kernel
theorem x46_0 {d : Nat} {st : List Value} {a : Nat} {h : Hp} : ex (d) 46 0 [some (.ref a)] st h = ex d 46 1 [some (.ref a)] (.ref a :: st) h := (ex_of d46_0 (d) [some (.ref a)] st h).trans (rfl)
theorem d46_1 : decode (mB 46) 1 = .ok (.iconst 4, 1) := by decide +kernel
theorem x46_1 {d : Nat} {L : Lc} {st : List Value} {h : Hp} : ex (d) 46 1 L st h = ex d 46 2 L (.int (nI 4) :: st) h := (ex_of d46_1 (d) L st h).trans (rfl)
theorem d46_2 : decode (mB 46) 2 = .ok (.bipush 6, 2) := by decide +kernel
theorem x46_2 {d : Nat} {L : Lc} {st : List Value} {h : Hp} : ex (d) 46 2 L st h = ex d 46 4 L (.int (nI 6) :: st) h := (ex_of d46_2 (d) L st h).trans (rfl)
theorem d46_4 : decode (mB 46) 4 = .ok (.bipush 6, 2) := by decide +kernel
theorem x46_4 {d : Nat} {L : Lc} {st : List Value} {h : Hp} : ex (d) 46 4 L st h = ex d 46 6 L (.int (nI 6) :: st) h := (ex_of d46_4 (d) L st h).trans (rfl)
theorem d46_6 : decode (mB 46) 6 = .ok (.invokevirtual 83, 3) := by decide +kernel
theorem x46_6 {d : Nat} {L : Lc} {a : Nat} {v0 : Int32} {v1 : Int32} {v2 : Int32} {h : Hp} (ht : (h.2.1 a).1 = 10) : ex (d + 1) 46 6 L (.int v2 :: .int v1 :: .int v0 :: .ref a :: []) h = bnd (ex d 98 0 [some (.ref a), some (.int v0), some (.int v1), some (.int v2), none] [] h) (fun v h' => ex (d + 1) 46 9 L (v.toList ++ []) h') := (ex_of d46_6 (d + 1) L (.int v2 :: .int v1 :: .int v0 :: .ref a :: []) h).trans (fin_vi (mi := 46) i10_83 ht rfl rfl (by simp [cat1_i, cat1_r]) (by simp) (Nat.le_of_ble_eq_true rfl))
theorem d46_9 : decode (mB 46) 9 = .ok (.ireturn, 1) := by decide +kernel
theorem x46_9 {d : Nat} {L : Lc} {x : Int32} {h : Hp} : ex (d) 46 9 L [.int x] h = some (some (.int x), h) := (ex_of d46_9 (d) L [.int x] h).trans (rfl)
theorem d47_0 : decode (mB 47) 0 = .ok (.aload_n 0, 1) := by decide +kernel
theorem x47_0 {d : Nat} {l1 : Option Value} {st : List Value} {a : Nat} {h : Hp} : ex (d) 47 0 [some (.ref a), l1] st h = ex d 47 1 [some (.ref a), l1] (.ref a :: st) h := (ex_of d47_0 (d) [some (.ref a), l1] st h).trans (rfl)
theorem d47_1 : decode (mB 47) 1 = .ok (.iconst 5, 1) := by decide +kernel
theorem x47_1 {d : Nat} {L : Lc} {st : List Value} {h : Hp} : ex (d) 47 1 L st h = ex d 47 2 L (.int (nI 5) :: st) h := (ex_of d47_1 (d) L st h).trans (rfl)
theorem d47_2 : decode (mB 47) 2 = .ok (.iload_n 1, 1) := by decide +kernel
theorem x47_2 {d : Nat} {l0 : Option Value} {st : List Value} {x : Int32} {h : Hp} : ex (d) 47 2 [l0, some (.int x)] st h = ex d 47 3 [l0, some (.int x)] (.int x :: st) h := (ex_of d47_2 (d) [l0, some (.int x)] st h).trans (rfl)
theorem d47_3 : decode (mB 47) 3 = .ok (.bipush 20, 2) := by decide +kernel
theorem x47_3 {d : Nat} {L : Lc} {st : List Value} {h : Hp} : ex (d) 47 3 L st h = ex d 47 5 L (.int (nI 20) :: st) h := (ex_of d47_3 (d) L st h).trans (rfl)
theorem d47_5 : decode (mB 47) 5 = .ok (.invokevirtual 83, 3) := by decide +kernel
theorem x47_5 {d : Nat} {L : Lc} {a : Nat} {v0 : Int32} {v1 : Int32} {v2 : Int32} {h : Hp} (ht : (h.2.1 a).1 = 10) : ex (d + 1) 47 5 L (.int v2 :: .int v1 :: .int v0 :: .ref a :: []) h = bnd (ex d 98 0 [some (.ref a), some (.int v0), some (.int v1), some (.int v2), none] [] h) (fun v h' => ex (d + 1) 47 8 L (v.toList ++ []) h') := (ex_of d47_5 (d + 1) L (.int v2 :: .int v1 :: .int v0 :: .ref a :: []) h).trans (fin_vi (mi := 47) i10_83 ht rfl rfl (by simp [cat1_i, cat1_r]) (by simp) (Nat.le_of_ble_eq_true rfl))
theorem d47_8 : decode (mB 47) 8 = .ok (.ireturn, 1) := by decide +kernel
theorem x47_8 {d : Nat} {L : Lc} {x : Int32} {h : Hp} : ex (d) 47 8 L [.int x] h = some (some (.int x), h) := (ex_of d47_8 (d) L [.int x] h).trans (rfl)
theorem d48_0 : decode (mB 48) 0 = .ok (.iload_n 1, 1) := by decide +kernel
theorem x48_0 {d : Nat} {l0 l2 : Option Value} {st : List Value} {x : Int32} {h : Hp} : ex (d) 48 0 [l0, some (.int x), l2] st h = ex d 48 1 [l0, some (.int x), l2] (.int x :: st) h := (ex_of d48_0 (d) [l0, some (.int x), l2] st h).trans (rfl)
theorem d48_1 : decode (mB 48) 1 = .ok (.bipush 6, 2) := by decide +kernel
theorem x48_1 {d : Nat} {L : Lc} {st : List Value} {h : Hp} : ex (d) 48 1 L st h = ex d 48 3 L (.int (nI 6) :: st) h := (ex_of d48_1 (d) L st h).trans (rfl)
theorem d48_3 : decode (mB 48) 3 = .ok (.bipush 8, 2) := by decide +kernel
theorem x48_3 {d : Nat} {L : Lc} {st : List Value} {h : Hp} : ex (d) 48 3 L st h = ex d 48 5 L (.int (nI 8) :: st) h := (ex_of d48_3 (d) L st h).trans (rfl)
theorem d48_5 : decode (mB 48) 5 = .ok (.invokestatic 50, 3) := by decide +kernel
theorem x48_5 {d : Nat} {L : Lc}  {v0 : Int32} {v1 : Int32} {v2 : Int32} {h : Hp} : ex (d + 1) 48 5 L (.int v2 :: .int v1 :: .int v0 :: []) h = bnd (ex d 92 0 [some (.int v0), some (.int v1), some (.int v2)] [] h) (fun v h' => ex (d + 1) 48 8 L (v.toList ++ []) h') := (ex_of d48_5 (d + 1) L (.int v2 :: .int v1 :: .int v0 :: []) h).trans (fin_st (mi := 48) i10_50 (Or.inl rfl) (by simp) (by simp [cat1_i, cat1_r]) (by simp) (Nat.le_of_ble_eq_true rfl))
theorem d48_8 : decode (mB 48) 8 = .ok (.ifCond .eq 20, 3) := by decide +kernel
theorem x48_8 {d : Nat} {L : Lc} {st : List Value} {x : Int32} {h : Hp} : ex (d) 48 8 L (.int x :: st) h = if x = 0 then ex d 48 28 L st h else ex d 48 11 L st h := (ex_of d48_8 (d) L (.int x :: st) h).trans (fin_brq (off := 20) (tgt := 28) rfl (by decide))
theorem d48_11 : decode (mB 48) 11 = .ok (.iload_n 2, 1) := by decide +kernel
theorem x48_11 {d : Nat} {l0 l1 : Option Value} {st : List Value} {x : Int32} {h : Hp} : ex (d) 48 11 [l0, l1, some (.int x)] st h = ex d 48 12 [l0, l1, some (.int x)] (.int x :: st) h := (ex_of d48_11 (d) [l0, l1, some (.int x)] st h).trans (rfl)
theorem d48_12 : decode (mB 48) 12 = .ok (.iconst 0, 1) := by decide +kernel
theorem x48_12 {d : Nat} {L : Lc} {st : List Value} {h : Hp} : ex (d) 48 12 L st h = ex d 48 13 L (.int (nI 0) :: st) h := (ex_of d48_12 (d) L st h).trans (rfl)
theorem d48_13 : decode (mB 48) 13 = .ok (.bipush 40, 2) := by decide +kernel
theorem x48_13 {d : Nat} {L : Lc} {st : List Value} {h : Hp} : ex (d) 48 13 L st h = ex d 48 15 L (.int (nI 40) :: st) h := (ex_of d48_13 (d) L st h).trans (rfl)
theorem d48_15 : decode (mB 48) 15 = .ok (.invokestatic 50, 3) := by decide +kernel
theorem x48_15 {d : Nat} {L : Lc}  {v0 : Int32} {v1 : Int32} {v2 : Int32} {h : Hp} : ex (d + 1) 48 15 L (.int v2 :: .int v1 :: .int v0 :: []) h = bnd (ex d 92 0 [some (.int v0), some (.int v1), some (.int v2)] [] h) (fun v h' => ex (d + 1) 48 18 L (v.toList ++ []) h') := (ex_of d48_15 (d + 1) L (.int v2 :: .int v1 :: .int v0 :: []) h).trans (fin_st (mi := 48) i10_50 (Or.inl rfl) (by simp) (by simp [cat1_i, cat1_r]) (by simp) (Nat.le_of_ble_eq_true rfl))
theorem d48_18 : decode (mB 48) 18 = .ok (.ifCond .eq 10, 3) := by decide +kernel
theorem x48_18 {d : Nat} {L : Lc} {st : List Value} {x : Int32} {h : Hp} : ex (d) 48 18 L (.int x :: st) h = if x = 0 then ex d 48 28 L st h else ex d 48 21 L st h := (ex_of d48_18 (d) L (.int x :: st) h).trans (fin_brq (off := 10) (tgt := 28) rfl (by decide))
theorem d48_21 : decode (mB 48) 21 = .ok (.aload_n 0, 1) := by decide +kernel
theorem x48_21 {d : Nat} {l1 l2 : Option Value} {st : List Value} {a : Nat} {h : Hp} : ex (d) 48 21 [some (.ref a), l1, l2] st h = ex d 48 22 [some (.ref a), l1, l2] (.ref a :: st) h := (ex_of d48_21 (d) [some (.ref a), l1, l2] st h).trans (rfl)
theorem d48_22 : decode (mB 48) 22 = .ok (.invokevirtual 67, 3) := by decide +kernel
theorem x48_22 {d : Nat} {L : Lc} {a : Nat} {h : Hp} (ht : (h.2.1 a).1 = 10) : ex (d + 1) 48 22 L (.ref a :: []) h = bnd (ex d 96 0 [some (.ref a)] [] h) (fun v h' => ex (d + 1) 48 25 L (v.toList ++ []) h') := (ex_of d48_22 (d + 1) L (.ref a :: []) h).trans (fin_vi (mi := 48) i10_67 ht rfl rfl (by simp [cat1_i, cat1_r]) (by simp) (Nat.le_of_ble_eq_true rfl))
theorem d48_25 : decode (mB 48) 25 = .ok (.ifCond .ne 10, 3) := by decide +kernel
theorem x48_25 {d : Nat} {L : Lc} {st : List Value} {x : Int32} {h : Hp} : ex (d) 48 25 L (.int x :: st) h = if ¬ x = 0 then ex d 48 35 L st h else ex d 48 28 L st h := (ex_of d48_25 (d) L (.int x :: st) h).trans (fin_brq (off := 10) (tgt := 35) rfl (by decide))
theorem d48_28 : decode (mB 48) 28 = .ok (.aload_n 0, 1) := by decide +kernel
theorem x48_28 {d : Nat} {l1 l2 : Option Value} {st : List Value} {a : Nat} {h : Hp} : ex (d) 48 28 [some (.ref a), l1, l2] st h = ex d 48 29 [some (.ref a), l1, l2] (.ref a :: st) h := (ex_of d48_28 (d) [some (.ref a), l1, l2] st h).trans (rfl)
theorem d48_29 : decode (mB 48) 29 = .ok (.bipush 6, 2) := by decide +kernel
theorem x48_29 {d : Nat} {L : Lc} {st : List Value} {h : Hp} : ex (d) 48 29 L st h = ex d 48 31 L (.int (nI 6) :: st) h := (ex_of d48_29 (d) L st h).trans (rfl)
theorem d48_31 : decode (mB 48) 31 = .ok (.invokevirtual 57, 3) := by decide +kernel
theorem x48_31 {d : Nat} {L : Lc} {a : Nat} {v0 : Int32} {h : Hp} (ht : (h.2.1 a).1 = 10) : ex (d + 1) 48 31 L (.int v0 :: .ref a :: []) h = bnd (ex d 84 0 [some (.ref a), some (.int v0)] [] h) (fun v h' => ex (d + 1) 48 34 L (v.toList ++ []) h') := (ex_of d48_31 (d + 1) L (.int v0 :: .ref a :: []) h).trans (fin_vi (mi := 48) i10_57 ht rfl rfl (by simp [cat1_i, cat1_r]) (by simp) (Nat.le_of_ble_eq_true rfl))
theorem d48_34 : decode (mB 48) 34 = .ok (.ireturn, 1) := by decide +kernel
theorem x48_34 {d : Nat} {L : Lc} {x : Int32} {h : Hp} : ex (d) 48 34 L [.int x] h = some (some (.int x), h) := (ex_of d48_34 (d) L [.int x] h).trans (rfl)
theorem d48_35 : decode (mB 48) 35 = .ok (.aload_n 0, 1) := by decide +kernel
theorem x48_35 {d : Nat} {l1 l2 : Option Value} {st : List Value} {a : Nat} {h : Hp} : ex (d) 48 35 [some (.ref a), l1, l2] st h = ex d 48 36 [some (.ref a), l1, l2] (.ref a :: st) h := (ex_of d48_35 (d) [some (.ref a), l1, l2] st h).trans (rfl)
theorem d48_36 : decode (mB 48) 36 = .ok (.new 87, 3) := by decide +kernel
theorem x48_36 {d : Nat} {L : Lc} {st : List Value} {h : Hp} : ex (d) 48 36 L st h = ex d 48 39 L (.ref h.2.2.1 :: st) (mnw h.1 h.2.2.1 (fun k => dfv (pty 8 k)), mnw h.2.1 h.2.2.1 (8, 7), h.2.2.1 + 1, h.2.2.2 + 7) := (ex_of d48_36 (d) L st h).trans (fin_new (mi := 48) k10_87 rfl (by decide))
theorem d48_39 : decode (mB 48) 39 = .ok (.dup, 1) := by decide +kernel
theorem x48_39 {d : Nat} {L : Lc} {st : List Value} {a : Nat} {h : Hp} : ex (d) 48 39 L (.ref a :: st) h = ex d 48 40 L (.ref a :: .ref a :: st) h := (ex_of d48_39 (d) L (.ref a :: st) h).trans (rfl)
theorem x48_39i {d : Nat} {L : Lc} {st : List Value} {x : Int32} {h : Hp} : ex (d) 48 39 L (.int x :: st) h = ex d 48 40 L (.int x :: .int x :: st) h := (ex_of d48_39 (d) L (.int x :: st) h).trans (rfl)
theorem d48_40 : decode (mB 48) 40 = .ok (.aload_n 0, 1) := by decide +kernel
theorem x48_40 {d : Nat} {l1 l2 : Option Value} {st : List Value} {a : Nat} {h : Hp} : ex (d) 48 40 [some (.ref a), l1, l2] st h = ex d 48 41 [some (.ref a), l1, l2] (.ref a :: st) h := (ex_of d48_40 (d) [some (.ref a), l1, l2] st h).trans (rfl)
theorem d48_41 : decode (mB 48) 41 = .ok (.getfield 73, 3) := by decide +kernel
theorem x48_41 {d : Nat} {L : Lc} {st : List Value} {a : Nat} {h : Hp} (ht : (h.2.1 a).1 = 10) : ex (d) 48 41 L (.ref a :: st) h = ex d 48 44 L (h.1 a 1 :: st) h := (ex_of d48_41 (d) L (.ref a :: st) h).trans (fin_get (mi := 48) f10_73 (tg1 ht rfl))
theorem d48_44 : decode (mB 48) 44 = .ok (.iload_n 1, 1) := by decide +kernel
theorem x48_44 {d : Nat} {l0 l2 : Option Value} {st : List Value} {x : Int32} {h : Hp} : ex (d) 48 44 [l0, some (.int x), l2] st h = ex d 48 45 [l0, some (.int x), l2] (.int x :: st) h := (ex_of d48_44 (d) [l0, some (.int x), l2] st h).trans (rfl)
theorem d48_45 : decode (mB 48) 45 = .ok (.iload_n 2, 1) := by decide +kernel
theorem x48_45 {d : Nat} {l0 l1 : Option Value} {st : List Value} {x : Int32} {h : Hp} : ex (d) 48 45 [l0, l1, some (.int x)] st h = ex d 48 46 [l0, l1, some (.int x)] (.int x :: st) h := (ex_of d48_45 (d) [l0, l1, some (.int x)] st h).trans (rfl)
theorem d48_46 : decode (mB 48) 46 = .ok (.invokespecial 89, 3) := by decide +kernel
theorem x48_46 {d : Nat} {L : Lc} {s0 s1 : Value} {a : Nat} {v0 : Int32} {v1 : Int32} {v2 : Int32} {h : Hp} : ex (d + 1) 48 46 L (.int v2 :: .int v1 :: .int v0 :: .ref a :: [s0, s1]) h = bnd (ex d 35 0 [some (.ref a), some (.int v0), some (.int v1), some (.int v2)] [] h) (fun v h' => ex (d + 1) 48 49 L (v.toList ++ [s0, s1]) h') := (ex_of d48_46 (d + 1) L (.int v2 :: .int v1 :: .int v0 :: .ref a :: [s0, s1]) h).trans (fin_sp (mi := 48) i10_89 (Or.inl rfl) rfl (by simp [cat1_i, cat1_r]) (by simp) (Nat.le_of_ble_eq_true rfl))
theorem d48_49 : decode (mB 48) 49 = .ok (.invokevirtual 79, 3) := by decide +kernel
theorem x48_49 {d : Nat} {L : Lc} {a : Nat} {v0 : Value} {h : Hp} (ht : (h.2.1 a).1 = 10) (hv0 : isR v0 = true) : ex (d + 1) 48 49 L (v0 :: .ref a :: []) h = bnd (ex d 97 0 [some (.ref a), some v0] [] h) (fun v h' => ex (d + 1) 48 52 L (v.toList ++ []) h') := (ex_of d48_49 (d + 1) L (v0 :: .ref a :: []) h).trans (fin_vi (mi := 48) i10_79 ht rfl rfl (by simp [cat1_i, cat1_r, isR_cat1 hv0]) (by simp) (Nat.le_of_ble_eq_true rfl))
theorem d48_52 : decode (mB 48) 52 = .ok (.ireturn, 1) := by decide +kernel
theorem x48_52 {d : Nat} {L : Lc} {x : Int32} {h : Hp} : ex (d) 48 52 L [.int x] h = some (some (.int x), h) := (ex_of d48_52 (d) L [.int x] h).trans (rfl)
theorem d49_0 : decode (mB 49) 0 = .ok (.aload_n 0, 1) := by decide +kernel
theorem x49_0 {d : Nat} {l1 l2 l3 l4 : Option Value} {st : List Value} {a : Nat} {h : Hp} : ex (d) 49 0 [some (.ref a), l1, l2, l3, l4] st h = ex d 49 1 [some (.ref a), l1, l2, l3, l4] (.ref a :: st) h := (ex_of d49_0 (d) [some (.ref a), l1, l2, l3, l4] st h).trans (rfl)
theorem d49_1 : decode (mB 49) 1 = .ok (.iload_n 1, 1) := by decide +kernel
theorem x49_1 {d : Nat} {l0 l2 l3 l4 : Option Value} {st : List Value} {x : Int32} {h : Hp} : ex (d) 49 1 [l0, some (.int x), l2, l3, l4] st h = ex d 49 2 [l0, some (.int x), l2, l3, l4] (.int x :: st) h := (ex_of d49_1 (d) [l0, some (.int x), l2, l3, l4] st h).trans (rfl)
theorem d49_2 : decode (mB 49) 2 = .ok (.iload_n 2, 1) := by decide +kernel
theorem x49_2 {d : Nat} {l0 l1 l3 l4 : Option Value} {st : List Value} {x : Int32} {h : Hp} : ex (d) 49 2 [l0, l1, some (.int x), l3, l4] st h = ex d 49 3 [l0, l1, some (.int x), l3, l4] (.int x :: st) h := (ex_of d49_2 (d) [l0, l1, some (.int x), l3, l4] st h).trans (rfl)
theorem d49_3 : decode (mB 49) 3 = .ok (.invokevirtual 92, 3) := by decide +kernel
theorem x49_3 {d : Nat} {L : Lc} {a : Nat} {v0 : Int32} {v1 : Int32} {h : Hp} (ht : (h.2.1 a).1 = 10) : ex (d + 1) 49 3 L (.int v1 :: .int v0 :: .ref a :: []) h = bnd (ex d 90 0 [some (.ref a), some (.int v0), some (.int v1), none, none] [] h) (fun v h' => ex (d + 1) 49 6 L (v.toList ++ []) h') := (ex_of d49_3 (d + 1) L (.int v1 :: .int v0 :: .ref a :: []) h).trans (fin_vi (mi := 49) i10_92 ht rfl rfl (by simp [cat1_i, cat1_r]) (by simp) (Nat.le_of_ble_eq_true rfl))
theorem d49_6 : decode (mB 49) 6 = .ok (.astore 4, 2) := by decide +kernel
theorem x49_6 {d : Nat} {l0 l1 l2 l3 l4 : Option Value} {st : List Value} {a : Nat} {h : Hp} : ex (d) 49 6 [l0, l1, l2, l3, l4] (.ref a :: st) h = ex d 49 8 [l0, l1, l2, clr l3, some (.ref a)] st h := (ex_of d49_6 (d) [l0, l1, l2, l3, l4] (.ref a :: st) h).trans (rfl)
theorem x49_6n {d : Nat} {l0 l1 l2 l3 l4 : Option Value} {st : List Value} {h : Hp} : ex (d) 49 6 [l0, l1, l2, l3, l4] (.null :: st) h = ex d 49 8 [l0, l1, l2, clr l3, some .null] st h := (ex_of d49_6 (d) [l0, l1, l2, l3, l4] (.null :: st) h).trans (rfl)
theorem x49_6q {d : Nat} {l0 l1 l2 l3 l4 : Option Value} {st : List Value} {a : Option Nat} {h : Hp} : ex (d) 49 6 [l0, l1, l2, l3, l4] (va_rf a :: st) h = ex d 49 8 [l0, l1, l2, clr l3, some (va_rf a)] st h := (ex_of d49_6 (d) [l0, l1, l2, l3, l4] (va_rf a :: st) h).trans (by cases a <;> rfl)
theorem d49_8 : decode (mB 49) 8 = .ok (.aload 4, 2) := by decide +kernel
theorem x49_8 {d : Nat} {l0 l1 l2 l3 : Option Value} {st : List Value} {a : Nat} {h : Hp} : ex (d) 49 8 [l0, l1, l2, l3, some (.ref a)] st h = ex d 49 10 [l0, l1, l2, l3, some (.ref a)] (.ref a :: st) h := (ex_of d49_8 (d) [l0, l1, l2, l3, some (.ref a)] st h).trans (rfl)
theorem x49_8n {d : Nat} {l0 l1 l2 l3 : Option Value} {st : List Value} {h : Hp} : ex (d) 49 8 [l0, l1, l2, l3, some .null] st h = ex d 49 10 [l0, l1, l2, l3, some .null] (.null :: st) h := (ex_of d49_8 (d) [l0, l1, l2, l3, some .null] st h).trans (rfl)
theorem x49_8q {d : Nat} {l0 l1 l2 l3 : Option Value} {st : List Value} {a : Option Nat} {h : Hp} : ex (d) 49 8 [l0, l1, l2, l3, some (va_rf a)] st h = ex d 49 10 [l0, l1, l2, l3, some (va_rf a)] (va_rf a :: st) h := (ex_of d49_8 (d) [l0, l1, l2, l3, some (va_rf a)] st h).trans (by cases a <;> rfl)
theorem d49_10 : decode (mB 49) 10 = .ok (.ifnonnull 5, 3) := by decide +kernel
theorem x49_10n {d : Nat} {L : Lc} {st : List Value} {h : Hp} : ex (d) 49 10 L (.null :: st) h = ex d 49 13 L st h := (ex_of d49_10 (d) L (.null :: st) h).trans (rfl)
theorem x49_10 {d : Nat} {L : Lc} {st : List Value} {a : Nat} {h : Hp} : ex (d) 49 10 L (.ref a :: st) h = ex d 49 15 L st h := (ex_of d49_10 (d) L (.ref a :: st) h).trans (rfl)
theorem d49_13 : decode (mB 49) 13 = .ok (.iconst (-1), 1) := by decide +kernel
theorem x49_13 {d : Nat} {L : Lc} {st : List Value} {h : Hp} : ex (d) 49 13 L st h = ex d 49 14 L (.int (-1) :: st) h := (ex_of d49_13 (d) L st h).trans (rfl)
theorem d49_14 : decode (mB 49) 14 = .ok (.ireturn, 1) := by decide +kernel
theorem x49_14 {d : Nat} {L : Lc} {x : Int32} {h : Hp} : ex (d) 49 14 L [.int x] h = some (some (.int x), h) := (ex_of d49_14 (d) L [.int x] h).trans (rfl)
theorem d49_15 : decode (mB 49) 15 = .ok (.aload 4, 2) := by decide +kernel
theorem x49_15 {d : Nat} {l0 l1 l2 l3 : Option Value} {st : List Value} {a : Nat} {h : Hp} : ex (d) 49 15 [l0, l1, l2, l3, some (.ref a)] st h = ex d 49 17 [l0, l1, l2, l3, some (.ref a)] (.ref a :: st) h := (ex_of d49_15 (d) [l0, l1, l2, l3, some (.ref a)] st h).trans (rfl)
theorem x49_15n {d : Nat} {l0 l1 l2 l3 : Option Value} {st : List Value} {h : Hp} : ex (d) 49 15 [l0, l1, l2, l3, some .null] st h = ex d 49 17 [l0, l1, l2, l3, some .null] (.null :: st) h := (ex_of d49_15 (d) [l0, l1, l2, l3, some .null] st h).trans (rfl)
theorem x49_15q {d : Nat} {l0 l1 l2 l3 : Option Value} {st : List Value} {a : Option Nat} {h : Hp} : ex (d) 49 15 [l0, l1, l2, l3, some (va_rf a)] st h = ex d 49 17 [l0, l1, l2, l3, some (va_rf a)] (va_rf a :: st) h := (ex_of d49_15 (d) [l0, l1, l2, l3, some (va_rf a)] st h).trans (by cases a <;> rfl)
theorem d49_17 : decode (mB 49) 17 = .ok (.getfield 96, 3) := by decide +kernel
theorem x49_17 {d : Nat} {L : Lc} {st : List Value} {a : Nat} {h : Hp} (ht : (h.2.1 a).1 = 8) : ex (d) 49 17 L (.ref a :: st) h = ex d 49 20 L (h.1 a 1 :: st) h := (ex_of d49_17 (d) L (.ref a :: st) h).trans (fin_get (mi := 49) f10_96 (tg1 ht rfl))
theorem d49_20 : decode (mB 49) 20 = .ok (.bipush 7, 2) := by decide +kernel
theorem x49_20 {d : Nat} {L : Lc} {st : List Value} {h : Hp} : ex (d) 49 20 L st h = ex d 49 22 L (.int (nI 7) :: st) h := (ex_of d49_20 (d) L st h).trans (rfl)
theorem d49_22 : decode (mB 49) 22 = .ok (.if_icmp .ne 17, 3) := by decide +kernel
theorem x49_22 {d : Nat} {L : Lc} {st : List Value} {x y : Int32} {h : Hp} : ex (d) 49 22 L (.int y :: .int x :: st) h = if ¬ x = y then ex d 49 39 L st h else ex d 49 25 L st h := (ex_of d49_22 (d) L (.int y :: .int x :: st) h).trans (fin_brq (off := 17) (tgt := 39) rfl (by decide))
theorem d49_25 : decode (mB 49) 25 = .ok (.iload_n 3, 1) := by decide +kernel
theorem x49_25 {d : Nat} {l0 l1 l2 l4 : Option Value} {st : List Value} {x : Int32} {h : Hp} : ex (d) 49 25 [l0, l1, l2, some (.int x), l4] st h = ex d 49 26 [l0, l1, l2, some (.int x), l4] (.int x :: st) h := (ex_of d49_25 (d) [l0, l1, l2, some (.int x), l4] st h).trans (rfl)
theorem d49_26 : decode (mB 49) 26 = .ok (.invokestatic 99, 3) := by decide +kernel
theorem x49_26 {d : Nat} {L : Lc}  {v0 : Int32} {h : Hp} : ex (d + 1) 49 26 L (.int v0 :: []) h = bnd (ex d 95 0 [some (.int v0)] [] h) (fun v h' => ex (d + 1) 49 29 L (v.toList ++ []) h') := (ex_of d49_26 (d + 1) L (.int v0 :: []) h).trans (fin_st (mi := 49) i10_99 (Or.inl rfl) (by simp) (by simp [cat1_i, cat1_r]) (by simp) (Nat.le_of_ble_eq_true rfl))
theorem d49_29 : decode (mB 49) 29 = .ok (.ifCond .ne 10, 3) := by decide +kernel
theorem x49_29 {d : Nat} {L : Lc} {st : List Value} {x : Int32} {h : Hp} : ex (d) 49 29 L (.int x :: st) h = if ¬ x = 0 then ex d 49 39 L st h else ex d 49 32 L st h := (ex_of d49_29 (d) L (.int x :: st) h).trans (fin_brq (off := 10) (tgt := 39) rfl (by decide))
theorem d49_32 : decode (mB 49) 32 = .ok (.aload_n 0, 1) := by decide +kernel
theorem x49_32 {d : Nat} {l1 l2 l3 l4 : Option Value} {st : List Value} {a : Nat} {h : Hp} : ex (d) 49 32 [some (.ref a), l1, l2, l3, l4] st h = ex d 49 33 [some (.ref a), l1, l2, l3, l4] (.ref a :: st) h := (ex_of d49_32 (d) [some (.ref a), l1, l2, l3, l4] st h).trans (rfl)
theorem d49_33 : decode (mB 49) 33 = .ok (.bipush 6, 2) := by decide +kernel
theorem x49_33 {d : Nat} {L : Lc} {st : List Value} {h : Hp} : ex (d) 49 33 L st h = ex d 49 35 L (.int (nI 6) :: st) h := (ex_of d49_33 (d) L st h).trans (rfl)
theorem d49_35 : decode (mB 49) 35 = .ok (.invokevirtual 57, 3) := by decide +kernel
theorem x49_35 {d : Nat} {L : Lc} {a : Nat} {v0 : Int32} {h : Hp} (ht : (h.2.1 a).1 = 10) : ex (d + 1) 49 35 L (.int v0 :: .ref a :: []) h = bnd (ex d 84 0 [some (.ref a), some (.int v0)] [] h) (fun v h' => ex (d + 1) 49 38 L (v.toList ++ []) h') := (ex_of d49_35 (d + 1) L (.int v0 :: .ref a :: []) h).trans (fin_vi (mi := 49) i10_57 ht rfl rfl (by simp [cat1_i, cat1_r]) (by simp) (Nat.le_of_ble_eq_true rfl))
theorem d49_38 : decode (mB 49) 38 = .ok (.ireturn, 1) := by decide +kernel
theorem x49_38 {d : Nat} {L : Lc} {x : Int32} {h : Hp} : ex (d) 49 38 L [.int x] h = some (some (.int x), h) := (ex_of d49_38 (d) L [.int x] h).trans (rfl)
theorem d49_39 : decode (mB 49) 39 = .ok (.aload 4, 2) := by decide +kernel
theorem x49_39 {d : Nat} {l0 l1 l2 l3 : Option Value} {st : List Value} {a : Nat} {h : Hp} : ex (d) 49 39 [l0, l1, l2, l3, some (.ref a)] st h = ex d 49 41 [l0, l1, l2, l3, some (.ref a)] (.ref a :: st) h := (ex_of d49_39 (d) [l0, l1, l2, l3, some (.ref a)] st h).trans (rfl)
theorem x49_39n {d : Nat} {l0 l1 l2 l3 : Option Value} {st : List Value} {h : Hp} : ex (d) 49 39 [l0, l1, l2, l3, some .null] st h = ex d 49 41 [l0, l1, l2, l3, some .null] (.null :: st) h := (ex_of d49_39 (d) [l0, l1, l2, l3, some .null] st h).trans (rfl)
theorem x49_39q {d : Nat} {l0 l1 l2 l3 : Option Value} {st : List Value} {a : Option Nat} {h : Hp} : ex (d) 49 39 [l0, l1, l2, l3, some (va_rf a)] st h = ex d 49 41 [l0, l1, l2, l3, some (va_rf a)] (va_rf a :: st) h := (ex_of d49_39 (d) [l0, l1, l2, l3, some (va_rf a)] st h).trans (by cases a <;> rfl)
theorem d49_41 : decode (mB 49) 41 = .ok (.getfield 103, 3) := by decide +kernel
theorem x49_41 {d : Nat} {L : Lc} {st : List Value} {a : Nat} {h : Hp} (ht : (h.2.1 a).1 = 8) : ex (d) 49 41 L (.ref a :: st) h = ex d 49 44 L (h.1 a 6 :: st) h := (ex_of d49_41 (d) L (.ref a :: st) h).trans (fin_get (mi := 49) f10_103 (tg1 ht rfl))
theorem d49_44 : decode (mB 49) 44 = .ok (.iload_n 2, 1) := by decide +kernel
theorem x49_44 {d : Nat} {l0 l1 l3 l4 : Option Value} {st : List Value} {x : Int32} {h : Hp} : ex (d) 49 44 [l0, l1, some (.int x), l3, l4] st h = ex d 49 45 [l0, l1, some (.int x), l3, l4] (.int x :: st) h := (ex_of d49_44 (d) [l0, l1, some (.int x), l3, l4] st h).trans (rfl)
theorem d49_45 : decode (mB 49) 45 = .ok (.aload 4, 2) := by decide +kernel
theorem x49_45 {d : Nat} {l0 l1 l2 l3 : Option Value} {st : List Value} {a : Nat} {h : Hp} : ex (d) 49 45 [l0, l1, l2, l3, some (.ref a)] st h = ex d 49 47 [l0, l1, l2, l3, some (.ref a)] (.ref a :: st) h := (ex_of d49_45 (d) [l0, l1, l2, l3, some (.ref a)] st h).trans (rfl)
theorem x49_45n {d : Nat} {l0 l1 l2 l3 : Option Value} {st : List Value} {h : Hp} : ex (d) 49 45 [l0, l1, l2, l3, some .null] st h = ex d 49 47 [l0, l1, l2, l3, some .null] (.null :: st) h := (ex_of d49_45 (d) [l0, l1, l2, l3, some .null] st h).trans (rfl)
theorem x49_45q {d : Nat} {l0 l1 l2 l3 : Option Value} {st : List Value} {a : Option Nat} {h : Hp} : ex (d) 49 45 [l0, l1, l2, l3, some (va_rf a)] st h = ex d 49 47 [l0, l1, l2, l3, some (va_rf a)] (va_rf a :: st) h := (ex_of d49_45 (d) [l0, l1, l2, l3, some (va_rf a)] st h).trans (by cases a <;> rfl)
theorem d49_47 : decode (mB 49) 47 = .ok (.iload_n 3, 1) := by decide +kernel
theorem x49_47 {d : Nat} {l0 l1 l2 l4 : Option Value} {st : List Value} {x : Int32} {h : Hp} : ex (d) 49 47 [l0, l1, l2, some (.int x), l4] st h = ex d 49 48 [l0, l1, l2, some (.int x), l4] (.int x :: st) h := (ex_of d49_47 (d) [l0, l1, l2, some (.int x), l4] st h).trans (rfl)
theorem d49_48 : decode (mB 49) 48 = .ok (.invokevirtual 107, 3) := by decide +kernel
theorem x49_48 {d : Nat} {L : Lc} {s0 s1 : Value} {a : Nat} {v0 : Int32} {h : Hp} (ht : (h.2.1 a).1 = 8) : ex (d + 1) 49 48 L (.int v0 :: .ref a :: [s0, s1]) h = bnd (ex d 37 0 [some (.ref a), some (.int v0)] [] h) (fun v h' => ex (d + 1) 49 51 L (v.toList ++ [s0, s1]) h') := (ex_of d49_48 (d + 1) L (.int v0 :: .ref a :: [s0, s1]) h).trans (fin_vi (mi := 49) i10_107 ht rfl rfl (by simp [cat1_i, cat1_r]) (by simp) (Nat.le_of_ble_eq_true rfl))
theorem d49_51 : decode (mB 49) 51 = .ok (.iastore, 1) := by decide +kernel
theorem x49_51 {d : Nat} {L : Lc} {st : List Value} {a j : Nat} {x : Int32} {h : Hp} (ht : (h.2.1 a).1 = 20) (hj : j < (h.2.1 a).2) (hb : j < 2147483648) : ex (d) 49 51 L (.int x :: .int (nI j) :: .ref a :: st) h = ex d 49 52 L st (mup h.1 a j (.int x), h.2) := (ex_of d49_51 (d) L (.int x :: .int (nI j) :: .ref a :: st) h).trans (fin_iastore ht hj hb)
theorem d49_52 : decode (mB 49) 52 = .ok (.aload_n 0, 1) := by decide +kernel
theorem x49_52 {d : Nat} {l1 l2 l3 l4 : Option Value} {st : List Value} {a : Nat} {h : Hp} : ex (d) 49 52 [some (.ref a), l1, l2, l3, l4] st h = ex d 49 53 [some (.ref a), l1, l2, l3, l4] (.ref a :: st) h := (ex_of d49_52 (d) [some (.ref a), l1, l2, l3, l4] st h).trans (rfl)
theorem d49_53 : decode (mB 49) 53 = .ok (.iconst 1, 1) := by decide +kernel
theorem x49_53 {d : Nat} {L : Lc} {st : List Value} {h : Hp} : ex (d) 49 53 L st h = ex d 49 54 L (.int (nI 1) :: st) h := (ex_of d49_53 (d) L st h).trans (rfl)
theorem d49_54 : decode (mB 49) 54 = .ok (.invokevirtual 64, 3) := by decide +kernel
theorem x49_54 {d : Nat} {L : Lc} {a : Nat} {v0 : Int32} {h : Hp} (ht : (h.2.1 a).1 = 10) : ex (d + 1) 49 54 L (.int v0 :: .ref a :: []) h = bnd (ex d 85 0 [some (.ref a), some (.int v0)] [] h) (fun v h' => ex (d + 1) 49 57 L (v.toList ++ []) h') := (ex_of d49_54 (d + 1) L (.int v0 :: .ref a :: []) h).trans (fin_vi (mi := 49) i10_64 ht rfl rfl (by simp [cat1_i, cat1_r]) (by simp) (Nat.le_of_ble_eq_true rfl))
theorem d49_57 : decode (mB 49) 57 = .ok (.ireturn, 1) := by decide +kernel
theorem x49_57 {d : Nat} {L : Lc} {x : Int32} {h : Hp} : ex (d) 49 57 L [.int x] h = some (some (.int x), h) := (ex_of d49_57 (d) L [.int x] h).trans (rfl)
theorem d50_0 : decode (mB 50) 0 = .ok (.aload_n 0, 1) := by decide +kernel
theorem x50_0 {d : Nat} {l1 l2 l3 l4 : Option Value} {st : List Value} {a : Nat} {h : Hp} : ex (d) 50 0 [some (.ref a), l1, l2, l3, l4] st h = ex d 50 1 [some (.ref a), l1, l2, l3, l4] (.ref a :: st) h := (ex_of d50_0 (d) [some (.ref a), l1, l2, l3, l4] st h).trans (rfl)
theorem d50_1 : decode (mB 50) 1 = .ok (.iload_n 1, 1) := by decide +kernel
theorem x50_1 {d : Nat} {l0 l2 l3 l4 : Option Value} {st : List Value} {x : Int32} {h : Hp} : ex (d) 50 1 [l0, some (.int x), l2, l3, l4] st h = ex d 50 2 [l0, some (.int x), l2, l3, l4] (.int x :: st) h := (ex_of d50_1 (d) [l0, some (.int x), l2, l3, l4] st h).trans (rfl)
theorem d50_2 : decode (mB 50) 2 = .ok (.iload_n 2, 1) := by decide +kernel
theorem x50_2 {d : Nat} {l0 l1 l3 l4 : Option Value} {st : List Value} {x : Int32} {h : Hp} : ex (d) 50 2 [l0, l1, some (.int x), l3, l4] st h = ex d 50 3 [l0, l1, some (.int x), l3, l4] (.int x :: st) h := (ex_of d50_2 (d) [l0, l1, some (.int x), l3, l4] st h).trans (rfl)
theorem d50_3 : decode (mB 50) 3 = .ok (.invokevirtual 92, 3) := by decide +kernel
theorem x50_3 {d : Nat} {L : Lc} {a : Nat} {v0 : Int32} {v1 : Int32} {h : Hp} (ht : (h.2.1 a).1 = 10) : ex (d + 1) 50 3 L (.int v1 :: .int v0 :: .ref a :: []) h = bnd (ex d 90 0 [some (.ref a), some (.int v0), some (.int v1), none, none] [] h) (fun v h' => ex (d + 1) 50 6 L (v.toList ++ []) h') := (ex_of d50_3 (d + 1) L (.int v1 :: .int v0 :: .ref a :: []) h).trans (fin_vi (mi := 50) i10_92 ht rfl rfl (by simp [cat1_i, cat1_r]) (by simp) (Nat.le_of_ble_eq_true rfl))
theorem d50_6 : decode (mB 50) 6 = .ok (.astore_n 3, 1) := by decide +kernel
theorem x50_6 {d : Nat} {l0 l1 l2 l3 l4 : Option Value} {st : List Value} {a : Nat} {h : Hp} : ex (d) 50 6 [l0, l1, l2, l3, l4] (.ref a :: st) h = ex d 50 7 [l0, l1, clr l2, some (.ref a), l4] st h := (ex_of d50_6 (d) [l0, l1, l2, l3, l4] (.ref a :: st) h).trans (rfl)
theorem x50_6n {d : Nat} {l0 l1 l2 l3 l4 : Option Value} {st : List Value} {h : Hp} : ex (d) 50 6 [l0, l1, l2, l3, l4] (.null :: st) h = ex d 50 7 [l0, l1, clr l2, some .null, l4] st h := (ex_of d50_6 (d) [l0, l1, l2, l3, l4] (.null :: st) h).trans (rfl)
theorem x50_6q {d : Nat} {l0 l1 l2 l3 l4 : Option Value} {st : List Value} {a : Option Nat} {h : Hp} : ex (d) 50 6 [l0, l1, l2, l3, l4] (va_rf a :: st) h = ex d 50 7 [l0, l1, clr l2, some (va_rf a), l4] st h := (ex_of d50_6 (d) [l0, l1, l2, l3, l4] (va_rf a :: st) h).trans (by cases a <;> rfl)
theorem d50_7 : decode (mB 50) 7 = .ok (.aload_n 3, 1) := by decide +kernel
theorem x50_7 {d : Nat} {l0 l1 l2 l4 : Option Value} {st : List Value} {a : Nat} {h : Hp} : ex (d) 50 7 [l0, l1, l2, some (.ref a), l4] st h = ex d 50 8 [l0, l1, l2, some (.ref a), l4] (.ref a :: st) h := (ex_of d50_7 (d) [l0, l1, l2, some (.ref a), l4] st h).trans (rfl)
theorem x50_7n {d : Nat} {l0 l1 l2 l4 : Option Value} {st : List Value} {h : Hp} : ex (d) 50 7 [l0, l1, l2, some .null, l4] st h = ex d 50 8 [l0, l1, l2, some .null, l4] (.null :: st) h := (ex_of d50_7 (d) [l0, l1, l2, some .null, l4] st h).trans (rfl)
theorem x50_7q {d : Nat} {l0 l1 l2 l4 : Option Value} {st : List Value} {a : Option Nat} {h : Hp} : ex (d) 50 7 [l0, l1, l2, some (va_rf a), l4] st h = ex d 50 8 [l0, l1, l2, some (va_rf a), l4] (va_rf a :: st) h := (ex_of d50_7 (d) [l0, l1, l2, some (va_rf a), l4] st h).trans (by cases a <;> rfl)
theorem d50_8 : decode (mB 50) 8 = .ok (.ifnonnull 5, 3) := by decide +kernel
theorem x50_8n {d : Nat} {L : Lc} {st : List Value} {h : Hp} : ex (d) 50 8 L (.null :: st) h = ex d 50 11 L st h := (ex_of d50_8 (d) L (.null :: st) h).trans (rfl)
theorem x50_8 {d : Nat} {L : Lc} {st : List Value} {a : Nat} {h : Hp} : ex (d) 50 8 L (.ref a :: st) h = ex d 50 13 L st h := (ex_of d50_8 (d) L (.ref a :: st) h).trans (rfl)
theorem d50_11 : decode (mB 50) 11 = .ok (.iconst (-1), 1) := by decide +kernel
theorem x50_11 {d : Nat} {L : Lc} {st : List Value} {h : Hp} : ex (d) 50 11 L st h = ex d 50 12 L (.int (-1) :: st) h := (ex_of d50_11 (d) L st h).trans (rfl)
theorem d50_12 : decode (mB 50) 12 = .ok (.ireturn, 1) := by decide +kernel
theorem x50_12 {d : Nat} {L : Lc} {x : Int32} {h : Hp} : ex (d) 50 12 L [.int x] h = some (some (.int x), h) := (ex_of d50_12 (d) L [.int x] h).trans (rfl)
theorem d50_13 : decode (mB 50) 13 = .ok (.aload_n 3, 1) := by decide +kernel
theorem x50_13 {d : Nat} {l0 l1 l2 l4 : Option Value} {st : List Value} {a : Nat} {h : Hp} : ex (d) 50 13 [l0, l1, l2, some (.ref a), l4] st h = ex d 50 14 [l0, l1, l2, some (.ref a), l4] (.ref a :: st) h := (ex_of d50_13 (d) [l0, l1, l2, some (.ref a), l4] st h).trans (rfl)
theorem x50_13n {d : Nat} {l0 l1 l2 l4 : Option Value} {st : List Value} {h : Hp} : ex (d) 50 13 [l0, l1, l2, some .null, l4] st h = ex d 50 14 [l0, l1, l2, some .null, l4] (.null :: st) h := (ex_of d50_13 (d) [l0, l1, l2, some .null, l4] st h).trans (rfl)
theorem x50_13q {d : Nat} {l0 l1 l2 l4 : Option Value} {st : List Value} {a : Option Nat} {h : Hp} : ex (d) 50 13 [l0, l1, l2, some (va_rf a), l4] st h = ex d 50 14 [l0, l1, l2, some (va_rf a), l4] (va_rf a :: st) h := (ex_of d50_13 (d) [l0, l1, l2, some (va_rf a), l4] st h).trans (by cases a <;> rfl)
theorem d50_14 : decode (mB 50) 14 = .ok (.getfield 103, 3) := by decide +kernel
theorem x50_14 {d : Nat} {L : Lc} {st : List Value} {a : Nat} {h : Hp} (ht : (h.2.1 a).1 = 8) : ex (d) 50 14 L (.ref a :: st) h = ex d 50 17 L (h.1 a 6 :: st) h := (ex_of d50_14 (d) L (.ref a :: st) h).trans (fin_get (mi := 50) f10_103 (tg1 ht rfl))
theorem d50_17 : decode (mB 50) 17 = .ok (.iload_n 2, 1) := by decide +kernel
theorem x50_17 {d : Nat} {l0 l1 l3 l4 : Option Value} {st : List Value} {x : Int32} {h : Hp} : ex (d) 50 17 [l0, l1, some (.int x), l3, l4] st h = ex d 50 18 [l0, l1, some (.int x), l3, l4] (.int x :: st) h := (ex_of d50_17 (d) [l0, l1, some (.int x), l3, l4] st h).trans (rfl)
theorem d50_18 : decode (mB 50) 18 = .ok (.iaload, 1) := by decide +kernel
theorem x50_18 {d : Nat} {L : Lc} {st : List Value} {a j : Nat} {h : Hp} (ht : (h.2.1 a).1 = 20) (hj : j < (h.2.1 a).2) (hb : j < 2147483648) : ex (d) 50 18 L (.int (nI j) :: .ref a :: st) h = ex d 50 19 L (h.1 a j :: st) h := (ex_of d50_18 (d) L (.int (nI j) :: .ref a :: st) h).trans (fin_iaload (Or.inl ht) hj hb)
theorem d50_19 : decode (mB 50) 19 = .ok (.istore 4, 2) := by decide +kernel
theorem x50_19 {d : Nat} {l0 l1 l2 l3 l4 : Option Value} {st : List Value} {x : Int32} {h : Hp} : ex (d) 50 19 [l0, l1, l2, l3, l4] (.int x :: st) h = ex d 50 21 [l0, l1, l2, clr l3, some (.int x)] st h := (ex_of d50_19 (d) [l0, l1, l2, l3, l4] (.int x :: st) h).trans (rfl)
theorem d50_21 : decode (mB 50) 21 = .ok (.aload_n 3, 1) := by decide +kernel
theorem x50_21 {d : Nat} {l0 l1 l2 l4 : Option Value} {st : List Value} {a : Nat} {h : Hp} : ex (d) 50 21 [l0, l1, l2, some (.ref a), l4] st h = ex d 50 22 [l0, l1, l2, some (.ref a), l4] (.ref a :: st) h := (ex_of d50_21 (d) [l0, l1, l2, some (.ref a), l4] st h).trans (rfl)
theorem x50_21n {d : Nat} {l0 l1 l2 l4 : Option Value} {st : List Value} {h : Hp} : ex (d) 50 21 [l0, l1, l2, some .null, l4] st h = ex d 50 22 [l0, l1, l2, some .null, l4] (.null :: st) h := (ex_of d50_21 (d) [l0, l1, l2, some .null, l4] st h).trans (rfl)
theorem x50_21q {d : Nat} {l0 l1 l2 l4 : Option Value} {st : List Value} {a : Option Nat} {h : Hp} : ex (d) 50 21 [l0, l1, l2, some (va_rf a), l4] st h = ex d 50 22 [l0, l1, l2, some (va_rf a), l4] (va_rf a :: st) h := (ex_of d50_21 (d) [l0, l1, l2, some (va_rf a), l4] st h).trans (by cases a <;> rfl)
theorem d50_22 : decode (mB 50) 22 = .ok (.getfield 96, 3) := by decide +kernel
theorem x50_22 {d : Nat} {L : Lc} {st : List Value} {a : Nat} {h : Hp} (ht : (h.2.1 a).1 = 8) : ex (d) 50 22 L (.ref a :: st) h = ex d 50 25 L (h.1 a 1 :: st) h := (ex_of d50_22 (d) L (.ref a :: st) h).trans (fin_get (mi := 50) f10_96 (tg1 ht rfl))
theorem d50_25 : decode (mB 50) 25 = .ok (.bipush 7, 2) := by decide +kernel
theorem x50_25 {d : Nat} {L : Lc} {st : List Value} {h : Hp} : ex (d) 50 25 L st h = ex d 50 27 L (.int (nI 7) :: st) h := (ex_of d50_25 (d) L st h).trans (rfl)
theorem d50_27 : decode (mB 50) 27 = .ok (.if_icmp .eq 10, 3) := by decide +kernel
theorem x50_27 {d : Nat} {L : Lc} {st : List Value} {x y : Int32} {h : Hp} : ex (d) 50 27 L (.int y :: .int x :: st) h = if x = y then ex d 50 37 L st h else ex d 50 30 L st h := (ex_of d50_27 (d) L (.int y :: .int x :: st) h).trans (fin_brq (off := 10) (tgt := 37) rfl (by decide))
theorem d50_30 : decode (mB 50) 30 = .ok (.aload_n 0, 1) := by decide +kernel
theorem x50_30 {d : Nat} {l1 l2 l3 l4 : Option Value} {st : List Value} {a : Nat} {h : Hp} : ex (d) 50 30 [some (.ref a), l1, l2, l3, l4] st h = ex d 50 31 [some (.ref a), l1, l2, l3, l4] (.ref a :: st) h := (ex_of d50_30 (d) [some (.ref a), l1, l2, l3, l4] st h).trans (rfl)
theorem d50_31 : decode (mB 50) 31 = .ok (.iload 4, 2) := by decide +kernel
theorem x50_31 {d : Nat} {l0 l1 l2 l3 : Option Value} {st : List Value} {x : Int32} {h : Hp} : ex (d) 50 31 [l0, l1, l2, l3, some (.int x)] st h = ex d 50 33 [l0, l1, l2, l3, some (.int x)] (.int x :: st) h := (ex_of d50_31 (d) [l0, l1, l2, l3, some (.int x)] st h).trans (rfl)
theorem d50_33 : decode (mB 50) 33 = .ok (.invokevirtual 64, 3) := by decide +kernel
theorem x50_33 {d : Nat} {L : Lc} {a : Nat} {v0 : Int32} {h : Hp} (ht : (h.2.1 a).1 = 10) : ex (d + 1) 50 33 L (.int v0 :: .ref a :: []) h = bnd (ex d 85 0 [some (.ref a), some (.int v0)] [] h) (fun v h' => ex (d + 1) 50 36 L (v.toList ++ []) h') := (ex_of d50_33 (d + 1) L (.int v0 :: .ref a :: []) h).trans (fin_vi (mi := 50) i10_64 ht rfl rfl (by simp [cat1_i, cat1_r]) (by simp) (Nat.le_of_ble_eq_true rfl))
theorem d50_36 : decode (mB 50) 36 = .ok (.ireturn, 1) := by decide +kernel
theorem x50_36 {d : Nat} {L : Lc} {x : Int32} {h : Hp} : ex (d) 50 36 L [.int x] h = some (some (.int x), h) := (ex_of d50_36 (d) L [.int x] h).trans (rfl)
theorem d50_37 : decode (mB 50) 37 = .ok (.iload 4, 2) := by decide +kernel
theorem x50_37 {d : Nat} {l0 l1 l2 l3 : Option Value} {st : List Value} {x : Int32} {h : Hp} : ex (d) 50 37 [l0, l1, l2, l3, some (.int x)] st h = ex d 50 39 [l0, l1, l2, l3, some (.int x)] (.int x :: st) h := (ex_of d50_37 (d) [l0, l1, l2, l3, some (.int x)] st h).trans (rfl)
theorem d50_39 : decode (mB 50) 39 = .ok (.iconst (-1), 1) := by decide +kernel
theorem x50_39 {d : Nat} {L : Lc} {st : List Value} {h : Hp} : ex (d) 50 39 L st h = ex d 50 40 L (.int (-1) :: st) h := (ex_of d50_39 (d) L st h).trans (rfl)
theorem d50_40 : decode (mB 50) 40 = .ok (.if_icmp .ne 10, 3) := by decide +kernel
theorem x50_40 {d : Nat} {L : Lc} {st : List Value} {x y : Int32} {h : Hp} : ex (d) 50 40 L (.int y :: .int x :: st) h = if ¬ x = y then ex d 50 50 L st h else ex d 50 43 L st h := (ex_of d50_40 (d) L (.int y :: .int x :: st) h).trans (fin_brq (off := 10) (tgt := 50) rfl (by decide))
theorem d50_43 : decode (mB 50) 43 = .ok (.aload_n 0, 1) := by decide +kernel
theorem x50_43 {d : Nat} {l1 l2 l3 l4 : Option Value} {st : List Value} {a : Nat} {h : Hp} : ex (d) 50 43 [some (.ref a), l1, l2, l3, l4] st h = ex d 50 44 [some (.ref a), l1, l2, l3, l4] (.ref a :: st) h := (ex_of d50_43 (d) [some (.ref a), l1, l2, l3, l4] st h).trans (rfl)
theorem d50_44 : decode (mB 50) 44 = .ok (.bipush 13, 2) := by decide +kernel
theorem x50_44 {d : Nat} {L : Lc} {st : List Value} {h : Hp} : ex (d) 50 44 L st h = ex d 50 46 L (.int (nI 13) :: st) h := (ex_of d50_44 (d) L st h).trans (rfl)
theorem d50_46 : decode (mB 50) 46 = .ok (.invokevirtual 57, 3) := by decide +kernel
theorem x50_46 {d : Nat} {L : Lc} {a : Nat} {v0 : Int32} {h : Hp} (ht : (h.2.1 a).1 = 10) : ex (d + 1) 50 46 L (.int v0 :: .ref a :: []) h = bnd (ex d 84 0 [some (.ref a), some (.int v0)] [] h) (fun v h' => ex (d + 1) 50 49 L (v.toList ++ []) h') := (ex_of d50_46 (d + 1) L (.int v0 :: .ref a :: []) h).trans (fin_vi (mi := 50) i10_57 ht rfl rfl (by simp [cat1_i, cat1_r]) (by simp) (Nat.le_of_ble_eq_true rfl))
theorem d50_49 : decode (mB 50) 49 = .ok (.ireturn, 1) := by decide +kernel
theorem x50_49 {d : Nat} {L : Lc} {x : Int32} {h : Hp} : ex (d) 50 49 L [.int x] h = some (some (.int x), h) := (ex_of d50_49 (d) L [.int x] h).trans (rfl)
theorem d50_50 : decode (mB 50) 50 = .ok (.aload_n 0, 1) := by decide +kernel
theorem x50_50 {d : Nat} {l1 l2 l3 l4 : Option Value} {st : List Value} {a : Nat} {h : Hp} : ex (d) 50 50 [some (.ref a), l1, l2, l3, l4] st h = ex d 50 51 [some (.ref a), l1, l2, l3, l4] (.ref a :: st) h := (ex_of d50_50 (d) [some (.ref a), l1, l2, l3, l4] st h).trans (rfl)
theorem d50_51 : decode (mB 50) 51 = .ok (.iload 4, 2) := by decide +kernel
theorem x50_51 {d : Nat} {l0 l1 l2 l3 : Option Value} {st : List Value} {x : Int32} {h : Hp} : ex (d) 50 51 [l0, l1, l2, l3, some (.int x)] st h = ex d 50 53 [l0, l1, l2, l3, some (.int x)] (.int x :: st) h := (ex_of d50_51 (d) [l0, l1, l2, l3, some (.int x)] st h).trans (rfl)
theorem d50_53 : decode (mB 50) 53 = .ok (.bipush (-2), 2) := by decide +kernel
theorem x50_53 {d : Nat} {L : Lc} {st : List Value} {h : Hp} : ex (d) 50 53 L st h = ex d 50 55 L (.int (-2) :: st) h := (ex_of d50_53 (d) L st h).trans (rfl)
theorem d50_55 : decode (mB 50) 55 = .ok (.if_icmp .ne 8, 3) := by decide +kernel
theorem x50_55 {d : Nat} {L : Lc} {st : List Value} {x y : Int32} {h : Hp} : ex (d) 50 55 L (.int y :: .int x :: st) h = if ¬ x = y then ex d 50 63 L st h else ex d 50 58 L st h := (ex_of d50_55 (d) L (.int y :: .int x :: st) h).trans (fin_brq (off := 8) (tgt := 63) rfl (by decide))
theorem d50_58 : decode (mB 50) 58 = .ok (.ldc 110, 2) := by decide +kernel
theorem x50_58 {d : Nat} {L : Lc} {st : List Value} {h : Hp} : ex (d) 50 58 L st h = ex d 50 60 L (.int (nI 2147483647) :: st) h := (ex_of d50_58 (d) L st h).trans (fin_ldc (mi := 50) c10_110)
theorem d50_60 : decode (mB 50) 60 = .ok (.goto 8, 3) := by decide +kernel
theorem x50_60 {d : Nat} {L : Lc} {st : List Value} {h : Hp} : ex (d) 50 60 L st h = ex d 50 68 L st h := (ex_of d50_60 (d) L st h).trans (rfl)
theorem d50_63 : decode (mB 50) 63 = .ok (.iload 4, 2) := by decide +kernel
theorem x50_63 {d : Nat} {l0 l1 l2 l3 : Option Value} {st : List Value} {x : Int32} {h : Hp} : ex (d) 50 63 [l0, l1, l2, l3, some (.int x)] st h = ex d 50 65 [l0, l1, l2, l3, some (.int x)] (.int x :: st) h := (ex_of d50_63 (d) [l0, l1, l2, l3, some (.int x)] st h).trans (rfl)
theorem d50_65 : decode (mB 50) 65 = .ok (.bipush 10, 2) := by decide +kernel
theorem x50_65 {d : Nat} {L : Lc} {st : List Value} {h : Hp} : ex (d) 50 65 L st h = ex d 50 67 L (.int (nI 10) :: st) h := (ex_of d50_65 (d) L st h).trans (rfl)
theorem d50_67 : decode (mB 50) 67 = .ok (.idiv, 1) := by decide +kernel
theorem x50_67 {d : Nat} {L : Lc} {st : List Value} {x y : Int32} {h : Hp} (hy : ¬ y = 0) : ex (d) 50 67 L (.int y :: .int x :: st) h = ex d 50 68 L (.int (x / y) :: st) h := (ex_of d50_67 (d) L (.int y :: .int x :: st) h).trans (fin_div hy)
theorem d50_68 : decode (mB 50) 68 = .ok (.invokevirtual 64, 3) := by decide +kernel
theorem x50_68 {d : Nat} {L : Lc} {a : Nat} {v0 : Int32} {h : Hp} (ht : (h.2.1 a).1 = 10) : ex (d + 1) 50 68 L (.int v0 :: .ref a :: []) h = bnd (ex d 85 0 [some (.ref a), some (.int v0)] [] h) (fun v h' => ex (d + 1) 50 71 L (v.toList ++ []) h') := (ex_of d50_68 (d + 1) L (.int v0 :: .ref a :: []) h).trans (fin_vi (mi := 50) i10_64 ht rfl rfl (by simp [cat1_i, cat1_r]) (by simp) (Nat.le_of_ble_eq_true rfl))
theorem d50_71 : decode (mB 50) 71 = .ok (.ireturn, 1) := by decide +kernel
theorem x50_71 {d : Nat} {L : Lc} {x : Int32} {h : Hp} : ex (d) 50 71 L [.int x] h = some (some (.int x), h) := (ex_of d50_71 (d) L [.int x] h).trans (rfl)
theorem d51_0 : decode (mB 51) 0 = .ok (.aload_n 0, 1) := by decide +kernel
theorem x51_0 {d : Nat} {l1 l2 : Option Value} {st : List Value} {a : Nat} {h : Hp} : ex (d) 51 0 [some (.ref a), l1, l2] st h = ex d 51 1 [some (.ref a), l1, l2] (.ref a :: st) h := (ex_of d51_0 (d) [some (.ref a), l1, l2] st h).trans (rfl)
theorem d51_1 : decode (mB 51) 1 = .ok (.iload_n 1, 1) := by decide +kernel
theorem x51_1 {d : Nat} {l0 l2 : Option Value} {st : List Value} {x : Int32} {h : Hp} : ex (d) 51 1 [l0, some (.int x), l2] st h = ex d 51 2 [l0, some (.int x), l2] (.int x :: st) h := (ex_of d51_1 (d) [l0, some (.int x), l2] st h).trans (rfl)
theorem d51_2 : decode (mB 51) 2 = .ok (.invokevirtual 111, 3) := by decide +kernel
theorem x51_2 {d : Nat} {L : Lc} {a : Nat} {v0 : Int32} {h : Hp} (ht : (h.2.1 a).1 = 10) : ex (d + 1) 51 2 L (.int v0 :: .ref a :: []) h = bnd (ex d 86 0 [some (.ref a), some (.int v0)] [] h) (fun v h' => ex (d + 1) 51 5 L (v.toList ++ []) h') := (ex_of d51_2 (d + 1) L (.int v0 :: .ref a :: []) h).trans (fin_vi (mi := 51) i10_111 ht rfl rfl (by simp [cat1_i, cat1_r]) (by simp) (Nat.le_of_ble_eq_true rfl))
theorem d51_5 : decode (mB 51) 5 = .ok (.astore_n 2, 1) := by decide +kernel
theorem x51_5 {d : Nat} {l0 l1 l2 : Option Value} {st : List Value} {a : Nat} {h : Hp} : ex (d) 51 5 [l0, l1, l2] (.ref a :: st) h = ex d 51 6 [l0, clr l1, some (.ref a)] st h := (ex_of d51_5 (d) [l0, l1, l2] (.ref a :: st) h).trans (rfl)
theorem x51_5n {d : Nat} {l0 l1 l2 : Option Value} {st : List Value} {h : Hp} : ex (d) 51 5 [l0, l1, l2] (.null :: st) h = ex d 51 6 [l0, clr l1, some .null] st h := (ex_of d51_5 (d) [l0, l1, l2] (.null :: st) h).trans (rfl)
theorem x51_5q {d : Nat} {l0 l1 l2 : Option Value} {st : List Value} {a : Option Nat} {h : Hp} : ex (d) 51 5 [l0, l1, l2] (va_rf a :: st) h = ex d 51 6 [l0, clr l1, some (va_rf a)] st h := (ex_of d51_5 (d) [l0, l1, l2] (va_rf a :: st) h).trans (by cases a <;> rfl)
theorem d51_6 : decode (mB 51) 6 = .ok (.aload_n 2, 1) := by decide +kernel
theorem x51_6 {d : Nat} {l0 l1 : Option Value} {st : List Value} {a : Nat} {h : Hp} : ex (d) 51 6 [l0, l1, some (.ref a)] st h = ex d 51 7 [l0, l1, some (.ref a)] (.ref a :: st) h := (ex_of d51_6 (d) [l0, l1, some (.ref a)] st h).trans (rfl)
theorem x51_6n {d : Nat} {l0 l1 : Option Value} {st : List Value} {h : Hp} : ex (d) 51 6 [l0, l1, some .null] st h = ex d 51 7 [l0, l1, some .null] (.null :: st) h := (ex_of d51_6 (d) [l0, l1, some .null] st h).trans (rfl)
theorem x51_6q {d : Nat} {l0 l1 : Option Value} {st : List Value} {a : Option Nat} {h : Hp} : ex (d) 51 6 [l0, l1, some (va_rf a)] st h = ex d 51 7 [l0, l1, some (va_rf a)] (va_rf a :: st) h := (ex_of d51_6 (d) [l0, l1, some (va_rf a)] st h).trans (by cases a <;> rfl)
theorem d51_7 : decode (mB 51) 7 = .ok (.ifnonnull 12, 3) := by decide +kernel
theorem x51_7n {d : Nat} {L : Lc} {st : List Value} {h : Hp} : ex (d) 51 7 L (.null :: st) h = ex d 51 10 L st h := (ex_of d51_7 (d) L (.null :: st) h).trans (rfl)
theorem x51_7 {d : Nat} {L : Lc} {st : List Value} {a : Nat} {h : Hp} : ex (d) 51 7 L (.ref a :: st) h = ex d 51 19 L st h := (ex_of d51_7 (d) L (.ref a :: st) h).trans (rfl)
theorem d51_10 : decode (mB 51) 10 = .ok (.aload_n 0, 1) := by decide +kernel
theorem x51_10 {d : Nat} {l1 l2 : Option Value} {st : List Value} {a : Nat} {h : Hp} : ex (d) 51 10 [some (.ref a), l1, l2] st h = ex d 51 11 [some (.ref a), l1, l2] (.ref a :: st) h := (ex_of d51_10 (d) [some (.ref a), l1, l2] st h).trans (rfl)
theorem d51_11 : decode (mB 51) 11 = .ok (.bipush 10, 2) := by decide +kernel
theorem x51_11 {d : Nat} {L : Lc} {st : List Value} {h : Hp} : ex (d) 51 11 L st h = ex d 51 13 L (.int (nI 10) :: st) h := (ex_of d51_11 (d) L st h).trans (rfl)
theorem d51_13 : decode (mB 51) 13 = .ok (.invokevirtual 57, 3) := by decide +kernel
theorem x51_13 {d : Nat} {L : Lc} {a : Nat} {v0 : Int32} {h : Hp} (ht : (h.2.1 a).1 = 10) : ex (d + 1) 51 13 L (.int v0 :: .ref a :: []) h = bnd (ex d 84 0 [some (.ref a), some (.int v0)] [] h) (fun v h' => ex (d + 1) 51 16 L (v.toList ++ []) h') := (ex_of d51_13 (d + 1) L (.int v0 :: .ref a :: []) h).trans (fin_vi (mi := 51) i10_57 ht rfl rfl (by simp [cat1_i, cat1_r]) (by simp) (Nat.le_of_ble_eq_true rfl))
theorem d51_16 : decode (mB 51) 16 = .ok (.goto 11, 3) := by decide +kernel
theorem x51_16 {d : Nat} {L : Lc} {st : List Value} {h : Hp} : ex (d) 51 16 L st h = ex d 51 27 L st h := (ex_of d51_16 (d) L st h).trans (rfl)
theorem d51_19 : decode (mB 51) 19 = .ok (.aload_n 0, 1) := by decide +kernel
theorem x51_19 {d : Nat} {l1 l2 : Option Value} {st : List Value} {a : Nat} {h : Hp} : ex (d) 51 19 [some (.ref a), l1, l2] st h = ex d 51 20 [some (.ref a), l1, l2] (.ref a :: st) h := (ex_of d51_19 (d) [some (.ref a), l1, l2] st h).trans (rfl)
theorem d51_20 : decode (mB 51) 20 = .ok (.aload_n 2, 1) := by decide +kernel
theorem x51_20 {d : Nat} {l0 l1 : Option Value} {st : List Value} {a : Nat} {h : Hp} : ex (d) 51 20 [l0, l1, some (.ref a)] st h = ex d 51 21 [l0, l1, some (.ref a)] (.ref a :: st) h := (ex_of d51_20 (d) [l0, l1, some (.ref a)] st h).trans (rfl)
theorem x51_20n {d : Nat} {l0 l1 : Option Value} {st : List Value} {h : Hp} : ex (d) 51 20 [l0, l1, some .null] st h = ex d 51 21 [l0, l1, some .null] (.null :: st) h := (ex_of d51_20 (d) [l0, l1, some .null] st h).trans (rfl)
theorem x51_20q {d : Nat} {l0 l1 : Option Value} {st : List Value} {a : Option Nat} {h : Hp} : ex (d) 51 20 [l0, l1, some (va_rf a)] st h = ex d 51 21 [l0, l1, some (va_rf a)] (va_rf a :: st) h := (ex_of d51_20 (d) [l0, l1, some (va_rf a)] st h).trans (by cases a <;> rfl)
theorem d51_21 : decode (mB 51) 21 = .ok (.getfield 115, 3) := by decide +kernel
theorem x51_21 {d : Nat} {L : Lc} {st : List Value} {a : Nat} {h : Hp} (ht : isTh (h.2.1 a).1 = true) : ex (d) 51 21 L (.ref a :: st) h = ex d 51 24 L (h.1 a 1 :: st) h := (ex_of d51_21 (d) L (.ref a :: st) h).trans (fin_get (mi := 51) f10_115 ht)
theorem d51_24 : decode (mB 51) 24 = .ok (.invokevirtual 64, 3) := by decide +kernel
theorem x51_24 {d : Nat} {L : Lc} {a : Nat} {v0 : Int32} {h : Hp} (ht : (h.2.1 a).1 = 10) : ex (d + 1) 51 24 L (.int v0 :: .ref a :: []) h = bnd (ex d 85 0 [some (.ref a), some (.int v0)] [] h) (fun v h' => ex (d + 1) 51 27 L (v.toList ++ []) h') := (ex_of d51_24 (d + 1) L (.int v0 :: .ref a :: []) h).trans (fin_vi (mi := 51) i10_64 ht rfl rfl (by simp [cat1_i, cat1_r]) (by simp) (Nat.le_of_ble_eq_true rfl))
theorem d51_27 : decode (mB 51) 27 = .ok (.ireturn, 1) := by decide +kernel
theorem x51_27 {d : Nat} {L : Lc} {x : Int32} {h : Hp} : ex (d) 51 27 L [.int x] h = some (some (.int x), h) := (ex_of d51_27 (d) L [.int x] h).trans (rfl)
theorem d52_0 : decode (mB 52) 0 = .ok (.aload_n 0, 1) := by decide +kernel
theorem x52_0 {d : Nat} {l1 l2 : Option Value} {st : List Value} {a : Nat} {h : Hp} : ex (d) 52 0 [some (.ref a), l1, l2] st h = ex d 52 1 [some (.ref a), l1, l2] (.ref a :: st) h := (ex_of d52_0 (d) [some (.ref a), l1, l2] st h).trans (rfl)
theorem d52_1 : decode (mB 52) 1 = .ok (.iload_n 1, 1) := by decide +kernel
theorem x52_1 {d : Nat} {l0 l2 : Option Value} {st : List Value} {x : Int32} {h : Hp} : ex (d) 52 1 [l0, some (.int x), l2] st h = ex d 52 2 [l0, some (.int x), l2] (.int x :: st) h := (ex_of d52_1 (d) [l0, some (.int x), l2] st h).trans (rfl)
theorem d52_2 : decode (mB 52) 2 = .ok (.invokevirtual 111, 3) := by decide +kernel
theorem x52_2 {d : Nat} {L : Lc} {a : Nat} {v0 : Int32} {h : Hp} (ht : (h.2.1 a).1 = 10) : ex (d + 1) 52 2 L (.int v0 :: .ref a :: []) h = bnd (ex d 86 0 [some (.ref a), some (.int v0)] [] h) (fun v h' => ex (d + 1) 52 5 L (v.toList ++ []) h') := (ex_of d52_2 (d + 1) L (.int v0 :: .ref a :: []) h).trans (fin_vi (mi := 52) i10_111 ht rfl rfl (by simp [cat1_i, cat1_r]) (by simp) (Nat.le_of_ble_eq_true rfl))
theorem d52_5 : decode (mB 52) 5 = .ok (.astore_n 2, 1) := by decide +kernel
theorem x52_5 {d : Nat} {l0 l1 l2 : Option Value} {st : List Value} {a : Nat} {h : Hp} : ex (d) 52 5 [l0, l1, l2] (.ref a :: st) h = ex d 52 6 [l0, clr l1, some (.ref a)] st h := (ex_of d52_5 (d) [l0, l1, l2] (.ref a :: st) h).trans (rfl)
theorem x52_5n {d : Nat} {l0 l1 l2 : Option Value} {st : List Value} {h : Hp} : ex (d) 52 5 [l0, l1, l2] (.null :: st) h = ex d 52 6 [l0, clr l1, some .null] st h := (ex_of d52_5 (d) [l0, l1, l2] (.null :: st) h).trans (rfl)
theorem x52_5q {d : Nat} {l0 l1 l2 : Option Value} {st : List Value} {a : Option Nat} {h : Hp} : ex (d) 52 5 [l0, l1, l2] (va_rf a :: st) h = ex d 52 6 [l0, clr l1, some (va_rf a)] st h := (ex_of d52_5 (d) [l0, l1, l2] (va_rf a :: st) h).trans (by cases a <;> rfl)
theorem d52_6 : decode (mB 52) 6 = .ok (.aload_n 2, 1) := by decide +kernel
theorem x52_6 {d : Nat} {l0 l1 : Option Value} {st : List Value} {a : Nat} {h : Hp} : ex (d) 52 6 [l0, l1, some (.ref a)] st h = ex d 52 7 [l0, l1, some (.ref a)] (.ref a :: st) h := (ex_of d52_6 (d) [l0, l1, some (.ref a)] st h).trans (rfl)
theorem x52_6n {d : Nat} {l0 l1 : Option Value} {st : List Value} {h : Hp} : ex (d) 52 6 [l0, l1, some .null] st h = ex d 52 7 [l0, l1, some .null] (.null :: st) h := (ex_of d52_6 (d) [l0, l1, some .null] st h).trans (rfl)
theorem x52_6q {d : Nat} {l0 l1 : Option Value} {st : List Value} {a : Option Nat} {h : Hp} : ex (d) 52 6 [l0, l1, some (va_rf a)] st h = ex d 52 7 [l0, l1, some (va_rf a)] (va_rf a :: st) h := (ex_of d52_6 (d) [l0, l1, some (va_rf a)] st h).trans (by cases a <;> rfl)
theorem d52_7 : decode (mB 52) 7 = .ok (.ifnonnull 12, 3) := by decide +kernel
theorem x52_7n {d : Nat} {L : Lc} {st : List Value} {h : Hp} : ex (d) 52 7 L (.null :: st) h = ex d 52 10 L st h := (ex_of d52_7 (d) L (.null :: st) h).trans (rfl)
theorem x52_7 {d : Nat} {L : Lc} {st : List Value} {a : Nat} {h : Hp} : ex (d) 52 7 L (.ref a :: st) h = ex d 52 19 L st h := (ex_of d52_7 (d) L (.ref a :: st) h).trans (rfl)
theorem d52_10 : decode (mB 52) 10 = .ok (.aload_n 0, 1) := by decide +kernel
theorem x52_10 {d : Nat} {l1 l2 : Option Value} {st : List Value} {a : Nat} {h : Hp} : ex (d) 52 10 [some (.ref a), l1, l2] st h = ex d 52 11 [some (.ref a), l1, l2] (.ref a :: st) h := (ex_of d52_10 (d) [some (.ref a), l1, l2] st h).trans (rfl)
theorem d52_11 : decode (mB 52) 11 = .ok (.bipush 10, 2) := by decide +kernel
theorem x52_11 {d : Nat} {L : Lc} {st : List Value} {h : Hp} : ex (d) 52 11 L st h = ex d 52 13 L (.int (nI 10) :: st) h := (ex_of d52_11 (d) L st h).trans (rfl)
theorem d52_13 : decode (mB 52) 13 = .ok (.invokevirtual 57, 3) := by decide +kernel
theorem x52_13 {d : Nat} {L : Lc} {a : Nat} {v0 : Int32} {h : Hp} (ht : (h.2.1 a).1 = 10) : ex (d + 1) 52 13 L (.int v0 :: .ref a :: []) h = bnd (ex d 84 0 [some (.ref a), some (.int v0)] [] h) (fun v h' => ex (d + 1) 52 16 L (v.toList ++ []) h') := (ex_of d52_13 (d + 1) L (.int v0 :: .ref a :: []) h).trans (fin_vi (mi := 52) i10_57 ht rfl rfl (by simp [cat1_i, cat1_r]) (by simp) (Nat.le_of_ble_eq_true rfl))
theorem d52_16 : decode (mB 52) 16 = .ok (.goto 11, 3) := by decide +kernel
theorem x52_16 {d : Nat} {L : Lc} {st : List Value} {h : Hp} : ex (d) 52 16 L st h = ex d 52 27 L st h := (ex_of d52_16 (d) L st h).trans (rfl)
theorem d52_19 : decode (mB 52) 19 = .ok (.aload_n 0, 1) := by decide +kernel
theorem x52_19 {d : Nat} {l1 l2 : Option Value} {st : List Value} {a : Nat} {h : Hp} : ex (d) 52 19 [some (.ref a), l1, l2] st h = ex d 52 20 [some (.ref a), l1, l2] (.ref a :: st) h := (ex_of d52_19 (d) [some (.ref a), l1, l2] st h).trans (rfl)
theorem d52_20 : decode (mB 52) 20 = .ok (.aload_n 2, 1) := by decide +kernel
theorem x52_20 {d : Nat} {l0 l1 : Option Value} {st : List Value} {a : Nat} {h : Hp} : ex (d) 52 20 [l0, l1, some (.ref a)] st h = ex d 52 21 [l0, l1, some (.ref a)] (.ref a :: st) h := (ex_of d52_20 (d) [l0, l1, some (.ref a)] st h).trans (rfl)
theorem x52_20n {d : Nat} {l0 l1 : Option Value} {st : List Value} {h : Hp} : ex (d) 52 20 [l0, l1, some .null] st h = ex d 52 21 [l0, l1, some .null] (.null :: st) h := (ex_of d52_20 (d) [l0, l1, some .null] st h).trans (rfl)
theorem x52_20q {d : Nat} {l0 l1 : Option Value} {st : List Value} {a : Option Nat} {h : Hp} : ex (d) 52 20 [l0, l1, some (va_rf a)] st h = ex d 52 21 [l0, l1, some (va_rf a)] (va_rf a :: st) h := (ex_of d52_20 (d) [l0, l1, some (va_rf a)] st h).trans (by cases a <;> rfl)
theorem d52_21 : decode (mB 52) 21 = .ok (.getfield 116, 3) := by decide +kernel
theorem x52_21 {d : Nat} {L : Lc} {st : List Value} {a : Nat} {h : Hp} (ht : isTh (h.2.1 a).1 = true) : ex (d) 52 21 L (.ref a :: st) h = ex d 52 24 L (h.1 a 2 :: st) h := (ex_of d52_21 (d) L (.ref a :: st) h).trans (fin_get (mi := 52) f10_116 ht)
theorem d52_24 : decode (mB 52) 24 = .ok (.invokevirtual 64, 3) := by decide +kernel
theorem x52_24 {d : Nat} {L : Lc} {a : Nat} {v0 : Int32} {h : Hp} (ht : (h.2.1 a).1 = 10) : ex (d + 1) 52 24 L (.int v0 :: .ref a :: []) h = bnd (ex d 85 0 [some (.ref a), some (.int v0)] [] h) (fun v h' => ex (d + 1) 52 27 L (v.toList ++ []) h') := (ex_of d52_24 (d + 1) L (.int v0 :: .ref a :: []) h).trans (fin_vi (mi := 52) i10_64 ht rfl rfl (by simp [cat1_i, cat1_r]) (by simp) (Nat.le_of_ble_eq_true rfl))
theorem d52_27 : decode (mB 52) 27 = .ok (.ireturn, 1) := by decide +kernel
theorem x52_27 {d : Nat} {L : Lc} {x : Int32} {h : Hp} : ex (d) 52 27 L [.int x] h = some (some (.int x), h) := (ex_of d52_27 (d) L [.int x] h).trans (rfl)
theorem d53_0 : decode (mB 53) 0 = .ok (.aload_n 0, 1) := by decide +kernel
theorem x53_0 {d : Nat} {l1 l2 : Option Value} {st : List Value} {a : Nat} {h : Hp} : ex (d) 53 0 [some (.ref a), l1, l2] st h = ex d 53 1 [some (.ref a), l1, l2] (.ref a :: st) h := (ex_of d53_0 (d) [some (.ref a), l1, l2] st h).trans (rfl)
theorem d53_1 : decode (mB 53) 1 = .ok (.iload_n 1, 1) := by decide +kernel
theorem x53_1 {d : Nat} {l0 l2 : Option Value} {st : List Value} {x : Int32} {h : Hp} : ex (d) 53 1 [l0, some (.int x), l2] st h = ex d 53 2 [l0, some (.int x), l2] (.int x :: st) h := (ex_of d53_1 (d) [l0, some (.int x), l2] st h).trans (rfl)
theorem d53_2 : decode (mB 53) 2 = .ok (.invokevirtual 111, 3) := by decide +kernel
theorem x53_2 {d : Nat} {L : Lc} {a : Nat} {v0 : Int32} {h : Hp} (ht : (h.2.1 a).1 = 10) : ex (d + 1) 53 2 L (.int v0 :: .ref a :: []) h = bnd (ex d 86 0 [some (.ref a), some (.int v0)] [] h) (fun v h' => ex (d + 1) 53 5 L (v.toList ++ []) h') := (ex_of d53_2 (d + 1) L (.int v0 :: .ref a :: []) h).trans (fin_vi (mi := 53) i10_111 ht rfl rfl (by simp [cat1_i, cat1_r]) (by simp) (Nat.le_of_ble_eq_true rfl))
theorem d53_5 : decode (mB 53) 5 = .ok (.astore_n 2, 1) := by decide +kernel
theorem x53_5 {d : Nat} {l0 l1 l2 : Option Value} {st : List Value} {a : Nat} {h : Hp} : ex (d) 53 5 [l0, l1, l2] (.ref a :: st) h = ex d 53 6 [l0, clr l1, some (.ref a)] st h := (ex_of d53_5 (d) [l0, l1, l2] (.ref a :: st) h).trans (rfl)
theorem x53_5n {d : Nat} {l0 l1 l2 : Option Value} {st : List Value} {h : Hp} : ex (d) 53 5 [l0, l1, l2] (.null :: st) h = ex d 53 6 [l0, clr l1, some .null] st h := (ex_of d53_5 (d) [l0, l1, l2] (.null :: st) h).trans (rfl)
theorem x53_5q {d : Nat} {l0 l1 l2 : Option Value} {st : List Value} {a : Option Nat} {h : Hp} : ex (d) 53 5 [l0, l1, l2] (va_rf a :: st) h = ex d 53 6 [l0, clr l1, some (va_rf a)] st h := (ex_of d53_5 (d) [l0, l1, l2] (va_rf a :: st) h).trans (by cases a <;> rfl)
theorem d53_6 : decode (mB 53) 6 = .ok (.aload_n 2, 1) := by decide +kernel
theorem x53_6 {d : Nat} {l0 l1 : Option Value} {st : List Value} {a : Nat} {h : Hp} : ex (d) 53 6 [l0, l1, some (.ref a)] st h = ex d 53 7 [l0, l1, some (.ref a)] (.ref a :: st) h := (ex_of d53_6 (d) [l0, l1, some (.ref a)] st h).trans (rfl)
theorem x53_6n {d : Nat} {l0 l1 : Option Value} {st : List Value} {h : Hp} : ex (d) 53 6 [l0, l1, some .null] st h = ex d 53 7 [l0, l1, some .null] (.null :: st) h := (ex_of d53_6 (d) [l0, l1, some .null] st h).trans (rfl)
theorem x53_6q {d : Nat} {l0 l1 : Option Value} {st : List Value} {a : Option Nat} {h : Hp} : ex (d) 53 6 [l0, l1, some (va_rf a)] st h = ex d 53 7 [l0, l1, some (va_rf a)] (va_rf a :: st) h := (ex_of d53_6 (d) [l0, l1, some (va_rf a)] st h).trans (by cases a <;> rfl)
theorem d53_7 : decode (mB 53) 7 = .ok (.ifnonnull 10, 3) := by decide +kernel
theorem x53_7n {d : Nat} {L : Lc} {st : List Value} {h : Hp} : ex (d) 53 7 L (.null :: st) h = ex d 53 10 L st h := (ex_of d53_7 (d) L (.null :: st) h).trans (rfl)
theorem x53_7 {d : Nat} {L : Lc} {st : List Value} {a : Nat} {h : Hp} : ex (d) 53 7 L (.ref a :: st) h = ex d 53 17 L st h := (ex_of d53_7 (d) L (.ref a :: st) h).trans (rfl)
theorem d53_10 : decode (mB 53) 10 = .ok (.aload_n 0, 1) := by decide +kernel
theorem x53_10 {d : Nat} {l1 l2 : Option Value} {st : List Value} {a : Nat} {h : Hp} : ex (d) 53 10 [some (.ref a), l1, l2] st h = ex d 53 11 [some (.ref a), l1, l2] (.ref a :: st) h := (ex_of d53_10 (d) [some (.ref a), l1, l2] st h).trans (rfl)
theorem d53_11 : decode (mB 53) 11 = .ok (.bipush 10, 2) := by decide +kernel
theorem x53_11 {d : Nat} {L : Lc} {st : List Value} {h : Hp} : ex (d) 53 11 L st h = ex d 53 13 L (.int (nI 10) :: st) h := (ex_of d53_11 (d) L st h).trans (rfl)
theorem d53_13 : decode (mB 53) 13 = .ok (.invokevirtual 57, 3) := by decide +kernel
theorem x53_13 {d : Nat} {L : Lc} {a : Nat} {v0 : Int32} {h : Hp} (ht : (h.2.1 a).1 = 10) : ex (d + 1) 53 13 L (.int v0 :: .ref a :: []) h = bnd (ex d 84 0 [some (.ref a), some (.int v0)] [] h) (fun v h' => ex (d + 1) 53 16 L (v.toList ++ []) h') := (ex_of d53_13 (d + 1) L (.int v0 :: .ref a :: []) h).trans (fin_vi (mi := 53) i10_57 ht rfl rfl (by simp [cat1_i, cat1_r]) (by simp) (Nat.le_of_ble_eq_true rfl))
theorem d53_16 : decode (mB 53) 16 = .ok (.ireturn, 1) := by decide +kernel
theorem x53_16 {d : Nat} {L : Lc} {x : Int32} {h : Hp} : ex (d) 53 16 L [.int x] h = some (some (.int x), h) := (ex_of d53_16 (d) L [.int x] h).trans (rfl)
theorem d53_17 : decode (mB 53) 17 = .ok (.aload_n 2, 1) := by decide +kernel
theorem x53_17 {d : Nat} {l0 l1 : Option Value} {st : List Value} {a : Nat} {h : Hp} : ex (d) 53 17 [l0, l1, some (.ref a)] st h = ex d 53 18 [l0, l1, some (.ref a)] (.ref a :: st) h := (ex_of d53_17 (d) [l0, l1, some (.ref a)] st h).trans (rfl)
theorem x53_17n {d : Nat} {l0 l1 : Option Value} {st : List Value} {h : Hp} : ex (d) 53 17 [l0, l1, some .null] st h = ex d 53 18 [l0, l1, some .null] (.null :: st) h := (ex_of d53_17 (d) [l0, l1, some .null] st h).trans (rfl)
theorem x53_17q {d : Nat} {l0 l1 : Option Value} {st : List Value} {a : Option Nat} {h : Hp} : ex (d) 53 17 [l0, l1, some (va_rf a)] st h = ex d 53 18 [l0, l1, some (va_rf a)] (va_rf a :: st) h := (ex_of d53_17 (d) [l0, l1, some (va_rf a)] st h).trans (by cases a <;> rfl)
theorem d53_18 : decode (mB 53) 18 = .ok (.getfield 119, 3) := by decide +kernel
theorem x53_18 {d : Nat} {L : Lc} {st : List Value} {a : Nat} {h : Hp} (ht : isTh (h.2.1 a).1 = true) : ex (d) 53 18 L (.ref a :: st) h = ex d 53 21 L (h.1 a 3 :: st) h := (ex_of d53_18 (d) L (.ref a :: st) h).trans (fin_get (mi := 53) f10_119 ht)
theorem d53_21 : decode (mB 53) 21 = .ok (.ifnonnull 12, 3) := by decide +kernel
theorem x53_21n {d : Nat} {L : Lc} {st : List Value} {h : Hp} : ex (d) 53 21 L (.null :: st) h = ex d 53 24 L st h := (ex_of d53_21 (d) L (.null :: st) h).trans (rfl)
theorem x53_21 {d : Nat} {L : Lc} {st : List Value} {a : Nat} {h : Hp} : ex (d) 53 21 L (.ref a :: st) h = ex d 53 33 L st h := (ex_of d53_21 (d) L (.ref a :: st) h).trans (rfl)
theorem d53_24 : decode (mB 53) 24 = .ok (.aload_n 0, 1) := by decide +kernel
theorem x53_24 {d : Nat} {l1 l2 : Option Value} {st : List Value} {a : Nat} {h : Hp} : ex (d) 53 24 [some (.ref a), l1, l2] st h = ex d 53 25 [some (.ref a), l1, l2] (.ref a :: st) h := (ex_of d53_24 (d) [some (.ref a), l1, l2] st h).trans (rfl)
theorem d53_25 : decode (mB 53) 25 = .ok (.bipush 8, 2) := by decide +kernel
theorem x53_25 {d : Nat} {L : Lc} {st : List Value} {h : Hp} : ex (d) 53 25 L st h = ex d 53 27 L (.int (nI 8) :: st) h := (ex_of d53_25 (d) L st h).trans (rfl)
theorem d53_27 : decode (mB 53) 27 = .ok (.invokevirtual 57, 3) := by decide +kernel
theorem x53_27 {d : Nat} {L : Lc} {a : Nat} {v0 : Int32} {h : Hp} (ht : (h.2.1 a).1 = 10) : ex (d + 1) 53 27 L (.int v0 :: .ref a :: []) h = bnd (ex d 84 0 [some (.ref a), some (.int v0)] [] h) (fun v h' => ex (d + 1) 53 30 L (v.toList ++ []) h') := (ex_of d53_27 (d + 1) L (.int v0 :: .ref a :: []) h).trans (fin_vi (mi := 53) i10_57 ht rfl rfl (by simp [cat1_i, cat1_r]) (by simp) (Nat.le_of_ble_eq_true rfl))
theorem d53_30 : decode (mB 53) 30 = .ok (.goto 14, 3) := by decide +kernel
theorem x53_30 {d : Nat} {L : Lc} {st : List Value} {h : Hp} : ex (d) 53 30 L st h = ex d 53 44 L st h := (ex_of d53_30 (d) L st h).trans (rfl)
theorem d53_33 : decode (mB 53) 33 = .ok (.aload_n 0, 1) := by decide +kernel
theorem x53_33 {d : Nat} {l1 l2 : Option Value} {st : List Value} {a : Nat} {h : Hp} : ex (d) 53 33 [some (.ref a), l1, l2] st h = ex d 53 34 [some (.ref a), l1, l2] (.ref a :: st) h := (ex_of d53_33 (d) [some (.ref a), l1, l2] st h).trans (rfl)
theorem d53_34 : decode (mB 53) 34 = .ok (.aload_n 2, 1) := by decide +kernel
theorem x53_34 {d : Nat} {l0 l1 : Option Value} {st : List Value} {a : Nat} {h : Hp} : ex (d) 53 34 [l0, l1, some (.ref a)] st h = ex d 53 35 [l0, l1, some (.ref a)] (.ref a :: st) h := (ex_of d53_34 (d) [l0, l1, some (.ref a)] st h).trans (rfl)
theorem x53_34n {d : Nat} {l0 l1 : Option Value} {st : List Value} {h : Hp} : ex (d) 53 34 [l0, l1, some .null] st h = ex d 53 35 [l0, l1, some .null] (.null :: st) h := (ex_of d53_34 (d) [l0, l1, some .null] st h).trans (rfl)
theorem x53_34q {d : Nat} {l0 l1 : Option Value} {st : List Value} {a : Option Nat} {h : Hp} : ex (d) 53 34 [l0, l1, some (va_rf a)] st h = ex d 53 35 [l0, l1, some (va_rf a)] (va_rf a :: st) h := (ex_of d53_34 (d) [l0, l1, some (va_rf a)] st h).trans (by cases a <;> rfl)
theorem d53_35 : decode (mB 53) 35 = .ok (.getfield 119, 3) := by decide +kernel
theorem x53_35 {d : Nat} {L : Lc} {st : List Value} {a : Nat} {h : Hp} (ht : isTh (h.2.1 a).1 = true) : ex (d) 53 35 L (.ref a :: st) h = ex d 53 38 L (h.1 a 3 :: st) h := (ex_of d53_35 (d) L (.ref a :: st) h).trans (fin_get (mi := 53) f10_119 ht)
theorem d53_38 : decode (mB 53) 38 = .ok (.getfield 123, 3) := by decide +kernel
theorem x53_38 {d : Nat} {L : Lc} {st : List Value} {a : Nat} {h : Hp} (ht : (h.2.1 a).1 = 3) : ex (d) 53 38 L (.ref a :: st) h = ex d 53 41 L (h.1 a 0 :: st) h := (ex_of d53_38 (d) L (.ref a :: st) h).trans (fin_get (mi := 53) f10_123 (tg1 ht rfl))
theorem d53_41 : decode (mB 53) 41 = .ok (.invokevirtual 64, 3) := by decide +kernel
theorem x53_41 {d : Nat} {L : Lc} {a : Nat} {v0 : Int32} {h : Hp} (ht : (h.2.1 a).1 = 10) : ex (d + 1) 53 41 L (.int v0 :: .ref a :: []) h = bnd (ex d 85 0 [some (.ref a), some (.int v0)] [] h) (fun v h' => ex (d + 1) 53 44 L (v.toList ++ []) h') := (ex_of d53_41 (d + 1) L (.int v0 :: .ref a :: []) h).trans (fin_vi (mi := 53) i10_64 ht rfl rfl (by simp [cat1_i, cat1_r]) (by simp) (Nat.le_of_ble_eq_true rfl))
theorem d53_44 : decode (mB 53) 44 = .ok (.ireturn, 1) := by decide +kernel
theorem x53_44 {d : Nat} {L : Lc} {x : Int32} {h : Hp} : ex (d) 53 44 L [.int x] h = some (some (.int x), h) := (ex_of d53_44 (d) L [.int x] h).trans (rfl)
theorem d54_0 : decode (mB 54) 0 = .ok (.aload_n 0, 1) := by decide +kernel
theorem x54_0 {d : Nat} {l1 l2 l3 l4 l5 l6 : Option Value} {st : List Value} {a : Nat} {h : Hp} : ex (d) 54 0 [some (.ref a), l1, l2, l3, l4, l5, l6] st h = ex d 54 1 [some (.ref a), l1, l2, l3, l4, l5, l6] (.ref a :: st) h := (ex_of d54_0 (d) [some (.ref a), l1, l2, l3, l4, l5, l6] st h).trans (rfl)
theorem d54_1 : decode (mB 54) 1 = .ok (.iload_n 1, 1) := by decide +kernel
theorem x54_1 {d : Nat} {l0 l2 l3 l4 l5 l6 : Option Value} {st : List Value} {x : Int32} {h : Hp} : ex (d) 54 1 [l0, some (.int x), l2, l3, l4, l5, l6] st h = ex d 54 2 [l0, some (.int x), l2, l3, l4, l5, l6] (.int x :: st) h := (ex_of d54_1 (d) [l0, some (.int x), l2, l3, l4, l5, l6] st h).trans (rfl)
theorem d54_2 : decode (mB 54) 2 = .ok (.invokevirtual 126, 3) := by decide +kernel
theorem x54_2 {d : Nat} {L : Lc} {a : Nat} {v0 : Int32} {h : Hp} (ht : (h.2.1 a).1 = 10) : ex (d + 1) 54 2 L (.int v0 :: .ref a :: []) h = bnd (ex d 87 0 [some (.ref a), some (.int v0), none] [] h) (fun v h' => ex (d + 1) 54 5 L (v.toList ++ []) h') := (ex_of d54_2 (d + 1) L (.int v0 :: .ref a :: []) h).trans (fin_vi (mi := 54) i10_126 ht rfl rfl (by simp [cat1_i, cat1_r]) (by simp) (Nat.le_of_ble_eq_true rfl))
theorem d54_5 : decode (mB 54) 5 = .ok (.astore 4, 2) := by decide +kernel
theorem x54_5 {d : Nat} {l0 l1 l2 l3 l4 l5 l6 : Option Value} {st : List Value} {a : Nat} {h : Hp} : ex (d) 54 5 [l0, l1, l2, l3, l4, l5, l6] (.ref a :: st) h = ex d 54 7 [l0, l1, l2, clr l3, some (.ref a), l5, l6] st h := (ex_of d54_5 (d) [l0, l1, l2, l3, l4, l5, l6] (.ref a :: st) h).trans (rfl)
theorem x54_5n {d : Nat} {l0 l1 l2 l3 l4 l5 l6 : Option Value} {st : List Value} {h : Hp} : ex (d) 54 5 [l0, l1, l2, l3, l4, l5, l6] (.null :: st) h = ex d 54 7 [l0, l1, l2, clr l3, some .null, l5, l6] st h := (ex_of d54_5 (d) [l0, l1, l2, l3, l4, l5, l6] (.null :: st) h).trans (rfl)
theorem x54_5q {d : Nat} {l0 l1 l2 l3 l4 l5 l6 : Option Value} {st : List Value} {a : Option Nat} {h : Hp} : ex (d) 54 5 [l0, l1, l2, l3, l4, l5, l6] (va_rf a :: st) h = ex d 54 7 [l0, l1, l2, clr l3, some (va_rf a), l5, l6] st h := (ex_of d54_5 (d) [l0, l1, l2, l3, l4, l5, l6] (va_rf a :: st) h).trans (by cases a <;> rfl)
theorem d54_7 : decode (mB 54) 7 = .ok (.aload 4, 2) := by decide +kernel
theorem x54_7 {d : Nat} {l0 l1 l2 l3 l5 l6 : Option Value} {st : List Value} {a : Nat} {h : Hp} : ex (d) 54 7 [l0, l1, l2, l3, some (.ref a), l5, l6] st h = ex d 54 9 [l0, l1, l2, l3, some (.ref a), l5, l6] (.ref a :: st) h := (ex_of d54_7 (d) [l0, l1, l2, l3, some (.ref a), l5, l6] st h).trans (rfl)
theorem x54_7n {d : Nat} {l0 l1 l2 l3 l5 l6 : Option Value} {st : List Value} {h : Hp} : ex (d) 54 7 [l0, l1, l2, l3, some .null, l5, l6] st h = ex d 54 9 [l0, l1, l2, l3, some .null, l5, l6] (.null :: st) h := (ex_of d54_7 (d) [l0, l1, l2, l3, some .null, l5, l6] st h).trans (rfl)
theorem x54_7q {d : Nat} {l0 l1 l2 l3 l5 l6 : Option Value} {st : List Value} {a : Option Nat} {h : Hp} : ex (d) 54 7 [l0, l1, l2, l3, some (va_rf a), l5, l6] st h = ex d 54 9 [l0, l1, l2, l3, some (va_rf a), l5, l6] (va_rf a :: st) h := (ex_of d54_7 (d) [l0, l1, l2, l3, some (va_rf a), l5, l6] st h).trans (by cases a <;> rfl)
theorem d54_9 : decode (mB 54) 9 = .ok (.ifnonnull 9, 3) := by decide +kernel
theorem x54_9n {d : Nat} {L : Lc} {st : List Value} {h : Hp} : ex (d) 54 9 L (.null :: st) h = ex d 54 12 L st h := (ex_of d54_9 (d) L (.null :: st) h).trans (rfl)
theorem x54_9 {d : Nat} {L : Lc} {st : List Value} {a : Nat} {h : Hp} : ex (d) 54 9 L (.ref a :: st) h = ex d 54 18 L st h := (ex_of d54_9 (d) L (.ref a :: st) h).trans (rfl)
theorem d54_12 : decode (mB 54) 12 = .ok (.aload_n 0, 1) := by decide +kernel
theorem x54_12 {d : Nat} {l1 l2 l3 l4 l5 l6 : Option Value} {st : List Value} {a : Nat} {h : Hp} : ex (d) 54 12 [some (.ref a), l1, l2, l3, l4, l5, l6] st h = ex d 54 13 [some (.ref a), l1, l2, l3, l4, l5, l6] (.ref a :: st) h := (ex_of d54_12 (d) [some (.ref a), l1, l2, l3, l4, l5, l6] st h).trans (rfl)
theorem d54_13 : decode (mB 54) 13 = .ok (.iconst 1, 1) := by decide +kernel
theorem x54_13 {d : Nat} {L : Lc} {st : List Value} {h : Hp} : ex (d) 54 13 L st h = ex d 54 14 L (.int (nI 1) :: st) h := (ex_of d54_13 (d) L st h).trans (rfl)
theorem d54_14 : decode (mB 54) 14 = .ok (.invokevirtual 57, 3) := by decide +kernel
theorem x54_14 {d : Nat} {L : Lc} {a : Nat} {v0 : Int32} {h : Hp} (ht : (h.2.1 a).1 = 10) : ex (d + 1) 54 14 L (.int v0 :: .ref a :: []) h = bnd (ex d 84 0 [some (.ref a), some (.int v0)] [] h) (fun v h' => ex (d + 1) 54 17 L (v.toList ++ []) h') := (ex_of d54_14 (d + 1) L (.int v0 :: .ref a :: []) h).trans (fin_vi (mi := 54) i10_57 ht rfl rfl (by simp [cat1_i, cat1_r]) (by simp) (Nat.le_of_ble_eq_true rfl))
theorem d54_17 : decode (mB 54) 17 = .ok (.ireturn, 1) := by decide +kernel
theorem x54_17 {d : Nat} {L : Lc} {x : Int32} {h : Hp} : ex (d) 54 17 L [.int x] h = some (some (.int x), h) := (ex_of d54_17 (d) L [.int x] h).trans (rfl)
theorem d54_18 : decode (mB 54) 18 = .ok (.aload_n 0, 1) := by decide +kernel
theorem x54_18 {d : Nat} {l1 l2 l3 l4 l5 l6 : Option Value} {st : List Value} {a : Nat} {h : Hp} : ex (d) 54 18 [some (.ref a), l1, l2, l3, l4, l5, l6] st h = ex d 54 19 [some (.ref a), l1, l2, l3, l4, l5, l6] (.ref a :: st) h := (ex_of d54_18 (d) [some (.ref a), l1, l2, l3, l4, l5, l6] st h).trans (rfl)
theorem d54_19 : decode (mB 54) 19 = .ok (.iload_n 3, 1) := by decide +kernel
theorem x54_19 {d : Nat} {l0 l1 l2 l4 l5 l6 : Option Value} {st : List Value} {x : Int32} {h : Hp} : ex (d) 54 19 [l0, l1, l2, some (.int x), l4, l5, l6] st h = ex d 54 20 [l0, l1, l2, some (.int x), l4, l5, l6] (.int x :: st) h := (ex_of d54_19 (d) [l0, l1, l2, some (.int x), l4, l5, l6] st h).trans (rfl)
theorem d54_20 : decode (mB 54) 20 = .ok (.invokevirtual 111, 3) := by decide +kernel
theorem x54_20 {d : Nat} {L : Lc} {a : Nat} {v0 : Int32} {h : Hp} (ht : (h.2.1 a).1 = 10) : ex (d + 1) 54 20 L (.int v0 :: .ref a :: []) h = bnd (ex d 86 0 [some (.ref a), some (.int v0)] [] h) (fun v h' => ex (d + 1) 54 23 L (v.toList ++ []) h') := (ex_of d54_20 (d + 1) L (.int v0 :: .ref a :: []) h).trans (fin_vi (mi := 54) i10_111 ht rfl rfl (by simp [cat1_i, cat1_r]) (by simp) (Nat.le_of_ble_eq_true rfl))
theorem d54_23 : decode (mB 54) 23 = .ok (.astore 5, 2) := by decide +kernel
theorem x54_23 {d : Nat} {l0 l1 l2 l3 l4 l5 l6 : Option Value} {st : List Value} {a : Nat} {h : Hp} : ex (d) 54 23 [l0, l1, l2, l3, l4, l5, l6] (.ref a :: st) h = ex d 54 25 [l0, l1, l2, l3, clr l4, some (.ref a), l6] st h := (ex_of d54_23 (d) [l0, l1, l2, l3, l4, l5, l6] (.ref a :: st) h).trans (rfl)
theorem x54_23n {d : Nat} {l0 l1 l2 l3 l4 l5 l6 : Option Value} {st : List Value} {h : Hp} : ex (d) 54 23 [l0, l1, l2, l3, l4, l5, l6] (.null :: st) h = ex d 54 25 [l0, l1, l2, l3, clr l4, some .null, l6] st h := (ex_of d54_23 (d) [l0, l1, l2, l3, l4, l5, l6] (.null :: st) h).trans (rfl)
theorem x54_23q {d : Nat} {l0 l1 l2 l3 l4 l5 l6 : Option Value} {st : List Value} {a : Option Nat} {h : Hp} : ex (d) 54 23 [l0, l1, l2, l3, l4, l5, l6] (va_rf a :: st) h = ex d 54 25 [l0, l1, l2, l3, clr l4, some (va_rf a), l6] st h := (ex_of d54_23 (d) [l0, l1, l2, l3, l4, l5, l6] (va_rf a :: st) h).trans (by cases a <;> rfl)
theorem d54_25 : decode (mB 54) 25 = .ok (.aload 5, 2) := by decide +kernel
theorem x54_25 {d : Nat} {l0 l1 l2 l3 l4 l6 : Option Value} {st : List Value} {a : Nat} {h : Hp} : ex (d) 54 25 [l0, l1, l2, l3, l4, some (.ref a), l6] st h = ex d 54 27 [l0, l1, l2, l3, l4, some (.ref a), l6] (.ref a :: st) h := (ex_of d54_25 (d) [l0, l1, l2, l3, l4, some (.ref a), l6] st h).trans (rfl)
theorem x54_25n {d : Nat} {l0 l1 l2 l3 l4 l6 : Option Value} {st : List Value} {h : Hp} : ex (d) 54 25 [l0, l1, l2, l3, l4, some .null, l6] st h = ex d 54 27 [l0, l1, l2, l3, l4, some .null, l6] (.null :: st) h := (ex_of d54_25 (d) [l0, l1, l2, l3, l4, some .null, l6] st h).trans (rfl)
theorem x54_25q {d : Nat} {l0 l1 l2 l3 l4 l6 : Option Value} {st : List Value} {a : Option Nat} {h : Hp} : ex (d) 54 25 [l0, l1, l2, l3, l4, some (va_rf a), l6] st h = ex d 54 27 [l0, l1, l2, l3, l4, some (va_rf a), l6] (va_rf a :: st) h := (ex_of d54_25 (d) [l0, l1, l2, l3, l4, some (va_rf a), l6] st h).trans (by cases a <;> rfl)
theorem d54_27 : decode (mB 54) 27 = .ok (.ifnonnull 10, 3) := by decide +kernel
theorem x54_27n {d : Nat} {L : Lc} {st : List Value} {h : Hp} : ex (d) 54 27 L (.null :: st) h = ex d 54 30 L st h := (ex_of d54_27 (d) L (.null :: st) h).trans (rfl)
theorem x54_27 {d : Nat} {L : Lc} {st : List Value} {a : Nat} {h : Hp} : ex (d) 54 27 L (.ref a :: st) h = ex d 54 37 L st h := (ex_of d54_27 (d) L (.ref a :: st) h).trans (rfl)
theorem d54_30 : decode (mB 54) 30 = .ok (.aload_n 0, 1) := by decide +kernel
theorem x54_30 {d : Nat} {l1 l2 l3 l4 l5 l6 : Option Value} {st : List Value} {a : Nat} {h : Hp} : ex (d) 54 30 [some (.ref a), l1, l2, l3, l4, l5, l6] st h = ex d 54 31 [some (.ref a), l1, l2, l3, l4, l5, l6] (.ref a :: st) h := (ex_of d54_30 (d) [some (.ref a), l1, l2, l3, l4, l5, l6] st h).trans (rfl)
theorem d54_31 : decode (mB 54) 31 = .ok (.bipush 10, 2) := by decide +kernel
theorem x54_31 {d : Nat} {L : Lc} {st : List Value} {h : Hp} : ex (d) 54 31 L st h = ex d 54 33 L (.int (nI 10) :: st) h := (ex_of d54_31 (d) L st h).trans (rfl)
theorem d54_33 : decode (mB 54) 33 = .ok (.invokevirtual 57, 3) := by decide +kernel
theorem x54_33 {d : Nat} {L : Lc} {a : Nat} {v0 : Int32} {h : Hp} (ht : (h.2.1 a).1 = 10) : ex (d + 1) 54 33 L (.int v0 :: .ref a :: []) h = bnd (ex d 84 0 [some (.ref a), some (.int v0)] [] h) (fun v h' => ex (d + 1) 54 36 L (v.toList ++ []) h') := (ex_of d54_33 (d + 1) L (.int v0 :: .ref a :: []) h).trans (fin_vi (mi := 54) i10_57 ht rfl rfl (by simp [cat1_i, cat1_r]) (by simp) (Nat.le_of_ble_eq_true rfl))
theorem d54_36 : decode (mB 54) 36 = .ok (.ireturn, 1) := by decide +kernel
theorem x54_36 {d : Nat} {L : Lc} {x : Int32} {h : Hp} : ex (d) 54 36 L [.int x] h = some (some (.int x), h) := (ex_of d54_36 (d) L [.int x] h).trans (rfl)
theorem d54_37 : decode (mB 54) 37 = .ok (.aload_n 0, 1) := by decide +kernel
theorem x54_37 {d : Nat} {l1 l2 l3 l4 l5 l6 : Option Value} {st : List Value} {a : Nat} {h : Hp} : ex (d) 54 37 [some (.ref a), l1, l2, l3, l4, l5, l6] st h = ex d 54 38 [some (.ref a), l1, l2, l3, l4, l5, l6] (.ref a :: st) h := (ex_of d54_37 (d) [some (.ref a), l1, l2, l3, l4, l5, l6] st h).trans (rfl)
theorem d54_38 : decode (mB 54) 38 = .ok (.invokevirtual 130, 3) := by decide +kernel
theorem x54_38 {d : Nat} {L : Lc} {a : Nat} {h : Hp} (ht : (h.2.1 a).1 = 10) : ex (d + 1) 54 38 L (.ref a :: []) h = bnd (ex d 102 0 [some (.ref a)] [] h) (fun v h' => ex (d + 1) 54 41 L (v.toList ++ []) h') := (ex_of d54_38 (d + 1) L (.ref a :: []) h).trans (fin_vi (mi := 54) i10_130 ht rfl rfl (by simp [cat1_i, cat1_r]) (by simp) (Nat.le_of_ble_eq_true rfl))
theorem d54_41 : decode (mB 54) 41 = .ok (.aload_n 0, 1) := by decide +kernel
theorem x54_41 {d : Nat} {l1 l2 l3 l4 l5 l6 : Option Value} {st : List Value} {a : Nat} {h : Hp} : ex (d) 54 41 [some (.ref a), l1, l2, l3, l4, l5, l6] st h = ex d 54 42 [some (.ref a), l1, l2, l3, l4, l5, l6] (.ref a :: st) h := (ex_of d54_41 (d) [some (.ref a), l1, l2, l3, l4, l5, l6] st h).trans (rfl)
theorem d54_42 : decode (mB 54) 42 = .ok (.aload 4, 2) := by decide +kernel
theorem x54_42 {d : Nat} {l0 l1 l2 l3 l5 l6 : Option Value} {st : List Value} {a : Nat} {h : Hp} : ex (d) 54 42 [l0, l1, l2, l3, some (.ref a), l5, l6] st h = ex d 54 44 [l0, l1, l2, l3, some (.ref a), l5, l6] (.ref a :: st) h := (ex_of d54_42 (d) [l0, l1, l2, l3, some (.ref a), l5, l6] st h).trans (rfl)
theorem x54_42n {d : Nat} {l0 l1 l2 l3 l5 l6 : Option Value} {st : List Value} {h : Hp} : ex (d) 54 42 [l0, l1, l2, l3, some .null, l5, l6] st h = ex d 54 44 [l0, l1, l2, l3, some .null, l5, l6] (.null :: st) h := (ex_of d54_42 (d) [l0, l1, l2, l3, some .null, l5, l6] st h).trans (rfl)
theorem x54_42q {d : Nat} {l0 l1 l2 l3 l5 l6 : Option Value} {st : List Value} {a : Option Nat} {h : Hp} : ex (d) 54 42 [l0, l1, l2, l3, some (va_rf a), l5, l6] st h = ex d 54 44 [l0, l1, l2, l3, some (va_rf a), l5, l6] (va_rf a :: st) h := (ex_of d54_42 (d) [l0, l1, l2, l3, some (va_rf a), l5, l6] st h).trans (by cases a <;> rfl)
theorem d54_44 : decode (mB 54) 44 = .ok (.iload_n 2, 1) := by decide +kernel
theorem x54_44 {d : Nat} {l0 l1 l3 l4 l5 l6 : Option Value} {st : List Value} {x : Int32} {h : Hp} : ex (d) 54 44 [l0, l1, some (.int x), l3, l4, l5, l6] st h = ex d 54 45 [l0, l1, some (.int x), l3, l4, l5, l6] (.int x :: st) h := (ex_of d54_44 (d) [l0, l1, some (.int x), l3, l4, l5, l6] st h).trans (rfl)
theorem d54_45 : decode (mB 54) 45 = .ok (.aload 5, 2) := by decide +kernel
theorem x54_45 {d : Nat} {l0 l1 l2 l3 l4 l6 : Option Value} {st : List Value} {a : Nat} {h : Hp} : ex (d) 54 45 [l0, l1, l2, l3, l4, some (.ref a), l6] st h = ex d 54 47 [l0, l1, l2, l3, l4, some (.ref a), l6] (.ref a :: st) h := (ex_of d54_45 (d) [l0, l1, l2, l3, l4, some (.ref a), l6] st h).trans (rfl)
theorem x54_45n {d : Nat} {l0 l1 l2 l3 l4 l6 : Option Value} {st : List Value} {h : Hp} : ex (d) 54 45 [l0, l1, l2, l3, l4, some .null, l6] st h = ex d 54 47 [l0, l1, l2, l3, l4, some .null, l6] (.null :: st) h := (ex_of d54_45 (d) [l0, l1, l2, l3, l4, some .null, l6] st h).trans (rfl)
theorem x54_45q {d : Nat} {l0 l1 l2 l3 l4 l6 : Option Value} {st : List Value} {a : Option Nat} {h : Hp} : ex (d) 54 45 [l0, l1, l2, l3, l4, some (va_rf a), l6] st h = ex d 54 47 [l0, l1, l2, l3, l4, some (va_rf a), l6] (va_rf a :: st) h := (ex_of d54_45 (d) [l0, l1, l2, l3, l4, some (va_rf a), l6] st h).trans (by cases a <;> rfl)
theorem d54_47 : decode (mB 54) 47 = .ok (.invokevirtual 133, 3) := by decide +kernel
theorem x54_47 {d : Nat} {L : Lc} {a : Nat} {v0 : Value} {v1 : Int32} {v2 : Value} {h : Hp} (ht : (h.2.1 a).1 = 10) (hv0 : isR v0 = true) (hv2 : isR v2 = true) : ex (d + 1) 54 47 L (v2 :: .int v1 :: v0 :: .ref a :: []) h = bnd (ex d 106 0 [some (.ref a), some v0, some (.int v1), some v2, none] [] h) (fun v h' => ex (d + 1) 54 50 L (v.toList ++ []) h') := (ex_of d54_47 (d + 1) L (v2 :: .int v1 :: v0 :: .ref a :: []) h).trans (fin_vi (mi := 54) i10_133 ht rfl rfl (by simp [cat1_i, cat1_r, isR_cat1 hv0, isR_cat1 hv2]) (by simp) (Nat.le_of_ble_eq_true rfl))
theorem d54_50 : decode (mB 54) 50 = .ok (.istore 6, 2) := by decide +kernel
theorem x54_50 {d : Nat} {l0 l1 l2 l3 l4 l5 l6 : Option Value} {st : List Value} {x : Int32} {h : Hp} : ex (d) 54 50 [l0, l1, l2, l3, l4, l5, l6] (.int x :: st) h = ex d 54 52 [l0, l1, l2, l3, l4, clr l5, some (.int x)] st h := (ex_of d54_50 (d) [l0, l1, l2, l3, l4, l5, l6] (.int x :: st) h).trans (rfl)
theorem d54_52 : decode (mB 54) 52 = .ok (.aload_n 0, 1) := by decide +kernel
theorem x54_52 {d : Nat} {l1 l2 l3 l4 l5 l6 : Option Value} {st : List Value} {a : Nat} {h : Hp} : ex (d) 54 52 [some (.ref a), l1, l2, l3, l4, l5, l6] st h = ex d 54 53 [some (.ref a), l1, l2, l3, l4, l5, l6] (.ref a :: st) h := (ex_of d54_52 (d) [some (.ref a), l1, l2, l3, l4, l5, l6] st h).trans (rfl)
theorem d54_53 : decode (mB 54) 53 = .ok (.invokevirtual 137, 3) := by decide +kernel
theorem x54_53 {d : Nat} {L : Lc} {a : Nat} {h : Hp} (ht : (h.2.1 a).1 = 10) : ex (d + 1) 54 53 L (.ref a :: []) h = bnd (ex d 103 0 [some (.ref a)] [] h) (fun v h' => ex (d + 1) 54 56 L (v.toList ++ []) h') := (ex_of d54_53 (d + 1) L (.ref a :: []) h).trans (fin_vi (mi := 54) i10_137 ht rfl rfl (by simp [cat1_i, cat1_r]) (by simp) (Nat.le_of_ble_eq_true rfl))
theorem d54_56 : decode (mB 54) 56 = .ok (.iload 6, 2) := by decide +kernel
theorem x54_56 {d : Nat} {l0 l1 l2 l3 l4 l5 : Option Value} {st : List Value} {x : Int32} {h : Hp} : ex (d) 54 56 [l0, l1, l2, l3, l4, l5, some (.int x)] st h = ex d 54 58 [l0, l1, l2, l3, l4, l5, some (.int x)] (.int x :: st) h := (ex_of d54_56 (d) [l0, l1, l2, l3, l4, l5, some (.int x)] st h).trans (rfl)
theorem d54_58 : decode (mB 54) 58 = .ok (.ireturn, 1) := by decide +kernel
theorem x54_58 {d : Nat} {L : Lc} {x : Int32} {h : Hp} : ex (d) 54 58 L [.int x] h = some (some (.int x), h) := (ex_of d54_58 (d) L [.int x] h).trans (rfl)
theorem d55_0 : decode (mB 55) 0 = .ok (.aload_n 0, 1) := by decide +kernel
theorem x55_0 {d : Nat} {l1 l2 l3 l4 : Option Value} {st : List Value} {a : Nat} {h : Hp} : ex (d) 55 0 [some (.ref a), l1, l2, l3, l4] st h = ex d 55 1 [some (.ref a), l1, l2, l3, l4] (.ref a :: st) h := (ex_of d55_0 (d) [some (.ref a), l1, l2, l3, l4] st h).trans (rfl)
theorem d55_1 : decode (mB 55) 1 = .ok (.iload_n 1, 1) := by decide +kernel
theorem x55_1 {d : Nat} {l0 l2 l3 l4 : Option Value} {st : List Value} {x : Int32} {h : Hp} : ex (d) 55 1 [l0, some (.int x), l2, l3, l4] st h = ex d 55 2 [l0, some (.int x), l2, l3, l4] (.int x :: st) h := (ex_of d55_1 (d) [l0, some (.int x), l2, l3, l4] st h).trans (rfl)
theorem d55_2 : decode (mB 55) 2 = .ok (.invokevirtual 126, 3) := by decide +kernel
theorem x55_2 {d : Nat} {L : Lc} {a : Nat} {v0 : Int32} {h : Hp} (ht : (h.2.1 a).1 = 10) : ex (d + 1) 55 2 L (.int v0 :: .ref a :: []) h = bnd (ex d 87 0 [some (.ref a), some (.int v0), none] [] h) (fun v h' => ex (d + 1) 55 5 L (v.toList ++ []) h') := (ex_of d55_2 (d + 1) L (.int v0 :: .ref a :: []) h).trans (fin_vi (mi := 55) i10_126 ht rfl rfl (by simp [cat1_i, cat1_r]) (by simp) (Nat.le_of_ble_eq_true rfl))
theorem d55_5 : decode (mB 55) 5 = .ok (.astore_n 3, 1) := by decide +kernel
theorem x55_5 {d : Nat} {l0 l1 l2 l3 l4 : Option Value} {st : List Value} {a : Nat} {h : Hp} : ex (d) 55 5 [l0, l1, l2, l3, l4] (.ref a :: st) h = ex d 55 6 [l0, l1, clr l2, some (.ref a), l4] st h := (ex_of d55_5 (d) [l0, l1, l2, l3, l4] (.ref a :: st) h).trans (rfl)
theorem x55_5n {d : Nat} {l0 l1 l2 l3 l4 : Option Value} {st : List Value} {h : Hp} : ex (d) 55 5 [l0, l1, l2, l3, l4] (.null :: st) h = ex d 55 6 [l0, l1, clr l2, some .null, l4] st h := (ex_of d55_5 (d) [l0, l1, l2, l3, l4] (.null :: st) h).trans (rfl)
theorem x55_5q {d : Nat} {l0 l1 l2 l3 l4 : Option Value} {st : List Value} {a : Option Nat} {h : Hp} : ex (d) 55 5 [l0, l1, l2, l3, l4] (va_rf a :: st) h = ex d 55 6 [l0, l1, clr l2, some (va_rf a), l4] st h := (ex_of d55_5 (d) [l0, l1, l2, l3, l4] (va_rf a :: st) h).trans (by cases a <;> rfl)
theorem d55_6 : decode (mB 55) 6 = .ok (.aload_n 3, 1) := by decide +kernel
theorem x55_6 {d : Nat} {l0 l1 l2 l4 : Option Value} {st : List Value} {a : Nat} {h : Hp} : ex (d) 55 6 [l0, l1, l2, some (.ref a), l4] st h = ex d 55 7 [l0, l1, l2, some (.ref a), l4] (.ref a :: st) h := (ex_of d55_6 (d) [l0, l1, l2, some (.ref a), l4] st h).trans (rfl)
theorem x55_6n {d : Nat} {l0 l1 l2 l4 : Option Value} {st : List Value} {h : Hp} : ex (d) 55 6 [l0, l1, l2, some .null, l4] st h = ex d 55 7 [l0, l1, l2, some .null, l4] (.null :: st) h := (ex_of d55_6 (d) [l0, l1, l2, some .null, l4] st h).trans (rfl)
theorem x55_6q {d : Nat} {l0 l1 l2 l4 : Option Value} {st : List Value} {a : Option Nat} {h : Hp} : ex (d) 55 6 [l0, l1, l2, some (va_rf a), l4] st h = ex d 55 7 [l0, l1, l2, some (va_rf a), l4] (va_rf a :: st) h := (ex_of d55_6 (d) [l0, l1, l2, some (va_rf a), l4] st h).trans (by cases a <;> rfl)
theorem d55_7 : decode (mB 55) 7 = .ok (.ifnonnull 9, 3) := by decide +kernel
theorem x55_7n {d : Nat} {L : Lc} {st : List Value} {h : Hp} : ex (d) 55 7 L (.null :: st) h = ex d 55 10 L st h := (ex_of d55_7 (d) L (.null :: st) h).trans (rfl)
theorem x55_7 {d : Nat} {L : Lc} {st : List Value} {a : Nat} {h : Hp} : ex (d) 55 7 L (.ref a :: st) h = ex d 55 16 L st h := (ex_of d55_7 (d) L (.ref a :: st) h).trans (rfl)
theorem d55_10 : decode (mB 55) 10 = .ok (.aload_n 0, 1) := by decide +kernel
theorem x55_10 {d : Nat} {l1 l2 l3 l4 : Option Value} {st : List Value} {a : Nat} {h : Hp} : ex (d) 55 10 [some (.ref a), l1, l2, l3, l4] st h = ex d 55 11 [some (.ref a), l1, l2, l3, l4] (.ref a :: st) h := (ex_of d55_10 (d) [some (.ref a), l1, l2, l3, l4] st h).trans (rfl)
theorem d55_11 : decode (mB 55) 11 = .ok (.iconst 1, 1) := by decide +kernel
theorem x55_11 {d : Nat} {L : Lc} {st : List Value} {h : Hp} : ex (d) 55 11 L st h = ex d 55 12 L (.int (nI 1) :: st) h := (ex_of d55_11 (d) L st h).trans (rfl)
theorem d55_12 : decode (mB 55) 12 = .ok (.invokevirtual 57, 3) := by decide +kernel
theorem x55_12 {d : Nat} {L : Lc} {a : Nat} {v0 : Int32} {h : Hp} (ht : (h.2.1 a).1 = 10) : ex (d + 1) 55 12 L (.int v0 :: .ref a :: []) h = bnd (ex d 84 0 [some (.ref a), some (.int v0)] [] h) (fun v h' => ex (d + 1) 55 15 L (v.toList ++ []) h') := (ex_of d55_12 (d + 1) L (.int v0 :: .ref a :: []) h).trans (fin_vi (mi := 55) i10_57 ht rfl rfl (by simp [cat1_i, cat1_r]) (by simp) (Nat.le_of_ble_eq_true rfl))
theorem d55_15 : decode (mB 55) 15 = .ok (.ireturn, 1) := by decide +kernel
theorem x55_15 {d : Nat} {L : Lc} {x : Int32} {h : Hp} : ex (d) 55 15 L [.int x] h = some (some (.int x), h) := (ex_of d55_15 (d) L [.int x] h).trans (rfl)
theorem d55_16 : decode (mB 55) 16 = .ok (.aload_n 0, 1) := by decide +kernel
theorem x55_16 {d : Nat} {l1 l2 l3 l4 : Option Value} {st : List Value} {a : Nat} {h : Hp} : ex (d) 55 16 [some (.ref a), l1, l2, l3, l4] st h = ex d 55 17 [some (.ref a), l1, l2, l3, l4] (.ref a :: st) h := (ex_of d55_16 (d) [some (.ref a), l1, l2, l3, l4] st h).trans (rfl)
theorem d55_17 : decode (mB 55) 17 = .ok (.invokevirtual 130, 3) := by decide +kernel
theorem x55_17 {d : Nat} {L : Lc} {a : Nat} {h : Hp} (ht : (h.2.1 a).1 = 10) : ex (d + 1) 55 17 L (.ref a :: []) h = bnd (ex d 102 0 [some (.ref a)] [] h) (fun v h' => ex (d + 1) 55 20 L (v.toList ++ []) h') := (ex_of d55_17 (d + 1) L (.ref a :: []) h).trans (fin_vi (mi := 55) i10_130 ht rfl rfl (by simp [cat1_i, cat1_r]) (by simp) (Nat.le_of_ble_eq_true rfl))
theorem d55_20 : decode (mB 55) 20 = .ok (.aload_n 0, 1) := by decide +kernel
theorem x55_20 {d : Nat} {l1 l2 l3 l4 : Option Value} {st : List Value} {a : Nat} {h : Hp} : ex (d) 55 20 [some (.ref a), l1, l2, l3, l4] st h = ex d 55 21 [some (.ref a), l1, l2, l3, l4] (.ref a :: st) h := (ex_of d55_20 (d) [some (.ref a), l1, l2, l3, l4] st h).trans (rfl)
theorem d55_21 : decode (mB 55) 21 = .ok (.aload_n 3, 1) := by decide +kernel
theorem x55_21 {d : Nat} {l0 l1 l2 l4 : Option Value} {st : List Value} {a : Nat} {h : Hp} : ex (d) 55 21 [l0, l1, l2, some (.ref a), l4] st h = ex d 55 22 [l0, l1, l2, some (.ref a), l4] (.ref a :: st) h := (ex_of d55_21 (d) [l0, l1, l2, some (.ref a), l4] st h).trans (rfl)
theorem x55_21n {d : Nat} {l0 l1 l2 l4 : Option Value} {st : List Value} {h : Hp} : ex (d) 55 21 [l0, l1, l2, some .null, l4] st h = ex d 55 22 [l0, l1, l2, some .null, l4] (.null :: st) h := (ex_of d55_21 (d) [l0, l1, l2, some .null, l4] st h).trans (rfl)
theorem x55_21q {d : Nat} {l0 l1 l2 l4 : Option Value} {st : List Value} {a : Option Nat} {h : Hp} : ex (d) 55 21 [l0, l1, l2, some (va_rf a), l4] st h = ex d 55 22 [l0, l1, l2, some (va_rf a), l4] (va_rf a :: st) h := (ex_of d55_21 (d) [l0, l1, l2, some (va_rf a), l4] st h).trans (by cases a <;> rfl)
theorem d55_22 : decode (mB 55) 22 = .ok (.iload_n 2, 1) := by decide +kernel
theorem x55_22 {d : Nat} {l0 l1 l3 l4 : Option Value} {st : List Value} {x : Int32} {h : Hp} : ex (d) 55 22 [l0, l1, some (.int x), l3, l4] st h = ex d 55 23 [l0, l1, some (.int x), l3, l4] (.int x :: st) h := (ex_of d55_22 (d) [l0, l1, some (.int x), l3, l4] st h).trans (rfl)
theorem d55_23 : decode (mB 55) 23 = .ok (.invokevirtual 140, 3) := by decide +kernel
theorem x55_23 {d : Nat} {L : Lc} {a : Nat} {v0 : Value} {v1 : Int32} {h : Hp} (ht : (h.2.1 a).1 = 10) (hv0 : isR v0 = true) : ex (d + 1) 55 23 L (.int v1 :: v0 :: .ref a :: []) h = bnd (ex d 107 0 [some (.ref a), some v0, some (.int v1), none] [] h) (fun v h' => ex (d + 1) 55 26 L (v.toList ++ []) h') := (ex_of d55_23 (d + 1) L (.int v1 :: v0 :: .ref a :: []) h).trans (fin_vi (mi := 55) i10_140 ht rfl rfl (by simp [cat1_i, cat1_r, isR_cat1 hv0]) (by simp) (Nat.le_of_ble_eq_true rfl))
theorem d55_26 : decode (mB 55) 26 = .ok (.istore 4, 2) := by decide +kernel
theorem x55_26 {d : Nat} {l0 l1 l2 l3 l4 : Option Value} {st : List Value} {x : Int32} {h : Hp} : ex (d) 55 26 [l0, l1, l2, l3, l4] (.int x :: st) h = ex d 55 28 [l0, l1, l2, clr l3, some (.int x)] st h := (ex_of d55_26 (d) [l0, l1, l2, l3, l4] (.int x :: st) h).trans (rfl)
theorem d55_28 : decode (mB 55) 28 = .ok (.aload_n 0, 1) := by decide +kernel
theorem x55_28 {d : Nat} {l1 l2 l3 l4 : Option Value} {st : List Value} {a : Nat} {h : Hp} : ex (d) 55 28 [some (.ref a), l1, l2, l3, l4] st h = ex d 55 29 [some (.ref a), l1, l2, l3, l4] (.ref a :: st) h := (ex_of d55_28 (d) [some (.ref a), l1, l2, l3, l4] st h).trans (rfl)
theorem d55_29 : decode (mB 55) 29 = .ok (.invokevirtual 137, 3) := by decide +kernel
theorem x55_29 {d : Nat} {L : Lc} {a : Nat} {h : Hp} (ht : (h.2.1 a).1 = 10) : ex (d + 1) 55 29 L (.ref a :: []) h = bnd (ex d 103 0 [some (.ref a)] [] h) (fun v h' => ex (d + 1) 55 32 L (v.toList ++ []) h') := (ex_of d55_29 (d + 1) L (.ref a :: []) h).trans (fin_vi (mi := 55) i10_137 ht rfl rfl (by simp [cat1_i, cat1_r]) (by simp) (Nat.le_of_ble_eq_true rfl))
theorem d55_32 : decode (mB 55) 32 = .ok (.iload 4, 2) := by decide +kernel
theorem x55_32 {d : Nat} {l0 l1 l2 l3 : Option Value} {st : List Value} {x : Int32} {h : Hp} : ex (d) 55 32 [l0, l1, l2, l3, some (.int x)] st h = ex d 55 34 [l0, l1, l2, l3, some (.int x)] (.int x :: st) h := (ex_of d55_32 (d) [l0, l1, l2, l3, some (.int x)] st h).trans (rfl)
theorem d55_34 : decode (mB 55) 34 = .ok (.ireturn, 1) := by decide +kernel
theorem x55_34 {d : Nat} {L : Lc} {x : Int32} {h : Hp} : ex (d) 55 34 L [.int x] h = some (some (.int x), h) := (ex_of d55_34 (d) L [.int x] h).trans (rfl)
theorem d56_0 : decode (mB 56) 0 = .ok (.aload_n 0, 1) := by decide +kernel
theorem x56_0 {d : Nat} {l1 l2 l3 l4 : Option Value} {st : List Value} {a : Nat} {h : Hp} : ex (d) 56 0 [some (.ref a), l1, l2, l3, l4] st h = ex d 56 1 [some (.ref a), l1, l2, l3, l4] (.ref a :: st) h := (ex_of d56_0 (d) [some (.ref a), l1, l2, l3, l4] st h).trans (rfl)
theorem d56_1 : decode (mB 56) 1 = .ok (.iload_n 1, 1) := by decide +kernel
theorem x56_1 {d : Nat} {l0 l2 l3 l4 : Option Value} {st : List Value} {x : Int32} {h : Hp} : ex (d) 56 1 [l0, some (.int x), l2, l3, l4] st h = ex d 56 2 [l0, some (.int x), l2, l3, l4] (.int x :: st) h := (ex_of d56_1 (d) [l0, some (.int x), l2, l3, l4] st h).trans (rfl)
theorem d56_2 : decode (mB 56) 2 = .ok (.invokevirtual 126, 3) := by decide +kernel
theorem x56_2 {d : Nat} {L : Lc} {a : Nat} {v0 : Int32} {h : Hp} (ht : (h.2.1 a).1 = 10) : ex (d + 1) 56 2 L (.int v0 :: .ref a :: []) h = bnd (ex d 87 0 [some (.ref a), some (.int v0), none] [] h) (fun v h' => ex (d + 1) 56 5 L (v.toList ++ []) h') := (ex_of d56_2 (d + 1) L (.int v0 :: .ref a :: []) h).trans (fin_vi (mi := 56) i10_126 ht rfl rfl (by simp [cat1_i, cat1_r]) (by simp) (Nat.le_of_ble_eq_true rfl))
theorem d56_5 : decode (mB 56) 5 = .ok (.astore_n 3, 1) := by decide +kernel
theorem x56_5 {d : Nat} {l0 l1 l2 l3 l4 : Option Value} {st : List Value} {a : Nat} {h : Hp} : ex (d) 56 5 [l0, l1, l2, l3, l4] (.ref a :: st) h = ex d 56 6 [l0, l1, clr l2, some (.ref a), l4] st h := (ex_of d56_5 (d) [l0, l1, l2, l3, l4] (.ref a :: st) h).trans (rfl)
theorem x56_5n {d : Nat} {l0 l1 l2 l3 l4 : Option Value} {st : List Value} {h : Hp} : ex (d) 56 5 [l0, l1, l2, l3, l4] (.null :: st) h = ex d 56 6 [l0, l1, clr l2, some .null, l4] st h := (ex_of d56_5 (d) [l0, l1, l2, l3, l4] (.null :: st) h).trans (rfl)
theorem x56_5q {d : Nat} {l0 l1 l2 l3 l4 : Option Value} {st : List Value} {a : Option Nat} {h : Hp} : ex (d) 56 5 [l0, l1, l2, l3, l4] (va_rf a :: st) h = ex d 56 6 [l0, l1, clr l2, some (va_rf a), l4] st h := (ex_of d56_5 (d) [l0, l1, l2, l3, l4] (va_rf a :: st) h).trans (by cases a <;> rfl)
theorem d56_6 : decode (mB 56) 6 = .ok (.aload_n 3, 1) := by decide +kernel
theorem x56_6 {d : Nat} {l0 l1 l2 l4 : Option Value} {st : List Value} {a : Nat} {h : Hp} : ex (d) 56 6 [l0, l1, l2, some (.ref a), l4] st h = ex d 56 7 [l0, l1, l2, some (.ref a), l4] (.ref a :: st) h := (ex_of d56_6 (d) [l0, l1, l2, some (.ref a), l4] st h).trans (rfl)
theorem x56_6n {d : Nat} {l0 l1 l2 l4 : Option Value} {st : List Value} {h : Hp} : ex (d) 56 6 [l0, l1, l2, some .null, l4] st h = ex d 56 7 [l0, l1, l2, some .null, l4] (.null :: st) h := (ex_of d56_6 (d) [l0, l1, l2, some .null, l4] st h).trans (rfl)
theorem x56_6q {d : Nat} {l0 l1 l2 l4 : Option Value} {st : List Value} {a : Option Nat} {h : Hp} : ex (d) 56 6 [l0, l1, l2, some (va_rf a), l4] st h = ex d 56 7 [l0, l1, l2, some (va_rf a), l4] (va_rf a :: st) h := (ex_of d56_6 (d) [l0, l1, l2, some (va_rf a), l4] st h).trans (by cases a <;> rfl)
theorem d56_7 : decode (mB 56) 7 = .ok (.ifnonnull 9, 3) := by decide +kernel
theorem x56_7n {d : Nat} {L : Lc} {st : List Value} {h : Hp} : ex (d) 56 7 L (.null :: st) h = ex d 56 10 L st h := (ex_of d56_7 (d) L (.null :: st) h).trans (rfl)
theorem x56_7 {d : Nat} {L : Lc} {st : List Value} {a : Nat} {h : Hp} : ex (d) 56 7 L (.ref a :: st) h = ex d 56 16 L st h := (ex_of d56_7 (d) L (.ref a :: st) h).trans (rfl)
theorem d56_10 : decode (mB 56) 10 = .ok (.aload_n 0, 1) := by decide +kernel
theorem x56_10 {d : Nat} {l1 l2 l3 l4 : Option Value} {st : List Value} {a : Nat} {h : Hp} : ex (d) 56 10 [some (.ref a), l1, l2, l3, l4] st h = ex d 56 11 [some (.ref a), l1, l2, l3, l4] (.ref a :: st) h := (ex_of d56_10 (d) [some (.ref a), l1, l2, l3, l4] st h).trans (rfl)
theorem d56_11 : decode (mB 56) 11 = .ok (.iconst 1, 1) := by decide +kernel
theorem x56_11 {d : Nat} {L : Lc} {st : List Value} {h : Hp} : ex (d) 56 11 L st h = ex d 56 12 L (.int (nI 1) :: st) h := (ex_of d56_11 (d) L st h).trans (rfl)
theorem d56_12 : decode (mB 56) 12 = .ok (.invokevirtual 57, 3) := by decide +kernel
theorem x56_12 {d : Nat} {L : Lc} {a : Nat} {v0 : Int32} {h : Hp} (ht : (h.2.1 a).1 = 10) : ex (d + 1) 56 12 L (.int v0 :: .ref a :: []) h = bnd (ex d 84 0 [some (.ref a), some (.int v0)] [] h) (fun v h' => ex (d + 1) 56 15 L (v.toList ++ []) h') := (ex_of d56_12 (d + 1) L (.int v0 :: .ref a :: []) h).trans (fin_vi (mi := 56) i10_57 ht rfl rfl (by simp [cat1_i, cat1_r]) (by simp) (Nat.le_of_ble_eq_true rfl))
theorem d56_15 : decode (mB 56) 15 = .ok (.ireturn, 1) := by decide +kernel
theorem x56_15 {d : Nat} {L : Lc} {x : Int32} {h : Hp} : ex (d) 56 15 L [.int x] h = some (some (.int x), h) := (ex_of d56_15 (d) L [.int x] h).trans (rfl)
theorem d56_16 : decode (mB 56) 16 = .ok (.aload_n 0, 1) := by decide +kernel
theorem x56_16 {d : Nat} {l1 l2 l3 l4 : Option Value} {st : List Value} {a : Nat} {h : Hp} : ex (d) 56 16 [some (.ref a), l1, l2, l3, l4] st h = ex d 56 17 [some (.ref a), l1, l2, l3, l4] (.ref a :: st) h := (ex_of d56_16 (d) [some (.ref a), l1, l2, l3, l4] st h).trans (rfl)
theorem d56_17 : decode (mB 56) 17 = .ok (.invokevirtual 130, 3) := by decide +kernel
theorem x56_17 {d : Nat} {L : Lc} {a : Nat} {h : Hp} (ht : (h.2.1 a).1 = 10) : ex (d + 1) 56 17 L (.ref a :: []) h = bnd (ex d 102 0 [some (.ref a)] [] h) (fun v h' => ex (d + 1) 56 20 L (v.toList ++ []) h') := (ex_of d56_17 (d + 1) L (.ref a :: []) h).trans (fin_vi (mi := 56) i10_130 ht rfl rfl (by simp [cat1_i, cat1_r]) (by simp) (Nat.le_of_ble_eq_true rfl))
theorem d56_20 : decode (mB 56) 20 = .ok (.aload_n 0, 1) := by decide +kernel
theorem x56_20 {d : Nat} {l1 l2 l3 l4 : Option Value} {st : List Value} {a : Nat} {h : Hp} : ex (d) 56 20 [some (.ref a), l1, l2, l3, l4] st h = ex d 56 21 [some (.ref a), l1, l2, l3, l4] (.ref a :: st) h := (ex_of d56_20 (d) [some (.ref a), l1, l2, l3, l4] st h).trans (rfl)
theorem d56_21 : decode (mB 56) 21 = .ok (.aload_n 3, 1) := by decide +kernel
theorem x56_21 {d : Nat} {l0 l1 l2 l4 : Option Value} {st : List Value} {a : Nat} {h : Hp} : ex (d) 56 21 [l0, l1, l2, some (.ref a), l4] st h = ex d 56 22 [l0, l1, l2, some (.ref a), l4] (.ref a :: st) h := (ex_of d56_21 (d) [l0, l1, l2, some (.ref a), l4] st h).trans (rfl)
theorem x56_21n {d : Nat} {l0 l1 l2 l4 : Option Value} {st : List Value} {h : Hp} : ex (d) 56 21 [l0, l1, l2, some .null, l4] st h = ex d 56 22 [l0, l1, l2, some .null, l4] (.null :: st) h := (ex_of d56_21 (d) [l0, l1, l2, some .null, l4] st h).trans (rfl)
theorem x56_21q {d : Nat} {l0 l1 l2 l4 : Option Value} {st : List Value} {a : Option Nat} {h : Hp} : ex (d) 56 21 [l0, l1, l2, some (va_rf a), l4] st h = ex d 56 22 [l0, l1, l2, some (va_rf a), l4] (va_rf a :: st) h := (ex_of d56_21 (d) [l0, l1, l2, some (va_rf a), l4] st h).trans (by cases a <;> rfl)
theorem d56_22 : decode (mB 56) 22 = .ok (.iload_n 2, 1) := by decide +kernel
theorem x56_22 {d : Nat} {l0 l1 l3 l4 : Option Value} {st : List Value} {x : Int32} {h : Hp} : ex (d) 56 22 [l0, l1, some (.int x), l3, l4] st h = ex d 56 23 [l0, l1, some (.int x), l3, l4] (.int x :: st) h := (ex_of d56_22 (d) [l0, l1, some (.int x), l3, l4] st h).trans (rfl)
theorem d56_23 : decode (mB 56) 23 = .ok (.invokevirtual 144, 3) := by decide +kernel
theorem x56_23 {d : Nat} {L : Lc} {a : Nat} {v0 : Value} {v1 : Int32} {h : Hp} (ht : (h.2.1 a).1 = 10) (hv0 : isR v0 = true) : ex (d + 1) 56 23 L (.int v1 :: v0 :: .ref a :: []) h = bnd (ex d 108 0 [some (.ref a), some v0, some (.int v1), none] [] h) (fun v h' => ex (d + 1) 56 26 L (v.toList ++ []) h') := (ex_of d56_23 (d + 1) L (.int v1 :: v0 :: .ref a :: []) h).trans (fin_vi (mi := 56) i10_144 ht rfl rfl (by simp [cat1_i, cat1_r, isR_cat1 hv0]) (by simp) (Nat.le_of_ble_eq_true rfl))
theorem d56_26 : decode (mB 56) 26 = .ok (.istore 4, 2) := by decide +kernel
theorem x56_26 {d : Nat} {l0 l1 l2 l3 l4 : Option Value} {st : List Value} {x : Int32} {h : Hp} : ex (d) 56 26 [l0, l1, l2, l3, l4] (.int x :: st) h = ex d 56 28 [l0, l1, l2, clr l3, some (.int x)] st h := (ex_of d56_26 (d) [l0, l1, l2, l3, l4] (.int x :: st) h).trans (rfl)
theorem d56_28 : decode (mB 56) 28 = .ok (.aload_n 0, 1) := by decide +kernel
theorem x56_28 {d : Nat} {l1 l2 l3 l4 : Option Value} {st : List Value} {a : Nat} {h : Hp} : ex (d) 56 28 [some (.ref a), l1, l2, l3, l4] st h = ex d 56 29 [some (.ref a), l1, l2, l3, l4] (.ref a :: st) h := (ex_of d56_28 (d) [some (.ref a), l1, l2, l3, l4] st h).trans (rfl)
theorem d56_29 : decode (mB 56) 29 = .ok (.invokevirtual 137, 3) := by decide +kernel
theorem x56_29 {d : Nat} {L : Lc} {a : Nat} {h : Hp} (ht : (h.2.1 a).1 = 10) : ex (d + 1) 56 29 L (.ref a :: []) h = bnd (ex d 103 0 [some (.ref a)] [] h) (fun v h' => ex (d + 1) 56 32 L (v.toList ++ []) h') := (ex_of d56_29 (d + 1) L (.ref a :: []) h).trans (fin_vi (mi := 56) i10_137 ht rfl rfl (by simp [cat1_i, cat1_r]) (by simp) (Nat.le_of_ble_eq_true rfl))
theorem d56_32 : decode (mB 56) 32 = .ok (.iload 4, 2) := by decide +kernel
theorem x56_32 {d : Nat} {l0 l1 l2 l3 : Option Value} {st : List Value} {x : Int32} {h : Hp} : ex (d) 56 32 [l0, l1, l2, l3, some (.int x)] st h = ex d 56 34 [l0, l1, l2, l3, some (.int x)] (.int x :: st) h := (ex_of d56_32 (d) [l0, l1, l2, l3, some (.int x)] st h).trans (rfl)
theorem d56_34 : decode (mB 56) 34 = .ok (.ireturn, 1) := by decide +kernel
theorem x56_34 {d : Nat} {L : Lc} {x : Int32} {h : Hp} : ex (d) 56 34 L [.int x] h = some (some (.int x), h) := (ex_of d56_34 (d) L [.int x] h).trans (rfl)
theorem d57_0 : decode (mB 57) 0 = .ok (.aload_n 0, 1) := by decide +kernel
theorem x57_0 {d : Nat} {l1 l2 l3 l4 l5 : Option Value} {st : List Value} {a : Nat} {h : Hp} : ex (d) 57 0 [some (.ref a), l1, l2, l3, l4, l5] st h = ex d 57 1 [some (.ref a), l1, l2, l3, l4, l5] (.ref a :: st) h := (ex_of d57_0 (d) [some (.ref a), l1, l2, l3, l4, l5] st h).trans (rfl)
theorem d57_1 : decode (mB 57) 1 = .ok (.iload_n 1, 1) := by decide +kernel
theorem x57_1 {d : Nat} {l0 l2 l3 l4 l5 : Option Value} {st : List Value} {x : Int32} {h : Hp} : ex (d) 57 1 [l0, some (.int x), l2, l3, l4, l5] st h = ex d 57 2 [l0, some (.int x), l2, l3, l4, l5] (.int x :: st) h := (ex_of d57_1 (d) [l0, some (.int x), l2, l3, l4, l5] st h).trans (rfl)
theorem d57_2 : decode (mB 57) 2 = .ok (.iload_n 2, 1) := by decide +kernel
theorem x57_2 {d : Nat} {l0 l1 l3 l4 l5 : Option Value} {st : List Value} {x : Int32} {h : Hp} : ex (d) 57 2 [l0, l1, some (.int x), l3, l4, l5] st h = ex d 57 3 [l0, l1, some (.int x), l3, l4, l5] (.int x :: st) h := (ex_of d57_2 (d) [l0, l1, some (.int x), l3, l4, l5] st h).trans (rfl)
theorem d57_3 : decode (mB 57) 3 = .ok (.invokevirtual 147, 3) := by decide +kernel
theorem x57_3 {d : Nat} {L : Lc} {a : Nat} {v0 : Int32} {v1 : Int32} {h : Hp} (ht : (h.2.1 a).1 = 10) : ex (d + 1) 57 3 L (.int v1 :: .int v0 :: .ref a :: []) h = bnd (ex d 91 0 [some (.ref a), some (.int v0), some (.int v1), none, none] [] h) (fun v h' => ex (d + 1) 57 6 L (v.toList ++ []) h') := (ex_of d57_3 (d + 1) L (.int v1 :: .int v0 :: .ref a :: []) h).trans (fin_vi (mi := 57) i10_147 ht rfl rfl (by simp [cat1_i, cat1_r]) (by simp) (Nat.le_of_ble_eq_true rfl))
theorem d57_6 : decode (mB 57) 6 = .ok (.astore 4, 2) := by decide +kernel
theorem x57_6 {d : Nat} {l0 l1 l2 l3 l4 l5 : Option Value} {st : List Value} {a : Nat} {h : Hp} : ex (d) 57 6 [l0, l1, l2, l3, l4, l5] (.ref a :: st) h = ex d 57 8 [l0, l1, l2, clr l3, some (.ref a), l5] st h := (ex_of d57_6 (d) [l0, l1, l2, l3, l4, l5] (.ref a :: st) h).trans (rfl)
theorem x57_6n {d : Nat} {l0 l1 l2 l3 l4 l5 : Option Value} {st : List Value} {h : Hp} : ex (d) 57 6 [l0, l1, l2, l3, l4, l5] (.null :: st) h = ex d 57 8 [l0, l1, l2, clr l3, some .null, l5] st h := (ex_of d57_6 (d) [l0, l1, l2, l3, l4, l5] (.null :: st) h).trans (rfl)
theorem x57_6q {d : Nat} {l0 l1 l2 l3 l4 l5 : Option Value} {st : List Value} {a : Option Nat} {h : Hp} : ex (d) 57 6 [l0, l1, l2, l3, l4, l5] (va_rf a :: st) h = ex d 57 8 [l0, l1, l2, clr l3, some (va_rf a), l5] st h := (ex_of d57_6 (d) [l0, l1, l2, l3, l4, l5] (va_rf a :: st) h).trans (by cases a <;> rfl)
theorem d57_8 : decode (mB 57) 8 = .ok (.aload 4, 2) := by decide +kernel
theorem x57_8 {d : Nat} {l0 l1 l2 l3 l5 : Option Value} {st : List Value} {a : Nat} {h : Hp} : ex (d) 57 8 [l0, l1, l2, l3, some (.ref a), l5] st h = ex d 57 10 [l0, l1, l2, l3, some (.ref a), l5] (.ref a :: st) h := (ex_of d57_8 (d) [l0, l1, l2, l3, some (.ref a), l5] st h).trans (rfl)
theorem x57_8n {d : Nat} {l0 l1 l2 l3 l5 : Option Value} {st : List Value} {h : Hp} : ex (d) 57 8 [l0, l1, l2, l3, some .null, l5] st h = ex d 57 10 [l0, l1, l2, l3, some .null, l5] (.null :: st) h := (ex_of d57_8 (d) [l0, l1, l2, l3, some .null, l5] st h).trans (rfl)
theorem x57_8q {d : Nat} {l0 l1 l2 l3 l5 : Option Value} {st : List Value} {a : Option Nat} {h : Hp} : ex (d) 57 8 [l0, l1, l2, l3, some (va_rf a), l5] st h = ex d 57 10 [l0, l1, l2, l3, some (va_rf a), l5] (va_rf a :: st) h := (ex_of d57_8 (d) [l0, l1, l2, l3, some (va_rf a), l5] st h).trans (by cases a <;> rfl)
theorem d57_10 : decode (mB 57) 10 = .ok (.ifnonnull 5, 3) := by decide +kernel
theorem x57_10n {d : Nat} {L : Lc} {st : List Value} {h : Hp} : ex (d) 57 10 L (.null :: st) h = ex d 57 13 L st h := (ex_of d57_10 (d) L (.null :: st) h).trans (rfl)
theorem x57_10 {d : Nat} {L : Lc} {st : List Value} {a : Nat} {h : Hp} : ex (d) 57 10 L (.ref a :: st) h = ex d 57 15 L st h := (ex_of d57_10 (d) L (.ref a :: st) h).trans (rfl)
theorem d57_13 : decode (mB 57) 13 = .ok (.iconst (-1), 1) := by decide +kernel
theorem x57_13 {d : Nat} {L : Lc} {st : List Value} {h : Hp} : ex (d) 57 13 L st h = ex d 57 14 L (.int (-1) :: st) h := (ex_of d57_13 (d) L st h).trans (rfl)
theorem d57_14 : decode (mB 57) 14 = .ok (.ireturn, 1) := by decide +kernel
theorem x57_14 {d : Nat} {L : Lc} {x : Int32} {h : Hp} : ex (d) 57 14 L [.int x] h = some (some (.int x), h) := (ex_of d57_14 (d) L [.int x] h).trans (rfl)
theorem d57_15 : decode (mB 57) 15 = .ok (.iload_n 3, 1) := by decide +kernel
theorem x57_15 {d : Nat} {l0 l1 l2 l4 l5 : Option Value} {st : List Value} {x : Int32} {h : Hp} : ex (d) 57 15 [l0, l1, l2, some (.int x), l4, l5] st h = ex d 57 16 [l0, l1, l2, some (.int x), l4, l5] (.int x :: st) h := (ex_of d57_15 (d) [l0, l1, l2, some (.int x), l4, l5] st h).trans (rfl)
theorem d57_16 : decode (mB 57) 16 = .ok (.iconst 0, 1) := by decide +kernel
theorem x57_16 {d : Nat} {L : Lc} {st : List Value} {h : Hp} : ex (d) 57 16 L st h = ex d 57 17 L (.int (nI 0) :: st) h := (ex_of d57_16 (d) L st h).trans (rfl)
theorem d57_17 : decode (mB 57) 17 = .ok (.sipush 255, 3) := by decide +kernel
theorem x57_17 {d : Nat} {L : Lc} {st : List Value} {h : Hp} : ex (d) 57 17 L st h = ex d 57 20 L (.int (nI 255) :: st) h := (ex_of d57_17 (d) L st h).trans (rfl)
theorem d57_20 : decode (mB 57) 20 = .ok (.invokestatic 50, 3) := by decide +kernel
theorem x57_20 {d : Nat} {L : Lc}  {v0 : Int32} {v1 : Int32} {v2 : Int32} {h : Hp} : ex (d + 1) 57 20 L (.int v2 :: .int v1 :: .int v0 :: []) h = bnd (ex d 92 0 [some (.int v0), some (.int v1), some (.int v2)] [] h) (fun v h' => ex (d + 1) 57 23 L (v.toList ++ []) h') := (ex_of d57_20 (d + 1) L (.int v2 :: .int v1 :: .int v0 :: []) h).trans (fin_st (mi := 57) i10_50 (Or.inl rfl) (by simp) (by simp [cat1_i, cat1_r]) (by simp) (Nat.le_of_ble_eq_true rfl))
theorem d57_23 : decode (mB 57) 23 = .ok (.ifCond .ne 10, 3) := by decide +kernel
theorem x57_23 {d : Nat} {L : Lc} {st : List Value} {x : Int32} {h : Hp} : ex (d) 57 23 L (.int x :: st) h = if ¬ x = 0 then ex d 57 33 L st h else ex d 57 26 L st h := (ex_of d57_23 (d) L (.int x :: st) h).trans (fin_brq (off := 10) (tgt := 33) rfl (by decide))
theorem d57_26 : decode (mB 57) 26 = .ok (.aload_n 0, 1) := by decide +kernel
theorem x57_26 {d : Nat} {l1 l2 l3 l4 l5 : Option Value} {st : List Value} {a : Nat} {h : Hp} : ex (d) 57 26 [some (.ref a), l1, l2, l3, l4, l5] st h = ex d 57 27 [some (.ref a), l1, l2, l3, l4, l5] (.ref a :: st) h := (ex_of d57_26 (d) [some (.ref a), l1, l2, l3, l4, l5] st h).trans (rfl)
theorem d57_27 : decode (mB 57) 27 = .ok (.bipush 6, 2) := by decide +kernel
theorem x57_27 {d : Nat} {L : Lc} {st : List Value} {h : Hp} : ex (d) 57 27 L st h = ex d 57 29 L (.int (nI 6) :: st) h := (ex_of d57_27 (d) L st h).trans (rfl)
theorem d57_29 : decode (mB 57) 29 = .ok (.invokevirtual 57, 3) := by decide +kernel
theorem x57_29 {d : Nat} {L : Lc} {a : Nat} {v0 : Int32} {h : Hp} (ht : (h.2.1 a).1 = 10) : ex (d + 1) 57 29 L (.int v0 :: .ref a :: []) h = bnd (ex d 84 0 [some (.ref a), some (.int v0)] [] h) (fun v h' => ex (d + 1) 57 32 L (v.toList ++ []) h') := (ex_of d57_29 (d + 1) L (.int v0 :: .ref a :: []) h).trans (fin_vi (mi := 57) i10_57 ht rfl rfl (by simp [cat1_i, cat1_r]) (by simp) (Nat.le_of_ble_eq_true rfl))
theorem d57_32 : decode (mB 57) 32 = .ok (.ireturn, 1) := by decide +kernel
theorem x57_32 {d : Nat} {L : Lc} {x : Int32} {h : Hp} : ex (d) 57 32 L [.int x] h = some (some (.int x), h) := (ex_of d57_32 (d) L [.int x] h).trans (rfl)
theorem d57_33 : decode (mB 57) 33 = .ok (.aload 4, 2) := by decide +kernel
theorem x57_33 {d : Nat} {l0 l1 l2 l3 l5 : Option Value} {st : List Value} {a : Nat} {h : Hp} : ex (d) 57 33 [l0, l1, l2, l3, some (.ref a), l5] st h = ex d 57 35 [l0, l1, l2, l3, some (.ref a), l5] (.ref a :: st) h := (ex_of d57_33 (d) [l0, l1, l2, l3, some (.ref a), l5] st h).trans (rfl)
theorem x57_33n {d : Nat} {l0 l1 l2 l3 l5 : Option Value} {st : List Value} {h : Hp} : ex (d) 57 33 [l0, l1, l2, l3, some .null, l5] st h = ex d 57 35 [l0, l1, l2, l3, some .null, l5] (.null :: st) h := (ex_of d57_33 (d) [l0, l1, l2, l3, some .null, l5] st h).trans (rfl)
theorem x57_33q {d : Nat} {l0 l1 l2 l3 l5 : Option Value} {st : List Value} {a : Option Nat} {h : Hp} : ex (d) 57 33 [l0, l1, l2, l3, some (va_rf a), l5] st h = ex d 57 35 [l0, l1, l2, l3, some (va_rf a), l5] (va_rf a :: st) h := (ex_of d57_33 (d) [l0, l1, l2, l3, some (va_rf a), l5] st h).trans (by cases a <;> rfl)
theorem d57_35 : decode (mB 57) 35 = .ok (.getfield 151, 3) := by decide +kernel
theorem x57_35 {d : Nat} {L : Lc} {st : List Value} {a : Nat} {h : Hp} (ht : (h.2.1 a).1 = 1) : ex (d) 57 35 L (.ref a :: st) h = ex d 57 38 L (h.1 a 6 :: st) h := (ex_of d57_35 (d) L (.ref a :: st) h).trans (fin_get (mi := 57) f10_151 (tg1 ht rfl))
theorem d57_38 : decode (mB 57) 38 = .ok (.iload_n 2, 1) := by decide +kernel
theorem x57_38 {d : Nat} {l0 l1 l3 l4 l5 : Option Value} {st : List Value} {x : Int32} {h : Hp} : ex (d) 57 38 [l0, l1, some (.int x), l3, l4, l5] st h = ex d 57 39 [l0, l1, some (.int x), l3, l4, l5] (.int x :: st) h := (ex_of d57_38 (d) [l0, l1, some (.int x), l3, l4, l5] st h).trans (rfl)
theorem d57_39 : decode (mB 57) 39 = .ok (.iaload, 1) := by decide +kernel
theorem x57_39 {d : Nat} {L : Lc} {st : List Value} {a j : Nat} {h : Hp} (ht : (h.2.1 a).1 = 20) (hj : j < (h.2.1 a).2) (hb : j < 2147483648) : ex (d) 57 39 L (.int (nI j) :: .ref a :: st) h = ex d 57 40 L (h.1 a j :: st) h := (ex_of d57_39 (d) L (.int (nI j) :: .ref a :: st) h).trans (fin_iaload (Or.inl ht) hj hb)
theorem d57_40 : decode (mB 57) 40 = .ok (.istore 5, 2) := by decide +kernel
theorem x57_40 {d : Nat} {l0 l1 l2 l3 l4 l5 : Option Value} {st : List Value} {x : Int32} {h : Hp} : ex (d) 57 40 [l0, l1, l2, l3, l4, l5] (.int x :: st) h = ex d 57 42 [l0, l1, l2, l3, clr l4, some (.int x)] st h := (ex_of d57_40 (d) [l0, l1, l2, l3, l4, l5] (.int x :: st) h).trans (rfl)
theorem d57_42 : decode (mB 57) 42 = .ok (.aload_n 0, 1) := by decide +kernel
theorem x57_42 {d : Nat} {l1 l2 l3 l4 l5 : Option Value} {st : List Value} {a : Nat} {h : Hp} : ex (d) 57 42 [some (.ref a), l1, l2, l3, l4, l5] st h = ex d 57 43 [some (.ref a), l1, l2, l3, l4, l5] (.ref a :: st) h := (ex_of d57_42 (d) [some (.ref a), l1, l2, l3, l4, l5] st h).trans (rfl)
theorem d57_43 : decode (mB 57) 43 = .ok (.new 154, 3) := by decide +kernel
theorem x57_43 {d : Nat} {L : Lc} {st : List Value} {h : Hp} : ex (d) 57 43 L st h = ex d 57 46 L (.ref h.2.2.1 :: st) (mnw h.1 h.2.2.1 (fun k => dfv (pty 7 k)), mnw h.2.1 h.2.2.1 (7, 6), h.2.2.1 + 1, h.2.2.2 + 6) := (ex_of d57_43 (d) L st h).trans (fin_new (mi := 57) k10_154 rfl (by decide))
theorem d57_46 : decode (mB 57) 46 = .ok (.dup, 1) := by decide +kernel
theorem x57_46 {d : Nat} {L : Lc} {st : List Value} {a : Nat} {h : Hp} : ex (d) 57 46 L (.ref a :: st) h = ex d 57 47 L (.ref a :: .ref a :: st) h := (ex_of d57_46 (d) L (.ref a :: st) h).trans (rfl)
theorem x57_46i {d : Nat} {L : Lc} {st : List Value} {x : Int32} {h : Hp} : ex (d) 57 46 L (.int x :: st) h = ex d 57 47 L (.int x :: .int x :: st) h := (ex_of d57_46 (d) L (.int x :: st) h).trans (rfl)
theorem d57_47 : decode (mB 57) 47 = .ok (.aload 4, 2) := by decide +kernel
theorem x57_47 {d : Nat} {l0 l1 l2 l3 l5 : Option Value} {st : List Value} {a : Nat} {h : Hp} : ex (d) 57 47 [l0, l1, l2, l3, some (.ref a), l5] st h = ex d 57 49 [l0, l1, l2, l3, some (.ref a), l5] (.ref a :: st) h := (ex_of d57_47 (d) [l0, l1, l2, l3, some (.ref a), l5] st h).trans (rfl)
theorem x57_47n {d : Nat} {l0 l1 l2 l3 l5 : Option Value} {st : List Value} {h : Hp} : ex (d) 57 47 [l0, l1, l2, l3, some .null, l5] st h = ex d 57 49 [l0, l1, l2, l3, some .null, l5] (.null :: st) h := (ex_of d57_47 (d) [l0, l1, l2, l3, some .null, l5] st h).trans (rfl)
theorem x57_47q {d : Nat} {l0 l1 l2 l3 l5 : Option Value} {st : List Value} {a : Option Nat} {h : Hp} : ex (d) 57 47 [l0, l1, l2, l3, some (va_rf a), l5] st h = ex d 57 49 [l0, l1, l2, l3, some (va_rf a), l5] (va_rf a :: st) h := (ex_of d57_47 (d) [l0, l1, l2, l3, some (va_rf a), l5] st h).trans (by cases a <;> rfl)
theorem d57_49 : decode (mB 57) 49 = .ok (.iload_n 2, 1) := by decide +kernel
theorem x57_49 {d : Nat} {l0 l1 l3 l4 l5 : Option Value} {st : List Value} {x : Int32} {h : Hp} : ex (d) 57 49 [l0, l1, some (.int x), l3, l4, l5] st h = ex d 57 50 [l0, l1, some (.int x), l3, l4, l5] (.int x :: st) h := (ex_of d57_49 (d) [l0, l1, some (.int x), l3, l4, l5] st h).trans (rfl)
theorem d57_50 : decode (mB 57) 50 = .ok (.aload_n 0, 1) := by decide +kernel
theorem x57_50 {d : Nat} {l1 l2 l3 l4 l5 : Option Value} {st : List Value} {a : Nat} {h : Hp} : ex (d) 57 50 [some (.ref a), l1, l2, l3, l4, l5] st h = ex d 57 51 [some (.ref a), l1, l2, l3, l4, l5] (.ref a :: st) h := (ex_of d57_50 (d) [some (.ref a), l1, l2, l3, l4, l5] st h).trans (rfl)
theorem d57_51 : decode (mB 57) 51 = .ok (.getfield 156, 3) := by decide +kernel
theorem x57_51 {d : Nat} {L : Lc} {st : List Value} {a : Nat} {h : Hp} (ht : (h.2.1 a).1 = 10) : ex (d) 57 51 L (.ref a :: st) h = ex d 57 54 L (h.1 a 12 :: st) h := (ex_of d57_51 (d) L (.ref a :: st) h).trans (fin_get (mi := 57) f10_156 (tg1 ht rfl))
theorem d57_54 : decode (mB 57) 54 = .ok (.invokespecial 159, 3) := by decide +kernel
theorem x57_54 {d : Nat} {L : Lc} {s0 s1 : Value} {a : Nat} {v0 : Value} {v1 : Int32} {v2 : Int32} {h : Hp} (hv0 : isR v0 = true) : ex (d + 1) 57 54 L (.int v2 :: .int v1 :: v0 :: .ref a :: [s0, s1]) h = bnd (ex d 33 0 [some (.ref a), some v0, some (.int v1), some (.int v2)] [] h) (fun v h' => ex (d + 1) 57 57 L (v.toList ++ [s0, s1]) h') := (ex_of d57_54 (d + 1) L (.int v2 :: .int v1 :: v0 :: .ref a :: [s0, s1]) h).trans (fin_sp (mi := 57) i10_159 (Or.inl rfl) rfl (by simp [cat1_i, cat1_r, isR_cat1 hv0]) (by simp) (Nat.le_of_ble_eq_true rfl))
theorem d57_57 : decode (mB 57) 57 = .ok (.invokevirtual 162, 3) := by decide +kernel
theorem x57_57 {d : Nat} {L : Lc} {a : Nat} {v0 : Value} {h : Hp} (ht : (h.2.1 a).1 = 10) (hv0 : isR v0 = true) : ex (d + 1) 57 57 L (v0 :: .ref a :: []) h = bnd (ex d 115 0 [some (.ref a), some v0] [] h) (fun v h' => ex (d + 1) 57 60 L (v.toList ++ []) h') := (ex_of d57_57 (d + 1) L (v0 :: .ref a :: []) h).trans (fin_vi (mi := 57) i10_162 ht rfl rfl (by simp [cat1_i, cat1_r, isR_cat1 hv0]) (by simp) (Nat.le_of_ble_eq_true rfl))
theorem d57_60 : decode (mB 57) 60 = .ok (.aload 4, 2) := by decide +kernel
theorem x57_60 {d : Nat} {l0 l1 l2 l3 l5 : Option Value} {st : List Value} {a : Nat} {h : Hp} : ex (d) 57 60 [l0, l1, l2, l3, some (.ref a), l5] st h = ex d 57 62 [l0, l1, l2, l3, some (.ref a), l5] (.ref a :: st) h := (ex_of d57_60 (d) [l0, l1, l2, l3, some (.ref a), l5] st h).trans (rfl)
theorem x57_60n {d : Nat} {l0 l1 l2 l3 l5 : Option Value} {st : List Value} {h : Hp} : ex (d) 57 60 [l0, l1, l2, l3, some .null, l5] st h = ex d 57 62 [l0, l1, l2, l3, some .null, l5] (.null :: st) h := (ex_of d57_60 (d) [l0, l1, l2, l3, some .null, l5] st h).trans (rfl)
theorem x57_60q {d : Nat} {l0 l1 l2 l3 l5 : Option Value} {st : List Value} {a : Option Nat} {h : Hp} : ex (d) 57 60 [l0, l1, l2, l3, some (va_rf a), l5] st h = ex d 57 62 [l0, l1, l2, l3, some (va_rf a), l5] (va_rf a :: st) h := (ex_of d57_60 (d) [l0, l1, l2, l3, some (va_rf a), l5] st h).trans (by cases a <;> rfl)
theorem d57_62 : decode (mB 57) 62 = .ok (.getfield 151, 3) := by decide +kernel
theorem x57_62 {d : Nat} {L : Lc} {st : List Value} {a : Nat} {h : Hp} (ht : (h.2.1 a).1 = 1) : ex (d) 57 62 L (.ref a :: st) h = ex d 57 65 L (h.1 a 6 :: st) h := (ex_of d57_62 (d) L (.ref a :: st) h).trans (fin_get (mi := 57) f10_151 (tg1 ht rfl))
theorem d57_65 : decode (mB 57) 65 = .ok (.iload_n 2, 1) := by decide +kernel
theorem x57_65 {d : Nat} {l0 l1 l3 l4 l5 : Option Value} {st : List Value} {x : Int32} {h : Hp} : ex (d) 57 65 [l0, l1, some (.int x), l3, l4, l5] st h = ex d 57 66 [l0, l1, some (.int x), l3, l4, l5] (.int x :: st) h := (ex_of d57_65 (d) [l0, l1, some (.int x), l3, l4, l5] st h).trans (rfl)
theorem d57_66 : decode (mB 57) 66 = .ok (.iload_n 3, 1) := by decide +kernel
theorem x57_66 {d : Nat} {l0 l1 l2 l4 l5 : Option Value} {st : List Value} {x : Int32} {h : Hp} : ex (d) 57 66 [l0, l1, l2, some (.int x), l4, l5] st h = ex d 57 67 [l0, l1, l2, some (.int x), l4, l5] (.int x :: st) h := (ex_of d57_66 (d) [l0, l1, l2, some (.int x), l4, l5] st h).trans (rfl)
theorem d57_67 : decode (mB 57) 67 = .ok (.iastore, 1) := by decide +kernel
theorem x57_67 {d : Nat} {L : Lc} {st : List Value} {a j : Nat} {x : Int32} {h : Hp} (ht : (h.2.1 a).1 = 20) (hj : j < (h.2.1 a).2) (hb : j < 2147483648) : ex (d) 57 67 L (.int x :: .int (nI j) :: .ref a :: st) h = ex d 57 68 L st (mup h.1 a j (.int x), h.2) := (ex_of d57_67 (d) L (.int x :: .int (nI j) :: .ref a :: st) h).trans (fin_iastore ht hj hb)
theorem d57_68 : decode (mB 57) 68 = .ok (.aload_n 0, 1) := by decide +kernel
theorem x57_68 {d : Nat} {l1 l2 l3 l4 l5 : Option Value} {st : List Value} {a : Nat} {h : Hp} : ex (d) 57 68 [some (.ref a), l1, l2, l3, l4, l5] st h = ex d 57 69 [some (.ref a), l1, l2, l3, l4, l5] (.ref a :: st) h := (ex_of d57_68 (d) [some (.ref a), l1, l2, l3, l4, l5] st h).trans (rfl)
theorem d57_69 : decode (mB 57) 69 = .ok (.iload 5, 2) := by decide +kernel
theorem x57_69 {d : Nat} {l0 l1 l2 l3 l4 : Option Value} {st : List Value} {x : Int32} {h : Hp} : ex (d) 57 69 [l0, l1, l2, l3, l4, some (.int x)] st h = ex d 57 71 [l0, l1, l2, l3, l4, some (.int x)] (.int x :: st) h := (ex_of d57_69 (d) [l0, l1, l2, l3, l4, some (.int x)] st h).trans (rfl)
theorem d57_71 : decode (mB 57) 71 = .ok (.invokevirtual 64, 3) := by decide +kernel
theorem x57_71 {d : Nat} {L : Lc} {a : Nat} {v0 : Int32} {h : Hp} (ht : (h.2.1 a).1 = 10) : ex (d + 1) 57 71 L (.int v0 :: .ref a :: []) h = bnd (ex d 85 0 [some (.ref a), some (.int v0)] [] h) (fun v h' => ex (d + 1) 57 74 L (v.toList ++ []) h') := (ex_of d57_71 (d + 1) L (.int v0 :: .ref a :: []) h).trans (fin_vi (mi := 57) i10_64 ht rfl rfl (by simp [cat1_i, cat1_r]) (by simp) (Nat.le_of_ble_eq_true rfl))
theorem d57_74 : decode (mB 57) 74 = .ok (.ireturn, 1) := by decide +kernel
theorem x57_74 {d : Nat} {L : Lc} {x : Int32} {h : Hp} : ex (d) 57 74 L [.int x] h = some (some (.int x), h) := (ex_of d57_74 (d) L [.int x] h).trans (rfl)
theorem d58_0 : decode (mB 58) 0 = .ok (.aload_n 0, 1) := by decide +kernel
theorem x58_0 {d : Nat} {l1 l2 l3 l4 l5 : Option Value} {st : List Value} {a : Nat} {h : Hp} : ex (d) 58 0 [some (.ref a), l1, l2, l3, l4, l5] st h = ex d 58 1 [some (.ref a), l1, l2, l3, l4, l5] (.ref a :: st) h := (ex_of d58_0 (d) [some (.ref a), l1, l2, l3, l4, l5] st h).trans (rfl)
theorem d58_1 : decode (mB 58) 1 = .ok (.iload_n 1, 1) := by decide +kernel
theorem x58_1 {d : Nat} {l0 l2 l3 l4 l5 : Option Value} {st : List Value} {x : Int32} {h : Hp} : ex (d) 58 1 [l0, some (.int x), l2, l3, l4, l5] st h = ex d 58 2 [l0, some (.int x), l2, l3, l4, l5] (.int x :: st) h := (ex_of d58_1 (d) [l0, some (.int x), l2, l3, l4, l5] st h).trans (rfl)
theorem d58_2 : decode (mB 58) 2 = .ok (.iload_n 2, 1) := by decide +kernel
theorem x58_2 {d : Nat} {l0 l1 l3 l4 l5 : Option Value} {st : List Value} {x : Int32} {h : Hp} : ex (d) 58 2 [l0, l1, some (.int x), l3, l4, l5] st h = ex d 58 3 [l0, l1, some (.int x), l3, l4, l5] (.int x :: st) h := (ex_of d58_2 (d) [l0, l1, some (.int x), l3, l4, l5] st h).trans (rfl)
theorem d58_3 : decode (mB 58) 3 = .ok (.invokevirtual 147, 3) := by decide +kernel
theorem x58_3 {d : Nat} {L : Lc} {a : Nat} {v0 : Int32} {v1 : Int32} {h : Hp} (ht : (h.2.1 a).1 = 10) : ex (d + 1) 58 3 L (.int v1 :: .int v0 :: .ref a :: []) h = bnd (ex d 91 0 [some (.ref a), some (.int v0), some (.int v1), none, none] [] h) (fun v h' => ex (d + 1) 58 6 L (v.toList ++ []) h') := (ex_of d58_3 (d + 1) L (.int v1 :: .int v0 :: .ref a :: []) h).trans (fin_vi (mi := 58) i10_147 ht rfl rfl (by simp [cat1_i, cat1_r]) (by simp) (Nat.le_of_ble_eq_true rfl))
theorem d58_6 : decode (mB 58) 6 = .ok (.astore 5, 2) := by decide +kernel
theorem x58_6 {d : Nat} {l0 l1 l2 l3 l4 l5 : Option Value} {st : List Value} {a : Nat} {h : Hp} : ex (d) 58 6 [l0, l1, l2, l3, l4, l5] (.ref a :: st) h = ex d 58 8 [l0, l1, l2, l3, clr l4, some (.ref a)] st h := (ex_of d58_6 (d) [l0, l1, l2, l3, l4, l5] (.ref a :: st) h).trans (rfl)
theorem x58_6n {d : Nat} {l0 l1 l2 l3 l4 l5 : Option Value} {st : List Value} {h : Hp} : ex (d) 58 6 [l0, l1, l2, l3, l4, l5] (.null :: st) h = ex d 58 8 [l0, l1, l2, l3, clr l4, some .null] st h := (ex_of d58_6 (d) [l0, l1, l2, l3, l4, l5] (.null :: st) h).trans (rfl)
theorem x58_6q {d : Nat} {l0 l1 l2 l3 l4 l5 : Option Value} {st : List Value} {a : Option Nat} {h : Hp} : ex (d) 58 6 [l0, l1, l2, l3, l4, l5] (va_rf a :: st) h = ex d 58 8 [l0, l1, l2, l3, clr l4, some (va_rf a)] st h := (ex_of d58_6 (d) [l0, l1, l2, l3, l4, l5] (va_rf a :: st) h).trans (by cases a <;> rfl)
theorem d58_8 : decode (mB 58) 8 = .ok (.aload 5, 2) := by decide +kernel
theorem x58_8 {d : Nat} {l0 l1 l2 l3 l4 : Option Value} {st : List Value} {a : Nat} {h : Hp} : ex (d) 58 8 [l0, l1, l2, l3, l4, some (.ref a)] st h = ex d 58 10 [l0, l1, l2, l3, l4, some (.ref a)] (.ref a :: st) h := (ex_of d58_8 (d) [l0, l1, l2, l3, l4, some (.ref a)] st h).trans (rfl)
theorem x58_8n {d : Nat} {l0 l1 l2 l3 l4 : Option Value} {st : List Value} {h : Hp} : ex (d) 58 8 [l0, l1, l2, l3, l4, some .null] st h = ex d 58 10 [l0, l1, l2, l3, l4, some .null] (.null :: st) h := (ex_of d58_8 (d) [l0, l1, l2, l3, l4, some .null] st h).trans (rfl)
theorem x58_8q {d : Nat} {l0 l1 l2 l3 l4 : Option Value} {st : List Value} {a : Option Nat} {h : Hp} : ex (d) 58 8 [l0, l1, l2, l3, l4, some (va_rf a)] st h = ex d 58 10 [l0, l1, l2, l3, l4, some (va_rf a)] (va_rf a :: st) h := (ex_of d58_8 (d) [l0, l1, l2, l3, l4, some (va_rf a)] st h).trans (by cases a <;> rfl)
theorem d58_10 : decode (mB 58) 10 = .ok (.ifnonnull 5, 3) := by decide +kernel
theorem x58_10n {d : Nat} {L : Lc} {st : List Value} {h : Hp} : ex (d) 58 10 L (.null :: st) h = ex d 58 13 L st h := (ex_of d58_10 (d) L (.null :: st) h).trans (rfl)
theorem x58_10 {d : Nat} {L : Lc} {st : List Value} {a : Nat} {h : Hp} : ex (d) 58 10 L (.ref a :: st) h = ex d 58 15 L st h := (ex_of d58_10 (d) L (.ref a :: st) h).trans (rfl)
theorem d58_13 : decode (mB 58) 13 = .ok (.iconst (-1), 1) := by decide +kernel
theorem x58_13 {d : Nat} {L : Lc} {st : List Value} {h : Hp} : ex (d) 58 13 L st h = ex d 58 14 L (.int (-1) :: st) h := (ex_of d58_13 (d) L st h).trans (rfl)
theorem d58_14 : decode (mB 58) 14 = .ok (.ireturn, 1) := by decide +kernel
theorem x58_14 {d : Nat} {L : Lc} {x : Int32} {h : Hp} : ex (d) 58 14 L [.int x] h = some (some (.int x), h) := (ex_of d58_14 (d) L [.int x] h).trans (rfl)
theorem d58_15 : decode (mB 58) 15 = .ok (.iload_n 3, 1) := by decide +kernel
theorem x58_15 {d : Nat} {l0 l1 l2 l4 l5 : Option Value} {st : List Value} {x : Int32} {h : Hp} : ex (d) 58 15 [l0, l1, l2, some (.int x), l4, l5] st h = ex d 58 16 [l0, l1, l2, some (.int x), l4, l5] (.int x :: st) h := (ex_of d58_15 (d) [l0, l1, l2, some (.int x), l4, l5] st h).trans (rfl)
theorem d58_16 : decode (mB 58) 16 = .ok (.iconst 0, 1) := by decide +kernel
theorem x58_16 {d : Nat} {L : Lc} {st : List Value} {h : Hp} : ex (d) 58 16 L st h = ex d 58 17 L (.int (nI 0) :: st) h := (ex_of d58_16 (d) L st h).trans (rfl)
theorem d58_17 : decode (mB 58) 17 = .ok (.bipush 60, 2) := by decide +kernel
theorem x58_17 {d : Nat} {L : Lc} {st : List Value} {h : Hp} : ex (d) 58 17 L st h = ex d 58 19 L (.int (nI 60) :: st) h := (ex_of d58_17 (d) L st h).trans (rfl)
theorem d58_19 : decode (mB 58) 19 = .ok (.invokestatic 50, 3) := by decide +kernel
theorem x58_19 {d : Nat} {L : Lc}  {v0 : Int32} {v1 : Int32} {v2 : Int32} {h : Hp} : ex (d + 1) 58 19 L (.int v2 :: .int v1 :: .int v0 :: []) h = bnd (ex d 92 0 [some (.int v0), some (.int v1), some (.int v2)] [] h) (fun v h' => ex (d + 1) 58 22 L (v.toList ++ []) h') := (ex_of d58_19 (d + 1) L (.int v2 :: .int v1 :: .int v0 :: []) h).trans (fin_st (mi := 58) i10_50 (Or.inl rfl) (by simp) (by simp [cat1_i, cat1_r]) (by simp) (Nat.le_of_ble_eq_true rfl))
theorem d58_22 : decode (mB 58) 22 = .ok (.ifCond .eq 14, 3) := by decide +kernel
theorem x58_22 {d : Nat} {L : Lc} {st : List Value} {x : Int32} {h : Hp} : ex (d) 58 22 L (.int x :: st) h = if x = 0 then ex d 58 36 L st h else ex d 58 25 L st h := (ex_of d58_22 (d) L (.int x :: st) h).trans (fin_brq (off := 14) (tgt := 36) rfl (by decide))
theorem d58_25 : decode (mB 58) 25 = .ok (.iload 4, 2) := by decide +kernel
theorem x58_25 {d : Nat} {l0 l1 l2 l3 l5 : Option Value} {st : List Value} {x : Int32} {h : Hp} : ex (d) 58 25 [l0, l1, l2, l3, some (.int x), l5] st h = ex d 58 27 [l0, l1, l2, l3, some (.int x), l5] (.int x :: st) h := (ex_of d58_25 (d) [l0, l1, l2, l3, some (.int x), l5] st h).trans (rfl)
theorem d58_27 : decode (mB 58) 27 = .ok (.iconst 0, 1) := by decide +kernel
theorem x58_27 {d : Nat} {L : Lc} {st : List Value} {h : Hp} : ex (d) 58 27 L st h = ex d 58 28 L (.int (nI 0) :: st) h := (ex_of d58_27 (d) L st h).trans (rfl)
theorem d58_28 : decode (mB 58) 28 = .ok (.bipush 60, 2) := by decide +kernel
theorem x58_28 {d : Nat} {L : Lc} {st : List Value} {h : Hp} : ex (d) 58 28 L st h = ex d 58 30 L (.int (nI 60) :: st) h := (ex_of d58_28 (d) L st h).trans (rfl)
theorem d58_30 : decode (mB 58) 30 = .ok (.invokestatic 50, 3) := by decide +kernel
theorem x58_30 {d : Nat} {L : Lc}  {v0 : Int32} {v1 : Int32} {v2 : Int32} {h : Hp} : ex (d + 1) 58 30 L (.int v2 :: .int v1 :: .int v0 :: []) h = bnd (ex d 92 0 [some (.int v0), some (.int v1), some (.int v2)] [] h) (fun v h' => ex (d + 1) 58 33 L (v.toList ++ []) h') := (ex_of d58_30 (d + 1) L (.int v2 :: .int v1 :: .int v0 :: []) h).trans (fin_st (mi := 58) i10_50 (Or.inl rfl) (by simp) (by simp [cat1_i, cat1_r]) (by simp) (Nat.le_of_ble_eq_true rfl))
theorem d58_33 : decode (mB 58) 33 = .ok (.ifCond .ne 10, 3) := by decide +kernel
theorem x58_33 {d : Nat} {L : Lc} {st : List Value} {x : Int32} {h : Hp} : ex (d) 58 33 L (.int x :: st) h = if ¬ x = 0 then ex d 58 43 L st h else ex d 58 36 L st h := (ex_of d58_33 (d) L (.int x :: st) h).trans (fin_brq (off := 10) (tgt := 43) rfl (by decide))
theorem d58_36 : decode (mB 58) 36 = .ok (.aload_n 0, 1) := by decide +kernel
theorem x58_36 {d : Nat} {l1 l2 l3 l4 l5 : Option Value} {st : List Value} {a : Nat} {h : Hp} : ex (d) 58 36 [some (.ref a), l1, l2, l3, l4, l5] st h = ex d 58 37 [some (.ref a), l1, l2, l3, l4, l5] (.ref a :: st) h := (ex_of d58_36 (d) [some (.ref a), l1, l2, l3, l4, l5] st h).trans (rfl)
theorem d58_37 : decode (mB 58) 37 = .ok (.bipush 6, 2) := by decide +kernel
theorem x58_37 {d : Nat} {L : Lc} {st : List Value} {h : Hp} : ex (d) 58 37 L st h = ex d 58 39 L (.int (nI 6) :: st) h := (ex_of d58_37 (d) L st h).trans (rfl)
theorem d58_39 : decode (mB 58) 39 = .ok (.invokevirtual 57, 3) := by decide +kernel
theorem x58_39 {d : Nat} {L : Lc} {a : Nat} {v0 : Int32} {h : Hp} (ht : (h.2.1 a).1 = 10) : ex (d + 1) 58 39 L (.int v0 :: .ref a :: []) h = bnd (ex d 84 0 [some (.ref a), some (.int v0)] [] h) (fun v h' => ex (d + 1) 58 42 L (v.toList ++ []) h') := (ex_of d58_39 (d + 1) L (.int v0 :: .ref a :: []) h).trans (fin_vi (mi := 58) i10_57 ht rfl rfl (by simp [cat1_i, cat1_r]) (by simp) (Nat.le_of_ble_eq_true rfl))
theorem d58_42 : decode (mB 58) 42 = .ok (.ireturn, 1) := by decide +kernel
theorem x58_42 {d : Nat} {L : Lc} {x : Int32} {h : Hp} : ex (d) 58 42 L [.int x] h = some (some (.int x), h) := (ex_of d58_42 (d) L [.int x] h).trans (rfl)
theorem d58_43 : decode (mB 58) 43 = .ok (.aload_n 0, 1) := by decide +kernel
theorem x58_43 {d : Nat} {l1 l2 l3 l4 l5 : Option Value} {st : List Value} {a : Nat} {h : Hp} : ex (d) 58 43 [some (.ref a), l1, l2, l3, l4, l5] st h = ex d 58 44 [some (.ref a), l1, l2, l3, l4, l5] (.ref a :: st) h := (ex_of d58_43 (d) [some (.ref a), l1, l2, l3, l4, l5] st h).trans (rfl)
theorem d58_44 : decode (mB 58) 44 = .ok (.new 154, 3) := by decide +kernel
theorem x58_44 {d : Nat} {L : Lc} {st : List Value} {h : Hp} : ex (d) 58 44 L st h = ex d 58 47 L (.ref h.2.2.1 :: st) (mnw h.1 h.2.2.1 (fun k => dfv (pty 7 k)), mnw h.2.1 h.2.2.1 (7, 6), h.2.2.1 + 1, h.2.2.2 + 6) := (ex_of d58_44 (d) L st h).trans (fin_new (mi := 58) k10_154 rfl (by decide))
theorem d58_47 : decode (mB 58) 47 = .ok (.dup, 1) := by decide +kernel
theorem x58_47 {d : Nat} {L : Lc} {st : List Value} {a : Nat} {h : Hp} : ex (d) 58 47 L (.ref a :: st) h = ex d 58 48 L (.ref a :: .ref a :: st) h := (ex_of d58_47 (d) L (.ref a :: st) h).trans (rfl)
theorem x58_47i {d : Nat} {L : Lc} {st : List Value} {x : Int32} {h : Hp} : ex (d) 58 47 L (.int x :: st) h = ex d 58 48 L (.int x :: .int x :: st) h := (ex_of d58_47 (d) L (.int x :: st) h).trans (rfl)
theorem d58_48 : decode (mB 58) 48 = .ok (.aload 5, 2) := by decide +kernel
theorem x58_48 {d : Nat} {l0 l1 l2 l3 l4 : Option Value} {st : List Value} {a : Nat} {h : Hp} : ex (d) 58 48 [l0, l1, l2, l3, l4, some (.ref a)] st h = ex d 58 50 [l0, l1, l2, l3, l4, some (.ref a)] (.ref a :: st) h := (ex_of d58_48 (d) [l0, l1, l2, l3, l4, some (.ref a)] st h).trans (rfl)
theorem x58_48n {d : Nat} {l0 l1 l2 l3 l4 : Option Value} {st : List Value} {h : Hp} : ex (d) 58 48 [l0, l1, l2, l3, l4, some .null] st h = ex d 58 50 [l0, l1, l2, l3, l4, some .null] (.null :: st) h := (ex_of d58_48 (d) [l0, l1, l2, l3, l4, some .null] st h).trans (rfl)
theorem x58_48q {d : Nat} {l0 l1 l2 l3 l4 : Option Value} {st : List Value} {a : Option Nat} {h : Hp} : ex (d) 58 48 [l0, l1, l2, l3, l4, some (va_rf a)] st h = ex d 58 50 [l0, l1, l2, l3, l4, some (va_rf a)] (va_rf a :: st) h := (ex_of d58_48 (d) [l0, l1, l2, l3, l4, some (va_rf a)] st h).trans (by cases a <;> rfl)
theorem d58_50 : decode (mB 58) 50 = .ok (.iload_n 2, 1) := by decide +kernel
theorem x58_50 {d : Nat} {l0 l1 l3 l4 l5 : Option Value} {st : List Value} {x : Int32} {h : Hp} : ex (d) 58 50 [l0, l1, some (.int x), l3, l4, l5] st h = ex d 58 51 [l0, l1, some (.int x), l3, l4, l5] (.int x :: st) h := (ex_of d58_50 (d) [l0, l1, some (.int x), l3, l4, l5] st h).trans (rfl)
theorem d58_51 : decode (mB 58) 51 = .ok (.aload_n 0, 1) := by decide +kernel
theorem x58_51 {d : Nat} {l1 l2 l3 l4 l5 : Option Value} {st : List Value} {a : Nat} {h : Hp} : ex (d) 58 51 [some (.ref a), l1, l2, l3, l4, l5] st h = ex d 58 52 [some (.ref a), l1, l2, l3, l4, l5] (.ref a :: st) h := (ex_of d58_51 (d) [some (.ref a), l1, l2, l3, l4, l5] st h).trans (rfl)
theorem d58_52 : decode (mB 58) 52 = .ok (.getfield 156, 3) := by decide +kernel
theorem x58_52 {d : Nat} {L : Lc} {st : List Value} {a : Nat} {h : Hp} (ht : (h.2.1 a).1 = 10) : ex (d) 58 52 L (.ref a :: st) h = ex d 58 55 L (h.1 a 12 :: st) h := (ex_of d58_52 (d) L (.ref a :: st) h).trans (fin_get (mi := 58) f10_156 (tg1 ht rfl))
theorem d58_55 : decode (mB 58) 55 = .ok (.invokespecial 159, 3) := by decide +kernel
theorem x58_55 {d : Nat} {L : Lc} {s0 s1 : Value} {a : Nat} {v0 : Value} {v1 : Int32} {v2 : Int32} {h : Hp} (hv0 : isR v0 = true) : ex (d + 1) 58 55 L (.int v2 :: .int v1 :: v0 :: .ref a :: [s0, s1]) h = bnd (ex d 33 0 [some (.ref a), some v0, some (.int v1), some (.int v2)] [] h) (fun v h' => ex (d + 1) 58 58 L (v.toList ++ [s0, s1]) h') := (ex_of d58_55 (d + 1) L (.int v2 :: .int v1 :: v0 :: .ref a :: [s0, s1]) h).trans (fin_sp (mi := 58) i10_159 (Or.inl rfl) rfl (by simp [cat1_i, cat1_r, isR_cat1 hv0]) (by simp) (Nat.le_of_ble_eq_true rfl))
theorem d58_58 : decode (mB 58) 58 = .ok (.invokevirtual 162, 3) := by decide +kernel
theorem x58_58 {d : Nat} {L : Lc} {a : Nat} {v0 : Value} {h : Hp} (ht : (h.2.1 a).1 = 10) (hv0 : isR v0 = true) : ex (d + 1) 58 58 L (v0 :: .ref a :: []) h = bnd (ex d 115 0 [some (.ref a), some v0] [] h) (fun v h' => ex (d + 1) 58 61 L (v.toList ++ []) h') := (ex_of d58_58 (d + 1) L (v0 :: .ref a :: []) h).trans (fin_vi (mi := 58) i10_162 ht rfl rfl (by simp [cat1_i, cat1_r, isR_cat1 hv0]) (by simp) (Nat.le_of_ble_eq_true rfl))
theorem d58_61 : decode (mB 58) 61 = .ok (.aload 5, 2) := by decide +kernel
theorem x58_61 {d : Nat} {l0 l1 l2 l3 l4 : Option Value} {st : List Value} {a : Nat} {h : Hp} : ex (d) 58 61 [l0, l1, l2, l3, l4, some (.ref a)] st h = ex d 58 63 [l0, l1, l2, l3, l4, some (.ref a)] (.ref a :: st) h := (ex_of d58_61 (d) [l0, l1, l2, l3, l4, some (.ref a)] st h).trans (rfl)
theorem x58_61n {d : Nat} {l0 l1 l2 l3 l4 : Option Value} {st : List Value} {h : Hp} : ex (d) 58 61 [l0, l1, l2, l3, l4, some .null] st h = ex d 58 63 [l0, l1, l2, l3, l4, some .null] (.null :: st) h := (ex_of d58_61 (d) [l0, l1, l2, l3, l4, some .null] st h).trans (rfl)
theorem x58_61q {d : Nat} {l0 l1 l2 l3 l4 : Option Value} {st : List Value} {a : Option Nat} {h : Hp} : ex (d) 58 61 [l0, l1, l2, l3, l4, some (va_rf a)] st h = ex d 58 63 [l0, l1, l2, l3, l4, some (va_rf a)] (va_rf a :: st) h := (ex_of d58_61 (d) [l0, l1, l2, l3, l4, some (va_rf a)] st h).trans (by cases a <;> rfl)
theorem d58_63 : decode (mB 58) 63 = .ok (.getfield 166, 3) := by decide +kernel
theorem x58_63 {d : Nat} {L : Lc} {st : List Value} {a : Nat} {h : Hp} (ht : (h.2.1 a).1 = 1) : ex (d) 58 63 L (.ref a :: st) h = ex d 58 66 L (h.1 a 7 :: st) h := (ex_of d58_63 (d) L (.ref a :: st) h).trans (fin_get (mi := 58) f10_166 (tg1 ht rfl))
theorem d58_66 : decode (mB 58) 66 = .ok (.iload_n 2, 1) := by decide +kernel
theorem x58_66 {d : Nat} {l0 l1 l3 l4 l5 : Option Value} {st : List Value} {x : Int32} {h : Hp} : ex (d) 58 66 [l0, l1, some (.int x), l3, l4, l5] st h = ex d 58 67 [l0, l1, some (.int x), l3, l4, l5] (.int x :: st) h := (ex_of d58_66 (d) [l0, l1, some (.int x), l3, l4, l5] st h).trans (rfl)
theorem d58_67 : decode (mB 58) 67 = .ok (.iload_n 3, 1) := by decide +kernel
theorem x58_67 {d : Nat} {l0 l1 l2 l4 l5 : Option Value} {st : List Value} {x : Int32} {h : Hp} : ex (d) 58 67 [l0, l1, l2, some (.int x), l4, l5] st h = ex d 58 68 [l0, l1, l2, some (.int x), l4, l5] (.int x :: st) h := (ex_of d58_67 (d) [l0, l1, l2, some (.int x), l4, l5] st h).trans (rfl)
theorem d58_68 : decode (mB 58) 68 = .ok (.iastore, 1) := by decide +kernel
theorem x58_68 {d : Nat} {L : Lc} {st : List Value} {a j : Nat} {x : Int32} {h : Hp} (ht : (h.2.1 a).1 = 20) (hj : j < (h.2.1 a).2) (hb : j < 2147483648) : ex (d) 58 68 L (.int x :: .int (nI j) :: .ref a :: st) h = ex d 58 69 L st (mup h.1 a j (.int x), h.2) := (ex_of d58_68 (d) L (.int x :: .int (nI j) :: .ref a :: st) h).trans (fin_iastore ht hj hb)
theorem d58_69 : decode (mB 58) 69 = .ok (.aload 5, 2) := by decide +kernel
theorem x58_69 {d : Nat} {l0 l1 l2 l3 l4 : Option Value} {st : List Value} {a : Nat} {h : Hp} : ex (d) 58 69 [l0, l1, l2, l3, l4, some (.ref a)] st h = ex d 58 71 [l0, l1, l2, l3, l4, some (.ref a)] (.ref a :: st) h := (ex_of d58_69 (d) [l0, l1, l2, l3, l4, some (.ref a)] st h).trans (rfl)
theorem x58_69n {d : Nat} {l0 l1 l2 l3 l4 : Option Value} {st : List Value} {h : Hp} : ex (d) 58 69 [l0, l1, l2, l3, l4, some .null] st h = ex d 58 71 [l0, l1, l2, l3, l4, some .null] (.null :: st) h := (ex_of d58_69 (d) [l0, l1, l2, l3, l4, some .null] st h).trans (rfl)
theorem x58_69q {d : Nat} {l0 l1 l2 l3 l4 : Option Value} {st : List Value} {a : Option Nat} {h : Hp} : ex (d) 58 69 [l0, l1, l2, l3, l4, some (va_rf a)] st h = ex d 58 71 [l0, l1, l2, l3, l4, some (va_rf a)] (va_rf a :: st) h := (ex_of d58_69 (d) [l0, l1, l2, l3, l4, some (va_rf a)] st h).trans (by cases a <;> rfl)
theorem d58_71 : decode (mB 58) 71 = .ok (.getfield 169, 3) := by decide +kernel
theorem x58_71 {d : Nat} {L : Lc} {st : List Value} {a : Nat} {h : Hp} (ht : (h.2.1 a).1 = 1) : ex (d) 58 71 L (.ref a :: st) h = ex d 58 74 L (h.1 a 8 :: st) h := (ex_of d58_71 (d) L (.ref a :: st) h).trans (fin_get (mi := 58) f10_169 (tg1 ht rfl))
theorem d58_74 : decode (mB 58) 74 = .ok (.iload_n 2, 1) := by decide +kernel
theorem x58_74 {d : Nat} {l0 l1 l3 l4 l5 : Option Value} {st : List Value} {x : Int32} {h : Hp} : ex (d) 58 74 [l0, l1, some (.int x), l3, l4, l5] st h = ex d 58 75 [l0, l1, some (.int x), l3, l4, l5] (.int x :: st) h := (ex_of d58_74 (d) [l0, l1, some (.int x), l3, l4, l5] st h).trans (rfl)
theorem d58_75 : decode (mB 58) 75 = .ok (.iload 4, 2) := by decide +kernel
theorem x58_75 {d : Nat} {l0 l1 l2 l3 l5 : Option Value} {st : List Value} {x : Int32} {h : Hp} : ex (d) 58 75 [l0, l1, l2, l3, some (.int x), l5] st h = ex d 58 77 [l0, l1, l2, l3, some (.int x), l5] (.int x :: st) h := (ex_of d58_75 (d) [l0, l1, l2, l3, some (.int x), l5] st h).trans (rfl)
theorem d58_77 : decode (mB 58) 77 = .ok (.iastore, 1) := by decide +kernel
theorem x58_77 {d : Nat} {L : Lc} {st : List Value} {a j : Nat} {x : Int32} {h : Hp} (ht : (h.2.1 a).1 = 20) (hj : j < (h.2.1 a).2) (hb : j < 2147483648) : ex (d) 58 77 L (.int x :: .int (nI j) :: .ref a :: st) h = ex d 58 78 L st (mup h.1 a j (.int x), h.2) := (ex_of d58_77 (d) L (.int x :: .int (nI j) :: .ref a :: st) h).trans (fin_iastore ht hj hb)
theorem d58_78 : decode (mB 58) 78 = .ok (.aload_n 0, 1) := by decide +kernel
theorem x58_78 {d : Nat} {l1 l2 l3 l4 l5 : Option Value} {st : List Value} {a : Nat} {h : Hp} : ex (d) 58 78 [some (.ref a), l1, l2, l3, l4, l5] st h = ex d 58 79 [some (.ref a), l1, l2, l3, l4, l5] (.ref a :: st) h := (ex_of d58_78 (d) [some (.ref a), l1, l2, l3, l4, l5] st h).trans (rfl)
theorem d58_79 : decode (mB 58) 79 = .ok (.iconst 1, 1) := by decide +kernel
theorem x58_79 {d : Nat} {L : Lc} {st : List Value} {h : Hp} : ex (d) 58 79 L st h = ex d 58 80 L (.int (nI 1) :: st) h := (ex_of d58_79 (d) L st h).trans (rfl)
theorem d58_80 : decode (mB 58) 80 = .ok (.invokevirtual 64, 3) := by decide +kernel
theorem x58_80 {d : Nat} {L : Lc} {a : Nat} {v0 : Int32} {h : Hp} (ht : (h.2.1 a).1 = 10) : ex (d + 1) 58 80 L (.int v0 :: .ref a :: []) h = bnd (ex d 85 0 [some (.ref a), some (.int v0)] [] h) (fun v h' => ex (d + 1) 58 83 L (v.toList ++ []) h') := (ex_of d58_80 (d + 1) L (.int v0 :: .ref a :: []) h).trans (fin_vi (mi := 58) i10_64 ht rfl rfl (by simp [cat1_i, cat1_r]) (by simp) (Nat.le_of_ble_eq_true rfl))
theorem d58_83 : decode (mB 58) 83 = .ok (.ireturn, 1) := by decide +kernel
theorem x58_83 {d : Nat} {L : Lc} {x : Int32} {h : Hp} : ex (d) 58 83 L [.int x] h = some (some (.int x), h) := (ex_of d58_83 (d) L [.int x] h).trans (rfl)
theorem d59_0 : decode (mB 59) 0 = .ok (.aload_n 0, 1) := by decide +kernel
theorem x59_0 {d : Nat} {l1 l2 l3 l4 l5 : Option Value} {st : List Value} {a : Nat} {h : Hp} : ex (d) 59 0 [some (.ref a), l1, l2, l3, l4, l5] st h = ex d 59 1 [some (.ref a), l1, l2, l3, l4, l5] (.ref a :: st) h := (ex_of d59_0 (d) [some (.ref a), l1, l2, l3, l4, l5] st h).trans (rfl)
theorem d59_1 : decode (mB 59) 1 = .ok (.iload_n 1, 1) := by decide +kernel
theorem x59_1 {d : Nat} {l0 l2 l3 l4 l5 : Option Value} {st : List Value} {x : Int32} {h : Hp} : ex (d) 59 1 [l0, some (.int x), l2, l3, l4, l5] st h = ex d 59 2 [l0, some (.int x), l2, l3, l4, l5] (.int x :: st) h := (ex_of d59_1 (d) [l0, some (.int x), l2, l3, l4, l5] st h).trans (rfl)
theorem d59_2 : decode (mB 59) 2 = .ok (.iload_n 2, 1) := by decide +kernel
theorem x59_2 {d : Nat} {l0 l1 l3 l4 l5 : Option Value} {st : List Value} {x : Int32} {h : Hp} : ex (d) 59 2 [l0, l1, some (.int x), l3, l4, l5] st h = ex d 59 3 [l0, l1, some (.int x), l3, l4, l5] (.int x :: st) h := (ex_of d59_2 (d) [l0, l1, some (.int x), l3, l4, l5] st h).trans (rfl)
theorem d59_3 : decode (mB 59) 3 = .ok (.invokevirtual 147, 3) := by decide +kernel
theorem x59_3 {d : Nat} {L : Lc} {a : Nat} {v0 : Int32} {v1 : Int32} {h : Hp} (ht : (h.2.1 a).1 = 10) : ex (d + 1) 59 3 L (.int v1 :: .int v0 :: .ref a :: []) h = bnd (ex d 91 0 [some (.ref a), some (.int v0), some (.int v1), none, none] [] h) (fun v h' => ex (d + 1) 59 6 L (v.toList ++ []) h') := (ex_of d59_3 (d + 1) L (.int v1 :: .int v0 :: .ref a :: []) h).trans (fin_vi (mi := 59) i10_147 ht rfl rfl (by simp [cat1_i, cat1_r]) (by simp) (Nat.le_of_ble_eq_true rfl))
theorem d59_6 : decode (mB 59) 6 = .ok (.astore 4, 2) := by decide +kernel
theorem x59_6 {d : Nat} {l0 l1 l2 l3 l4 l5 : Option Value} {st : List Value} {a : Nat} {h : Hp} : ex (d) 59 6 [l0, l1, l2, l3, l4, l5] (.ref a :: st) h = ex d 59 8 [l0, l1, l2, clr l3, some (.ref a), l5] st h := (ex_of d59_6 (d) [l0, l1, l2, l3, l4, l5] (.ref a :: st) h).trans (rfl)
theorem x59_6n {d : Nat} {l0 l1 l2 l3 l4 l5 : Option Value} {st : List Value} {h : Hp} : ex (d) 59 6 [l0, l1, l2, l3, l4, l5] (.null :: st) h = ex d 59 8 [l0, l1, l2, clr l3, some .null, l5] st h := (ex_of d59_6 (d) [l0, l1, l2, l3, l4, l5] (.null :: st) h).trans (rfl)
theorem x59_6q {d : Nat} {l0 l1 l2 l3 l4 l5 : Option Value} {st : List Value} {a : Option Nat} {h : Hp} : ex (d) 59 6 [l0, l1, l2, l3, l4, l5] (va_rf a :: st) h = ex d 59 8 [l0, l1, l2, clr l3, some (va_rf a), l5] st h := (ex_of d59_6 (d) [l0, l1, l2, l3, l4, l5] (va_rf a :: st) h).trans (by cases a <;> rfl)
theorem d59_8 : decode (mB 59) 8 = .ok (.aload 4, 2) := by decide +kernel
theorem x59_8 {d : Nat} {l0 l1 l2 l3 l5 : Option Value} {st : List Value} {a : Nat} {h : Hp} : ex (d) 59 8 [l0, l1, l2, l3, some (.ref a), l5] st h = ex d 59 10 [l0, l1, l2, l3, some (.ref a), l5] (.ref a :: st) h := (ex_of d59_8 (d) [l0, l1, l2, l3, some (.ref a), l5] st h).trans (rfl)
theorem x59_8n {d : Nat} {l0 l1 l2 l3 l5 : Option Value} {st : List Value} {h : Hp} : ex (d) 59 8 [l0, l1, l2, l3, some .null, l5] st h = ex d 59 10 [l0, l1, l2, l3, some .null, l5] (.null :: st) h := (ex_of d59_8 (d) [l0, l1, l2, l3, some .null, l5] st h).trans (rfl)
theorem x59_8q {d : Nat} {l0 l1 l2 l3 l5 : Option Value} {st : List Value} {a : Option Nat} {h : Hp} : ex (d) 59 8 [l0, l1, l2, l3, some (va_rf a), l5] st h = ex d 59 10 [l0, l1, l2, l3, some (va_rf a), l5] (va_rf a :: st) h := (ex_of d59_8 (d) [l0, l1, l2, l3, some (va_rf a), l5] st h).trans (by cases a <;> rfl)
theorem d59_10 : decode (mB 59) 10 = .ok (.ifnonnull 5, 3) := by decide +kernel
theorem x59_10n {d : Nat} {L : Lc} {st : List Value} {h : Hp} : ex (d) 59 10 L (.null :: st) h = ex d 59 13 L st h := (ex_of d59_10 (d) L (.null :: st) h).trans (rfl)
theorem x59_10 {d : Nat} {L : Lc} {st : List Value} {a : Nat} {h : Hp} : ex (d) 59 10 L (.ref a :: st) h = ex d 59 15 L st h := (ex_of d59_10 (d) L (.ref a :: st) h).trans (rfl)
theorem d59_13 : decode (mB 59) 13 = .ok (.iconst (-1), 1) := by decide +kernel
theorem x59_13 {d : Nat} {L : Lc} {st : List Value} {h : Hp} : ex (d) 59 13 L st h = ex d 59 14 L (.int (-1) :: st) h := (ex_of d59_13 (d) L st h).trans (rfl)
theorem d59_14 : decode (mB 59) 14 = .ok (.ireturn, 1) := by decide +kernel
theorem x59_14 {d : Nat} {L : Lc} {x : Int32} {h : Hp} : ex (d) 59 14 L [.int x] h = some (some (.int x), h) := (ex_of d59_14 (d) L [.int x] h).trans (rfl)
theorem d59_15 : decode (mB 59) 15 = .ok (.aload 4, 2) := by decide +kernel
theorem x59_15 {d : Nat} {l0 l1 l2 l3 l5 : Option Value} {st : List Value} {a : Nat} {h : Hp} : ex (d) 59 15 [l0, l1, l2, l3, some (.ref a), l5] st h = ex d 59 17 [l0, l1, l2, l3, some (.ref a), l5] (.ref a :: st) h := (ex_of d59_15 (d) [l0, l1, l2, l3, some (.ref a), l5] st h).trans (rfl)
theorem x59_15n {d : Nat} {l0 l1 l2 l3 l5 : Option Value} {st : List Value} {h : Hp} : ex (d) 59 15 [l0, l1, l2, l3, some .null, l5] st h = ex d 59 17 [l0, l1, l2, l3, some .null, l5] (.null :: st) h := (ex_of d59_15 (d) [l0, l1, l2, l3, some .null, l5] st h).trans (rfl)
theorem x59_15q {d : Nat} {l0 l1 l2 l3 l5 : Option Value} {st : List Value} {a : Option Nat} {h : Hp} : ex (d) 59 15 [l0, l1, l2, l3, some (va_rf a), l5] st h = ex d 59 17 [l0, l1, l2, l3, some (va_rf a), l5] (va_rf a :: st) h := (ex_of d59_15 (d) [l0, l1, l2, l3, some (va_rf a), l5] st h).trans (by cases a <;> rfl)
theorem d59_17 : decode (mB 59) 17 = .ok (.getfield 151, 3) := by decide +kernel
theorem x59_17 {d : Nat} {L : Lc} {st : List Value} {a : Nat} {h : Hp} (ht : (h.2.1 a).1 = 1) : ex (d) 59 17 L (.ref a :: st) h = ex d 59 20 L (h.1 a 6 :: st) h := (ex_of d59_17 (d) L (.ref a :: st) h).trans (fin_get (mi := 59) f10_151 (tg1 ht rfl))
theorem d59_20 : decode (mB 59) 20 = .ok (.iload_n 2, 1) := by decide +kernel
theorem x59_20 {d : Nat} {l0 l1 l3 l4 l5 : Option Value} {st : List Value} {x : Int32} {h : Hp} : ex (d) 59 20 [l0, l1, some (.int x), l3, l4, l5] st h = ex d 59 21 [l0, l1, some (.int x), l3, l4, l5] (.int x :: st) h := (ex_of d59_20 (d) [l0, l1, some (.int x), l3, l4, l5] st h).trans (rfl)
theorem d59_21 : decode (mB 59) 21 = .ok (.iaload, 1) := by decide +kernel
theorem x59_21 {d : Nat} {L : Lc} {st : List Value} {a j : Nat} {h : Hp} (ht : (h.2.1 a).1 = 20) (hj : j < (h.2.1 a).2) (hb : j < 2147483648) : ex (d) 59 21 L (.int (nI j) :: .ref a :: st) h = ex d 59 22 L (h.1 a j :: st) h := (ex_of d59_21 (d) L (.int (nI j) :: .ref a :: st) h).trans (fin_iaload (Or.inl ht) hj hb)
theorem d59_22 : decode (mB 59) 22 = .ok (.ifCond .ne 10, 3) := by decide +kernel
theorem x59_22 {d : Nat} {L : Lc} {st : List Value} {x : Int32} {h : Hp} : ex (d) 59 22 L (.int x :: st) h = if ¬ x = 0 then ex d 59 32 L st h else ex d 59 25 L st h := (ex_of d59_22 (d) L (.int x :: st) h).trans (fin_brq (off := 10) (tgt := 32) rfl (by decide))
theorem d59_25 : decode (mB 59) 25 = .ok (.aload_n 0, 1) := by decide +kernel
theorem x59_25 {d : Nat} {l1 l2 l3 l4 l5 : Option Value} {st : List Value} {a : Nat} {h : Hp} : ex (d) 59 25 [some (.ref a), l1, l2, l3, l4, l5] st h = ex d 59 26 [some (.ref a), l1, l2, l3, l4, l5] (.ref a :: st) h := (ex_of d59_25 (d) [some (.ref a), l1, l2, l3, l4, l5] st h).trans (rfl)
theorem d59_26 : decode (mB 59) 26 = .ok (.bipush 12, 2) := by decide +kernel
theorem x59_26 {d : Nat} {L : Lc} {st : List Value} {h : Hp} : ex (d) 59 26 L st h = ex d 59 28 L (.int (nI 12) :: st) h := (ex_of d59_26 (d) L st h).trans (rfl)
theorem d59_28 : decode (mB 59) 28 = .ok (.invokevirtual 57, 3) := by decide +kernel
theorem x59_28 {d : Nat} {L : Lc} {a : Nat} {v0 : Int32} {h : Hp} (ht : (h.2.1 a).1 = 10) : ex (d + 1) 59 28 L (.int v0 :: .ref a :: []) h = bnd (ex d 84 0 [some (.ref a), some (.int v0)] [] h) (fun v h' => ex (d + 1) 59 31 L (v.toList ++ []) h') := (ex_of d59_28 (d + 1) L (.int v0 :: .ref a :: []) h).trans (fin_vi (mi := 59) i10_57 ht rfl rfl (by simp [cat1_i, cat1_r]) (by simp) (Nat.le_of_ble_eq_true rfl))
theorem d59_31 : decode (mB 59) 31 = .ok (.ireturn, 1) := by decide +kernel
theorem x59_31 {d : Nat} {L : Lc} {x : Int32} {h : Hp} : ex (d) 59 31 L [.int x] h = some (some (.int x), h) := (ex_of d59_31 (d) L [.int x] h).trans (rfl)
theorem d59_32 : decode (mB 59) 32 = .ok (.aload 4, 2) := by decide +kernel
theorem x59_32 {d : Nat} {l0 l1 l2 l3 l5 : Option Value} {st : List Value} {a : Nat} {h : Hp} : ex (d) 59 32 [l0, l1, l2, l3, some (.ref a), l5] st h = ex d 59 34 [l0, l1, l2, l3, some (.ref a), l5] (.ref a :: st) h := (ex_of d59_32 (d) [l0, l1, l2, l3, some (.ref a), l5] st h).trans (rfl)
theorem x59_32n {d : Nat} {l0 l1 l2 l3 l5 : Option Value} {st : List Value} {h : Hp} : ex (d) 59 32 [l0, l1, l2, l3, some .null, l5] st h = ex d 59 34 [l0, l1, l2, l3, some .null, l5] (.null :: st) h := (ex_of d59_32 (d) [l0, l1, l2, l3, some .null, l5] st h).trans (rfl)
theorem x59_32q {d : Nat} {l0 l1 l2 l3 l5 : Option Value} {st : List Value} {a : Option Nat} {h : Hp} : ex (d) 59 32 [l0, l1, l2, l3, some (va_rf a), l5] st h = ex d 59 34 [l0, l1, l2, l3, some (va_rf a), l5] (va_rf a :: st) h := (ex_of d59_32 (d) [l0, l1, l2, l3, some (va_rf a), l5] st h).trans (by cases a <;> rfl)
theorem d59_34 : decode (mB 59) 34 = .ok (.iload_n 2, 1) := by decide +kernel
theorem x59_34 {d : Nat} {l0 l1 l3 l4 l5 : Option Value} {st : List Value} {x : Int32} {h : Hp} : ex (d) 59 34 [l0, l1, some (.int x), l3, l4, l5] st h = ex d 59 35 [l0, l1, some (.int x), l3, l4, l5] (.int x :: st) h := (ex_of d59_34 (d) [l0, l1, some (.int x), l3, l4, l5] st h).trans (rfl)
theorem d59_35 : decode (mB 59) 35 = .ok (.iload_n 3, 1) := by decide +kernel
theorem x59_35 {d : Nat} {l0 l1 l2 l4 l5 : Option Value} {st : List Value} {x : Int32} {h : Hp} : ex (d) 59 35 [l0, l1, l2, some (.int x), l4, l5] st h = ex d 59 36 [l0, l1, l2, some (.int x), l4, l5] (.int x :: st) h := (ex_of d59_35 (d) [l0, l1, l2, some (.int x), l4, l5] st h).trans (rfl)
theorem d59_36 : decode (mB 59) 36 = .ok (.invokevirtual 172, 3) := by decide +kernel
theorem x59_36 {d : Nat} {L : Lc} {a : Nat} {v0 : Int32} {v1 : Int32} {h : Hp} (ht : (h.2.1 a).1 = 1) : ex (d + 1) 59 36 L (.int v1 :: .int v0 :: .ref a :: []) h = bnd (ex d 3 0 [some (.ref a), some (.int v0), some (.int v1)] [] h) (fun v h' => ex (d + 1) 59 39 L (v.toList ++ []) h') := (ex_of d59_36 (d + 1) L (.int v1 :: .int v0 :: .ref a :: []) h).trans (fin_vi (mi := 59) i10_172 ht rfl rfl (by simp [cat1_i, cat1_r]) (by simp) (Nat.le_of_ble_eq_true rfl))
theorem d59_39 : decode (mB 59) 39 = .ok (.ifCond .ne 10, 3) := by decide +kernel
theorem x59_39 {d : Nat} {L : Lc} {st : List Value} {x : Int32} {h : Hp} : ex (d) 59 39 L (.int x :: st) h = if ¬ x = 0 then ex d 59 49 L st h else ex d 59 42 L st h := (ex_of d59_39 (d) L (.int x :: st) h).trans (fin_brq (off := 10) (tgt := 49) rfl (by decide))
theorem d59_42 : decode (mB 59) 42 = .ok (.aload_n 0, 1) := by decide +kernel
theorem x59_42 {d : Nat} {l1 l2 l3 l4 l5 : Option Value} {st : List Value} {a : Nat} {h : Hp} : ex (d) 59 42 [some (.ref a), l1, l2, l3, l4, l5] st h = ex d 59 43 [some (.ref a), l1, l2, l3, l4, l5] (.ref a :: st) h := (ex_of d59_42 (d) [some (.ref a), l1, l2, l3, l4, l5] st h).trans (rfl)
theorem d59_43 : decode (mB 59) 43 = .ok (.bipush 6, 2) := by decide +kernel
theorem x59_43 {d : Nat} {L : Lc} {st : List Value} {h : Hp} : ex (d) 59 43 L st h = ex d 59 45 L (.int (nI 6) :: st) h := (ex_of d59_43 (d) L st h).trans (rfl)
theorem d59_45 : decode (mB 59) 45 = .ok (.invokevirtual 57, 3) := by decide +kernel
theorem x59_45 {d : Nat} {L : Lc} {a : Nat} {v0 : Int32} {h : Hp} (ht : (h.2.1 a).1 = 10) : ex (d + 1) 59 45 L (.int v0 :: .ref a :: []) h = bnd (ex d 84 0 [some (.ref a), some (.int v0)] [] h) (fun v h' => ex (d + 1) 59 48 L (v.toList ++ []) h') := (ex_of d59_45 (d + 1) L (.int v0 :: .ref a :: []) h).trans (fin_vi (mi := 59) i10_57 ht rfl rfl (by simp [cat1_i, cat1_r]) (by simp) (Nat.le_of_ble_eq_true rfl))
theorem d59_48 : decode (mB 59) 48 = .ok (.ireturn, 1) := by decide +kernel
theorem x59_48 {d : Nat} {L : Lc} {x : Int32} {h : Hp} : ex (d) 59 48 L [.int x] h = some (some (.int x), h) := (ex_of d59_48 (d) L [.int x] h).trans (rfl)
theorem d59_49 : decode (mB 59) 49 = .ok (.aload_n 0, 1) := by decide +kernel
theorem x59_49 {d : Nat} {l1 l2 l3 l4 l5 : Option Value} {st : List Value} {a : Nat} {h : Hp} : ex (d) 59 49 [some (.ref a), l1, l2, l3, l4, l5] st h = ex d 59 50 [some (.ref a), l1, l2, l3, l4, l5] (.ref a :: st) h := (ex_of d59_49 (d) [some (.ref a), l1, l2, l3, l4, l5] st h).trans (rfl)
theorem d59_50 : decode (mB 59) 50 = .ok (.new 154, 3) := by decide +kernel
theorem x59_50 {d : Nat} {L : Lc} {st : List Value} {h : Hp} : ex (d) 59 50 L st h = ex d 59 53 L (.ref h.2.2.1 :: st) (mnw h.1 h.2.2.1 (fun k => dfv (pty 7 k)), mnw h.2.1 h.2.2.1 (7, 6), h.2.2.1 + 1, h.2.2.2 + 6) := (ex_of d59_50 (d) L st h).trans (fin_new (mi := 59) k10_154 rfl (by decide))
theorem d59_53 : decode (mB 59) 53 = .ok (.dup, 1) := by decide +kernel
theorem x59_53 {d : Nat} {L : Lc} {st : List Value} {a : Nat} {h : Hp} : ex (d) 59 53 L (.ref a :: st) h = ex d 59 54 L (.ref a :: .ref a :: st) h := (ex_of d59_53 (d) L (.ref a :: st) h).trans (rfl)
theorem x59_53i {d : Nat} {L : Lc} {st : List Value} {x : Int32} {h : Hp} : ex (d) 59 53 L (.int x :: st) h = ex d 59 54 L (.int x :: .int x :: st) h := (ex_of d59_53 (d) L (.int x :: st) h).trans (rfl)
theorem d59_54 : decode (mB 59) 54 = .ok (.aload 4, 2) := by decide +kernel
theorem x59_54 {d : Nat} {l0 l1 l2 l3 l5 : Option Value} {st : List Value} {a : Nat} {h : Hp} : ex (d) 59 54 [l0, l1, l2, l3, some (.ref a), l5] st h = ex d 59 56 [l0, l1, l2, l3, some (.ref a), l5] (.ref a :: st) h := (ex_of d59_54 (d) [l0, l1, l2, l3, some (.ref a), l5] st h).trans (rfl)
theorem x59_54n {d : Nat} {l0 l1 l2 l3 l5 : Option Value} {st : List Value} {h : Hp} : ex (d) 59 54 [l0, l1, l2, l3, some .null, l5] st h = ex d 59 56 [l0, l1, l2, l3, some .null, l5] (.null :: st) h := (ex_of d59_54 (d) [l0, l1, l2, l3, some .null, l5] st h).trans (rfl)
theorem x59_54q {d : Nat} {l0 l1 l2 l3 l5 : Option Value} {st : List Value} {a : Option Nat} {h : Hp} : ex (d) 59 54 [l0, l1, l2, l3, some (va_rf a), l5] st h = ex d 59 56 [l0, l1, l2, l3, some (va_rf a), l5] (va_rf a :: st) h := (ex_of d59_54 (d) [l0, l1, l2, l3, some (va_rf a), l5] st h).trans (by cases a <;> rfl)
theorem d59_56 : decode (mB 59) 56 = .ok (.iload_n 2, 1) := by decide +kernel
theorem x59_56 {d : Nat} {l0 l1 l3 l4 l5 : Option Value} {st : List Value} {x : Int32} {h : Hp} : ex (d) 59 56 [l0, l1, some (.int x), l3, l4, l5] st h = ex d 59 57 [l0, l1, some (.int x), l3, l4, l5] (.int x :: st) h := (ex_of d59_56 (d) [l0, l1, some (.int x), l3, l4, l5] st h).trans (rfl)
theorem d59_57 : decode (mB 59) 57 = .ok (.aload_n 0, 1) := by decide +kernel
theorem x59_57 {d : Nat} {l1 l2 l3 l4 l5 : Option Value} {st : List Value} {a : Nat} {h : Hp} : ex (d) 59 57 [some (.ref a), l1, l2, l3, l4, l5] st h = ex d 59 58 [some (.ref a), l1, l2, l3, l4, l5] (.ref a :: st) h := (ex_of d59_57 (d) [some (.ref a), l1, l2, l3, l4, l5] st h).trans (rfl)
theorem d59_58 : decode (mB 59) 58 = .ok (.getfield 156, 3) := by decide +kernel
theorem x59_58 {d : Nat} {L : Lc} {st : List Value} {a : Nat} {h : Hp} (ht : (h.2.1 a).1 = 10) : ex (d) 59 58 L (.ref a :: st) h = ex d 59 61 L (h.1 a 12 :: st) h := (ex_of d59_58 (d) L (.ref a :: st) h).trans (fin_get (mi := 59) f10_156 (tg1 ht rfl))
theorem d59_61 : decode (mB 59) 61 = .ok (.invokespecial 159, 3) := by decide +kernel
theorem x59_61 {d : Nat} {L : Lc} {s0 s1 : Value} {a : Nat} {v0 : Value} {v1 : Int32} {v2 : Int32} {h : Hp} (hv0 : isR v0 = true) : ex (d + 1) 59 61 L (.int v2 :: .int v1 :: v0 :: .ref a :: [s0, s1]) h = bnd (ex d 33 0 [some (.ref a), some v0, some (.int v1), some (.int v2)] [] h) (fun v h' => ex (d + 1) 59 64 L (v.toList ++ [s0, s1]) h') := (ex_of d59_61 (d + 1) L (.int v2 :: .int v1 :: v0 :: .ref a :: [s0, s1]) h).trans (fin_sp (mi := 59) i10_159 (Or.inl rfl) rfl (by simp [cat1_i, cat1_r, isR_cat1 hv0]) (by simp) (Nat.le_of_ble_eq_true rfl))
theorem d59_64 : decode (mB 59) 64 = .ok (.invokevirtual 162, 3) := by decide +kernel
theorem x59_64 {d : Nat} {L : Lc} {a : Nat} {v0 : Value} {h : Hp} (ht : (h.2.1 a).1 = 10) (hv0 : isR v0 = true) : ex (d + 1) 59 64 L (v0 :: .ref a :: []) h = bnd (ex d 115 0 [some (.ref a), some v0] [] h) (fun v h' => ex (d + 1) 59 67 L (v.toList ++ []) h') := (ex_of d59_64 (d + 1) L (v0 :: .ref a :: []) h).trans (fin_vi (mi := 59) i10_162 ht rfl rfl (by simp [cat1_i, cat1_r, isR_cat1 hv0]) (by simp) (Nat.le_of_ble_eq_true rfl))
theorem d59_67 : decode (mB 59) 67 = .ok (.aload 4, 2) := by decide +kernel
theorem x59_67 {d : Nat} {l0 l1 l2 l3 l5 : Option Value} {st : List Value} {a : Nat} {h : Hp} : ex (d) 59 67 [l0, l1, l2, l3, some (.ref a), l5] st h = ex d 59 69 [l0, l1, l2, l3, some (.ref a), l5] (.ref a :: st) h := (ex_of d59_67 (d) [l0, l1, l2, l3, some (.ref a), l5] st h).trans (rfl)
theorem x59_67n {d : Nat} {l0 l1 l2 l3 l5 : Option Value} {st : List Value} {h : Hp} : ex (d) 59 67 [l0, l1, l2, l3, some .null, l5] st h = ex d 59 69 [l0, l1, l2, l3, some .null, l5] (.null :: st) h := (ex_of d59_67 (d) [l0, l1, l2, l3, some .null, l5] st h).trans (rfl)
theorem x59_67q {d : Nat} {l0 l1 l2 l3 l5 : Option Value} {st : List Value} {a : Option Nat} {h : Hp} : ex (d) 59 67 [l0, l1, l2, l3, some (va_rf a), l5] st h = ex d 59 69 [l0, l1, l2, l3, some (va_rf a), l5] (va_rf a :: st) h := (ex_of d59_67 (d) [l0, l1, l2, l3, some (va_rf a), l5] st h).trans (by cases a <;> rfl)
theorem d59_69 : decode (mB 59) 69 = .ok (.getfield 151, 3) := by decide +kernel
theorem x59_69 {d : Nat} {L : Lc} {st : List Value} {a : Nat} {h : Hp} (ht : (h.2.1 a).1 = 1) : ex (d) 59 69 L (.ref a :: st) h = ex d 59 72 L (h.1 a 6 :: st) h := (ex_of d59_69 (d) L (.ref a :: st) h).trans (fin_get (mi := 59) f10_151 (tg1 ht rfl))
theorem d59_72 : decode (mB 59) 72 = .ok (.iload_n 2, 1) := by decide +kernel
theorem x59_72 {d : Nat} {l0 l1 l3 l4 l5 : Option Value} {st : List Value} {x : Int32} {h : Hp} : ex (d) 59 72 [l0, l1, some (.int x), l3, l4, l5] st h = ex d 59 73 [l0, l1, some (.int x), l3, l4, l5] (.int x :: st) h := (ex_of d59_72 (d) [l0, l1, some (.int x), l3, l4, l5] st h).trans (rfl)
theorem d59_73 : decode (mB 59) 73 = .ok (.dup2, 1) := by decide +kernel
theorem x59_73 {d : Nat} {L : Lc} {st : List Value} {x : Int32} {a : Nat} {h : Hp} : ex (d) 59 73 L (.int x :: .ref a :: st) h = ex d 59 74 L (.int x :: .ref a :: .int x :: .ref a :: st) h := (ex_of d59_73 (d) L (.int x :: .ref a :: st) h).trans (rfl)
theorem d59_74 : decode (mB 59) 74 = .ok (.iaload, 1) := by decide +kernel
theorem x59_74 {d : Nat} {L : Lc} {st : List Value} {a j : Nat} {h : Hp} (ht : (h.2.1 a).1 = 20) (hj : j < (h.2.1 a).2) (hb : j < 2147483648) : ex (d) 59 74 L (.int (nI j) :: .ref a :: st) h = ex d 59 75 L (h.1 a j :: st) h := (ex_of d59_74 (d) L (.int (nI j) :: .ref a :: st) h).trans (fin_iaload (Or.inl ht) hj hb)
theorem d59_75 : decode (mB 59) 75 = .ok (.iload_n 3, 1) := by decide +kernel
theorem x59_75 {d : Nat} {l0 l1 l2 l4 l5 : Option Value} {st : List Value} {x : Int32} {h : Hp} : ex (d) 59 75 [l0, l1, l2, some (.int x), l4, l5] st h = ex d 59 76 [l0, l1, l2, some (.int x), l4, l5] (.int x :: st) h := (ex_of d59_75 (d) [l0, l1, l2, some (.int x), l4, l5] st h).trans (rfl)
theorem d59_76 : decode (mB 59) 76 = .ok (.iadd, 1) := by decide +kernel
theorem x59_76 {d : Nat} {L : Lc} {st : List Value} {x y : Int32} {h : Hp} : ex (d) 59 76 L (.int y :: .int x :: st) h = ex d 59 77 L (.int (x + y) :: st) h := (ex_of d59_76 (d) L (.int y :: .int x :: st) h).trans (rfl)
theorem d59_77 : decode (mB 59) 77 = .ok (.iastore, 1) := by decide +kernel
theorem x59_77 {d : Nat} {L : Lc} {st : List Value} {a j : Nat} {x : Int32} {h : Hp} (ht : (h.2.1 a).1 = 20) (hj : j < (h.2.1 a).2) (hb : j < 2147483648) : ex (d) 59 77 L (.int x :: .int (nI j) :: .ref a :: st) h = ex d 59 78 L st (mup h.1 a j (.int x), h.2) := (ex_of d59_77 (d) L (.int x :: .int (nI j) :: .ref a :: st) h).trans (fin_iastore ht hj hb)
theorem d59_78 : decode (mB 59) 78 = .ok (.aload 4, 2) := by decide +kernel
theorem x59_78 {d : Nat} {l0 l1 l2 l3 l5 : Option Value} {st : List Value} {a : Nat} {h : Hp} : ex (d) 59 78 [l0, l1, l2, l3, some (.ref a), l5] st h = ex d 59 80 [l0, l1, l2, l3, some (.ref a), l5] (.ref a :: st) h := (ex_of d59_78 (d) [l0, l1, l2, l3, some (.ref a), l5] st h).trans (rfl)
theorem x59_78n {d : Nat} {l0 l1 l2 l3 l5 : Option Value} {st : List Value} {h : Hp} : ex (d) 59 78 [l0, l1, l2, l3, some .null, l5] st h = ex d 59 80 [l0, l1, l2, l3, some .null, l5] (.null :: st) h := (ex_of d59_78 (d) [l0, l1, l2, l3, some .null, l5] st h).trans (rfl)
theorem x59_78q {d : Nat} {l0 l1 l2 l3 l5 : Option Value} {st : List Value} {a : Option Nat} {h : Hp} : ex (d) 59 78 [l0, l1, l2, l3, some (va_rf a), l5] st h = ex d 59 80 [l0, l1, l2, l3, some (va_rf a), l5] (va_rf a :: st) h := (ex_of d59_78 (d) [l0, l1, l2, l3, some (va_rf a), l5] st h).trans (by cases a <;> rfl)
theorem d59_80 : decode (mB 59) 80 = .ok (.getfield 166, 3) := by decide +kernel
theorem x59_80 {d : Nat} {L : Lc} {st : List Value} {a : Nat} {h : Hp} (ht : (h.2.1 a).1 = 1) : ex (d) 59 80 L (.ref a :: st) h = ex d 59 83 L (h.1 a 7 :: st) h := (ex_of d59_80 (d) L (.ref a :: st) h).trans (fin_get (mi := 59) f10_166 (tg1 ht rfl))
theorem d59_83 : decode (mB 59) 83 = .ok (.iload_n 2, 1) := by decide +kernel
theorem x59_83 {d : Nat} {l0 l1 l3 l4 l5 : Option Value} {st : List Value} {x : Int32} {h : Hp} : ex (d) 59 83 [l0, l1, some (.int x), l3, l4, l5] st h = ex d 59 84 [l0, l1, some (.int x), l3, l4, l5] (.int x :: st) h := (ex_of d59_83 (d) [l0, l1, some (.int x), l3, l4, l5] st h).trans (rfl)
theorem d59_84 : decode (mB 59) 84 = .ok (.dup2, 1) := by decide +kernel
theorem x59_84 {d : Nat} {L : Lc} {st : List Value} {x : Int32} {a : Nat} {h : Hp} : ex (d) 59 84 L (.int x :: .ref a :: st) h = ex d 59 85 L (.int x :: .ref a :: .int x :: .ref a :: st) h := (ex_of d59_84 (d) L (.int x :: .ref a :: st) h).trans (rfl)
theorem d59_85 : decode (mB 59) 85 = .ok (.iaload, 1) := by decide +kernel
theorem x59_85 {d : Nat} {L : Lc} {st : List Value} {a j : Nat} {h : Hp} (ht : (h.2.1 a).1 = 20) (hj : j < (h.2.1 a).2) (hb : j < 2147483648) : ex (d) 59 85 L (.int (nI j) :: .ref a :: st) h = ex d 59 86 L (h.1 a j :: st) h := (ex_of d59_85 (d) L (.int (nI j) :: .ref a :: st) h).trans (fin_iaload (Or.inl ht) hj hb)
theorem d59_86 : decode (mB 59) 86 = .ok (.iload_n 3, 1) := by decide +kernel
theorem x59_86 {d : Nat} {l0 l1 l2 l4 l5 : Option Value} {st : List Value} {x : Int32} {h : Hp} : ex (d) 59 86 [l0, l1, l2, some (.int x), l4, l5] st h = ex d 59 87 [l0, l1, l2, some (.int x), l4, l5] (.int x :: st) h := (ex_of d59_86 (d) [l0, l1, l2, some (.int x), l4, l5] st h).trans (rfl)
theorem d59_87 : decode (mB 59) 87 = .ok (.iadd, 1) := by decide +kernel
theorem x59_87 {d : Nat} {L : Lc} {st : List Value} {x y : Int32} {h : Hp} : ex (d) 59 87 L (.int y :: .int x :: st) h = ex d 59 88 L (.int (x + y) :: st) h := (ex_of d59_87 (d) L (.int y :: .int x :: st) h).trans (rfl)
theorem d59_88 : decode (mB 59) 88 = .ok (.iastore, 1) := by decide +kernel
theorem x59_88 {d : Nat} {L : Lc} {st : List Value} {a j : Nat} {x : Int32} {h : Hp} (ht : (h.2.1 a).1 = 20) (hj : j < (h.2.1 a).2) (hb : j < 2147483648) : ex (d) 59 88 L (.int x :: .int (nI j) :: .ref a :: st) h = ex d 59 89 L st (mup h.1 a j (.int x), h.2) := (ex_of d59_88 (d) L (.int x :: .int (nI j) :: .ref a :: st) h).trans (fin_iastore ht hj hb)
theorem d59_89 : decode (mB 59) 89 = .ok (.aload 4, 2) := by decide +kernel
theorem x59_89 {d : Nat} {l0 l1 l2 l3 l5 : Option Value} {st : List Value} {a : Nat} {h : Hp} : ex (d) 59 89 [l0, l1, l2, l3, some (.ref a), l5] st h = ex d 59 91 [l0, l1, l2, l3, some (.ref a), l5] (.ref a :: st) h := (ex_of d59_89 (d) [l0, l1, l2, l3, some (.ref a), l5] st h).trans (rfl)
theorem x59_89n {d : Nat} {l0 l1 l2 l3 l5 : Option Value} {st : List Value} {h : Hp} : ex (d) 59 89 [l0, l1, l2, l3, some .null, l5] st h = ex d 59 91 [l0, l1, l2, l3, some .null, l5] (.null :: st) h := (ex_of d59_89 (d) [l0, l1, l2, l3, some .null, l5] st h).trans (rfl)
theorem x59_89q {d : Nat} {l0 l1 l2 l3 l5 : Option Value} {st : List Value} {a : Option Nat} {h : Hp} : ex (d) 59 89 [l0, l1, l2, l3, some (va_rf a), l5] st h = ex d 59 91 [l0, l1, l2, l3, some (va_rf a), l5] (va_rf a :: st) h := (ex_of d59_89 (d) [l0, l1, l2, l3, some (va_rf a), l5] st h).trans (by cases a <;> rfl)
theorem d59_91 : decode (mB 59) 91 = .ok (.getfield 169, 3) := by decide +kernel
theorem x59_91 {d : Nat} {L : Lc} {st : List Value} {a : Nat} {h : Hp} (ht : (h.2.1 a).1 = 1) : ex (d) 59 91 L (.ref a :: st) h = ex d 59 94 L (h.1 a 8 :: st) h := (ex_of d59_91 (d) L (.ref a :: st) h).trans (fin_get (mi := 59) f10_169 (tg1 ht rfl))
theorem d59_94 : decode (mB 59) 94 = .ok (.iload_n 2, 1) := by decide +kernel
theorem x59_94 {d : Nat} {l0 l1 l3 l4 l5 : Option Value} {st : List Value} {x : Int32} {h : Hp} : ex (d) 59 94 [l0, l1, some (.int x), l3, l4, l5] st h = ex d 59 95 [l0, l1, some (.int x), l3, l4, l5] (.int x :: st) h := (ex_of d59_94 (d) [l0, l1, some (.int x), l3, l4, l5] st h).trans (rfl)
theorem d59_95 : decode (mB 59) 95 = .ok (.dup2, 1) := by decide +kernel
theorem x59_95 {d : Nat} {L : Lc} {st : List Value} {x : Int32} {a : Nat} {h : Hp} : ex (d) 59 95 L (.int x :: .ref a :: st) h = ex d 59 96 L (.int x :: .ref a :: .int x :: .ref a :: st) h := (ex_of d59_95 (d) L (.int x :: .ref a :: st) h).trans (rfl)
theorem d59_96 : decode (mB 59) 96 = .ok (.iaload, 1) := by decide +kernel
theorem x59_96 {d : Nat} {L : Lc} {st : List Value} {a j : Nat} {h : Hp} (ht : (h.2.1 a).1 = 20) (hj : j < (h.2.1 a).2) (hb : j < 2147483648) : ex (d) 59 96 L (.int (nI j) :: .ref a :: st) h = ex d 59 97 L (h.1 a j :: st) h := (ex_of d59_96 (d) L (.int (nI j) :: .ref a :: st) h).trans (fin_iaload (Or.inl ht) hj hb)
theorem d59_97 : decode (mB 59) 97 = .ok (.iload_n 3, 1) := by decide +kernel
theorem x59_97 {d : Nat} {l0 l1 l2 l4 l5 : Option Value} {st : List Value} {x : Int32} {h : Hp} : ex (d) 59 97 [l0, l1, l2, some (.int x), l4, l5] st h = ex d 59 98 [l0, l1, l2, some (.int x), l4, l5] (.int x :: st) h := (ex_of d59_97 (d) [l0, l1, l2, some (.int x), l4, l5] st h).trans (rfl)
theorem d59_98 : decode (mB 59) 98 = .ok (.isub, 1) := by decide +kernel
theorem x59_98 {d : Nat} {L : Lc} {st : List Value} {x y : Int32} {h : Hp} : ex (d) 59 98 L (.int y :: .int x :: st) h = ex d 59 99 L (.int (x - y) :: st) h := (ex_of d59_98 (d) L (.int y :: .int x :: st) h).trans (rfl)
theorem d59_99 : decode (mB 59) 99 = .ok (.iastore, 1) := by decide +kernel
theorem x59_99 {d : Nat} {L : Lc} {st : List Value} {a j : Nat} {x : Int32} {h : Hp} (ht : (h.2.1 a).1 = 20) (hj : j < (h.2.1 a).2) (hb : j < 2147483648) : ex (d) 59 99 L (.int x :: .int (nI j) :: .ref a :: st) h = ex d 59 100 L st (mup h.1 a j (.int x), h.2) := (ex_of d59_99 (d) L (.int x :: .int (nI j) :: .ref a :: st) h).trans (fin_iastore ht hj hb)
theorem d59_100 : decode (mB 59) 100 = .ok (.aload 4, 2) := by decide +kernel
theorem x59_100 {d : Nat} {l0 l1 l2 l3 l5 : Option Value} {st : List Value} {a : Nat} {h : Hp} : ex (d) 59 100 [l0, l1, l2, l3, some (.ref a), l5] st h = ex d 59 102 [l0, l1, l2, l3, some (.ref a), l5] (.ref a :: st) h := (ex_of d59_100 (d) [l0, l1, l2, l3, some (.ref a), l5] st h).trans (rfl)
theorem x59_100n {d : Nat} {l0 l1 l2 l3 l5 : Option Value} {st : List Value} {h : Hp} : ex (d) 59 100 [l0, l1, l2, l3, some .null, l5] st h = ex d 59 102 [l0, l1, l2, l3, some .null, l5] (.null :: st) h := (ex_of d59_100 (d) [l0, l1, l2, l3, some .null, l5] st h).trans (rfl)
theorem x59_100q {d : Nat} {l0 l1 l2 l3 l5 : Option Value} {st : List Value} {a : Option Nat} {h : Hp} : ex (d) 59 100 [l0, l1, l2, l3, some (va_rf a), l5] st h = ex d 59 102 [l0, l1, l2, l3, some (va_rf a), l5] (va_rf a :: st) h := (ex_of d59_100 (d) [l0, l1, l2, l3, some (va_rf a), l5] st h).trans (by cases a <;> rfl)
theorem d59_102 : decode (mB 59) 102 = .ok (.getfield 176, 3) := by decide +kernel
theorem x59_102 {d : Nat} {L : Lc} {st : List Value} {a : Nat} {h : Hp} (ht : (h.2.1 a).1 = 1) : ex (d) 59 102 L (.ref a :: st) h = ex d 59 105 L (h.1 a 1 :: st) h := (ex_of d59_102 (d) L (.ref a :: st) h).trans (fin_get (mi := 59) f10_176 (tg1 ht rfl))
theorem d59_105 : decode (mB 59) 105 = .ok (.iload_n 3, 1) := by decide +kernel
theorem x59_105 {d : Nat} {l0 l1 l2 l4 l5 : Option Value} {st : List Value} {x : Int32} {h : Hp} : ex (d) 59 105 [l0, l1, l2, some (.int x), l4, l5] st h = ex d 59 106 [l0, l1, l2, some (.int x), l4, l5] (.int x :: st) h := (ex_of d59_105 (d) [l0, l1, l2, some (.int x), l4, l5] st h).trans (rfl)
theorem d59_106 : decode (mB 59) 106 = .ok (.invokestatic 177, 3) := by decide +kernel
theorem x59_106 {d : Nat} {L : Lc} {s0 : Value} {x : Int32} {h : Hp} : ex (d) 59 106 L (.int x :: [s0]) h = ex d 59 109 L (.int (if 0 ≤ x then x else 0 - x) :: [s0]) h := (ex_of d59_106 (d) L (.int x :: [s0]) h).trans (rfl)
theorem d59_109 : decode (mB 59) 109 = .ok (.invokestatic 182, 3) := by decide +kernel
theorem x59_109 {d : Nat} {L : Lc}  {v0 : Int32} {v1 : Int32} {h : Hp} : ex (d + 1) 59 109 L (.int v1 :: .int v0 :: []) h = bnd (ex d 124 0 [some (.int v0), some (.int v1)] [] h) (fun v h' => ex (d + 1) 59 112 L (v.toList ++ []) h') := (ex_of d59_109 (d + 1) L (.int v1 :: .int v0 :: []) h).trans (fin_st (mi := 59) i10_182 (Or.inl rfl) (by simp) (by simp [cat1_i, cat1_r]) (by simp) (Nat.le_of_ble_eq_true rfl))
theorem d59_112 : decode (mB 59) 112 = .ok (.istore 5, 2) := by decide +kernel
theorem x59_112 {d : Nat} {l0 l1 l2 l3 l4 l5 : Option Value} {st : List Value} {x : Int32} {h : Hp} : ex (d) 59 112 [l0, l1, l2, l3, l4, l5] (.int x :: st) h = ex d 59 114 [l0, l1, l2, l3, clr l4, some (.int x)] st h := (ex_of d59_112 (d) [l0, l1, l2, l3, l4, l5] (.int x :: st) h).trans (rfl)
theorem d59_114 : decode (mB 59) 114 = .ok (.aload_n 0, 1) := by decide +kernel
theorem x59_114 {d : Nat} {l1 l2 l3 l4 l5 : Option Value} {st : List Value} {a : Nat} {h : Hp} : ex (d) 59 114 [some (.ref a), l1, l2, l3, l4, l5] st h = ex d 59 115 [some (.ref a), l1, l2, l3, l4, l5] (.ref a :: st) h := (ex_of d59_114 (d) [some (.ref a), l1, l2, l3, l4, l5] st h).trans (rfl)
theorem d59_115 : decode (mB 59) 115 = .ok (.dup, 1) := by decide +kernel
theorem x59_115 {d : Nat} {L : Lc} {st : List Value} {a : Nat} {h : Hp} : ex (d) 59 115 L (.ref a :: st) h = ex d 59 116 L (.ref a :: .ref a :: st) h := (ex_of d59_115 (d) L (.ref a :: st) h).trans (rfl)
theorem x59_115i {d : Nat} {L : Lc} {st : List Value} {x : Int32} {h : Hp} : ex (d) 59 115 L (.int x :: st) h = ex d 59 116 L (.int x :: .int x :: st) h := (ex_of d59_115 (d) L (.int x :: st) h).trans (rfl)
theorem d59_116 : decode (mB 59) 116 = .ok (.getfield 156, 3) := by decide +kernel
theorem x59_116 {d : Nat} {L : Lc} {st : List Value} {a : Nat} {h : Hp} (ht : (h.2.1 a).1 = 10) : ex (d) 59 116 L (.ref a :: st) h = ex d 59 119 L (h.1 a 12 :: st) h := (ex_of d59_116 (d) L (.ref a :: st) h).trans (fin_get (mi := 59) f10_156 (tg1 ht rfl))
theorem d59_119 : decode (mB 59) 119 = .ok (.iload 5, 2) := by decide +kernel
theorem x59_119 {d : Nat} {l0 l1 l2 l3 l4 : Option Value} {st : List Value} {x : Int32} {h : Hp} : ex (d) 59 119 [l0, l1, l2, l3, l4, some (.int x)] st h = ex d 59 121 [l0, l1, l2, l3, l4, some (.int x)] (.int x :: st) h := (ex_of d59_119 (d) [l0, l1, l2, l3, l4, some (.int x)] st h).trans (rfl)
theorem d59_121 : decode (mB 59) 121 = .ok (.iadd, 1) := by decide +kernel
theorem x59_121 {d : Nat} {L : Lc} {st : List Value} {x y : Int32} {h : Hp} : ex (d) 59 121 L (.int y :: .int x :: st) h = ex d 59 122 L (.int (x + y) :: st) h := (ex_of d59_121 (d) L (.int y :: .int x :: st) h).trans (rfl)
theorem d59_122 : decode (mB 59) 122 = .ok (.putfield 156, 3) := by decide +kernel
theorem x59_122 {d : Nat} {L : Lc} {st : List Value} {a : Nat} {x : Int32} {h : Hp} (ht : (h.2.1 a).1 = 10) : ex (d) 59 122 L (.int x :: .ref a :: st) h = ex d 59 125 L st (mup h.1 a 12 (.int x), h.2) := (ex_of d59_122 (d) L (.int x :: .ref a :: st) h).trans (fin_put (mi := 59) f10_156 ht rfl rfl (by decide +kernel))
theorem d59_125 : decode (mB 59) 125 = .ok (.aload_n 0, 1) := by decide +kernel
theorem x59_125 {d : Nat} {l1 l2 l3 l4 l5 : Option Value} {st : List Value} {a : Nat} {h : Hp} : ex (d) 59 125 [some (.ref a), l1, l2, l3, l4, l5] st h = ex d 59 126 [some (.ref a), l1, l2, l3, l4, l5] (.ref a :: st) h := (ex_of d59_125 (d) [some (.ref a), l1, l2, l3, l4, l5] st h).trans (rfl)
theorem d59_126 : decode (mB 59) 126 = .ok (.iload 5, 2) := by decide +kernel
theorem x59_126 {d : Nat} {l0 l1 l2 l3 l4 : Option Value} {st : List Value} {x : Int32} {h : Hp} : ex (d) 59 126 [l0, l1, l2, l3, l4, some (.int x)] st h = ex d 59 128 [l0, l1, l2, l3, l4, some (.int x)] (.int x :: st) h := (ex_of d59_126 (d) [l0, l1, l2, l3, l4, some (.int x)] st h).trans (rfl)
theorem d59_128 : decode (mB 59) 128 = .ok (.invokevirtual 64, 3) := by decide +kernel
theorem x59_128 {d : Nat} {L : Lc} {a : Nat} {v0 : Int32} {h : Hp} (ht : (h.2.1 a).1 = 10) : ex (d + 1) 59 128 L (.int v0 :: .ref a :: []) h = bnd (ex d 85 0 [some (.ref a), some (.int v0)] [] h) (fun v h' => ex (d + 1) 59 131 L (v.toList ++ []) h') := (ex_of d59_128 (d + 1) L (.int v0 :: .ref a :: []) h).trans (fin_vi (mi := 59) i10_64 ht rfl rfl (by simp [cat1_i, cat1_r]) (by simp) (Nat.le_of_ble_eq_true rfl))
theorem d59_131 : decode (mB 59) 131 = .ok (.ireturn, 1) := by decide +kernel
theorem x59_131 {d : Nat} {L : Lc} {x : Int32} {h : Hp} : ex (d) 59 131 L [.int x] h = some (some (.int x), h) := (ex_of d59_131 (d) L [.int x] h).trans (rfl)
theorem d60_0 : decode (mB 60) 0 = .ok (.aload_n 0, 1) := by decide +kernel
theorem x60_0 {d : Nat} {l1 l2 l3 l4 : Option Value} {st : List Value} {a : Nat} {h : Hp} : ex (d) 60 0 [some (.ref a), l1, l2, l3, l4] st h = ex d 60 1 [some (.ref a), l1, l2, l3, l4] (.ref a :: st) h := (ex_of d60_0 (d) [some (.ref a), l1, l2, l3, l4] st h).trans (rfl)
theorem d60_1 : decode (mB 60) 1 = .ok (.iload_n 1, 1) := by decide +kernel
theorem x60_1 {d : Nat} {l0 l2 l3 l4 : Option Value} {st : List Value} {x : Int32} {h : Hp} : ex (d) 60 1 [l0, some (.int x), l2, l3, l4] st h = ex d 60 2 [l0, some (.int x), l2, l3, l4] (.int x :: st) h := (ex_of d60_1 (d) [l0, some (.int x), l2, l3, l4] st h).trans (rfl)
theorem d60_2 : decode (mB 60) 2 = .ok (.iload_n 2, 1) := by decide +kernel
theorem x60_2 {d : Nat} {l0 l1 l3 l4 : Option Value} {st : List Value} {x : Int32} {h : Hp} : ex (d) 60 2 [l0, l1, some (.int x), l3, l4] st h = ex d 60 3 [l0, l1, some (.int x), l3, l4] (.int x :: st) h := (ex_of d60_2 (d) [l0, l1, some (.int x), l3, l4] st h).trans (rfl)
theorem d60_3 : decode (mB 60) 3 = .ok (.invokevirtual 147, 3) := by decide +kernel
theorem x60_3 {d : Nat} {L : Lc} {a : Nat} {v0 : Int32} {v1 : Int32} {h : Hp} (ht : (h.2.1 a).1 = 10) : ex (d + 1) 60 3 L (.int v1 :: .int v0 :: .ref a :: []) h = bnd (ex d 91 0 [some (.ref a), some (.int v0), some (.int v1), none, none] [] h) (fun v h' => ex (d + 1) 60 6 L (v.toList ++ []) h') := (ex_of d60_3 (d + 1) L (.int v1 :: .int v0 :: .ref a :: []) h).trans (fin_vi (mi := 60) i10_147 ht rfl rfl (by simp [cat1_i, cat1_r]) (by simp) (Nat.le_of_ble_eq_true rfl))
theorem d60_6 : decode (mB 60) 6 = .ok (.astore 4, 2) := by decide +kernel
theorem x60_6 {d : Nat} {l0 l1 l2 l3 l4 : Option Value} {st : List Value} {a : Nat} {h : Hp} : ex (d) 60 6 [l0, l1, l2, l3, l4] (.ref a :: st) h = ex d 60 8 [l0, l1, l2, clr l3, some (.ref a)] st h := (ex_of d60_6 (d) [l0, l1, l2, l3, l4] (.ref a :: st) h).trans (rfl)
theorem x60_6n {d : Nat} {l0 l1 l2 l3 l4 : Option Value} {st : List Value} {h : Hp} : ex (d) 60 6 [l0, l1, l2, l3, l4] (.null :: st) h = ex d 60 8 [l0, l1, l2, clr l3, some .null] st h := (ex_of d60_6 (d) [l0, l1, l2, l3, l4] (.null :: st) h).trans (rfl)
theorem x60_6q {d : Nat} {l0 l1 l2 l3 l4 : Option Value} {st : List Value} {a : Option Nat} {h : Hp} : ex (d) 60 6 [l0, l1, l2, l3, l4] (va_rf a :: st) h = ex d 60 8 [l0, l1, l2, clr l3, some (va_rf a)] st h := (ex_of d60_6 (d) [l0, l1, l2, l3, l4] (va_rf a :: st) h).trans (by cases a <;> rfl)
theorem d60_8 : decode (mB 60) 8 = .ok (.aload 4, 2) := by decide +kernel
theorem x60_8 {d : Nat} {l0 l1 l2 l3 : Option Value} {st : List Value} {a : Nat} {h : Hp} : ex (d) 60 8 [l0, l1, l2, l3, some (.ref a)] st h = ex d 60 10 [l0, l1, l2, l3, some (.ref a)] (.ref a :: st) h := (ex_of d60_8 (d) [l0, l1, l2, l3, some (.ref a)] st h).trans (rfl)
theorem x60_8n {d : Nat} {l0 l1 l2 l3 : Option Value} {st : List Value} {h : Hp} : ex (d) 60 8 [l0, l1, l2, l3, some .null] st h = ex d 60 10 [l0, l1, l2, l3, some .null] (.null :: st) h := (ex_of d60_8 (d) [l0, l1, l2, l3, some .null] st h).trans (rfl)
theorem x60_8q {d : Nat} {l0 l1 l2 l3 : Option Value} {st : List Value} {a : Option Nat} {h : Hp} : ex (d) 60 8 [l0, l1, l2, l3, some (va_rf a)] st h = ex d 60 10 [l0, l1, l2, l3, some (va_rf a)] (va_rf a :: st) h := (ex_of d60_8 (d) [l0, l1, l2, l3, some (va_rf a)] st h).trans (by cases a <;> rfl)
theorem d60_10 : decode (mB 60) 10 = .ok (.ifnonnull 5, 3) := by decide +kernel
theorem x60_10n {d : Nat} {L : Lc} {st : List Value} {h : Hp} : ex (d) 60 10 L (.null :: st) h = ex d 60 13 L st h := (ex_of d60_10 (d) L (.null :: st) h).trans (rfl)
theorem x60_10 {d : Nat} {L : Lc} {st : List Value} {a : Nat} {h : Hp} : ex (d) 60 10 L (.ref a :: st) h = ex d 60 15 L st h := (ex_of d60_10 (d) L (.ref a :: st) h).trans (rfl)
theorem d60_13 : decode (mB 60) 13 = .ok (.iconst (-1), 1) := by decide +kernel
theorem x60_13 {d : Nat} {L : Lc} {st : List Value} {h : Hp} : ex (d) 60 13 L st h = ex d 60 14 L (.int (-1) :: st) h := (ex_of d60_13 (d) L st h).trans (rfl)
theorem d60_14 : decode (mB 60) 14 = .ok (.ireturn, 1) := by decide +kernel
theorem x60_14 {d : Nat} {L : Lc} {x : Int32} {h : Hp} : ex (d) 60 14 L [.int x] h = some (some (.int x), h) := (ex_of d60_14 (d) L [.int x] h).trans (rfl)
theorem d60_15 : decode (mB 60) 15 = .ok (.iload_n 3, 1) := by decide +kernel
theorem x60_15 {d : Nat} {l0 l1 l2 l4 : Option Value} {st : List Value} {x : Int32} {h : Hp} : ex (d) 60 15 [l0, l1, l2, some (.int x), l4] st h = ex d 60 16 [l0, l1, l2, some (.int x), l4] (.int x :: st) h := (ex_of d60_15 (d) [l0, l1, l2, some (.int x), l4] st h).trans (rfl)
theorem d60_16 : decode (mB 60) 16 = .ok (.iconst 0, 1) := by decide +kernel
theorem x60_16 {d : Nat} {L : Lc} {st : List Value} {h : Hp} : ex (d) 60 16 L st h = ex d 60 17 L (.int (nI 0) :: st) h := (ex_of d60_16 (d) L st h).trans (rfl)
theorem d60_17 : decode (mB 60) 17 = .ok (.iconst 2, 1) := by decide +kernel
theorem x60_17 {d : Nat} {L : Lc} {st : List Value} {h : Hp} : ex (d) 60 17 L st h = ex d 60 18 L (.int (nI 2) :: st) h := (ex_of d60_17 (d) L st h).trans (rfl)
theorem d60_18 : decode (mB 60) 18 = .ok (.invokestatic 50, 3) := by decide +kernel
theorem x60_18 {d : Nat} {L : Lc}  {v0 : Int32} {v1 : Int32} {v2 : Int32} {h : Hp} : ex (d + 1) 60 18 L (.int v2 :: .int v1 :: .int v0 :: []) h = bnd (ex d 92 0 [some (.int v0), some (.int v1), some (.int v2)] [] h) (fun v h' => ex (d + 1) 60 21 L (v.toList ++ []) h') := (ex_of d60_18 (d + 1) L (.int v2 :: .int v1 :: .int v0 :: []) h).trans (fin_st (mi := 60) i10_50 (Or.inl rfl) (by simp) (by simp [cat1_i, cat1_r]) (by simp) (Nat.le_of_ble_eq_true rfl))
theorem d60_21 : decode (mB 60) 21 = .ok (.ifCond .ne 10, 3) := by decide +kernel
theorem x60_21 {d : Nat} {L : Lc} {st : List Value} {x : Int32} {h : Hp} : ex (d) 60 21 L (.int x :: st) h = if ¬ x = 0 then ex d 60 31 L st h else ex d 60 24 L st h := (ex_of d60_21 (d) L (.int x :: st) h).trans (fin_brq (off := 10) (tgt := 31) rfl (by decide))
theorem d60_24 : decode (mB 60) 24 = .ok (.aload_n 0, 1) := by decide +kernel
theorem x60_24 {d : Nat} {l1 l2 l3 l4 : Option Value} {st : List Value} {a : Nat} {h : Hp} : ex (d) 60 24 [some (.ref a), l1, l2, l3, l4] st h = ex d 60 25 [some (.ref a), l1, l2, l3, l4] (.ref a :: st) h := (ex_of d60_24 (d) [some (.ref a), l1, l2, l3, l4] st h).trans (rfl)
theorem d60_25 : decode (mB 60) 25 = .ok (.bipush 6, 2) := by decide +kernel
theorem x60_25 {d : Nat} {L : Lc} {st : List Value} {h : Hp} : ex (d) 60 25 L st h = ex d 60 27 L (.int (nI 6) :: st) h := (ex_of d60_25 (d) L st h).trans (rfl)
theorem d60_27 : decode (mB 60) 27 = .ok (.invokevirtual 57, 3) := by decide +kernel
theorem x60_27 {d : Nat} {L : Lc} {a : Nat} {v0 : Int32} {h : Hp} (ht : (h.2.1 a).1 = 10) : ex (d + 1) 60 27 L (.int v0 :: .ref a :: []) h = bnd (ex d 84 0 [some (.ref a), some (.int v0)] [] h) (fun v h' => ex (d + 1) 60 30 L (v.toList ++ []) h') := (ex_of d60_27 (d + 1) L (.int v0 :: .ref a :: []) h).trans (fin_vi (mi := 60) i10_57 ht rfl rfl (by simp [cat1_i, cat1_r]) (by simp) (Nat.le_of_ble_eq_true rfl))
theorem d60_30 : decode (mB 60) 30 = .ok (.ireturn, 1) := by decide +kernel
theorem x60_30 {d : Nat} {L : Lc} {x : Int32} {h : Hp} : ex (d) 60 30 L [.int x] h = some (some (.int x), h) := (ex_of d60_30 (d) L [.int x] h).trans (rfl)
theorem d60_31 : decode (mB 60) 31 = .ok (.iload_n 3, 1) := by decide +kernel
theorem x60_31 {d : Nat} {l0 l1 l2 l4 : Option Value} {st : List Value} {x : Int32} {h : Hp} : ex (d) 60 31 [l0, l1, l2, some (.int x), l4] st h = ex d 60 32 [l0, l1, l2, some (.int x), l4] (.int x :: st) h := (ex_of d60_31 (d) [l0, l1, l2, some (.int x), l4] st h).trans (rfl)
theorem d60_32 : decode (mB 60) 32 = .ok (.lookupswitch 52 #[(0, 28), (1, 40)], 28) := by decide +kernel
theorem x60_32 {d : Nat} {L : Lc} {st : List Value} {x : Int32} {h : Hp} : ex (d) 60 32 L (.int x :: st) h = if x = (nI 0) then ex d 60 60 L st h else if x = (nI 1) then ex d 60 72 L st h else ex d 60 84 L st h := by
  refine (ex_of d60_32 _ _ _ _).trans ?_
  simp only [stp]
  rw [if_pos (by decide +kernel)]
  simp only [swq]
  (repeat' split) <;> first | rfl | (simp_all [nI] <;> contradiction)
theorem d60_60 : decode (mB 60) 60 = .ok (.aload_n 0, 1) := by decide +kernel
theorem x60_60 {d : Nat} {l1 l2 l3 l4 : Option Value} {st : List Value} {a : Nat} {h : Hp} : ex (d) 60 60 [some (.ref a), l1, l2, l3, l4] st h = ex d 60 61 [some (.ref a), l1, l2, l3, l4] (.ref a :: st) h := (ex_of d60_60 (d) [some (.ref a), l1, l2, l3, l4] st h).trans (rfl)
theorem d60_61 : decode (mB 60) 61 = .ok (.aload 4, 2) := by decide +kernel
theorem x60_61 {d : Nat} {l0 l1 l2 l3 : Option Value} {st : List Value} {a : Nat} {h : Hp} : ex (d) 60 61 [l0, l1, l2, l3, some (.ref a)] st h = ex d 60 63 [l0, l1, l2, l3, some (.ref a)] (.ref a :: st) h := (ex_of d60_61 (d) [l0, l1, l2, l3, some (.ref a)] st h).trans (rfl)
theorem x60_61n {d : Nat} {l0 l1 l2 l3 : Option Value} {st : List Value} {h : Hp} : ex (d) 60 61 [l0, l1, l2, l3, some .null] st h = ex d 60 63 [l0, l1, l2, l3, some .null] (.null :: st) h := (ex_of d60_61 (d) [l0, l1, l2, l3, some .null] st h).trans (rfl)
theorem x60_61q {d : Nat} {l0 l1 l2 l3 : Option Value} {st : List Value} {a : Option Nat} {h : Hp} : ex (d) 60 61 [l0, l1, l2, l3, some (va_rf a)] st h = ex d 60 63 [l0, l1, l2, l3, some (va_rf a)] (va_rf a :: st) h := (ex_of d60_61 (d) [l0, l1, l2, l3, some (va_rf a)] st h).trans (by cases a <;> rfl)
theorem d60_63 : decode (mB 60) 63 = .ok (.getfield 151, 3) := by decide +kernel
theorem x60_63 {d : Nat} {L : Lc} {st : List Value} {a : Nat} {h : Hp} (ht : (h.2.1 a).1 = 1) : ex (d) 60 63 L (.ref a :: st) h = ex d 60 66 L (h.1 a 6 :: st) h := (ex_of d60_63 (d) L (.ref a :: st) h).trans (fin_get (mi := 60) f10_151 (tg1 ht rfl))
theorem d60_66 : decode (mB 60) 66 = .ok (.iload_n 2, 1) := by decide +kernel
theorem x60_66 {d : Nat} {l0 l1 l3 l4 : Option Value} {st : List Value} {x : Int32} {h : Hp} : ex (d) 60 66 [l0, l1, some (.int x), l3, l4] st h = ex d 60 67 [l0, l1, some (.int x), l3, l4] (.int x :: st) h := (ex_of d60_66 (d) [l0, l1, some (.int x), l3, l4] st h).trans (rfl)
theorem d60_67 : decode (mB 60) 67 = .ok (.iaload, 1) := by decide +kernel
theorem x60_67 {d : Nat} {L : Lc} {st : List Value} {a j : Nat} {h : Hp} (ht : (h.2.1 a).1 = 20) (hj : j < (h.2.1 a).2) (hb : j < 2147483648) : ex (d) 60 67 L (.int (nI j) :: .ref a :: st) h = ex d 60 68 L (h.1 a j :: st) h := (ex_of d60_67 (d) L (.int (nI j) :: .ref a :: st) h).trans (fin_iaload (Or.inl ht) hj hb)
theorem d60_68 : decode (mB 60) 68 = .ok (.invokevirtual 64, 3) := by decide +kernel
theorem x60_68 {d : Nat} {L : Lc} {a : Nat} {v0 : Int32} {h : Hp} (ht : (h.2.1 a).1 = 10) : ex (d + 1) 60 68 L (.int v0 :: .ref a :: []) h = bnd (ex d 85 0 [some (.ref a), some (.int v0)] [] h) (fun v h' => ex (d + 1) 60 71 L (v.toList ++ []) h') := (ex_of d60_68 (d + 1) L (.int v0 :: .ref a :: []) h).trans (fin_vi (mi := 60) i10_64 ht rfl rfl (by simp [cat1_i, cat1_r]) (by simp) (Nat.le_of_ble_eq_true rfl))
theorem d60_71 : decode (mB 60) 71 = .ok (.ireturn, 1) := by decide +kernel
theorem x60_71 {d : Nat} {L : Lc} {x : Int32} {h : Hp} : ex (d) 60 71 L [.int x] h = some (some (.int x), h) := (ex_of d60_71 (d) L [.int x] h).trans (rfl)
theorem d60_72 : decode (mB 60) 72 = .ok (.aload_n 0, 1) := by decide +kernel
theorem x60_72 {d : Nat} {l1 l2 l3 l4 : Option Value} {st : List Value} {a : Nat} {h : Hp} : ex (d) 60 72 [some (.ref a), l1, l2, l3, l4] st h = ex d 60 73 [some (.ref a), l1, l2, l3, l4] (.ref a :: st) h := (ex_of d60_72 (d) [some (.ref a), l1, l2, l3, l4] st h).trans (rfl)
theorem d60_73 : decode (mB 60) 73 = .ok (.aload 4, 2) := by decide +kernel
theorem x60_73 {d : Nat} {l0 l1 l2 l3 : Option Value} {st : List Value} {a : Nat} {h : Hp} : ex (d) 60 73 [l0, l1, l2, l3, some (.ref a)] st h = ex d 60 75 [l0, l1, l2, l3, some (.ref a)] (.ref a :: st) h := (ex_of d60_73 (d) [l0, l1, l2, l3, some (.ref a)] st h).trans (rfl)
theorem x60_73n {d : Nat} {l0 l1 l2 l3 : Option Value} {st : List Value} {h : Hp} : ex (d) 60 73 [l0, l1, l2, l3, some .null] st h = ex d 60 75 [l0, l1, l2, l3, some .null] (.null :: st) h := (ex_of d60_73 (d) [l0, l1, l2, l3, some .null] st h).trans (rfl)
theorem x60_73q {d : Nat} {l0 l1 l2 l3 : Option Value} {st : List Value} {a : Option Nat} {h : Hp} : ex (d) 60 73 [l0, l1, l2, l3, some (va_rf a)] st h = ex d 60 75 [l0, l1, l2, l3, some (va_rf a)] (va_rf a :: st) h := (ex_of d60_73 (d) [l0, l1, l2, l3, some (va_rf a)] st h).trans (by cases a <;> rfl)
theorem d60_75 : decode (mB 60) 75 = .ok (.getfield 166, 3) := by decide +kernel
theorem x60_75 {d : Nat} {L : Lc} {st : List Value} {a : Nat} {h : Hp} (ht : (h.2.1 a).1 = 1) : ex (d) 60 75 L (.ref a :: st) h = ex d 60 78 L (h.1 a 7 :: st) h := (ex_of d60_75 (d) L (.ref a :: st) h).trans (fin_get (mi := 60) f10_166 (tg1 ht rfl))
theorem d60_78 : decode (mB 60) 78 = .ok (.iload_n 2, 1) := by decide +kernel
theorem x60_78 {d : Nat} {l0 l1 l3 l4 : Option Value} {st : List Value} {x : Int32} {h : Hp} : ex (d) 60 78 [l0, l1, some (.int x), l3, l4] st h = ex d 60 79 [l0, l1, some (.int x), l3, l4] (.int x :: st) h := (ex_of d60_78 (d) [l0, l1, some (.int x), l3, l4] st h).trans (rfl)
theorem d60_79 : decode (mB 60) 79 = .ok (.iaload, 1) := by decide +kernel
theorem x60_79 {d : Nat} {L : Lc} {st : List Value} {a j : Nat} {h : Hp} (ht : (h.2.1 a).1 = 20) (hj : j < (h.2.1 a).2) (hb : j < 2147483648) : ex (d) 60 79 L (.int (nI j) :: .ref a :: st) h = ex d 60 80 L (h.1 a j :: st) h := (ex_of d60_79 (d) L (.int (nI j) :: .ref a :: st) h).trans (fin_iaload (Or.inl ht) hj hb)
theorem d60_80 : decode (mB 60) 80 = .ok (.invokevirtual 64, 3) := by decide +kernel
theorem x60_80 {d : Nat} {L : Lc} {a : Nat} {v0 : Int32} {h : Hp} (ht : (h.2.1 a).1 = 10) : ex (d + 1) 60 80 L (.int v0 :: .ref a :: []) h = bnd (ex d 85 0 [some (.ref a), some (.int v0)] [] h) (fun v h' => ex (d + 1) 60 83 L (v.toList ++ []) h') := (ex_of d60_80 (d + 1) L (.int v0 :: .ref a :: []) h).trans (fin_vi (mi := 60) i10_64 ht rfl rfl (by simp [cat1_i, cat1_r]) (by simp) (Nat.le_of_ble_eq_true rfl))
theorem d60_83 : decode (mB 60) 83 = .ok (.ireturn, 1) := by decide +kernel
theorem x60_83 {d : Nat} {L : Lc} {x : Int32} {h : Hp} : ex (d) 60 83 L [.int x] h = some (some (.int x), h) := (ex_of d60_83 (d) L [.int x] h).trans (rfl)
theorem d60_84 : decode (mB 60) 84 = .ok (.aload_n 0, 1) := by decide +kernel
theorem x60_84 {d : Nat} {l1 l2 l3 l4 : Option Value} {st : List Value} {a : Nat} {h : Hp} : ex (d) 60 84 [some (.ref a), l1, l2, l3, l4] st h = ex d 60 85 [some (.ref a), l1, l2, l3, l4] (.ref a :: st) h := (ex_of d60_84 (d) [some (.ref a), l1, l2, l3, l4] st h).trans (rfl)
theorem d60_85 : decode (mB 60) 85 = .ok (.aload 4, 2) := by decide +kernel
theorem x60_85 {d : Nat} {l0 l1 l2 l3 : Option Value} {st : List Value} {a : Nat} {h : Hp} : ex (d) 60 85 [l0, l1, l2, l3, some (.ref a)] st h = ex d 60 87 [l0, l1, l2, l3, some (.ref a)] (.ref a :: st) h := (ex_of d60_85 (d) [l0, l1, l2, l3, some (.ref a)] st h).trans (rfl)
theorem x60_85n {d : Nat} {l0 l1 l2 l3 : Option Value} {st : List Value} {h : Hp} : ex (d) 60 85 [l0, l1, l2, l3, some .null] st h = ex d 60 87 [l0, l1, l2, l3, some .null] (.null :: st) h := (ex_of d60_85 (d) [l0, l1, l2, l3, some .null] st h).trans (rfl)
theorem x60_85q {d : Nat} {l0 l1 l2 l3 : Option Value} {st : List Value} {a : Option Nat} {h : Hp} : ex (d) 60 85 [l0, l1, l2, l3, some (va_rf a)] st h = ex d 60 87 [l0, l1, l2, l3, some (va_rf a)] (va_rf a :: st) h := (ex_of d60_85 (d) [l0, l1, l2, l3, some (va_rf a)] st h).trans (by cases a <;> rfl)
theorem d60_87 : decode (mB 60) 87 = .ok (.getfield 169, 3) := by decide +kernel
theorem x60_87 {d : Nat} {L : Lc} {st : List Value} {a : Nat} {h : Hp} (ht : (h.2.1 a).1 = 1) : ex (d) 60 87 L (.ref a :: st) h = ex d 60 90 L (h.1 a 8 :: st) h := (ex_of d60_87 (d) L (.ref a :: st) h).trans (fin_get (mi := 60) f10_169 (tg1 ht rfl))
theorem d60_90 : decode (mB 60) 90 = .ok (.iload_n 2, 1) := by decide +kernel
theorem x60_90 {d : Nat} {l0 l1 l3 l4 : Option Value} {st : List Value} {x : Int32} {h : Hp} : ex (d) 60 90 [l0, l1, some (.int x), l3, l4] st h = ex d 60 91 [l0, l1, some (.int x), l3, l4] (.int x :: st) h := (ex_of d60_90 (d) [l0, l1, some (.int x), l3, l4] st h).trans (rfl)
theorem d60_91 : decode (mB 60) 91 = .ok (.iaload, 1) := by decide +kernel
theorem x60_91 {d : Nat} {L : Lc} {st : List Value} {a j : Nat} {h : Hp} (ht : (h.2.1 a).1 = 20) (hj : j < (h.2.1 a).2) (hb : j < 2147483648) : ex (d) 60 91 L (.int (nI j) :: .ref a :: st) h = ex d 60 92 L (h.1 a j :: st) h := (ex_of d60_91 (d) L (.int (nI j) :: .ref a :: st) h).trans (fin_iaload (Or.inl ht) hj hb)
theorem d60_92 : decode (mB 60) 92 = .ok (.invokevirtual 64, 3) := by decide +kernel
theorem x60_92 {d : Nat} {L : Lc} {a : Nat} {v0 : Int32} {h : Hp} (ht : (h.2.1 a).1 = 10) : ex (d + 1) 60 92 L (.int v0 :: .ref a :: []) h = bnd (ex d 85 0 [some (.ref a), some (.int v0)] [] h) (fun v h' => ex (d + 1) 60 95 L (v.toList ++ []) h') := (ex_of d60_92 (d + 1) L (.int v0 :: .ref a :: []) h).trans (fin_vi (mi := 60) i10_64 ht rfl rfl (by simp [cat1_i, cat1_r]) (by simp) (Nat.le_of_ble_eq_true rfl))
theorem d60_95 : decode (mB 60) 95 = .ok (.ireturn, 1) := by decide +kernel
theorem x60_95 {d : Nat} {L : Lc} {x : Int32} {h : Hp} : ex (d) 60 95 L [.int x] h = some (some (.int x), h) := (ex_of d60_95 (d) L [.int x] h).trans (rfl)
theorem d61_0 : decode (mB 61) 0 = .ok (.aload_n 0, 1) := by decide +kernel
theorem x61_0 {d : Nat} {l1 : Option Value} {st : List Value} {a : Nat} {h : Hp} : ex (d) 61 0 [some (.ref a), l1] st h = ex d 61 1 [some (.ref a), l1] (.ref a :: st) h := (ex_of d61_0 (d) [some (.ref a), l1] st h).trans (rfl)
theorem d61_1 : decode (mB 61) 1 = .ok (.getfield 186, 3) := by decide +kernel
theorem x61_1 {d : Nat} {L : Lc} {st : List Value} {a : Nat} {h : Hp} (ht : (h.2.1 a).1 = 10) : ex (d) 61 1 L (.ref a :: st) h = ex d 61 4 L (h.1 a 5 :: st) h := (ex_of d61_1 (d) L (.ref a :: st) h).trans (fin_get (mi := 61) f10_186 (tg1 ht rfl))
theorem d61_4 : decode (mB 61) 4 = .ok (.bipush 40, 2) := by decide +kernel
theorem x61_4 {d : Nat} {L : Lc} {st : List Value} {h : Hp} : ex (d) 61 4 L st h = ex d 61 6 L (.int (nI 40) :: st) h := (ex_of d61_4 (d) L st h).trans (rfl)
theorem d61_6 : decode (mB 61) 6 = .ok (.if_icmp .lt 10, 3) := by decide +kernel
theorem x61_6 {d : Nat} {L : Lc} {st : List Value} {x y : Int32} {h : Hp} : ex (d) 61 6 L (.int y :: .int x :: st) h = if x < y then ex d 61 16 L st h else ex d 61 9 L st h := (ex_of d61_6 (d) L (.int y :: .int x :: st) h).trans (fin_brq (off := 10) (tgt := 16) rfl (by decide))
theorem d61_9 : decode (mB 61) 9 = .ok (.aload_n 0, 1) := by decide +kernel
theorem x61_9 {d : Nat} {l1 : Option Value} {st : List Value} {a : Nat} {h : Hp} : ex (d) 61 9 [some (.ref a), l1] st h = ex d 61 10 [some (.ref a), l1] (.ref a :: st) h := (ex_of d61_9 (d) [some (.ref a), l1] st h).trans (rfl)
theorem d61_10 : decode (mB 61) 10 = .ok (.bipush 6, 2) := by decide +kernel
theorem x61_10 {d : Nat} {L : Lc} {st : List Value} {h : Hp} : ex (d) 61 10 L st h = ex d 61 12 L (.int (nI 6) :: st) h := (ex_of d61_10 (d) L st h).trans (rfl)
theorem d61_12 : decode (mB 61) 12 = .ok (.invokevirtual 57, 3) := by decide +kernel
theorem x61_12 {d : Nat} {L : Lc} {a : Nat} {v0 : Int32} {h : Hp} (ht : (h.2.1 a).1 = 10) : ex (d + 1) 61 12 L (.int v0 :: .ref a :: []) h = bnd (ex d 84 0 [some (.ref a), some (.int v0)] [] h) (fun v h' => ex (d + 1) 61 15 L (v.toList ++ []) h') := (ex_of d61_12 (d + 1) L (.int v0 :: .ref a :: []) h).trans (fin_vi (mi := 61) i10_57 ht rfl rfl (by simp [cat1_i, cat1_r]) (by simp) (Nat.le_of_ble_eq_true rfl))
theorem d61_15 : decode (mB 61) 15 = .ok (.ireturn, 1) := by decide +kernel
theorem x61_15 {d : Nat} {L : Lc} {x : Int32} {h : Hp} : ex (d) 61 15 L [.int x] h = some (some (.int x), h) := (ex_of d61_15 (d) L [.int x] h).trans (rfl)
theorem d61_16 : decode (mB 61) 16 = .ok (.aload_n 0, 1) := by decide +kernel
theorem x61_16 {d : Nat} {l1 : Option Value} {st : List Value} {a : Nat} {h : Hp} : ex (d) 61 16 [some (.ref a), l1] st h = ex d 61 17 [some (.ref a), l1] (.ref a :: st) h := (ex_of d61_16 (d) [some (.ref a), l1] st h).trans (rfl)
theorem d61_17 : decode (mB 61) 17 = .ok (.getfield 186, 3) := by decide +kernel
theorem x61_17 {d : Nat} {L : Lc} {st : List Value} {a : Nat} {h : Hp} (ht : (h.2.1 a).1 = 10) : ex (d) 61 17 L (.ref a :: st) h = ex d 61 20 L (h.1 a 5 :: st) h := (ex_of d61_17 (d) L (.ref a :: st) h).trans (fin_get (mi := 61) f10_186 (tg1 ht rfl))
theorem d61_20 : decode (mB 61) 20 = .ok (.istore_n 1, 1) := by decide +kernel
theorem x61_20 {d : Nat} {l0 l1 : Option Value} {st : List Value} {x : Int32} {h : Hp} : ex (d) 61 20 [l0, l1] (.int x :: st) h = ex d 61 21 [clr l0, some (.int x)] st h := (ex_of d61_20 (d) [l0, l1] (.int x :: st) h).trans (rfl)
theorem d61_21 : decode (mB 61) 21 = .ok (.aload_n 0, 1) := by decide +kernel
theorem x61_21 {d : Nat} {l1 : Option Value} {st : List Value} {a : Nat} {h : Hp} : ex (d) 61 21 [some (.ref a), l1] st h = ex d 61 22 [some (.ref a), l1] (.ref a :: st) h := (ex_of d61_21 (d) [some (.ref a), l1] st h).trans (rfl)
theorem d61_22 : decode (mB 61) 22 = .ok (.getfield 23, 3) := by decide +kernel
theorem x61_22 {d : Nat} {L : Lc} {st : List Value} {a : Nat} {h : Hp} (ht : (h.2.1 a).1 = 10) : ex (d) 61 22 L (.ref a :: st) h = ex d 61 25 L (h.1 a 4 :: st) h := (ex_of d61_22 (d) L (.ref a :: st) h).trans (fin_get (mi := 61) f10_23 (tg1 ht rfl))
theorem d61_25 : decode (mB 61) 25 = .ok (.iload_n 1, 1) := by decide +kernel
theorem x61_25 {d : Nat} {l0 : Option Value} {st : List Value} {x : Int32} {h : Hp} : ex (d) 61 25 [l0, some (.int x)] st h = ex d 61 26 [l0, some (.int x)] (.int x :: st) h := (ex_of d61_25 (d) [l0, some (.int x)] st h).trans (rfl)
theorem d61_26 : decode (mB 61) 26 = .ok (.new 21, 3) := by decide +kernel
theorem x61_26 {d : Nat} {L : Lc} {st : List Value} {h : Hp} : ex (d) 61 26 L st h = ex d 61 29 L (.ref h.2.2.1 :: st) (mnw h.1 h.2.2.1 (fun k => dfv (pty 0 k)), mnw h.2.1 h.2.2.1 (0, 1), h.2.2.1 + 1, h.2.2.2 + 1) := (ex_of d61_26 (d) L st h).trans (fin_new (mi := 61) k10_21 rfl (by decide))
theorem d61_29 : decode (mB 61) 29 = .ok (.dup, 1) := by decide +kernel
theorem x61_29 {d : Nat} {L : Lc} {st : List Value} {a : Nat} {h : Hp} : ex (d) 61 29 L (.ref a :: st) h = ex d 61 30 L (.ref a :: .ref a :: st) h := (ex_of d61_29 (d) L (.ref a :: st) h).trans (rfl)
theorem x61_29i {d : Nat} {L : Lc} {st : List Value} {x : Int32} {h : Hp} : ex (d) 61 29 L (.int x :: st) h = ex d 61 30 L (.int x :: .int x :: st) h := (ex_of d61_29 (d) L (.int x :: st) h).trans (rfl)
theorem d61_30 : decode (mB 61) 30 = .ok (.invokespecial 189, 3) := by decide +kernel
theorem x61_30 {d : Nat} {L : Lc} {s0 s1 s2 : Value} {a : Nat} {h : Hp} : ex (d + 1) 61 30 L (.ref a :: [s0, s1, s2]) h = bnd (ex d 0 0 [some (.ref a)] [] h) (fun v h' => ex (d + 1) 61 33 L (v.toList ++ [s0, s1, s2]) h') := (ex_of d61_30 (d + 1) L (.ref a :: [s0, s1, s2]) h).trans (fin_sp (mi := 61) i10_189 (Or.inr rfl) rfl (by simp [cat1_i, cat1_r]) (by simp) (Nat.le_of_ble_eq_true rfl))
theorem d61_33 : decode (mB 61) 33 = .ok (.aastore, 1) := by decide +kernel
theorem x61_33 {d : Nat} {L : Lc} {st : List Value} {a j v : Nat} {h : Hp} (ht : 21 ≤ (h.2.1 a).1 ∧ (h.2.1 a).1 ≤ 25) (hc : casts.contains ((h.2.1 v).1, elT (h.2.1 a).1) = true) (hj : j < (h.2.1 a).2) (hb : j < 2147483648) : ex (d) 61 33 L (.ref v :: .int (nI j) :: .ref a :: st) h = ex d 61 34 L st (mup h.1 a j (.ref v), h.2) := (ex_of d61_33 (d) L (.ref v :: .int (nI j) :: .ref a :: st) h).trans (fin_aastore ht hc hj hb)
theorem x61_33n {d : Nat} {L : Lc} {st : List Value} {a j : Nat} {h : Hp} (ht : 21 ≤ (h.2.1 a).1 ∧ (h.2.1 a).1 ≤ 25) (hj : j < (h.2.1 a).2) (hb : j < 2147483648) : ex (d) 61 33 L (.null :: .int (nI j) :: .ref a :: st) h = ex d 61 34 L st (mup h.1 a j .null, h.2) := (ex_of d61_33 (d) L (.null :: .int (nI j) :: .ref a :: st) h).trans (fin_aastoreN ht hj hb)
theorem d61_34 : decode (mB 61) 34 = .ok (.aload_n 0, 1) := by decide +kernel
theorem x61_34 {d : Nat} {l1 : Option Value} {st : List Value} {a : Nat} {h : Hp} : ex (d) 61 34 [some (.ref a), l1] st h = ex d 61 35 [some (.ref a), l1] (.ref a :: st) h := (ex_of d61_34 (d) [some (.ref a), l1] st h).trans (rfl)
theorem d61_35 : decode (mB 61) 35 = .ok (.dup, 1) := by decide +kernel
theorem x61_35 {d : Nat} {L : Lc} {st : List Value} {a : Nat} {h : Hp} : ex (d) 61 35 L (.ref a :: st) h = ex d 61 36 L (.ref a :: .ref a :: st) h := (ex_of d61_35 (d) L (.ref a :: st) h).trans (rfl)
theorem x61_35i {d : Nat} {L : Lc} {st : List Value} {x : Int32} {h : Hp} : ex (d) 61 35 L (.int x :: st) h = ex d 61 36 L (.int x :: .int x :: st) h := (ex_of d61_35 (d) L (.int x :: st) h).trans (rfl)
theorem d61_36 : decode (mB 61) 36 = .ok (.getfield 186, 3) := by decide +kernel
theorem x61_36 {d : Nat} {L : Lc} {st : List Value} {a : Nat} {h : Hp} (ht : (h.2.1 a).1 = 10) : ex (d) 61 36 L (.ref a :: st) h = ex d 61 39 L (h.1 a 5 :: st) h := (ex_of d61_36 (d) L (.ref a :: st) h).trans (fin_get (mi := 61) f10_186 (tg1 ht rfl))
theorem d61_39 : decode (mB 61) 39 = .ok (.iconst 1, 1) := by decide +kernel
theorem x61_39 {d : Nat} {L : Lc} {st : List Value} {h : Hp} : ex (d) 61 39 L st h = ex d 61 40 L (.int (nI 1) :: st) h := (ex_of d61_39 (d) L st h).trans (rfl)
theorem d61_40 : decode (mB 61) 40 = .ok (.iadd, 1) := by decide +kernel
theorem x61_40 {d : Nat} {L : Lc} {st : List Value} {x y : Int32} {h : Hp} : ex (d) 61 40 L (.int y :: .int x :: st) h = ex d 61 41 L (.int (x + y) :: st) h := (ex_of d61_40 (d) L (.int y :: .int x :: st) h).trans (rfl)
theorem d61_41 : decode (mB 61) 41 = .ok (.putfield 186, 3) := by decide +kernel
theorem x61_41 {d : Nat} {L : Lc} {st : List Value} {a : Nat} {x : Int32} {h : Hp} (ht : (h.2.1 a).1 = 10) : ex (d) 61 41 L (.int x :: .ref a :: st) h = ex d 61 44 L st (mup h.1 a 5 (.int x), h.2) := (ex_of d61_41 (d) L (.int x :: .ref a :: st) h).trans (fin_put (mi := 61) f10_186 ht rfl rfl (by decide +kernel))
theorem d61_44 : decode (mB 61) 44 = .ok (.aload_n 0, 1) := by decide +kernel
theorem x61_44 {d : Nat} {l1 : Option Value} {st : List Value} {a : Nat} {h : Hp} : ex (d) 61 44 [some (.ref a), l1] st h = ex d 61 45 [some (.ref a), l1] (.ref a :: st) h := (ex_of d61_44 (d) [some (.ref a), l1] st h).trans (rfl)
theorem d61_45 : decode (mB 61) 45 = .ok (.iload_n 1, 1) := by decide +kernel
theorem x61_45 {d : Nat} {l0 : Option Value} {st : List Value} {x : Int32} {h : Hp} : ex (d) 61 45 [l0, some (.int x)] st h = ex d 61 46 [l0, some (.int x)] (.int x :: st) h := (ex_of d61_45 (d) [l0, some (.int x)] st h).trans (rfl)
theorem d61_46 : decode (mB 61) 46 = .ok (.invokevirtual 64, 3) := by decide +kernel
theorem x61_46 {d : Nat} {L : Lc} {a : Nat} {v0 : Int32} {h : Hp} (ht : (h.2.1 a).1 = 10) : ex (d + 1) 61 46 L (.int v0 :: .ref a :: []) h = bnd (ex d 85 0 [some (.ref a), some (.int v0)] [] h) (fun v h' => ex (d + 1) 61 49 L (v.toList ++ []) h') := (ex_of d61_46 (d + 1) L (.int v0 :: .ref a :: []) h).trans (fin_vi (mi := 61) i10_64 ht rfl rfl (by simp [cat1_i, cat1_r]) (by simp) (Nat.le_of_ble_eq_true rfl))
theorem d61_49 : decode (mB 61) 49 = .ok (.ireturn, 1) := by decide +kernel
theorem x61_49 {d : Nat} {L : Lc} {x : Int32} {h : Hp} : ex (d) 61 49 L [.int x] h = some (some (.int x), h) := (ex_of d61_49 (d) L [.int x] h).trans (rfl)
theorem d62_0 : decode (mB 62) 0 = .ok (.aload_n 0, 1) := by decide +kernel
theorem x62_0 {d : Nat} {l1 l2 l3 l4 : Option Value} {st : List Value} {a : Nat} {h : Hp} : ex (d) 62 0 [some (.ref a), l1, l2, l3, l4] st h = ex d 62 1 [some (.ref a), l1, l2, l3, l4] (.ref a :: st) h := (ex_of d62_0 (d) [some (.ref a), l1, l2, l3, l4] st h).trans (rfl)
theorem d62_1 : decode (mB 62) 1 = .ok (.iload_n 1, 1) := by decide +kernel
theorem x62_1 {d : Nat} {l0 l2 l3 l4 : Option Value} {st : List Value} {x : Int32} {h : Hp} : ex (d) 62 1 [l0, some (.int x), l2, l3, l4] st h = ex d 62 2 [l0, some (.int x), l2, l3, l4] (.int x :: st) h := (ex_of d62_1 (d) [l0, some (.int x), l2, l3, l4] st h).trans (rfl)
theorem d62_2 : decode (mB 62) 2 = .ok (.invokevirtual 190, 3) := by decide +kernel
theorem x62_2 {d : Nat} {L : Lc} {a : Nat} {v0 : Int32} {h : Hp} (ht : (h.2.1 a).1 = 10) : ex (d + 1) 62 2 L (.int v0 :: .ref a :: []) h = bnd (ex d 88 0 [some (.ref a), some (.int v0)] [] h) (fun v h' => ex (d + 1) 62 5 L (v.toList ++ []) h') := (ex_of d62_2 (d + 1) L (.int v0 :: .ref a :: []) h).trans (fin_vi (mi := 62) i10_190 ht rfl rfl (by simp [cat1_i, cat1_r]) (by simp) (Nat.le_of_ble_eq_true rfl))
theorem d62_5 : decode (mB 62) 5 = .ok (.astore 4, 2) := by decide +kernel
theorem x62_5 {d : Nat} {l0 l1 l2 l3 l4 : Option Value} {st : List Value} {a : Nat} {h : Hp} : ex (d) 62 5 [l0, l1, l2, l3, l4] (.ref a :: st) h = ex d 62 7 [l0, l1, l2, clr l3, some (.ref a)] st h := (ex_of d62_5 (d) [l0, l1, l2, l3, l4] (.ref a :: st) h).trans (rfl)
theorem x62_5n {d : Nat} {l0 l1 l2 l3 l4 : Option Value} {st : List Value} {h : Hp} : ex (d) 62 5 [l0, l1, l2, l3, l4] (.null :: st) h = ex d 62 7 [l0, l1, l2, clr l3, some .null] st h := (ex_of d62_5 (d) [l0, l1, l2, l3, l4] (.null :: st) h).trans (rfl)
theorem x62_5q {d : Nat} {l0 l1 l2 l3 l4 : Option Value} {st : List Value} {a : Option Nat} {h : Hp} : ex (d) 62 5 [l0, l1, l2, l3, l4] (va_rf a :: st) h = ex d 62 7 [l0, l1, l2, clr l3, some (va_rf a)] st h := (ex_of d62_5 (d) [l0, l1, l2, l3, l4] (va_rf a :: st) h).trans (by cases a <;> rfl)
theorem d62_7 : decode (mB 62) 7 = .ok (.aload 4, 2) := by decide +kernel
theorem x62_7 {d : Nat} {l0 l1 l2 l3 : Option Value} {st : List Value} {a : Nat} {h : Hp} : ex (d) 62 7 [l0, l1, l2, l3, some (.ref a)] st h = ex d 62 9 [l0, l1, l2, l3, some (.ref a)] (.ref a :: st) h := (ex_of d62_7 (d) [l0, l1, l2, l3, some (.ref a)] st h).trans (rfl)
theorem x62_7n {d : Nat} {l0 l1 l2 l3 : Option Value} {st : List Value} {h : Hp} : ex (d) 62 7 [l0, l1, l2, l3, some .null] st h = ex d 62 9 [l0, l1, l2, l3, some .null] (.null :: st) h := (ex_of d62_7 (d) [l0, l1, l2, l3, some .null] st h).trans (rfl)
theorem x62_7q {d : Nat} {l0 l1 l2 l3 : Option Value} {st : List Value} {a : Option Nat} {h : Hp} : ex (d) 62 7 [l0, l1, l2, l3, some (va_rf a)] st h = ex d 62 9 [l0, l1, l2, l3, some (va_rf a)] (va_rf a :: st) h := (ex_of d62_7 (d) [l0, l1, l2, l3, some (va_rf a)] st h).trans (by cases a <;> rfl)
theorem d62_9 : decode (mB 62) 9 = .ok (.ifnonnull 10, 3) := by decide +kernel
theorem x62_9n {d : Nat} {L : Lc} {st : List Value} {h : Hp} : ex (d) 62 9 L (.null :: st) h = ex d 62 12 L st h := (ex_of d62_9 (d) L (.null :: st) h).trans (rfl)
theorem x62_9 {d : Nat} {L : Lc} {st : List Value} {a : Nat} {h : Hp} : ex (d) 62 9 L (.ref a :: st) h = ex d 62 19 L st h := (ex_of d62_9 (d) L (.ref a :: st) h).trans (rfl)
theorem d62_12 : decode (mB 62) 12 = .ok (.aload_n 0, 1) := by decide +kernel
theorem x62_12 {d : Nat} {l1 l2 l3 l4 : Option Value} {st : List Value} {a : Nat} {h : Hp} : ex (d) 62 12 [some (.ref a), l1, l2, l3, l4] st h = ex d 62 13 [some (.ref a), l1, l2, l3, l4] (.ref a :: st) h := (ex_of d62_12 (d) [some (.ref a), l1, l2, l3, l4] st h).trans (rfl)
theorem d62_13 : decode (mB 62) 13 = .ok (.bipush 10, 2) := by decide +kernel
theorem x62_13 {d : Nat} {L : Lc} {st : List Value} {h : Hp} : ex (d) 62 13 L st h = ex d 62 15 L (.int (nI 10) :: st) h := (ex_of d62_13 (d) L st h).trans (rfl)
theorem d62_15 : decode (mB 62) 15 = .ok (.invokevirtual 57, 3) := by decide +kernel
theorem x62_15 {d : Nat} {L : Lc} {a : Nat} {v0 : Int32} {h : Hp} (ht : (h.2.1 a).1 = 10) : ex (d + 1) 62 15 L (.int v0 :: .ref a :: []) h = bnd (ex d 84 0 [some (.ref a), some (.int v0)] [] h) (fun v h' => ex (d + 1) 62 18 L (v.toList ++ []) h') := (ex_of d62_15 (d + 1) L (.int v0 :: .ref a :: []) h).trans (fin_vi (mi := 62) i10_57 ht rfl rfl (by simp [cat1_i, cat1_r]) (by simp) (Nat.le_of_ble_eq_true rfl))
theorem d62_18 : decode (mB 62) 18 = .ok (.ireturn, 1) := by decide +kernel
theorem x62_18 {d : Nat} {L : Lc} {x : Int32} {h : Hp} : ex (d) 62 18 L [.int x] h = some (some (.int x), h) := (ex_of d62_18 (d) L [.int x] h).trans (rfl)
theorem d62_19 : decode (mB 62) 19 = .ok (.iload_n 2, 1) := by decide +kernel
theorem x62_19 {d : Nat} {l0 l1 l3 l4 : Option Value} {st : List Value} {x : Int32} {h : Hp} : ex (d) 62 19 [l0, l1, some (.int x), l3, l4] st h = ex d 62 20 [l0, l1, some (.int x), l3, l4] (.int x :: st) h := (ex_of d62_19 (d) [l0, l1, some (.int x), l3, l4] st h).trans (rfl)
theorem d62_20 : decode (mB 62) 20 = .ok (.invokestatic 194, 3) := by decide +kernel
theorem x62_20 {d : Nat} {L : Lc}  {v0 : Int32} {h : Hp} : ex (d + 1) 62 20 L (.int v0 :: []) h = bnd (ex d 93 0 [some (.int v0)] [] h) (fun v h' => ex (d + 1) 62 23 L (v.toList ++ []) h') := (ex_of d62_20 (d + 1) L (.int v0 :: []) h).trans (fin_st (mi := 62) i10_194 (Or.inl rfl) (by simp) (by simp [cat1_i, cat1_r]) (by simp) (Nat.le_of_ble_eq_true rfl))
theorem d62_23 : decode (mB 62) 23 = .ok (.ifCond .ne 9, 3) := by decide +kernel
theorem x62_23 {d : Nat} {L : Lc} {st : List Value} {x : Int32} {h : Hp} : ex (d) 62 23 L (.int x :: st) h = if ¬ x = 0 then ex d 62 32 L st h else ex d 62 26 L st h := (ex_of d62_23 (d) L (.int x :: st) h).trans (fin_brq (off := 9) (tgt := 32) rfl (by decide))
theorem d62_26 : decode (mB 62) 26 = .ok (.aload_n 0, 1) := by decide +kernel
theorem x62_26 {d : Nat} {l1 l2 l3 l4 : Option Value} {st : List Value} {a : Nat} {h : Hp} : ex (d) 62 26 [some (.ref a), l1, l2, l3, l4] st h = ex d 62 27 [some (.ref a), l1, l2, l3, l4] (.ref a :: st) h := (ex_of d62_26 (d) [some (.ref a), l1, l2, l3, l4] st h).trans (rfl)
theorem d62_27 : decode (mB 62) 27 = .ok (.iconst 2, 1) := by decide +kernel
theorem x62_27 {d : Nat} {L : Lc} {st : List Value} {h : Hp} : ex (d) 62 27 L st h = ex d 62 28 L (.int (nI 2) :: st) h := (ex_of d62_27 (d) L st h).trans (rfl)
theorem d62_28 : decode (mB 62) 28 = .ok (.invokevirtual 57, 3) := by decide +kernel
theorem x62_28 {d : Nat} {L : Lc} {a : Nat} {v0 : Int32} {h : Hp} (ht : (h.2.1 a).1 = 10) : ex (d + 1) 62 28 L (.int v0 :: .ref a :: []) h = bnd (ex d 84 0 [some (.ref a), some (.int v0)] [] h) (fun v h' => ex (d + 1) 62 31 L (v.toList ++ []) h') := (ex_of d62_28 (d + 1) L (.int v0 :: .ref a :: []) h).trans (fin_vi (mi := 62) i10_57 ht rfl rfl (by simp [cat1_i, cat1_r]) (by simp) (Nat.le_of_ble_eq_true rfl))
theorem d62_31 : decode (mB 62) 31 = .ok (.ireturn, 1) := by decide +kernel
theorem x62_31 {d : Nat} {L : Lc} {x : Int32} {h : Hp} : ex (d) 62 31 L [.int x] h = some (some (.int x), h) := (ex_of d62_31 (d) L [.int x] h).trans (rfl)
theorem d62_32 : decode (mB 62) 32 = .ok (.iload_n 3, 1) := by decide +kernel
theorem x62_32 {d : Nat} {l0 l1 l2 l4 : Option Value} {st : List Value} {x : Int32} {h : Hp} : ex (d) 62 32 [l0, l1, l2, some (.int x), l4] st h = ex d 62 33 [l0, l1, l2, some (.int x), l4] (.int x :: st) h := (ex_of d62_32 (d) [l0, l1, l2, some (.int x), l4] st h).trans (rfl)
theorem d62_33 : decode (mB 62) 33 = .ok (.invokestatic 99, 3) := by decide +kernel
theorem x62_33 {d : Nat} {L : Lc}  {v0 : Int32} {h : Hp} : ex (d + 1) 62 33 L (.int v0 :: []) h = bnd (ex d 95 0 [some (.int v0)] [] h) (fun v h' => ex (d + 1) 62 36 L (v.toList ++ []) h') := (ex_of d62_33 (d + 1) L (.int v0 :: []) h).trans (fin_st (mi := 62) i10_99 (Or.inl rfl) (by simp) (by simp [cat1_i, cat1_r]) (by simp) (Nat.le_of_ble_eq_true rfl))
theorem d62_36 : decode (mB 62) 36 = .ok (.ifCond .ne 10, 3) := by decide +kernel
theorem x62_36 {d : Nat} {L : Lc} {st : List Value} {x : Int32} {h : Hp} : ex (d) 62 36 L (.int x :: st) h = if ¬ x = 0 then ex d 62 46 L st h else ex d 62 39 L st h := (ex_of d62_36 (d) L (.int x :: st) h).trans (fin_brq (off := 10) (tgt := 46) rfl (by decide))
theorem d62_39 : decode (mB 62) 39 = .ok (.aload_n 0, 1) := by decide +kernel
theorem x62_39 {d : Nat} {l1 l2 l3 l4 : Option Value} {st : List Value} {a : Nat} {h : Hp} : ex (d) 62 39 [some (.ref a), l1, l2, l3, l4] st h = ex d 62 40 [some (.ref a), l1, l2, l3, l4] (.ref a :: st) h := (ex_of d62_39 (d) [some (.ref a), l1, l2, l3, l4] st h).trans (rfl)
theorem d62_40 : decode (mB 62) 40 = .ok (.bipush 6, 2) := by decide +kernel
theorem x62_40 {d : Nat} {L : Lc} {st : List Value} {h : Hp} : ex (d) 62 40 L st h = ex d 62 42 L (.int (nI 6) :: st) h := (ex_of d62_40 (d) L st h).trans (rfl)
theorem d62_42 : decode (mB 62) 42 = .ok (.invokevirtual 57, 3) := by decide +kernel
theorem x62_42 {d : Nat} {L : Lc} {a : Nat} {v0 : Int32} {h : Hp} (ht : (h.2.1 a).1 = 10) : ex (d + 1) 62 42 L (.int v0 :: .ref a :: []) h = bnd (ex d 84 0 [some (.ref a), some (.int v0)] [] h) (fun v h' => ex (d + 1) 62 45 L (v.toList ++ []) h') := (ex_of d62_42 (d + 1) L (.int v0 :: .ref a :: []) h).trans (fin_vi (mi := 62) i10_57 ht rfl rfl (by simp [cat1_i, cat1_r]) (by simp) (Nat.le_of_ble_eq_true rfl))
theorem d62_45 : decode (mB 62) 45 = .ok (.ireturn, 1) := by decide +kernel
theorem x62_45 {d : Nat} {L : Lc} {x : Int32} {h : Hp} : ex (d) 62 45 L [.int x] h = some (some (.int x), h) := (ex_of d62_45 (d) L [.int x] h).trans (rfl)
theorem d62_46 : decode (mB 62) 46 = .ok (.aload_n 0, 1) := by decide +kernel
theorem x62_46 {d : Nat} {l1 l2 l3 l4 : Option Value} {st : List Value} {a : Nat} {h : Hp} : ex (d) 62 46 [some (.ref a), l1, l2, l3, l4] st h = ex d 62 47 [some (.ref a), l1, l2, l3, l4] (.ref a :: st) h := (ex_of d62_46 (d) [some (.ref a), l1, l2, l3, l4] st h).trans (rfl)
theorem d62_47 : decode (mB 62) 47 = .ok (.new 197, 3) := by decide +kernel
theorem x62_47 {d : Nat} {L : Lc} {st : List Value} {h : Hp} : ex (d) 62 47 L st h = ex d 62 50 L (.ref h.2.2.1 :: st) (mnw h.1 h.2.2.1 (fun k => dfv (pty 6 k)), mnw h.2.1 h.2.2.1 (6, 3), h.2.2.1 + 1, h.2.2.2 + 3) := (ex_of d62_47 (d) L st h).trans (fin_new (mi := 62) k10_197 rfl (by decide))
theorem d62_50 : decode (mB 62) 50 = .ok (.dup, 1) := by decide +kernel
theorem x62_50 {d : Nat} {L : Lc} {st : List Value} {a : Nat} {h : Hp} : ex (d) 62 50 L (.ref a :: st) h = ex d 62 51 L (.ref a :: .ref a :: st) h := (ex_of d62_50 (d) L (.ref a :: st) h).trans (rfl)
theorem x62_50i {d : Nat} {L : Lc} {st : List Value} {x : Int32} {h : Hp} : ex (d) 62 50 L (.int x :: st) h = ex d 62 51 L (.int x :: .int x :: st) h := (ex_of d62_50 (d) L (.int x :: st) h).trans (rfl)
theorem d62_51 : decode (mB 62) 51 = .ok (.aload 4, 2) := by decide +kernel
theorem x62_51 {d : Nat} {l0 l1 l2 l3 : Option Value} {st : List Value} {a : Nat} {h : Hp} : ex (d) 62 51 [l0, l1, l2, l3, some (.ref a)] st h = ex d 62 53 [l0, l1, l2, l3, some (.ref a)] (.ref a :: st) h := (ex_of d62_51 (d) [l0, l1, l2, l3, some (.ref a)] st h).trans (rfl)
theorem x62_51n {d : Nat} {l0 l1 l2 l3 : Option Value} {st : List Value} {h : Hp} : ex (d) 62 51 [l0, l1, l2, l3, some .null] st h = ex d 62 53 [l0, l1, l2, l3, some .null] (.null :: st) h := (ex_of d62_51 (d) [l0, l1, l2, l3, some .null] st h).trans (rfl)
theorem x62_51q {d : Nat} {l0 l1 l2 l3 : Option Value} {st : List Value} {a : Option Nat} {h : Hp} : ex (d) 62 51 [l0, l1, l2, l3, some (va_rf a)] st h = ex d 62 53 [l0, l1, l2, l3, some (va_rf a)] (va_rf a :: st) h := (ex_of d62_51 (d) [l0, l1, l2, l3, some (va_rf a)] st h).trans (by cases a <;> rfl)
theorem d62_53 : decode (mB 62) 53 = .ok (.iload_n 2, 1) := by decide +kernel
theorem x62_53 {d : Nat} {l0 l1 l3 l4 : Option Value} {st : List Value} {x : Int32} {h : Hp} : ex (d) 62 53 [l0, l1, some (.int x), l3, l4] st h = ex d 62 54 [l0, l1, some (.int x), l3, l4] (.int x :: st) h := (ex_of d62_53 (d) [l0, l1, some (.int x), l3, l4] st h).trans (rfl)
theorem d62_54 : decode (mB 62) 54 = .ok (.invokespecial 199, 3) := by decide +kernel
theorem x62_54 {d : Nat} {L : Lc} {s0 s1 : Value} {a : Nat} {v0 : Value} {v1 : Int32} {h : Hp} (hv0 : isR v0 = true) : ex (d + 1) 62 54 L (.int v1 :: v0 :: .ref a :: [s0, s1]) h = bnd (ex d 31 0 [some (.ref a), some v0, some (.int v1)] [] h) (fun v h' => ex (d + 1) 62 57 L (v.toList ++ [s0, s1]) h') := (ex_of d62_54 (d + 1) L (.int v1 :: v0 :: .ref a :: [s0, s1]) h).trans (fin_sp (mi := 62) i10_199 (Or.inl rfl) rfl (by simp [cat1_i, cat1_r, isR_cat1 hv0]) (by simp) (Nat.le_of_ble_eq_true rfl))
theorem d62_57 : decode (mB 62) 57 = .ok (.invokevirtual 162, 3) := by decide +kernel
theorem x62_57 {d : Nat} {L : Lc} {a : Nat} {v0 : Value} {h : Hp} (ht : (h.2.1 a).1 = 10) (hv0 : isR v0 = true) : ex (d + 1) 62 57 L (v0 :: .ref a :: []) h = bnd (ex d 115 0 [some (.ref a), some v0] [] h) (fun v h' => ex (d + 1) 62 60 L (v.toList ++ []) h') := (ex_of d62_57 (d + 1) L (v0 :: .ref a :: []) h).trans (fin_vi (mi := 62) i10_162 ht rfl rfl (by simp [cat1_i, cat1_r, isR_cat1 hv0]) (by simp) (Nat.le_of_ble_eq_true rfl))
theorem d62_60 : decode (mB 62) 60 = .ok (.aload 4, 2) := by decide +kernel
theorem x62_60 {d : Nat} {l0 l1 l2 l3 : Option Value} {st : List Value} {a : Nat} {h : Hp} : ex (d) 62 60 [l0, l1, l2, l3, some (.ref a)] st h = ex d 62 62 [l0, l1, l2, l3, some (.ref a)] (.ref a :: st) h := (ex_of d62_60 (d) [l0, l1, l2, l3, some (.ref a)] st h).trans (rfl)
theorem x62_60n {d : Nat} {l0 l1 l2 l3 : Option Value} {st : List Value} {h : Hp} : ex (d) 62 60 [l0, l1, l2, l3, some .null] st h = ex d 62 62 [l0, l1, l2, l3, some .null] (.null :: st) h := (ex_of d62_60 (d) [l0, l1, l2, l3, some .null] st h).trans (rfl)
theorem x62_60q {d : Nat} {l0 l1 l2 l3 : Option Value} {st : List Value} {a : Option Nat} {h : Hp} : ex (d) 62 60 [l0, l1, l2, l3, some (va_rf a)] st h = ex d 62 62 [l0, l1, l2, l3, some (va_rf a)] (va_rf a :: st) h := (ex_of d62_60 (d) [l0, l1, l2, l3, some (va_rf a)] st h).trans (by cases a <;> rfl)
theorem d62_62 : decode (mB 62) 62 = .ok (.getfield 202, 3) := by decide +kernel
theorem x62_62 {d : Nat} {L : Lc} {st : List Value} {a : Nat} {h : Hp} (ht : (h.2.1 a).1 = 0) : ex (d) 62 62 L (.ref a :: st) h = ex d 62 65 L (h.1 a 0 :: st) h := (ex_of d62_62 (d) L (.ref a :: st) h).trans (fin_get (mi := 62) f10_202 (tg1 ht rfl))
theorem d62_65 : decode (mB 62) 65 = .ok (.iload_n 2, 1) := by decide +kernel
theorem x62_65 {d : Nat} {l0 l1 l3 l4 : Option Value} {st : List Value} {x : Int32} {h : Hp} : ex (d) 62 65 [l0, l1, some (.int x), l3, l4] st h = ex d 62 66 [l0, l1, some (.int x), l3, l4] (.int x :: st) h := (ex_of d62_65 (d) [l0, l1, some (.int x), l3, l4] st h).trans (rfl)
theorem d62_66 : decode (mB 62) 66 = .ok (.iload_n 3, 1) := by decide +kernel
theorem x62_66 {d : Nat} {l0 l1 l2 l4 : Option Value} {st : List Value} {x : Int32} {h : Hp} : ex (d) 62 66 [l0, l1, l2, some (.int x), l4] st h = ex d 62 67 [l0, l1, l2, some (.int x), l4] (.int x :: st) h := (ex_of d62_66 (d) [l0, l1, l2, some (.int x), l4] st h).trans (rfl)
theorem d62_67 : decode (mB 62) 67 = .ok (.iastore, 1) := by decide +kernel
theorem x62_67 {d : Nat} {L : Lc} {st : List Value} {a j : Nat} {x : Int32} {h : Hp} (ht : (h.2.1 a).1 = 20) (hj : j < (h.2.1 a).2) (hb : j < 2147483648) : ex (d) 62 67 L (.int x :: .int (nI j) :: .ref a :: st) h = ex d 62 68 L st (mup h.1 a j (.int x), h.2) := (ex_of d62_67 (d) L (.int x :: .int (nI j) :: .ref a :: st) h).trans (fin_iastore ht hj hb)
theorem d62_68 : decode (mB 62) 68 = .ok (.aload_n 0, 1) := by decide +kernel
theorem x62_68 {d : Nat} {l1 l2 l3 l4 : Option Value} {st : List Value} {a : Nat} {h : Hp} : ex (d) 62 68 [some (.ref a), l1, l2, l3, l4] st h = ex d 62 69 [some (.ref a), l1, l2, l3, l4] (.ref a :: st) h := (ex_of d62_68 (d) [some (.ref a), l1, l2, l3, l4] st h).trans (rfl)
theorem d62_69 : decode (mB 62) 69 = .ok (.iconst 1, 1) := by decide +kernel
theorem x62_69 {d : Nat} {L : Lc} {st : List Value} {h : Hp} : ex (d) 62 69 L st h = ex d 62 70 L (.int (nI 1) :: st) h := (ex_of d62_69 (d) L st h).trans (rfl)
theorem d62_70 : decode (mB 62) 70 = .ok (.invokevirtual 64, 3) := by decide +kernel
theorem x62_70 {d : Nat} {L : Lc} {a : Nat} {v0 : Int32} {h : Hp} (ht : (h.2.1 a).1 = 10) : ex (d + 1) 62 70 L (.int v0 :: .ref a :: []) h = bnd (ex d 85 0 [some (.ref a), some (.int v0)] [] h) (fun v h' => ex (d + 1) 62 73 L (v.toList ++ []) h') := (ex_of d62_70 (d + 1) L (.int v0 :: .ref a :: []) h).trans (fin_vi (mi := 62) i10_64 ht rfl rfl (by simp [cat1_i, cat1_r]) (by simp) (Nat.le_of_ble_eq_true rfl))
theorem d62_73 : decode (mB 62) 73 = .ok (.ireturn, 1) := by decide +kernel
theorem x62_73 {d : Nat} {L : Lc} {x : Int32} {h : Hp} : ex (d) 62 73 L [.int x] h = some (some (.int x), h) := (ex_of d62_73 (d) L [.int x] h).trans (rfl)
theorem d63_0 : decode (mB 63) 0 = .ok (.aload_n 0, 1) := by decide +kernel
theorem x63_0 {d : Nat} {l1 l2 l3 l4 : Option Value} {st : List Value} {a : Nat} {h : Hp} : ex (d) 63 0 [some (.ref a), l1, l2, l3, l4] st h = ex d 63 1 [some (.ref a), l1, l2, l3, l4] (.ref a :: st) h := (ex_of d63_0 (d) [some (.ref a), l1, l2, l3, l4] st h).trans (rfl)
theorem d63_1 : decode (mB 63) 1 = .ok (.iload_n 1, 1) := by decide +kernel
theorem x63_1 {d : Nat} {l0 l2 l3 l4 : Option Value} {st : List Value} {x : Int32} {h : Hp} : ex (d) 63 1 [l0, some (.int x), l2, l3, l4] st h = ex d 63 2 [l0, some (.int x), l2, l3, l4] (.int x :: st) h := (ex_of d63_1 (d) [l0, some (.int x), l2, l3, l4] st h).trans (rfl)
theorem d63_2 : decode (mB 63) 2 = .ok (.invokevirtual 190, 3) := by decide +kernel
theorem x63_2 {d : Nat} {L : Lc} {a : Nat} {v0 : Int32} {h : Hp} (ht : (h.2.1 a).1 = 10) : ex (d + 1) 63 2 L (.int v0 :: .ref a :: []) h = bnd (ex d 88 0 [some (.ref a), some (.int v0)] [] h) (fun v h' => ex (d + 1) 63 5 L (v.toList ++ []) h') := (ex_of d63_2 (d + 1) L (.int v0 :: .ref a :: []) h).trans (fin_vi (mi := 63) i10_190 ht rfl rfl (by simp [cat1_i, cat1_r]) (by simp) (Nat.le_of_ble_eq_true rfl))
theorem d63_5 : decode (mB 63) 5 = .ok (.astore_n 3, 1) := by decide +kernel
theorem x63_5 {d : Nat} {l0 l1 l2 l3 l4 : Option Value} {st : List Value} {a : Nat} {h : Hp} : ex (d) 63 5 [l0, l1, l2, l3, l4] (.ref a :: st) h = ex d 63 6 [l0, l1, clr l2, some (.ref a), l4] st h := (ex_of d63_5 (d) [l0, l1, l2, l3, l4] (.ref a :: st) h).trans (rfl)
theorem x63_5n {d : Nat} {l0 l1 l2 l3 l4 : Option Value} {st : List Value} {h : Hp} : ex (d) 63 5 [l0, l1, l2, l3, l4] (.null :: st) h = ex d 63 6 [l0, l1, clr l2, some .null, l4] st h := (ex_of d63_5 (d) [l0, l1, l2, l3, l4] (.null :: st) h).trans (rfl)
theorem x63_5q {d : Nat} {l0 l1 l2 l3 l4 : Option Value} {st : List Value} {a : Option Nat} {h : Hp} : ex (d) 63 5 [l0, l1, l2, l3, l4] (va_rf a :: st) h = ex d 63 6 [l0, l1, clr l2, some (va_rf a), l4] st h := (ex_of d63_5 (d) [l0, l1, l2, l3, l4] (va_rf a :: st) h).trans (by cases a <;> rfl)
theorem d63_6 : decode (mB 63) 6 = .ok (.aload_n 0, 1) := by decide +kernel
theorem x63_6 {d : Nat} {l1 l2 l3 l4 : Option Value} {st : List Value} {a : Nat} {h : Hp} : ex (d) 63 6 [some (.ref a), l1, l2, l3, l4] st h = ex d 63 7 [some (.ref a), l1, l2, l3, l4] (.ref a :: st) h := (ex_of d63_6 (d) [some (.ref a), l1, l2, l3, l4] st h).trans (rfl)
theorem d63_7 : decode (mB 63) 7 = .ok (.iload_n 2, 1) := by decide +kernel
theorem x63_7 {d : Nat} {l0 l1 l3 l4 : Option Value} {st : List Value} {x : Int32} {h : Hp} : ex (d) 63 7 [l0, l1, some (.int x), l3, l4] st h = ex d 63 8 [l0, l1, some (.int x), l3, l4] (.int x :: st) h := (ex_of d63_7 (d) [l0, l1, some (.int x), l3, l4] st h).trans (rfl)
theorem d63_8 : decode (mB 63) 8 = .ok (.invokevirtual 111, 3) := by decide +kernel
theorem x63_8 {d : Nat} {L : Lc} {a : Nat} {v0 : Int32} {h : Hp} (ht : (h.2.1 a).1 = 10) : ex (d + 1) 63 8 L (.int v0 :: .ref a :: []) h = bnd (ex d 86 0 [some (.ref a), some (.int v0)] [] h) (fun v h' => ex (d + 1) 63 11 L (v.toList ++ []) h') := (ex_of d63_8 (d + 1) L (.int v0 :: .ref a :: []) h).trans (fin_vi (mi := 63) i10_111 ht rfl rfl (by simp [cat1_i, cat1_r]) (by simp) (Nat.le_of_ble_eq_true rfl))
theorem d63_11 : decode (mB 63) 11 = .ok (.astore 4, 2) := by decide +kernel
theorem x63_11 {d : Nat} {l0 l1 l2 l3 l4 : Option Value} {st : List Value} {a : Nat} {h : Hp} : ex (d) 63 11 [l0, l1, l2, l3, l4] (.ref a :: st) h = ex d 63 13 [l0, l1, l2, clr l3, some (.ref a)] st h := (ex_of d63_11 (d) [l0, l1, l2, l3, l4] (.ref a :: st) h).trans (rfl)
theorem x63_11n {d : Nat} {l0 l1 l2 l3 l4 : Option Value} {st : List Value} {h : Hp} : ex (d) 63 11 [l0, l1, l2, l3, l4] (.null :: st) h = ex d 63 13 [l0, l1, l2, clr l3, some .null] st h := (ex_of d63_11 (d) [l0, l1, l2, l3, l4] (.null :: st) h).trans (rfl)
theorem x63_11q {d : Nat} {l0 l1 l2 l3 l4 : Option Value} {st : List Value} {a : Option Nat} {h : Hp} : ex (d) 63 11 [l0, l1, l2, l3, l4] (va_rf a :: st) h = ex d 63 13 [l0, l1, l2, clr l3, some (va_rf a)] st h := (ex_of d63_11 (d) [l0, l1, l2, l3, l4] (va_rf a :: st) h).trans (by cases a <;> rfl)
theorem d63_13 : decode (mB 63) 13 = .ok (.aload_n 3, 1) := by decide +kernel
theorem x63_13 {d : Nat} {l0 l1 l2 l4 : Option Value} {st : List Value} {a : Nat} {h : Hp} : ex (d) 63 13 [l0, l1, l2, some (.ref a), l4] st h = ex d 63 14 [l0, l1, l2, some (.ref a), l4] (.ref a :: st) h := (ex_of d63_13 (d) [l0, l1, l2, some (.ref a), l4] st h).trans (rfl)
theorem x63_13n {d : Nat} {l0 l1 l2 l4 : Option Value} {st : List Value} {h : Hp} : ex (d) 63 13 [l0, l1, l2, some .null, l4] st h = ex d 63 14 [l0, l1, l2, some .null, l4] (.null :: st) h := (ex_of d63_13 (d) [l0, l1, l2, some .null, l4] st h).trans (rfl)
theorem x63_13q {d : Nat} {l0 l1 l2 l4 : Option Value} {st : List Value} {a : Option Nat} {h : Hp} : ex (d) 63 13 [l0, l1, l2, some (va_rf a), l4] st h = ex d 63 14 [l0, l1, l2, some (va_rf a), l4] (va_rf a :: st) h := (ex_of d63_13 (d) [l0, l1, l2, some (va_rf a), l4] st h).trans (by cases a <;> rfl)
theorem d63_14 : decode (mB 63) 14 = .ok (.ifnull 8, 3) := by decide +kernel
theorem x63_14n {d : Nat} {L : Lc} {st : List Value} {h : Hp} : ex (d) 63 14 L (.null :: st) h = ex d 63 22 L st h := (ex_of d63_14 (d) L (.null :: st) h).trans (rfl)
theorem x63_14 {d : Nat} {L : Lc} {st : List Value} {a : Nat} {h : Hp} : ex (d) 63 14 L (.ref a :: st) h = ex d 63 17 L st h := (ex_of d63_14 (d) L (.ref a :: st) h).trans (rfl)
theorem d63_17 : decode (mB 63) 17 = .ok (.aload 4, 2) := by decide +kernel
theorem x63_17 {d : Nat} {l0 l1 l2 l3 : Option Value} {st : List Value} {a : Nat} {h : Hp} : ex (d) 63 17 [l0, l1, l2, l3, some (.ref a)] st h = ex d 63 19 [l0, l1, l2, l3, some (.ref a)] (.ref a :: st) h := (ex_of d63_17 (d) [l0, l1, l2, l3, some (.ref a)] st h).trans (rfl)
theorem x63_17n {d : Nat} {l0 l1 l2 l3 : Option Value} {st : List Value} {h : Hp} : ex (d) 63 17 [l0, l1, l2, l3, some .null] st h = ex d 63 19 [l0, l1, l2, l3, some .null] (.null :: st) h := (ex_of d63_17 (d) [l0, l1, l2, l3, some .null] st h).trans (rfl)
theorem x63_17q {d : Nat} {l0 l1 l2 l3 : Option Value} {st : List Value} {a : Option Nat} {h : Hp} : ex (d) 63 17 [l0, l1, l2, l3, some (va_rf a)] st h = ex d 63 19 [l0, l1, l2, l3, some (va_rf a)] (va_rf a :: st) h := (ex_of d63_17 (d) [l0, l1, l2, l3, some (va_rf a)] st h).trans (by cases a <;> rfl)
theorem d63_19 : decode (mB 63) 19 = .ok (.ifnonnull 10, 3) := by decide +kernel
theorem x63_19n {d : Nat} {L : Lc} {st : List Value} {h : Hp} : ex (d) 63 19 L (.null :: st) h = ex d 63 22 L st h := (ex_of d63_19 (d) L (.null :: st) h).trans (rfl)
theorem x63_19 {d : Nat} {L : Lc} {st : List Value} {a : Nat} {h : Hp} : ex (d) 63 19 L (.ref a :: st) h = ex d 63 29 L st h := (ex_of d63_19 (d) L (.ref a :: st) h).trans (rfl)
theorem d63_22 : decode (mB 63) 22 = .ok (.aload_n 0, 1) := by decide +kernel
theorem x63_22 {d : Nat} {l1 l2 l3 l4 : Option Value} {st : List Value} {a : Nat} {h : Hp} : ex (d) 63 22 [some (.ref a), l1, l2, l3, l4] st h = ex d 63 23 [some (.ref a), l1, l2, l3, l4] (.ref a :: st) h := (ex_of d63_22 (d) [some (.ref a), l1, l2, l3, l4] st h).trans (rfl)
theorem d63_23 : decode (mB 63) 23 = .ok (.bipush 10, 2) := by decide +kernel
theorem x63_23 {d : Nat} {L : Lc} {st : List Value} {h : Hp} : ex (d) 63 23 L st h = ex d 63 25 L (.int (nI 10) :: st) h := (ex_of d63_23 (d) L st h).trans (rfl)
theorem d63_25 : decode (mB 63) 25 = .ok (.invokevirtual 57, 3) := by decide +kernel
theorem x63_25 {d : Nat} {L : Lc} {a : Nat} {v0 : Int32} {h : Hp} (ht : (h.2.1 a).1 = 10) : ex (d + 1) 63 25 L (.int v0 :: .ref a :: []) h = bnd (ex d 84 0 [some (.ref a), some (.int v0)] [] h) (fun v h' => ex (d + 1) 63 28 L (v.toList ++ []) h') := (ex_of d63_25 (d + 1) L (.int v0 :: .ref a :: []) h).trans (fin_vi (mi := 63) i10_57 ht rfl rfl (by simp [cat1_i, cat1_r]) (by simp) (Nat.le_of_ble_eq_true rfl))
theorem d63_28 : decode (mB 63) 28 = .ok (.ireturn, 1) := by decide +kernel
theorem x63_28 {d : Nat} {L : Lc} {x : Int32} {h : Hp} : ex (d) 63 28 L [.int x] h = some (some (.int x), h) := (ex_of d63_28 (d) L [.int x] h).trans (rfl)
theorem d63_29 : decode (mB 63) 29 = .ok (.aload 4, 2) := by decide +kernel
theorem x63_29 {d : Nat} {l0 l1 l2 l3 : Option Value} {st : List Value} {a : Nat} {h : Hp} : ex (d) 63 29 [l0, l1, l2, l3, some (.ref a)] st h = ex d 63 31 [l0, l1, l2, l3, some (.ref a)] (.ref a :: st) h := (ex_of d63_29 (d) [l0, l1, l2, l3, some (.ref a)] st h).trans (rfl)
theorem x63_29n {d : Nat} {l0 l1 l2 l3 : Option Value} {st : List Value} {h : Hp} : ex (d) 63 29 [l0, l1, l2, l3, some .null] st h = ex d 63 31 [l0, l1, l2, l3, some .null] (.null :: st) h := (ex_of d63_29 (d) [l0, l1, l2, l3, some .null] st h).trans (rfl)
theorem x63_29q {d : Nat} {l0 l1 l2 l3 : Option Value} {st : List Value} {a : Option Nat} {h : Hp} : ex (d) 63 29 [l0, l1, l2, l3, some (va_rf a)] st h = ex d 63 31 [l0, l1, l2, l3, some (va_rf a)] (va_rf a :: st) h := (ex_of d63_29 (d) [l0, l1, l2, l3, some (va_rf a)] st h).trans (by cases a <;> rfl)
theorem d63_31 : decode (mB 63) 31 = .ok (.invokevirtual 205, 3) := by decide +kernel
theorem x63_31 {d : Nat} {L : Lc} {a : Nat} {h : Hp} (ht : isTh (h.2.1 a).1 = true) : ex (d + 1) 63 31 L (.ref a :: []) h = bnd (ex d 39 0 [some (.ref a)] [] h) (fun v h' => ex (d + 1) 63 34 L (v.toList ++ []) h') := (ex_of d63_31 (d + 1) L (.ref a :: []) h).trans (fin_viT (mi := 63) i10_205 ht (by decide +kernel) rfl (by simp [cat1_i, cat1_r]) (by simp) (Nat.le_of_ble_eq_true rfl))
theorem d63_34 : decode (mB 63) 34 = .ok (.ifCond .eq 16, 3) := by decide +kernel
theorem x63_34 {d : Nat} {L : Lc} {st : List Value} {x : Int32} {h : Hp} : ex (d) 63 34 L (.int x :: st) h = if x = 0 then ex d 63 50 L st h else ex d 63 37 L st h := (ex_of d63_34 (d) L (.int x :: st) h).trans (fin_brq (off := 16) (tgt := 50) rfl (by decide))
theorem d63_37 : decode (mB 63) 37 = .ok (.aload_n 0, 1) := by decide +kernel
theorem x63_37 {d : Nat} {l1 l2 l3 l4 : Option Value} {st : List Value} {a : Nat} {h : Hp} : ex (d) 63 37 [some (.ref a), l1, l2, l3, l4] st h = ex d 63 38 [some (.ref a), l1, l2, l3, l4] (.ref a :: st) h := (ex_of d63_37 (d) [some (.ref a), l1, l2, l3, l4] st h).trans (rfl)
theorem d63_38 : decode (mB 63) 38 = .ok (.aload_n 3, 1) := by decide +kernel
theorem x63_38 {d : Nat} {l0 l1 l2 l4 : Option Value} {st : List Value} {a : Nat} {h : Hp} : ex (d) 63 38 [l0, l1, l2, some (.ref a), l4] st h = ex d 63 39 [l0, l1, l2, some (.ref a), l4] (.ref a :: st) h := (ex_of d63_38 (d) [l0, l1, l2, some (.ref a), l4] st h).trans (rfl)
theorem x63_38n {d : Nat} {l0 l1 l2 l4 : Option Value} {st : List Value} {h : Hp} : ex (d) 63 38 [l0, l1, l2, some .null, l4] st h = ex d 63 39 [l0, l1, l2, some .null, l4] (.null :: st) h := (ex_of d63_38 (d) [l0, l1, l2, some .null, l4] st h).trans (rfl)
theorem x63_38q {d : Nat} {l0 l1 l2 l4 : Option Value} {st : List Value} {a : Option Nat} {h : Hp} : ex (d) 63 38 [l0, l1, l2, some (va_rf a), l4] st h = ex d 63 39 [l0, l1, l2, some (va_rf a), l4] (va_rf a :: st) h := (ex_of d63_38 (d) [l0, l1, l2, some (va_rf a), l4] st h).trans (by cases a <;> rfl)
theorem d63_39 : decode (mB 63) 39 = .ok (.aload 4, 2) := by decide +kernel
theorem x63_39 {d : Nat} {l0 l1 l2 l3 : Option Value} {st : List Value} {a : Nat} {h : Hp} : ex (d) 63 39 [l0, l1, l2, l3, some (.ref a)] st h = ex d 63 41 [l0, l1, l2, l3, some (.ref a)] (.ref a :: st) h := (ex_of d63_39 (d) [l0, l1, l2, l3, some (.ref a)] st h).trans (rfl)
theorem x63_39n {d : Nat} {l0 l1 l2 l3 : Option Value} {st : List Value} {h : Hp} : ex (d) 63 39 [l0, l1, l2, l3, some .null] st h = ex d 63 41 [l0, l1, l2, l3, some .null] (.null :: st) h := (ex_of d63_39 (d) [l0, l1, l2, l3, some .null] st h).trans (rfl)
theorem x63_39q {d : Nat} {l0 l1 l2 l3 : Option Value} {st : List Value} {a : Option Nat} {h : Hp} : ex (d) 63 39 [l0, l1, l2, l3, some (va_rf a)] st h = ex d 63 41 [l0, l1, l2, l3, some (va_rf a)] (va_rf a :: st) h := (ex_of d63_39 (d) [l0, l1, l2, l3, some (va_rf a)] st h).trans (by cases a <;> rfl)
theorem d63_41 : decode (mB 63) 41 = .ok (.invokestatic 208, 3) := by decide +kernel
theorem x63_41 {d : Nat} {L : Lc} {s0 : Value}  {v0 : Value} {v1 : Value} {h : Hp} (hv0 : isR v0 = true) (hv1 : isR v1 = true) : ex (d + 1) 63 41 L (v1 :: v0 :: [s0]) h = bnd (ex d 116 0 [some v0, some v1, none, none, none, none, none] [] h) (fun v h' => ex (d + 1) 63 44 L (v.toList ++ [s0]) h') := (ex_of d63_41 (d + 1) L (v1 :: v0 :: [s0]) h).trans (fin_st (mi := 63) i10_208 (Or.inl rfl) (by simp) (by simp [cat1_i, cat1_r, isR_cat1 hv0, isR_cat1 hv1]) (by simp) (Nat.le_of_ble_eq_true rfl))
theorem d63_44 : decode (mB 63) 44 = .ok (.invokevirtual 64, 3) := by decide +kernel
theorem x63_44 {d : Nat} {L : Lc} {a : Nat} {v0 : Int32} {h : Hp} (ht : (h.2.1 a).1 = 10) : ex (d + 1) 63 44 L (.int v0 :: .ref a :: []) h = bnd (ex d 85 0 [some (.ref a), some (.int v0)] [] h) (fun v h' => ex (d + 1) 63 47 L (v.toList ++ []) h') := (ex_of d63_44 (d + 1) L (.int v0 :: .ref a :: []) h).trans (fin_vi (mi := 63) i10_64 ht rfl rfl (by simp [cat1_i, cat1_r]) (by simp) (Nat.le_of_ble_eq_true rfl))
theorem d63_47 : decode (mB 63) 47 = .ok (.goto 8, 3) := by decide +kernel
theorem x63_47 {d : Nat} {L : Lc} {st : List Value} {h : Hp} : ex (d) 63 47 L st h = ex d 63 55 L st h := (ex_of d63_47 (d) L st h).trans (rfl)
theorem d63_50 : decode (mB 63) 50 = .ok (.aload_n 0, 1) := by decide +kernel
theorem x63_50 {d : Nat} {l1 l2 l3 l4 : Option Value} {st : List Value} {a : Nat} {h : Hp} : ex (d) 63 50 [some (.ref a), l1, l2, l3, l4] st h = ex d 63 51 [some (.ref a), l1, l2, l3, l4] (.ref a :: st) h := (ex_of d63_50 (d) [some (.ref a), l1, l2, l3, l4] st h).trans (rfl)
theorem d63_51 : decode (mB 63) 51 = .ok (.iconst 4, 1) := by decide +kernel
theorem x63_51 {d : Nat} {L : Lc} {st : List Value} {h : Hp} : ex (d) 63 51 L st h = ex d 63 52 L (.int (nI 4) :: st) h := (ex_of d63_51 (d) L st h).trans (rfl)
theorem d63_52 : decode (mB 63) 52 = .ok (.invokevirtual 57, 3) := by decide +kernel
theorem x63_52 {d : Nat} {L : Lc} {a : Nat} {v0 : Int32} {h : Hp} (ht : (h.2.1 a).1 = 10) : ex (d + 1) 63 52 L (.int v0 :: .ref a :: []) h = bnd (ex d 84 0 [some (.ref a), some (.int v0)] [] h) (fun v h' => ex (d + 1) 63 55 L (v.toList ++ []) h') := (ex_of d63_52 (d + 1) L (.int v0 :: .ref a :: []) h).trans (fin_vi (mi := 63) i10_57 ht rfl rfl (by simp [cat1_i, cat1_r]) (by simp) (Nat.le_of_ble_eq_true rfl))
theorem d63_55 : decode (mB 63) 55 = .ok (.ireturn, 1) := by decide +kernel
theorem x63_55 {d : Nat} {L : Lc} {x : Int32} {h : Hp} : ex (d) 63 55 L [.int x] h = some (some (.int x), h) := (ex_of d63_55 (d) L [.int x] h).trans (rfl)
theorem d64_0 : decode (mB 64) 0 = .ok (.aload_n 0, 1) := by decide +kernel
theorem x64_0 {d : Nat} {l1 l2 l3 l4 : Option Value} {st : List Value} {a : Nat} {h : Hp} : ex (d) 64 0 [some (.ref a), l1, l2, l3, l4] st h = ex d 64 1 [some (.ref a), l1, l2, l3, l4] (.ref a :: st) h := (ex_of d64_0 (d) [some (.ref a), l1, l2, l3, l4] st h).trans (rfl)
theorem d64_1 : decode (mB 64) 1 = .ok (.iload_n 1, 1) := by decide +kernel
theorem x64_1 {d : Nat} {l0 l2 l3 l4 : Option Value} {st : List Value} {x : Int32} {h : Hp} : ex (d) 64 1 [l0, some (.int x), l2, l3, l4] st h = ex d 64 2 [l0, some (.int x), l2, l3, l4] (.int x :: st) h := (ex_of d64_1 (d) [l0, some (.int x), l2, l3, l4] st h).trans (rfl)
theorem d64_2 : decode (mB 64) 2 = .ok (.invokevirtual 190, 3) := by decide +kernel
theorem x64_2 {d : Nat} {L : Lc} {a : Nat} {v0 : Int32} {h : Hp} (ht : (h.2.1 a).1 = 10) : ex (d + 1) 64 2 L (.int v0 :: .ref a :: []) h = bnd (ex d 88 0 [some (.ref a), some (.int v0)] [] h) (fun v h' => ex (d + 1) 64 5 L (v.toList ++ []) h') := (ex_of d64_2 (d + 1) L (.int v0 :: .ref a :: []) h).trans (fin_vi (mi := 64) i10_190 ht rfl rfl (by simp [cat1_i, cat1_r]) (by simp) (Nat.le_of_ble_eq_true rfl))
theorem d64_5 : decode (mB 64) 5 = .ok (.astore_n 3, 1) := by decide +kernel
theorem x64_5 {d : Nat} {l0 l1 l2 l3 l4 : Option Value} {st : List Value} {a : Nat} {h : Hp} : ex (d) 64 5 [l0, l1, l2, l3, l4] (.ref a :: st) h = ex d 64 6 [l0, l1, clr l2, some (.ref a), l4] st h := (ex_of d64_5 (d) [l0, l1, l2, l3, l4] (.ref a :: st) h).trans (rfl)
theorem x64_5n {d : Nat} {l0 l1 l2 l3 l4 : Option Value} {st : List Value} {h : Hp} : ex (d) 64 5 [l0, l1, l2, l3, l4] (.null :: st) h = ex d 64 6 [l0, l1, clr l2, some .null, l4] st h := (ex_of d64_5 (d) [l0, l1, l2, l3, l4] (.null :: st) h).trans (rfl)
theorem x64_5q {d : Nat} {l0 l1 l2 l3 l4 : Option Value} {st : List Value} {a : Option Nat} {h : Hp} : ex (d) 64 5 [l0, l1, l2, l3, l4] (va_rf a :: st) h = ex d 64 6 [l0, l1, clr l2, some (va_rf a), l4] st h := (ex_of d64_5 (d) [l0, l1, l2, l3, l4] (va_rf a :: st) h).trans (by cases a <;> rfl)
theorem d64_6 : decode (mB 64) 6 = .ok (.aload_n 0, 1) := by decide +kernel
theorem x64_6 {d : Nat} {l1 l2 l3 l4 : Option Value} {st : List Value} {a : Nat} {h : Hp} : ex (d) 64 6 [some (.ref a), l1, l2, l3, l4] st h = ex d 64 7 [some (.ref a), l1, l2, l3, l4] (.ref a :: st) h := (ex_of d64_6 (d) [some (.ref a), l1, l2, l3, l4] st h).trans (rfl)
theorem d64_7 : decode (mB 64) 7 = .ok (.iload_n 2, 1) := by decide +kernel
theorem x64_7 {d : Nat} {l0 l1 l3 l4 : Option Value} {st : List Value} {x : Int32} {h : Hp} : ex (d) 64 7 [l0, l1, some (.int x), l3, l4] st h = ex d 64 8 [l0, l1, some (.int x), l3, l4] (.int x :: st) h := (ex_of d64_7 (d) [l0, l1, some (.int x), l3, l4] st h).trans (rfl)
theorem d64_8 : decode (mB 64) 8 = .ok (.invokevirtual 111, 3) := by decide +kernel
theorem x64_8 {d : Nat} {L : Lc} {a : Nat} {v0 : Int32} {h : Hp} (ht : (h.2.1 a).1 = 10) : ex (d + 1) 64 8 L (.int v0 :: .ref a :: []) h = bnd (ex d 86 0 [some (.ref a), some (.int v0)] [] h) (fun v h' => ex (d + 1) 64 11 L (v.toList ++ []) h') := (ex_of d64_8 (d + 1) L (.int v0 :: .ref a :: []) h).trans (fin_vi (mi := 64) i10_111 ht rfl rfl (by simp [cat1_i, cat1_r]) (by simp) (Nat.le_of_ble_eq_true rfl))
theorem d64_11 : decode (mB 64) 11 = .ok (.astore 4, 2) := by decide +kernel
theorem x64_11 {d : Nat} {l0 l1 l2 l3 l4 : Option Value} {st : List Value} {a : Nat} {h : Hp} : ex (d) 64 11 [l0, l1, l2, l3, l4] (.ref a :: st) h = ex d 64 13 [l0, l1, l2, clr l3, some (.ref a)] st h := (ex_of d64_11 (d) [l0, l1, l2, l3, l4] (.ref a :: st) h).trans (rfl)
theorem x64_11n {d : Nat} {l0 l1 l2 l3 l4 : Option Value} {st : List Value} {h : Hp} : ex (d) 64 11 [l0, l1, l2, l3, l4] (.null :: st) h = ex d 64 13 [l0, l1, l2, clr l3, some .null] st h := (ex_of d64_11 (d) [l0, l1, l2, l3, l4] (.null :: st) h).trans (rfl)
theorem x64_11q {d : Nat} {l0 l1 l2 l3 l4 : Option Value} {st : List Value} {a : Option Nat} {h : Hp} : ex (d) 64 11 [l0, l1, l2, l3, l4] (va_rf a :: st) h = ex d 64 13 [l0, l1, l2, clr l3, some (va_rf a)] st h := (ex_of d64_11 (d) [l0, l1, l2, l3, l4] (va_rf a :: st) h).trans (by cases a <;> rfl)
theorem d64_13 : decode (mB 64) 13 = .ok (.aload_n 3, 1) := by decide +kernel
theorem x64_13 {d : Nat} {l0 l1 l2 l4 : Option Value} {st : List Value} {a : Nat} {h : Hp} : ex (d) 64 13 [l0, l1, l2, some (.ref a), l4] st h = ex d 64 14 [l0, l1, l2, some (.ref a), l4] (.ref a :: st) h := (ex_of d64_13 (d) [l0, l1, l2, some (.ref a), l4] st h).trans (rfl)
theorem x64_13n {d : Nat} {l0 l1 l2 l4 : Option Value} {st : List Value} {h : Hp} : ex (d) 64 13 [l0, l1, l2, some .null, l4] st h = ex d 64 14 [l0, l1, l2, some .null, l4] (.null :: st) h := (ex_of d64_13 (d) [l0, l1, l2, some .null, l4] st h).trans (rfl)
theorem x64_13q {d : Nat} {l0 l1 l2 l4 : Option Value} {st : List Value} {a : Option Nat} {h : Hp} : ex (d) 64 13 [l0, l1, l2, some (va_rf a), l4] st h = ex d 64 14 [l0, l1, l2, some (va_rf a), l4] (va_rf a :: st) h := (ex_of d64_13 (d) [l0, l1, l2, some (va_rf a), l4] st h).trans (by cases a <;> rfl)
theorem d64_14 : decode (mB 64) 14 = .ok (.ifnull 8, 3) := by decide +kernel
theorem x64_14n {d : Nat} {L : Lc} {st : List Value} {h : Hp} : ex (d) 64 14 L (.null :: st) h = ex d 64 22 L st h := (ex_of d64_14 (d) L (.null :: st) h).trans (rfl)
theorem x64_14 {d : Nat} {L : Lc} {st : List Value} {a : Nat} {h : Hp} : ex (d) 64 14 L (.ref a :: st) h = ex d 64 17 L st h := (ex_of d64_14 (d) L (.ref a :: st) h).trans (rfl)
theorem d64_17 : decode (mB 64) 17 = .ok (.aload 4, 2) := by decide +kernel
theorem x64_17 {d : Nat} {l0 l1 l2 l3 : Option Value} {st : List Value} {a : Nat} {h : Hp} : ex (d) 64 17 [l0, l1, l2, l3, some (.ref a)] st h = ex d 64 19 [l0, l1, l2, l3, some (.ref a)] (.ref a :: st) h := (ex_of d64_17 (d) [l0, l1, l2, l3, some (.ref a)] st h).trans (rfl)
theorem x64_17n {d : Nat} {l0 l1 l2 l3 : Option Value} {st : List Value} {h : Hp} : ex (d) 64 17 [l0, l1, l2, l3, some .null] st h = ex d 64 19 [l0, l1, l2, l3, some .null] (.null :: st) h := (ex_of d64_17 (d) [l0, l1, l2, l3, some .null] st h).trans (rfl)
theorem x64_17q {d : Nat} {l0 l1 l2 l3 : Option Value} {st : List Value} {a : Option Nat} {h : Hp} : ex (d) 64 17 [l0, l1, l2, l3, some (va_rf a)] st h = ex d 64 19 [l0, l1, l2, l3, some (va_rf a)] (va_rf a :: st) h := (ex_of d64_17 (d) [l0, l1, l2, l3, some (va_rf a)] st h).trans (by cases a <;> rfl)
theorem d64_19 : decode (mB 64) 19 = .ok (.ifnonnull 10, 3) := by decide +kernel
theorem x64_19n {d : Nat} {L : Lc} {st : List Value} {h : Hp} : ex (d) 64 19 L (.null :: st) h = ex d 64 22 L st h := (ex_of d64_19 (d) L (.null :: st) h).trans (rfl)
theorem x64_19 {d : Nat} {L : Lc} {st : List Value} {a : Nat} {h : Hp} : ex (d) 64 19 L (.ref a :: st) h = ex d 64 29 L st h := (ex_of d64_19 (d) L (.ref a :: st) h).trans (rfl)
theorem d64_22 : decode (mB 64) 22 = .ok (.aload_n 0, 1) := by decide +kernel
theorem x64_22 {d : Nat} {l1 l2 l3 l4 : Option Value} {st : List Value} {a : Nat} {h : Hp} : ex (d) 64 22 [some (.ref a), l1, l2, l3, l4] st h = ex d 64 23 [some (.ref a), l1, l2, l3, l4] (.ref a :: st) h := (ex_of d64_22 (d) [some (.ref a), l1, l2, l3, l4] st h).trans (rfl)
theorem d64_23 : decode (mB 64) 23 = .ok (.bipush 10, 2) := by decide +kernel
theorem x64_23 {d : Nat} {L : Lc} {st : List Value} {h : Hp} : ex (d) 64 23 L st h = ex d 64 25 L (.int (nI 10) :: st) h := (ex_of d64_23 (d) L st h).trans (rfl)
theorem d64_25 : decode (mB 64) 25 = .ok (.invokevirtual 57, 3) := by decide +kernel
theorem x64_25 {d : Nat} {L : Lc} {a : Nat} {v0 : Int32} {h : Hp} (ht : (h.2.1 a).1 = 10) : ex (d + 1) 64 25 L (.int v0 :: .ref a :: []) h = bnd (ex d 84 0 [some (.ref a), some (.int v0)] [] h) (fun v h' => ex (d + 1) 64 28 L (v.toList ++ []) h') := (ex_of d64_25 (d + 1) L (.int v0 :: .ref a :: []) h).trans (fin_vi (mi := 64) i10_57 ht rfl rfl (by simp [cat1_i, cat1_r]) (by simp) (Nat.le_of_ble_eq_true rfl))
theorem d64_28 : decode (mB 64) 28 = .ok (.ireturn, 1) := by decide +kernel
theorem x64_28 {d : Nat} {L : Lc} {x : Int32} {h : Hp} : ex (d) 64 28 L [.int x] h = some (some (.int x), h) := (ex_of d64_28 (d) L [.int x] h).trans (rfl)
theorem d64_29 : decode (mB 64) 29 = .ok (.aload 4, 2) := by decide +kernel
theorem x64_29 {d : Nat} {l0 l1 l2 l3 : Option Value} {st : List Value} {a : Nat} {h : Hp} : ex (d) 64 29 [l0, l1, l2, l3, some (.ref a)] st h = ex d 64 31 [l0, l1, l2, l3, some (.ref a)] (.ref a :: st) h := (ex_of d64_29 (d) [l0, l1, l2, l3, some (.ref a)] st h).trans (rfl)
theorem x64_29n {d : Nat} {l0 l1 l2 l3 : Option Value} {st : List Value} {h : Hp} : ex (d) 64 29 [l0, l1, l2, l3, some .null] st h = ex d 64 31 [l0, l1, l2, l3, some .null] (.null :: st) h := (ex_of d64_29 (d) [l0, l1, l2, l3, some .null] st h).trans (rfl)
theorem x64_29q {d : Nat} {l0 l1 l2 l3 : Option Value} {st : List Value} {a : Option Nat} {h : Hp} : ex (d) 64 29 [l0, l1, l2, l3, some (va_rf a)] st h = ex d 64 31 [l0, l1, l2, l3, some (va_rf a)] (va_rf a :: st) h := (ex_of d64_29 (d) [l0, l1, l2, l3, some (va_rf a)] st h).trans (by cases a <;> rfl)
theorem d64_31 : decode (mB 64) 31 = .ok (.invokevirtual 205, 3) := by decide +kernel
theorem x64_31 {d : Nat} {L : Lc} {a : Nat} {h : Hp} (ht : isTh (h.2.1 a).1 = true) : ex (d + 1) 64 31 L (.ref a :: []) h = bnd (ex d 39 0 [some (.ref a)] [] h) (fun v h' => ex (d + 1) 64 34 L (v.toList ++ []) h') := (ex_of d64_31 (d + 1) L (.ref a :: []) h).trans (fin_viT (mi := 64) i10_205 ht (by decide +kernel) rfl (by simp [cat1_i, cat1_r]) (by simp) (Nat.le_of_ble_eq_true rfl))
theorem d64_34 : decode (mB 64) 34 = .ok (.ifCond .ne 9, 3) := by decide +kernel
theorem x64_34 {d : Nat} {L : Lc} {st : List Value} {x : Int32} {h : Hp} : ex (d) 64 34 L (.int x :: st) h = if ¬ x = 0 then ex d 64 43 L st h else ex d 64 37 L st h := (ex_of d64_34 (d) L (.int x :: st) h).trans (fin_brq (off := 9) (tgt := 43) rfl (by decide))
theorem d64_37 : decode (mB 64) 37 = .ok (.aload_n 0, 1) := by decide +kernel
theorem x64_37 {d : Nat} {l1 l2 l3 l4 : Option Value} {st : List Value} {a : Nat} {h : Hp} : ex (d) 64 37 [some (.ref a), l1, l2, l3, l4] st h = ex d 64 38 [some (.ref a), l1, l2, l3, l4] (.ref a :: st) h := (ex_of d64_37 (d) [some (.ref a), l1, l2, l3, l4] st h).trans (rfl)
theorem d64_38 : decode (mB 64) 38 = .ok (.iconst 4, 1) := by decide +kernel
theorem x64_38 {d : Nat} {L : Lc} {st : List Value} {h : Hp} : ex (d) 64 38 L st h = ex d 64 39 L (.int (nI 4) :: st) h := (ex_of d64_38 (d) L st h).trans (rfl)
theorem d64_39 : decode (mB 64) 39 = .ok (.invokevirtual 57, 3) := by decide +kernel
theorem x64_39 {d : Nat} {L : Lc} {a : Nat} {v0 : Int32} {h : Hp} (ht : (h.2.1 a).1 = 10) : ex (d + 1) 64 39 L (.int v0 :: .ref a :: []) h = bnd (ex d 84 0 [some (.ref a), some (.int v0)] [] h) (fun v h' => ex (d + 1) 64 42 L (v.toList ++ []) h') := (ex_of d64_39 (d + 1) L (.int v0 :: .ref a :: []) h).trans (fin_vi (mi := 64) i10_57 ht rfl rfl (by simp [cat1_i, cat1_r]) (by simp) (Nat.le_of_ble_eq_true rfl))
theorem d64_42 : decode (mB 64) 42 = .ok (.ireturn, 1) := by decide +kernel
theorem x64_42 {d : Nat} {L : Lc} {x : Int32} {h : Hp} : ex (d) 64 42 L [.int x] h = some (some (.int x), h) := (ex_of d64_42 (d) L [.int x] h).trans (rfl)
theorem d64_43 : decode (mB 64) 43 = .ok (.aload_n 3, 1) := by decide +kernel
theorem x64_43 {d : Nat} {l0 l1 l2 l4 : Option Value} {st : List Value} {a : Nat} {h : Hp} : ex (d) 64 43 [l0, l1, l2, some (.ref a), l4] st h = ex d 64 44 [l0, l1, l2, some (.ref a), l4] (.ref a :: st) h := (ex_of d64_43 (d) [l0, l1, l2, some (.ref a), l4] st h).trans (rfl)
theorem x64_43n {d : Nat} {l0 l1 l2 l4 : Option Value} {st : List Value} {h : Hp} : ex (d) 64 43 [l0, l1, l2, some .null, l4] st h = ex d 64 44 [l0, l1, l2, some .null, l4] (.null :: st) h := (ex_of d64_43 (d) [l0, l1, l2, some .null, l4] st h).trans (rfl)
theorem x64_43q {d : Nat} {l0 l1 l2 l4 : Option Value} {st : List Value} {a : Option Nat} {h : Hp} : ex (d) 64 43 [l0, l1, l2, some (va_rf a), l4] st h = ex d 64 44 [l0, l1, l2, some (va_rf a), l4] (va_rf a :: st) h := (ex_of d64_43 (d) [l0, l1, l2, some (va_rf a), l4] st h).trans (by cases a <;> rfl)
theorem d64_44 : decode (mB 64) 44 = .ok (.aload 4, 2) := by decide +kernel
theorem x64_44 {d : Nat} {l0 l1 l2 l3 : Option Value} {st : List Value} {a : Nat} {h : Hp} : ex (d) 64 44 [l0, l1, l2, l3, some (.ref a)] st h = ex d 64 46 [l0, l1, l2, l3, some (.ref a)] (.ref a :: st) h := (ex_of d64_44 (d) [l0, l1, l2, l3, some (.ref a)] st h).trans (rfl)
theorem x64_44n {d : Nat} {l0 l1 l2 l3 : Option Value} {st : List Value} {h : Hp} : ex (d) 64 44 [l0, l1, l2, l3, some .null] st h = ex d 64 46 [l0, l1, l2, l3, some .null] (.null :: st) h := (ex_of d64_44 (d) [l0, l1, l2, l3, some .null] st h).trans (rfl)
theorem x64_44q {d : Nat} {l0 l1 l2 l3 : Option Value} {st : List Value} {a : Option Nat} {h : Hp} : ex (d) 64 44 [l0, l1, l2, l3, some (va_rf a)] st h = ex d 64 46 [l0, l1, l2, l3, some (va_rf a)] (va_rf a :: st) h := (ex_of d64_44 (d) [l0, l1, l2, l3, some (va_rf a)] st h).trans (by cases a <;> rfl)
theorem d64_46 : decode (mB 64) 46 = .ok (.invokestatic 208, 3) := by decide +kernel
theorem x64_46 {d : Nat} {L : Lc}  {v0 : Value} {v1 : Value} {h : Hp} (hv0 : isR v0 = true) (hv1 : isR v1 = true) : ex (d + 1) 64 46 L (v1 :: v0 :: []) h = bnd (ex d 116 0 [some v0, some v1, none, none, none, none, none] [] h) (fun v h' => ex (d + 1) 64 49 L (v.toList ++ []) h') := (ex_of d64_46 (d + 1) L (v1 :: v0 :: []) h).trans (fin_st (mi := 64) i10_208 (Or.inl rfl) (by simp) (by simp [cat1_i, cat1_r, isR_cat1 hv0, isR_cat1 hv1]) (by simp) (Nat.le_of_ble_eq_true rfl))
theorem d64_49 : decode (mB 64) 49 = .ok (.iconst 1, 1) := by decide +kernel
theorem x64_49 {d : Nat} {L : Lc} {st : List Value} {h : Hp} : ex (d) 64 49 L st h = ex d 64 50 L (.int (nI 1) :: st) h := (ex_of d64_49 (d) L st h).trans (rfl)
theorem d64_50 : decode (mB 64) 50 = .ok (.if_icmp .ne 16, 3) := by decide +kernel
theorem x64_50 {d : Nat} {L : Lc} {st : List Value} {x y : Int32} {h : Hp} : ex (d) 64 50 L (.int y :: .int x :: st) h = if ¬ x = y then ex d 64 66 L st h else ex d 64 53 L st h := (ex_of d64_50 (d) L (.int y :: .int x :: st) h).trans (fin_brq (off := 16) (tgt := 66) rfl (by decide))
theorem d64_53 : decode (mB 64) 53 = .ok (.aload_n 0, 1) := by decide +kernel
theorem x64_53 {d : Nat} {l1 l2 l3 l4 : Option Value} {st : List Value} {a : Nat} {h : Hp} : ex (d) 64 53 [some (.ref a), l1, l2, l3, l4] st h = ex d 64 54 [some (.ref a), l1, l2, l3, l4] (.ref a :: st) h := (ex_of d64_53 (d) [some (.ref a), l1, l2, l3, l4] st h).trans (rfl)
theorem d64_54 : decode (mB 64) 54 = .ok (.aload_n 3, 1) := by decide +kernel
theorem x64_54 {d : Nat} {l0 l1 l2 l4 : Option Value} {st : List Value} {a : Nat} {h : Hp} : ex (d) 64 54 [l0, l1, l2, some (.ref a), l4] st h = ex d 64 55 [l0, l1, l2, some (.ref a), l4] (.ref a :: st) h := (ex_of d64_54 (d) [l0, l1, l2, some (.ref a), l4] st h).trans (rfl)
theorem x64_54n {d : Nat} {l0 l1 l2 l4 : Option Value} {st : List Value} {h : Hp} : ex (d) 64 54 [l0, l1, l2, some .null, l4] st h = ex d 64 55 [l0, l1, l2, some .null, l4] (.null :: st) h := (ex_of d64_54 (d) [l0, l1, l2, some .null, l4] st h).trans (rfl)
theorem x64_54q {d : Nat} {l0 l1 l2 l4 : Option Value} {st : List Value} {a : Option Nat} {h : Hp} : ex (d) 64 54 [l0, l1, l2, some (va_rf a), l4] st h = ex d 64 55 [l0, l1, l2, some (va_rf a), l4] (va_rf a :: st) h := (ex_of d64_54 (d) [l0, l1, l2, some (va_rf a), l4] st h).trans (by cases a <;> rfl)
theorem d64_55 : decode (mB 64) 55 = .ok (.aload 4, 2) := by decide +kernel
theorem x64_55 {d : Nat} {l0 l1 l2 l3 : Option Value} {st : List Value} {a : Nat} {h : Hp} : ex (d) 64 55 [l0, l1, l2, l3, some (.ref a)] st h = ex d 64 57 [l0, l1, l2, l3, some (.ref a)] (.ref a :: st) h := (ex_of d64_55 (d) [l0, l1, l2, l3, some (.ref a)] st h).trans (rfl)
theorem x64_55n {d : Nat} {l0 l1 l2 l3 : Option Value} {st : List Value} {h : Hp} : ex (d) 64 55 [l0, l1, l2, l3, some .null] st h = ex d 64 57 [l0, l1, l2, l3, some .null] (.null :: st) h := (ex_of d64_55 (d) [l0, l1, l2, l3, some .null] st h).trans (rfl)
theorem x64_55q {d : Nat} {l0 l1 l2 l3 : Option Value} {st : List Value} {a : Option Nat} {h : Hp} : ex (d) 64 55 [l0, l1, l2, l3, some (va_rf a)] st h = ex d 64 57 [l0, l1, l2, l3, some (va_rf a)] (va_rf a :: st) h := (ex_of d64_55 (d) [l0, l1, l2, l3, some (va_rf a)] st h).trans (by cases a <;> rfl)
theorem d64_57 : decode (mB 64) 57 = .ok (.invokestatic 212, 3) := by decide +kernel
theorem x64_57 {d : Nat} {L : Lc} {s0 : Value}  {v0 : Value} {v1 : Value} {h : Hp} (hv0 : isR v0 = true) (hv1 : isR v1 = true) : ex (d + 1) 64 57 L (v1 :: v0 :: [s0]) h = bnd (ex d 122 0 [some v0, some v1, none, none, none, none] [] h) (fun v h' => ex (d + 1) 64 60 L (v.toList ++ [s0]) h') := (ex_of d64_57 (d + 1) L (v1 :: v0 :: [s0]) h).trans (fin_st (mi := 64) i10_212 (Or.inl rfl) (by simp) (by simp [cat1_i, cat1_r, isR_cat1 hv0, isR_cat1 hv1]) (by simp) (Nat.le_of_ble_eq_true rfl))
theorem d64_60 : decode (mB 64) 60 = .ok (.invokevirtual 64, 3) := by decide +kernel
theorem x64_60 {d : Nat} {L : Lc} {a : Nat} {v0 : Int32} {h : Hp} (ht : (h.2.1 a).1 = 10) : ex (d + 1) 64 60 L (.int v0 :: .ref a :: []) h = bnd (ex d 85 0 [some (.ref a), some (.int v0)] [] h) (fun v h' => ex (d + 1) 64 63 L (v.toList ++ []) h') := (ex_of d64_60 (d + 1) L (.int v0 :: .ref a :: []) h).trans (fin_vi (mi := 64) i10_64 ht rfl rfl (by simp [cat1_i, cat1_r]) (by simp) (Nat.le_of_ble_eq_true rfl))
theorem d64_63 : decode (mB 64) 63 = .ok (.goto 9, 3) := by decide +kernel
theorem x64_63 {d : Nat} {L : Lc} {st : List Value} {h : Hp} : ex (d) 64 63 L st h = ex d 64 72 L st h := (ex_of d64_63 (d) L st h).trans (rfl)
theorem d64_66 : decode (mB 64) 66 = .ok (.aload_n 0, 1) := by decide +kernel
theorem x64_66 {d : Nat} {l1 l2 l3 l4 : Option Value} {st : List Value} {a : Nat} {h : Hp} : ex (d) 64 66 [some (.ref a), l1, l2, l3, l4] st h = ex d 64 67 [some (.ref a), l1, l2, l3, l4] (.ref a :: st) h := (ex_of d64_66 (d) [some (.ref a), l1, l2, l3, l4] st h).trans (rfl)
theorem d64_67 : decode (mB 64) 67 = .ok (.bipush 12, 2) := by decide +kernel
theorem x64_67 {d : Nat} {L : Lc} {st : List Value} {h : Hp} : ex (d) 64 67 L st h = ex d 64 69 L (.int (nI 12) :: st) h := (ex_of d64_67 (d) L st h).trans (rfl)
theorem d64_69 : decode (mB 64) 69 = .ok (.invokevirtual 57, 3) := by decide +kernel
theorem x64_69 {d : Nat} {L : Lc} {a : Nat} {v0 : Int32} {h : Hp} (ht : (h.2.1 a).1 = 10) : ex (d + 1) 64 69 L (.int v0 :: .ref a :: []) h = bnd (ex d 84 0 [some (.ref a), some (.int v0)] [] h) (fun v h' => ex (d + 1) 64 72 L (v.toList ++ []) h') := (ex_of d64_69 (d + 1) L (.int v0 :: .ref a :: []) h).trans (fin_vi (mi := 64) i10_57 ht rfl rfl (by simp [cat1_i, cat1_r]) (by simp) (Nat.le_of_ble_eq_true rfl))
theorem d64_72 : decode (mB 64) 72 = .ok (.ireturn, 1) := by decide +kernel
theorem x64_72 {d : Nat} {L : Lc} {x : Int32} {h : Hp} : ex (d) 64 72 L [.int x] h = some (some (.int x), h) := (ex_of d64_72 (d) L [.int x] h).trans (rfl)
theorem d65_0 : decode (mB 65) 0 = .ok (.aload_n 0, 1) := by decide +kernel
theorem x65_0 {d : Nat} {l1 l2 : Option Value} {st : List Value} {a : Nat} {h : Hp} : ex (d) 65 0 [some (.ref a), l1, l2] st h = ex d 65 1 [some (.ref a), l1, l2] (.ref a :: st) h := (ex_of d65_0 (d) [some (.ref a), l1, l2] st h).trans (rfl)
theorem d65_1 : decode (mB 65) 1 = .ok (.iload_n 1, 1) := by decide +kernel
theorem x65_1 {d : Nat} {l0 l2 : Option Value} {st : List Value} {x : Int32} {h : Hp} : ex (d) 65 1 [l0, some (.int x), l2] st h = ex d 65 2 [l0, some (.int x), l2] (.int x :: st) h := (ex_of d65_1 (d) [l0, some (.int x), l2] st h).trans (rfl)
theorem d65_2 : decode (mB 65) 2 = .ok (.invokevirtual 111, 3) := by decide +kernel
theorem x65_2 {d : Nat} {L : Lc} {a : Nat} {v0 : Int32} {h : Hp} (ht : (h.2.1 a).1 = 10) : ex (d + 1) 65 2 L (.int v0 :: .ref a :: []) h = bnd (ex d 86 0 [some (.ref a), some (.int v0)] [] h) (fun v h' => ex (d + 1) 65 5 L (v.toList ++ []) h') := (ex_of d65_2 (d + 1) L (.int v0 :: .ref a :: []) h).trans (fin_vi (mi := 65) i10_111 ht rfl rfl (by simp [cat1_i, cat1_r]) (by simp) (Nat.le_of_ble_eq_true rfl))
theorem d65_5 : decode (mB 65) 5 = .ok (.astore_n 2, 1) := by decide +kernel
theorem x65_5 {d : Nat} {l0 l1 l2 : Option Value} {st : List Value} {a : Nat} {h : Hp} : ex (d) 65 5 [l0, l1, l2] (.ref a :: st) h = ex d 65 6 [l0, clr l1, some (.ref a)] st h := (ex_of d65_5 (d) [l0, l1, l2] (.ref a :: st) h).trans (rfl)
theorem x65_5n {d : Nat} {l0 l1 l2 : Option Value} {st : List Value} {h : Hp} : ex (d) 65 5 [l0, l1, l2] (.null :: st) h = ex d 65 6 [l0, clr l1, some .null] st h := (ex_of d65_5 (d) [l0, l1, l2] (.null :: st) h).trans (rfl)
theorem x65_5q {d : Nat} {l0 l1 l2 : Option Value} {st : List Value} {a : Option Nat} {h : Hp} : ex (d) 65 5 [l0, l1, l2] (va_rf a :: st) h = ex d 65 6 [l0, clr l1, some (va_rf a)] st h := (ex_of d65_5 (d) [l0, l1, l2] (va_rf a :: st) h).trans (by cases a <;> rfl)
theorem d65_6 : decode (mB 65) 6 = .ok (.aload_n 2, 1) := by decide +kernel
theorem x65_6 {d : Nat} {l0 l1 : Option Value} {st : List Value} {a : Nat} {h : Hp} : ex (d) 65 6 [l0, l1, some (.ref a)] st h = ex d 65 7 [l0, l1, some (.ref a)] (.ref a :: st) h := (ex_of d65_6 (d) [l0, l1, some (.ref a)] st h).trans (rfl)
theorem x65_6n {d : Nat} {l0 l1 : Option Value} {st : List Value} {h : Hp} : ex (d) 65 6 [l0, l1, some .null] st h = ex d 65 7 [l0, l1, some .null] (.null :: st) h := (ex_of d65_6 (d) [l0, l1, some .null] st h).trans (rfl)
theorem x65_6q {d : Nat} {l0 l1 : Option Value} {st : List Value} {a : Option Nat} {h : Hp} : ex (d) 65 6 [l0, l1, some (va_rf a)] st h = ex d 65 7 [l0, l1, some (va_rf a)] (va_rf a :: st) h := (ex_of d65_6 (d) [l0, l1, some (va_rf a)] st h).trans (by cases a <;> rfl)
theorem d65_7 : decode (mB 65) 7 = .ok (.ifnonnull 10, 3) := by decide +kernel
theorem x65_7n {d : Nat} {L : Lc} {st : List Value} {h : Hp} : ex (d) 65 7 L (.null :: st) h = ex d 65 10 L st h := (ex_of d65_7 (d) L (.null :: st) h).trans (rfl)
theorem x65_7 {d : Nat} {L : Lc} {st : List Value} {a : Nat} {h : Hp} : ex (d) 65 7 L (.ref a :: st) h = ex d 65 17 L st h := (ex_of d65_7 (d) L (.ref a :: st) h).trans (rfl)
theorem d65_10 : decode (mB 65) 10 = .ok (.aload_n 0, 1) := by decide +kernel
theorem x65_10 {d : Nat} {l1 l2 : Option Value} {st : List Value} {a : Nat} {h : Hp} : ex (d) 65 10 [some (.ref a), l1, l2] st h = ex d 65 11 [some (.ref a), l1, l2] (.ref a :: st) h := (ex_of d65_10 (d) [some (.ref a), l1, l2] st h).trans (rfl)
theorem d65_11 : decode (mB 65) 11 = .ok (.bipush 10, 2) := by decide +kernel
theorem x65_11 {d : Nat} {L : Lc} {st : List Value} {h : Hp} : ex (d) 65 11 L st h = ex d 65 13 L (.int (nI 10) :: st) h := (ex_of d65_11 (d) L st h).trans (rfl)
theorem d65_13 : decode (mB 65) 13 = .ok (.invokevirtual 57, 3) := by decide +kernel
theorem x65_13 {d : Nat} {L : Lc} {a : Nat} {v0 : Int32} {h : Hp} (ht : (h.2.1 a).1 = 10) : ex (d + 1) 65 13 L (.int v0 :: .ref a :: []) h = bnd (ex d 84 0 [some (.ref a), some (.int v0)] [] h) (fun v h' => ex (d + 1) 65 16 L (v.toList ++ []) h') := (ex_of d65_13 (d + 1) L (.int v0 :: .ref a :: []) h).trans (fin_vi (mi := 65) i10_57 ht rfl rfl (by simp [cat1_i, cat1_r]) (by simp) (Nat.le_of_ble_eq_true rfl))
theorem d65_16 : decode (mB 65) 16 = .ok (.ireturn, 1) := by decide +kernel
theorem x65_16 {d : Nat} {L : Lc} {x : Int32} {h : Hp} : ex (d) 65 16 L [.int x] h = some (some (.int x), h) := (ex_of d65_16 (d) L [.int x] h).trans (rfl)
theorem d65_17 : decode (mB 65) 17 = .ok (.aload_n 2, 1) := by decide +kernel
theorem x65_17 {d : Nat} {l0 l1 : Option Value} {st : List Value} {a : Nat} {h : Hp} : ex (d) 65 17 [l0, l1, some (.ref a)] st h = ex d 65 18 [l0, l1, some (.ref a)] (.ref a :: st) h := (ex_of d65_17 (d) [l0, l1, some (.ref a)] st h).trans (rfl)
theorem x65_17n {d : Nat} {l0 l1 : Option Value} {st : List Value} {h : Hp} : ex (d) 65 17 [l0, l1, some .null] st h = ex d 65 18 [l0, l1, some .null] (.null :: st) h := (ex_of d65_17 (d) [l0, l1, some .null] st h).trans (rfl)
theorem x65_17q {d : Nat} {l0 l1 : Option Value} {st : List Value} {a : Option Nat} {h : Hp} : ex (d) 65 17 [l0, l1, some (va_rf a)] st h = ex d 65 18 [l0, l1, some (va_rf a)] (va_rf a :: st) h := (ex_of d65_17 (d) [l0, l1, some (va_rf a)] st h).trans (by cases a <;> rfl)
theorem d65_18 : decode (mB 65) 18 = .ok (.invokevirtual 205, 3) := by decide +kernel
theorem x65_18 {d : Nat} {L : Lc} {a : Nat} {h : Hp} (ht : isTh (h.2.1 a).1 = true) : ex (d + 1) 65 18 L (.ref a :: []) h = bnd (ex d 39 0 [some (.ref a)] [] h) (fun v h' => ex (d + 1) 65 21 L (v.toList ++ []) h') := (ex_of d65_18 (d + 1) L (.ref a :: []) h).trans (fin_viT (mi := 65) i10_205 ht (by decide +kernel) rfl (by simp [cat1_i, cat1_r]) (by simp) (Nat.le_of_ble_eq_true rfl))
theorem d65_21 : decode (mB 65) 21 = .ok (.ifCond .eq 14, 3) := by decide +kernel
theorem x65_21 {d : Nat} {L : Lc} {st : List Value} {x : Int32} {h : Hp} : ex (d) 65 21 L (.int x :: st) h = if x = 0 then ex d 65 35 L st h else ex d 65 24 L st h := (ex_of d65_21 (d) L (.int x :: st) h).trans (fin_brq (off := 14) (tgt := 35) rfl (by decide))
theorem d65_24 : decode (mB 65) 24 = .ok (.aload_n 0, 1) := by decide +kernel
theorem x65_24 {d : Nat} {l1 l2 : Option Value} {st : List Value} {a : Nat} {h : Hp} : ex (d) 65 24 [some (.ref a), l1, l2] st h = ex d 65 25 [some (.ref a), l1, l2] (.ref a :: st) h := (ex_of d65_24 (d) [some (.ref a), l1, l2] st h).trans (rfl)
theorem d65_25 : decode (mB 65) 25 = .ok (.aload_n 2, 1) := by decide +kernel
theorem x65_25 {d : Nat} {l0 l1 : Option Value} {st : List Value} {a : Nat} {h : Hp} : ex (d) 65 25 [l0, l1, some (.ref a)] st h = ex d 65 26 [l0, l1, some (.ref a)] (.ref a :: st) h := (ex_of d65_25 (d) [l0, l1, some (.ref a)] st h).trans (rfl)
theorem x65_25n {d : Nat} {l0 l1 : Option Value} {st : List Value} {h : Hp} : ex (d) 65 25 [l0, l1, some .null] st h = ex d 65 26 [l0, l1, some .null] (.null :: st) h := (ex_of d65_25 (d) [l0, l1, some .null] st h).trans (rfl)
theorem x65_25q {d : Nat} {l0 l1 : Option Value} {st : List Value} {a : Option Nat} {h : Hp} : ex (d) 65 25 [l0, l1, some (va_rf a)] st h = ex d 65 26 [l0, l1, some (va_rf a)] (va_rf a :: st) h := (ex_of d65_25 (d) [l0, l1, some (va_rf a)] st h).trans (by cases a <;> rfl)
theorem d65_26 : decode (mB 65) 26 = .ok (.invokestatic 215, 3) := by decide +kernel
theorem x65_26 {d : Nat} {L : Lc} {s0 : Value}  {v0 : Value} {h : Hp} (hv0 : isR v0 = true) : ex (d + 1) 65 26 L (v0 :: [s0]) h = bnd (ex d 125 0 [some v0, none, none, none] [] h) (fun v h' => ex (d + 1) 65 29 L (v.toList ++ [s0]) h') := (ex_of d65_26 (d + 1) L (v0 :: [s0]) h).trans (fin_st (mi := 65) i10_215 (Or.inl rfl) (by simp) (by simp [cat1_i, cat1_r, isR_cat1 hv0]) (by simp) (Nat.le_of_ble_eq_true rfl))
theorem d65_29 : decode (mB 65) 29 = .ok (.invokevirtual 64, 3) := by decide +kernel
theorem x65_29 {d : Nat} {L : Lc} {a : Nat} {v0 : Int32} {h : Hp} (ht : (h.2.1 a).1 = 10) : ex (d + 1) 65 29 L (.int v0 :: .ref a :: []) h = bnd (ex d 85 0 [some (.ref a), some (.int v0)] [] h) (fun v h' => ex (d + 1) 65 32 L (v.toList ++ []) h') := (ex_of d65_29 (d + 1) L (.int v0 :: .ref a :: []) h).trans (fin_vi (mi := 65) i10_64 ht rfl rfl (by simp [cat1_i, cat1_r]) (by simp) (Nat.le_of_ble_eq_true rfl))
theorem d65_32 : decode (mB 65) 32 = .ok (.goto 8, 3) := by decide +kernel
theorem x65_32 {d : Nat} {L : Lc} {st : List Value} {h : Hp} : ex (d) 65 32 L st h = ex d 65 40 L st h := (ex_of d65_32 (d) L st h).trans (rfl)
theorem d65_35 : decode (mB 65) 35 = .ok (.aload_n 0, 1) := by decide +kernel
theorem x65_35 {d : Nat} {l1 l2 : Option Value} {st : List Value} {a : Nat} {h : Hp} : ex (d) 65 35 [some (.ref a), l1, l2] st h = ex d 65 36 [some (.ref a), l1, l2] (.ref a :: st) h := (ex_of d65_35 (d) [some (.ref a), l1, l2] st h).trans (rfl)
theorem d65_36 : decode (mB 65) 36 = .ok (.iconst 4, 1) := by decide +kernel
theorem x65_36 {d : Nat} {L : Lc} {st : List Value} {h : Hp} : ex (d) 65 36 L st h = ex d 65 37 L (.int (nI 4) :: st) h := (ex_of d65_36 (d) L st h).trans (rfl)
theorem d65_37 : decode (mB 65) 37 = .ok (.invokevirtual 57, 3) := by decide +kernel
theorem x65_37 {d : Nat} {L : Lc} {a : Nat} {v0 : Int32} {h : Hp} (ht : (h.2.1 a).1 = 10) : ex (d + 1) 65 37 L (.int v0 :: .ref a :: []) h = bnd (ex d 84 0 [some (.ref a), some (.int v0)] [] h) (fun v h' => ex (d + 1) 65 40 L (v.toList ++ []) h') := (ex_of d65_37 (d + 1) L (.int v0 :: .ref a :: []) h).trans (fin_vi (mi := 65) i10_57 ht rfl rfl (by simp [cat1_i, cat1_r]) (by simp) (Nat.le_of_ble_eq_true rfl))
theorem d65_40 : decode (mB 65) 40 = .ok (.ireturn, 1) := by decide +kernel
theorem x65_40 {d : Nat} {L : Lc} {x : Int32} {h : Hp} : ex (d) 65 40 L [.int x] h = some (some (.int x), h) := (ex_of d65_40 (d) L [.int x] h).trans (rfl)
theorem d66_0 : decode (mB 66) 0 = .ok (.aload_n 0, 1) := by decide +kernel
theorem x66_0 {d : Nat} {l1 l2 : Option Value} {st : List Value} {a : Nat} {h : Hp} : ex (d) 66 0 [some (.ref a), l1, l2] st h = ex d 66 1 [some (.ref a), l1, l2] (.ref a :: st) h := (ex_of d66_0 (d) [some (.ref a), l1, l2] st h).trans (rfl)
theorem d66_1 : decode (mB 66) 1 = .ok (.iload_n 1, 1) := by decide +kernel
theorem x66_1 {d : Nat} {l0 l2 : Option Value} {st : List Value} {x : Int32} {h : Hp} : ex (d) 66 1 [l0, some (.int x), l2] st h = ex d 66 2 [l0, some (.int x), l2] (.int x :: st) h := (ex_of d66_1 (d) [l0, some (.int x), l2] st h).trans (rfl)
theorem d66_2 : decode (mB 66) 2 = .ok (.invokevirtual 111, 3) := by decide +kernel
theorem x66_2 {d : Nat} {L : Lc} {a : Nat} {v0 : Int32} {h : Hp} (ht : (h.2.1 a).1 = 10) : ex (d + 1) 66 2 L (.int v0 :: .ref a :: []) h = bnd (ex d 86 0 [some (.ref a), some (.int v0)] [] h) (fun v h' => ex (d + 1) 66 5 L (v.toList ++ []) h') := (ex_of d66_2 (d + 1) L (.int v0 :: .ref a :: []) h).trans (fin_vi (mi := 66) i10_111 ht rfl rfl (by simp [cat1_i, cat1_r]) (by simp) (Nat.le_of_ble_eq_true rfl))
theorem d66_5 : decode (mB 66) 5 = .ok (.astore_n 2, 1) := by decide +kernel
theorem x66_5 {d : Nat} {l0 l1 l2 : Option Value} {st : List Value} {a : Nat} {h : Hp} : ex (d) 66 5 [l0, l1, l2] (.ref a :: st) h = ex d 66 6 [l0, clr l1, some (.ref a)] st h := (ex_of d66_5 (d) [l0, l1, l2] (.ref a :: st) h).trans (rfl)
theorem x66_5n {d : Nat} {l0 l1 l2 : Option Value} {st : List Value} {h : Hp} : ex (d) 66 5 [l0, l1, l2] (.null :: st) h = ex d 66 6 [l0, clr l1, some .null] st h := (ex_of d66_5 (d) [l0, l1, l2] (.null :: st) h).trans (rfl)
theorem x66_5q {d : Nat} {l0 l1 l2 : Option Value} {st : List Value} {a : Option Nat} {h : Hp} : ex (d) 66 5 [l0, l1, l2] (va_rf a :: st) h = ex d 66 6 [l0, clr l1, some (va_rf a)] st h := (ex_of d66_5 (d) [l0, l1, l2] (va_rf a :: st) h).trans (by cases a <;> rfl)
theorem d66_6 : decode (mB 66) 6 = .ok (.aload_n 2, 1) := by decide +kernel
theorem x66_6 {d : Nat} {l0 l1 : Option Value} {st : List Value} {a : Nat} {h : Hp} : ex (d) 66 6 [l0, l1, some (.ref a)] st h = ex d 66 7 [l0, l1, some (.ref a)] (.ref a :: st) h := (ex_of d66_6 (d) [l0, l1, some (.ref a)] st h).trans (rfl)
theorem x66_6n {d : Nat} {l0 l1 : Option Value} {st : List Value} {h : Hp} : ex (d) 66 6 [l0, l1, some .null] st h = ex d 66 7 [l0, l1, some .null] (.null :: st) h := (ex_of d66_6 (d) [l0, l1, some .null] st h).trans (rfl)
theorem x66_6q {d : Nat} {l0 l1 : Option Value} {st : List Value} {a : Option Nat} {h : Hp} : ex (d) 66 6 [l0, l1, some (va_rf a)] st h = ex d 66 7 [l0, l1, some (va_rf a)] (va_rf a :: st) h := (ex_of d66_6 (d) [l0, l1, some (va_rf a)] st h).trans (by cases a <;> rfl)
theorem d66_7 : decode (mB 66) 7 = .ok (.ifnonnull 10, 3) := by decide +kernel
theorem x66_7n {d : Nat} {L : Lc} {st : List Value} {h : Hp} : ex (d) 66 7 L (.null :: st) h = ex d 66 10 L st h := (ex_of d66_7 (d) L (.null :: st) h).trans (rfl)
theorem x66_7 {d : Nat} {L : Lc} {st : List Value} {a : Nat} {h : Hp} : ex (d) 66 7 L (.ref a :: st) h = ex d 66 17 L st h := (ex_of d66_7 (d) L (.ref a :: st) h).trans (rfl)
theorem d66_10 : decode (mB 66) 10 = .ok (.aload_n 0, 1) := by decide +kernel
theorem x66_10 {d : Nat} {l1 l2 : Option Value} {st : List Value} {a : Nat} {h : Hp} : ex (d) 66 10 [some (.ref a), l1, l2] st h = ex d 66 11 [some (.ref a), l1, l2] (.ref a :: st) h := (ex_of d66_10 (d) [some (.ref a), l1, l2] st h).trans (rfl)
theorem d66_11 : decode (mB 66) 11 = .ok (.bipush 10, 2) := by decide +kernel
theorem x66_11 {d : Nat} {L : Lc} {st : List Value} {h : Hp} : ex (d) 66 11 L st h = ex d 66 13 L (.int (nI 10) :: st) h := (ex_of d66_11 (d) L st h).trans (rfl)
theorem d66_13 : decode (mB 66) 13 = .ok (.invokevirtual 57, 3) := by decide +kernel
theorem x66_13 {d : Nat} {L : Lc} {a : Nat} {v0 : Int32} {h : Hp} (ht : (h.2.1 a).1 = 10) : ex (d + 1) 66 13 L (.int v0 :: .ref a :: []) h = bnd (ex d 84 0 [some (.ref a), some (.int v0)] [] h) (fun v h' => ex (d + 1) 66 16 L (v.toList ++ []) h') := (ex_of d66_13 (d + 1) L (.int v0 :: .ref a :: []) h).trans (fin_vi (mi := 66) i10_57 ht rfl rfl (by simp [cat1_i, cat1_r]) (by simp) (Nat.le_of_ble_eq_true rfl))
theorem d66_16 : decode (mB 66) 16 = .ok (.ireturn, 1) := by decide +kernel
theorem x66_16 {d : Nat} {L : Lc} {x : Int32} {h : Hp} : ex (d) 66 16 L [.int x] h = some (some (.int x), h) := (ex_of d66_16 (d) L [.int x] h).trans (rfl)
theorem d66_17 : decode (mB 66) 17 = .ok (.aload_n 2, 1) := by decide +kernel
theorem x66_17 {d : Nat} {l0 l1 : Option Value} {st : List Value} {a : Nat} {h : Hp} : ex (d) 66 17 [l0, l1, some (.ref a)] st h = ex d 66 18 [l0, l1, some (.ref a)] (.ref a :: st) h := (ex_of d66_17 (d) [l0, l1, some (.ref a)] st h).trans (rfl)
theorem x66_17n {d : Nat} {l0 l1 : Option Value} {st : List Value} {h : Hp} : ex (d) 66 17 [l0, l1, some .null] st h = ex d 66 18 [l0, l1, some .null] (.null :: st) h := (ex_of d66_17 (d) [l0, l1, some .null] st h).trans (rfl)
theorem x66_17q {d : Nat} {l0 l1 : Option Value} {st : List Value} {a : Option Nat} {h : Hp} : ex (d) 66 17 [l0, l1, some (va_rf a)] st h = ex d 66 18 [l0, l1, some (va_rf a)] (va_rf a :: st) h := (ex_of d66_17 (d) [l0, l1, some (va_rf a)] st h).trans (by cases a <;> rfl)
theorem d66_18 : decode (mB 66) 18 = .ok (.invokevirtual 205, 3) := by decide +kernel
theorem x66_18 {d : Nat} {L : Lc} {a : Nat} {h : Hp} (ht : isTh (h.2.1 a).1 = true) : ex (d + 1) 66 18 L (.ref a :: []) h = bnd (ex d 39 0 [some (.ref a)] [] h) (fun v h' => ex (d + 1) 66 21 L (v.toList ++ []) h') := (ex_of d66_18 (d + 1) L (.ref a :: []) h).trans (fin_viT (mi := 66) i10_205 ht (by decide +kernel) rfl (by simp [cat1_i, cat1_r]) (by simp) (Nat.le_of_ble_eq_true rfl))
theorem d66_21 : decode (mB 66) 21 = .ok (.ifCond .eq 11, 3) := by decide +kernel
theorem x66_21 {d : Nat} {L : Lc} {st : List Value} {x : Int32} {h : Hp} : ex (d) 66 21 L (.int x :: st) h = if x = 0 then ex d 66 32 L st h else ex d 66 24 L st h := (ex_of d66_21 (d) L (.int x :: st) h).trans (fin_brq (off := 11) (tgt := 32) rfl (by decide))
theorem d66_24 : decode (mB 66) 24 = .ok (.aload_n 2, 1) := by decide +kernel
theorem x66_24 {d : Nat} {l0 l1 : Option Value} {st : List Value} {a : Nat} {h : Hp} : ex (d) 66 24 [l0, l1, some (.ref a)] st h = ex d 66 25 [l0, l1, some (.ref a)] (.ref a :: st) h := (ex_of d66_24 (d) [l0, l1, some (.ref a)] st h).trans (rfl)
theorem x66_24n {d : Nat} {l0 l1 : Option Value} {st : List Value} {h : Hp} : ex (d) 66 24 [l0, l1, some .null] st h = ex d 66 25 [l0, l1, some .null] (.null :: st) h := (ex_of d66_24 (d) [l0, l1, some .null] st h).trans (rfl)
theorem x66_24q {d : Nat} {l0 l1 : Option Value} {st : List Value} {a : Option Nat} {h : Hp} : ex (d) 66 24 [l0, l1, some (va_rf a)] st h = ex d 66 25 [l0, l1, some (va_rf a)] (va_rf a :: st) h := (ex_of d66_24 (d) [l0, l1, some (va_rf a)] st h).trans (by cases a <;> rfl)
theorem d66_25 : decode (mB 66) 25 = .ok (.getfield 115, 3) := by decide +kernel
theorem x66_25 {d : Nat} {L : Lc} {st : List Value} {a : Nat} {h : Hp} (ht : isTh (h.2.1 a).1 = true) : ex (d) 66 25 L (.ref a :: st) h = ex d 66 28 L (h.1 a 1 :: st) h := (ex_of d66_25 (d) L (.ref a :: st) h).trans (fin_get (mi := 66) f10_115 ht)
theorem d66_28 : decode (mB 66) 28 = .ok (.iconst 3, 1) := by decide +kernel
theorem x66_28 {d : Nat} {L : Lc} {st : List Value} {h : Hp} : ex (d) 66 28 L st h = ex d 66 29 L (.int (nI 3) :: st) h := (ex_of d66_28 (d) L st h).trans (rfl)
theorem d66_29 : decode (mB 66) 29 = .ok (.if_icmp .ne 9, 3) := by decide +kernel
theorem x66_29 {d : Nat} {L : Lc} {st : List Value} {x y : Int32} {h : Hp} : ex (d) 66 29 L (.int y :: .int x :: st) h = if ¬ x = y then ex d 66 38 L st h else ex d 66 32 L st h := (ex_of d66_29 (d) L (.int y :: .int x :: st) h).trans (fin_brq (off := 9) (tgt := 38) rfl (by decide))
theorem d66_32 : decode (mB 66) 32 = .ok (.aload_n 0, 1) := by decide +kernel
theorem x66_32 {d : Nat} {l1 l2 : Option Value} {st : List Value} {a : Nat} {h : Hp} : ex (d) 66 32 [some (.ref a), l1, l2] st h = ex d 66 33 [some (.ref a), l1, l2] (.ref a :: st) h := (ex_of d66_32 (d) [some (.ref a), l1, l2] st h).trans (rfl)
theorem d66_33 : decode (mB 66) 33 = .ok (.iconst 4, 1) := by decide +kernel
theorem x66_33 {d : Nat} {L : Lc} {st : List Value} {h : Hp} : ex (d) 66 33 L st h = ex d 66 34 L (.int (nI 4) :: st) h := (ex_of d66_33 (d) L st h).trans (rfl)
theorem d66_34 : decode (mB 66) 34 = .ok (.invokevirtual 57, 3) := by decide +kernel
theorem x66_34 {d : Nat} {L : Lc} {a : Nat} {v0 : Int32} {h : Hp} (ht : (h.2.1 a).1 = 10) : ex (d + 1) 66 34 L (.int v0 :: .ref a :: []) h = bnd (ex d 84 0 [some (.ref a), some (.int v0)] [] h) (fun v h' => ex (d + 1) 66 37 L (v.toList ++ []) h') := (ex_of d66_34 (d + 1) L (.int v0 :: .ref a :: []) h).trans (fin_vi (mi := 66) i10_57 ht rfl rfl (by simp [cat1_i, cat1_r]) (by simp) (Nat.le_of_ble_eq_true rfl))
theorem d66_37 : decode (mB 66) 37 = .ok (.ireturn, 1) := by decide +kernel
theorem x66_37 {d : Nat} {L : Lc} {x : Int32} {h : Hp} : ex (d) 66 37 L [.int x] h = some (some (.int x), h) := (ex_of d66_37 (d) L [.int x] h).trans (rfl)
theorem d66_38 : decode (mB 66) 38 = .ok (.aload_n 0, 1) := by decide +kernel
theorem x66_38 {d : Nat} {l1 l2 : Option Value} {st : List Value} {a : Nat} {h : Hp} : ex (d) 66 38 [some (.ref a), l1, l2] st h = ex d 66 39 [some (.ref a), l1, l2] (.ref a :: st) h := (ex_of d66_38 (d) [some (.ref a), l1, l2] st h).trans (rfl)
theorem d66_39 : decode (mB 66) 39 = .ok (.aload_n 2, 1) := by decide +kernel
theorem x66_39 {d : Nat} {l0 l1 : Option Value} {st : List Value} {a : Nat} {h : Hp} : ex (d) 66 39 [l0, l1, some (.ref a)] st h = ex d 66 40 [l0, l1, some (.ref a)] (.ref a :: st) h := (ex_of d66_39 (d) [l0, l1, some (.ref a)] st h).trans (rfl)
theorem x66_39n {d : Nat} {l0 l1 : Option Value} {st : List Value} {h : Hp} : ex (d) 66 39 [l0, l1, some .null] st h = ex d 66 40 [l0, l1, some .null] (.null :: st) h := (ex_of d66_39 (d) [l0, l1, some .null] st h).trans (rfl)
theorem x66_39q {d : Nat} {l0 l1 : Option Value} {st : List Value} {a : Option Nat} {h : Hp} : ex (d) 66 39 [l0, l1, some (va_rf a)] st h = ex d 66 40 [l0, l1, some (va_rf a)] (va_rf a :: st) h := (ex_of d66_39 (d) [l0, l1, some (va_rf a)] st h).trans (by cases a <;> rfl)
theorem d66_40 : decode (mB 66) 40 = .ok (.getfield 115, 3) := by decide +kernel
theorem x66_40 {d : Nat} {L : Lc} {st : List Value} {a : Nat} {h : Hp} (ht : isTh (h.2.1 a).1 = true) : ex (d) 66 40 L (.ref a :: st) h = ex d 66 43 L (h.1 a 1 :: st) h := (ex_of d66_40 (d) L (.ref a :: st) h).trans (fin_get (mi := 66) f10_115 ht)
theorem d66_43 : decode (mB 66) 43 = .ok (.iconst 4, 1) := by decide +kernel
theorem x66_43 {d : Nat} {L : Lc} {st : List Value} {h : Hp} : ex (d) 66 43 L st h = ex d 66 44 L (.int (nI 4) :: st) h := (ex_of d66_43 (d) L st h).trans (rfl)
theorem d66_44 : decode (mB 66) 44 = .ok (.if_icmp .ne 10, 3) := by decide +kernel
theorem x66_44 {d : Nat} {L : Lc} {st : List Value} {x y : Int32} {h : Hp} : ex (d) 66 44 L (.int y :: .int x :: st) h = if ¬ x = y then ex d 66 54 L st h else ex d 66 47 L st h := (ex_of d66_44 (d) L (.int y :: .int x :: st) h).trans (fin_brq (off := 10) (tgt := 54) rfl (by decide))
theorem d66_47 : decode (mB 66) 47 = .ok (.aload_n 2, 1) := by decide +kernel
theorem x66_47 {d : Nat} {l0 l1 : Option Value} {st : List Value} {a : Nat} {h : Hp} : ex (d) 66 47 [l0, l1, some (.ref a)] st h = ex d 66 48 [l0, l1, some (.ref a)] (.ref a :: st) h := (ex_of d66_47 (d) [l0, l1, some (.ref a)] st h).trans (rfl)
theorem x66_47n {d : Nat} {l0 l1 : Option Value} {st : List Value} {h : Hp} : ex (d) 66 47 [l0, l1, some .null] st h = ex d 66 48 [l0, l1, some .null] (.null :: st) h := (ex_of d66_47 (d) [l0, l1, some .null] st h).trans (rfl)
theorem x66_47q {d : Nat} {l0 l1 : Option Value} {st : List Value} {a : Option Nat} {h : Hp} : ex (d) 66 47 [l0, l1, some (va_rf a)] st h = ex d 66 48 [l0, l1, some (va_rf a)] (va_rf a :: st) h := (ex_of d66_47 (d) [l0, l1, some (va_rf a)] st h).trans (by cases a <;> rfl)
theorem d66_48 : decode (mB 66) 48 = .ok (.invokestatic 218, 3) := by decide +kernel
theorem x66_48 {d : Nat} {L : Lc} {s0 : Value}  {v0 : Value} {h : Hp} (hv0 : isR v0 = true) : ex (d + 1) 66 48 L (v0 :: [s0]) h = bnd (ex d 127 0 [some v0, none, none, none] [] h) (fun v h' => ex (d + 1) 66 51 L (v.toList ++ [s0]) h') := (ex_of d66_48 (d + 1) L (v0 :: [s0]) h).trans (fin_st (mi := 66) i10_218 (Or.inl rfl) (by simp) (by simp [cat1_i, cat1_r, isR_cat1 hv0]) (by simp) (Nat.le_of_ble_eq_true rfl))
theorem d66_51 : decode (mB 66) 51 = .ok (.goto 10, 3) := by decide +kernel
theorem x66_51 {d : Nat} {L : Lc} {st : List Value} {h : Hp} : ex (d) 66 51 L st h = ex d 66 61 L st h := (ex_of d66_51 (d) L st h).trans (rfl)
theorem d66_54 : decode (mB 66) 54 = .ok (.aload_n 2, 1) := by decide +kernel
theorem x66_54 {d : Nat} {l0 l1 : Option Value} {st : List Value} {a : Nat} {h : Hp} : ex (d) 66 54 [l0, l1, some (.ref a)] st h = ex d 66 55 [l0, l1, some (.ref a)] (.ref a :: st) h := (ex_of d66_54 (d) [l0, l1, some (.ref a)] st h).trans (rfl)
theorem x66_54n {d : Nat} {l0 l1 : Option Value} {st : List Value} {h : Hp} : ex (d) 66 54 [l0, l1, some .null] st h = ex d 66 55 [l0, l1, some .null] (.null :: st) h := (ex_of d66_54 (d) [l0, l1, some .null] st h).trans (rfl)
theorem x66_54q {d : Nat} {l0 l1 : Option Value} {st : List Value} {a : Option Nat} {h : Hp} : ex (d) 66 54 [l0, l1, some (va_rf a)] st h = ex d 66 55 [l0, l1, some (va_rf a)] (va_rf a :: st) h := (ex_of d66_54 (d) [l0, l1, some (va_rf a)] st h).trans (by cases a <;> rfl)
theorem d66_55 : decode (mB 66) 55 = .ok (.getfield 115, 3) := by decide +kernel
theorem x66_55 {d : Nat} {L : Lc} {st : List Value} {a : Nat} {h : Hp} (ht : isTh (h.2.1 a).1 = true) : ex (d) 66 55 L (.ref a :: st) h = ex d 66 58 L (h.1 a 1 :: st) h := (ex_of d66_55 (d) L (.ref a :: st) h).trans (fin_get (mi := 66) f10_115 ht)
theorem d66_58 : decode (mB 66) 58 = .ok (.invokestatic 221, 3) := by decide +kernel
theorem x66_58 {d : Nat} {L : Lc} {s0 : Value}  {v0 : Int32} {h : Hp} : ex (d + 1) 66 58 L (.int v0 :: [s0]) h = bnd (ex d 128 0 [some (.int v0)] [] h) (fun v h' => ex (d + 1) 66 61 L (v.toList ++ [s0]) h') := (ex_of d66_58 (d + 1) L (.int v0 :: [s0]) h).trans (fin_st (mi := 66) i10_221 (Or.inl rfl) (by simp) (by simp [cat1_i, cat1_r]) (by simp) (Nat.le_of_ble_eq_true rfl))
theorem d66_61 : decode (mB 66) 61 = .ok (.invokevirtual 64, 3) := by decide +kernel
theorem x66_61 {d : Nat} {L : Lc} {a : Nat} {v0 : Int32} {h : Hp} (ht : (h.2.1 a).1 = 10) : ex (d + 1) 66 61 L (.int v0 :: .ref a :: []) h = bnd (ex d 85 0 [some (.ref a), some (.int v0)] [] h) (fun v h' => ex (d + 1) 66 64 L (v.toList ++ []) h') := (ex_of d66_61 (d + 1) L (.int v0 :: .ref a :: []) h).trans (fin_vi (mi := 66) i10_64 ht rfl rfl (by simp [cat1_i, cat1_r]) (by simp) (Nat.le_of_ble_eq_true rfl))
theorem d66_64 : decode (mB 66) 64 = .ok (.ireturn, 1) := by decide +kernel
theorem x66_64 {d : Nat} {L : Lc} {x : Int32} {h : Hp} : ex (d) 66 64 L [.int x] h = some (some (.int x), h) := (ex_of d66_64 (d) L [.int x] h).trans (rfl)
theorem d67_0 : decode (mB 67) 0 = .ok (.aload_n 0, 1) := by decide +kernel
theorem x67_0 {d : Nat} {l1 l2 l3 : Option Value} {st : List Value} {a : Nat} {h : Hp} : ex (d) 67 0 [some (.ref a), l1, l2, l3] st h = ex d 67 1 [some (.ref a), l1, l2, l3] (.ref a :: st) h := (ex_of d67_0 (d) [some (.ref a), l1, l2, l3] st h).trans (rfl)
theorem d67_1 : decode (mB 67) 1 = .ok (.iload_n 1, 1) := by decide +kernel
theorem x67_1 {d : Nat} {l0 l2 l3 : Option Value} {st : List Value} {x : Int32} {h : Hp} : ex (d) 67 1 [l0, some (.int x), l2, l3] st h = ex d 67 2 [l0, some (.int x), l2, l3] (.int x :: st) h := (ex_of d67_1 (d) [l0, some (.int x), l2, l3] st h).trans (rfl)
theorem d67_2 : decode (mB 67) 2 = .ok (.invokevirtual 190, 3) := by decide +kernel
theorem x67_2 {d : Nat} {L : Lc} {a : Nat} {v0 : Int32} {h : Hp} (ht : (h.2.1 a).1 = 10) : ex (d + 1) 67 2 L (.int v0 :: .ref a :: []) h = bnd (ex d 88 0 [some (.ref a), some (.int v0)] [] h) (fun v h' => ex (d + 1) 67 5 L (v.toList ++ []) h') := (ex_of d67_2 (d + 1) L (.int v0 :: .ref a :: []) h).trans (fin_vi (mi := 67) i10_190 ht rfl rfl (by simp [cat1_i, cat1_r]) (by simp) (Nat.le_of_ble_eq_true rfl))
theorem d67_5 : decode (mB 67) 5 = .ok (.astore_n 3, 1) := by decide +kernel
theorem x67_5 {d : Nat} {l0 l1 l2 l3 : Option Value} {st : List Value} {a : Nat} {h : Hp} : ex (d) 67 5 [l0, l1, l2, l3] (.ref a :: st) h = ex d 67 6 [l0, l1, clr l2, some (.ref a)] st h := (ex_of d67_5 (d) [l0, l1, l2, l3] (.ref a :: st) h).trans (rfl)
theorem x67_5n {d : Nat} {l0 l1 l2 l3 : Option Value} {st : List Value} {h : Hp} : ex (d) 67 5 [l0, l1, l2, l3] (.null :: st) h = ex d 67 6 [l0, l1, clr l2, some .null] st h := (ex_of d67_5 (d) [l0, l1, l2, l3] (.null :: st) h).trans (rfl)
theorem x67_5q {d : Nat} {l0 l1 l2 l3 : Option Value} {st : List Value} {a : Option Nat} {h : Hp} : ex (d) 67 5 [l0, l1, l2, l3] (va_rf a :: st) h = ex d 67 6 [l0, l1, clr l2, some (va_rf a)] st h := (ex_of d67_5 (d) [l0, l1, l2, l3] (va_rf a :: st) h).trans (by cases a <;> rfl)
theorem d67_6 : decode (mB 67) 6 = .ok (.aload_n 3, 1) := by decide +kernel
theorem x67_6 {d : Nat} {l0 l1 l2 : Option Value} {st : List Value} {a : Nat} {h : Hp} : ex (d) 67 6 [l0, l1, l2, some (.ref a)] st h = ex d 67 7 [l0, l1, l2, some (.ref a)] (.ref a :: st) h := (ex_of d67_6 (d) [l0, l1, l2, some (.ref a)] st h).trans (rfl)
theorem x67_6n {d : Nat} {l0 l1 l2 : Option Value} {st : List Value} {h : Hp} : ex (d) 67 6 [l0, l1, l2, some .null] st h = ex d 67 7 [l0, l1, l2, some .null] (.null :: st) h := (ex_of d67_6 (d) [l0, l1, l2, some .null] st h).trans (rfl)
theorem x67_6q {d : Nat} {l0 l1 l2 : Option Value} {st : List Value} {a : Option Nat} {h : Hp} : ex (d) 67 6 [l0, l1, l2, some (va_rf a)] st h = ex d 67 7 [l0, l1, l2, some (va_rf a)] (va_rf a :: st) h := (ex_of d67_6 (d) [l0, l1, l2, some (va_rf a)] st h).trans (by cases a <;> rfl)
theorem d67_7 : decode (mB 67) 7 = .ok (.ifnonnull 10, 3) := by decide +kernel
theorem x67_7n {d : Nat} {L : Lc} {st : List Value} {h : Hp} : ex (d) 67 7 L (.null :: st) h = ex d 67 10 L st h := (ex_of d67_7 (d) L (.null :: st) h).trans (rfl)
theorem x67_7 {d : Nat} {L : Lc} {st : List Value} {a : Nat} {h : Hp} : ex (d) 67 7 L (.ref a :: st) h = ex d 67 17 L st h := (ex_of d67_7 (d) L (.ref a :: st) h).trans (rfl)
theorem d67_10 : decode (mB 67) 10 = .ok (.aload_n 0, 1) := by decide +kernel
theorem x67_10 {d : Nat} {l1 l2 l3 : Option Value} {st : List Value} {a : Nat} {h : Hp} : ex (d) 67 10 [some (.ref a), l1, l2, l3] st h = ex d 67 11 [some (.ref a), l1, l2, l3] (.ref a :: st) h := (ex_of d67_10 (d) [some (.ref a), l1, l2, l3] st h).trans (rfl)
theorem d67_11 : decode (mB 67) 11 = .ok (.bipush 10, 2) := by decide +kernel
theorem x67_11 {d : Nat} {L : Lc} {st : List Value} {h : Hp} : ex (d) 67 11 L st h = ex d 67 13 L (.int (nI 10) :: st) h := (ex_of d67_11 (d) L st h).trans (rfl)
theorem d67_13 : decode (mB 67) 13 = .ok (.invokevirtual 57, 3) := by decide +kernel
theorem x67_13 {d : Nat} {L : Lc} {a : Nat} {v0 : Int32} {h : Hp} (ht : (h.2.1 a).1 = 10) : ex (d + 1) 67 13 L (.int v0 :: .ref a :: []) h = bnd (ex d 84 0 [some (.ref a), some (.int v0)] [] h) (fun v h' => ex (d + 1) 67 16 L (v.toList ++ []) h') := (ex_of d67_13 (d + 1) L (.int v0 :: .ref a :: []) h).trans (fin_vi (mi := 67) i10_57 ht rfl rfl (by simp [cat1_i, cat1_r]) (by simp) (Nat.le_of_ble_eq_true rfl))
theorem d67_16 : decode (mB 67) 16 = .ok (.ireturn, 1) := by decide +kernel
theorem x67_16 {d : Nat} {L : Lc} {x : Int32} {h : Hp} : ex (d) 67 16 L [.int x] h = some (some (.int x), h) := (ex_of d67_16 (d) L [.int x] h).trans (rfl)
theorem d67_17 : decode (mB 67) 17 = .ok (.iload_n 2, 1) := by decide +kernel
theorem x67_17 {d : Nat} {l0 l1 l3 : Option Value} {st : List Value} {x : Int32} {h : Hp} : ex (d) 67 17 [l0, l1, some (.int x), l3] st h = ex d 67 18 [l0, l1, some (.int x), l3] (.int x :: st) h := (ex_of d67_17 (d) [l0, l1, some (.int x), l3] st h).trans (rfl)
theorem d67_18 : decode (mB 67) 18 = .ok (.invokestatic 224, 3) := by decide +kernel
theorem x67_18 {d : Nat} {L : Lc}  {v0 : Int32} {h : Hp} : ex (d + 1) 67 18 L (.int v0 :: []) h = bnd (ex d 94 0 [some (.int v0)] [] h) (fun v h' => ex (d + 1) 67 21 L (v.toList ++ []) h') := (ex_of d67_18 (d + 1) L (.int v0 :: []) h).trans (fin_st (mi := 67) i10_224 (Or.inl rfl) (by simp) (by simp [cat1_i, cat1_r]) (by simp) (Nat.le_of_ble_eq_true rfl))
theorem d67_21 : decode (mB 67) 21 = .ok (.ifCond .eq 13, 3) := by decide +kernel
theorem x67_21 {d : Nat} {L : Lc} {st : List Value} {x : Int32} {h : Hp} : ex (d) 67 21 L (.int x :: st) h = if x = 0 then ex d 67 34 L st h else ex d 67 24 L st h := (ex_of d67_21 (d) L (.int x :: st) h).trans (fin_brq (off := 13) (tgt := 34) rfl (by decide))
theorem d67_24 : decode (mB 67) 24 = .ok (.aload_n 0, 1) := by decide +kernel
theorem x67_24 {d : Nat} {l1 l2 l3 : Option Value} {st : List Value} {a : Nat} {h : Hp} : ex (d) 67 24 [some (.ref a), l1, l2, l3] st h = ex d 67 25 [some (.ref a), l1, l2, l3] (.ref a :: st) h := (ex_of d67_24 (d) [some (.ref a), l1, l2, l3] st h).trans (rfl)
theorem d67_25 : decode (mB 67) 25 = .ok (.getfield 42, 3) := by decide +kernel
theorem x67_25 {d : Nat} {L : Lc} {st : List Value} {a : Nat} {h : Hp} (ht : (h.2.1 a).1 = 10) : ex (d) 67 25 L (.ref a :: st) h = ex d 67 28 L (h.1 a 10 :: st) h := (ex_of d67_25 (d) L (.ref a :: st) h).trans (fin_get (mi := 67) f10_42 (tg1 ht rfl))
theorem d67_28 : decode (mB 67) 28 = .ok (.invokevirtual 227, 3) := by decide +kernel
theorem x67_28 {d : Nat} {L : Lc} {a : Nat} {h : Hp} (ht : (h.2.1 a).1 = 5) : ex (d + 1) 67 28 L (.ref a :: []) h = bnd (ex d 14 0 [some (.ref a)] [] h) (fun v h' => ex (d + 1) 67 31 L (v.toList ++ []) h') := (ex_of d67_28 (d + 1) L (.ref a :: []) h).trans (fin_vi (mi := 67) i10_227 ht rfl rfl (by simp [cat1_i, cat1_r]) (by simp) (Nat.le_of_ble_eq_true rfl))
theorem d67_31 : decode (mB 67) 31 = .ok (.ifCond .ne 10, 3) := by decide +kernel
theorem x67_31 {d : Nat} {L : Lc} {st : List Value} {x : Int32} {h : Hp} : ex (d) 67 31 L (.int x :: st) h = if ¬ x = 0 then ex d 67 41 L st h else ex d 67 34 L st h := (ex_of d67_31 (d) L (.int x :: st) h).trans (fin_brq (off := 10) (tgt := 41) rfl (by decide))
theorem d67_34 : decode (mB 67) 34 = .ok (.aload_n 0, 1) := by decide +kernel
theorem x67_34 {d : Nat} {l1 l2 l3 : Option Value} {st : List Value} {a : Nat} {h : Hp} : ex (d) 67 34 [some (.ref a), l1, l2, l3] st h = ex d 67 35 [some (.ref a), l1, l2, l3] (.ref a :: st) h := (ex_of d67_34 (d) [some (.ref a), l1, l2, l3] st h).trans (rfl)
theorem d67_35 : decode (mB 67) 35 = .ok (.bipush 6, 2) := by decide +kernel
theorem x67_35 {d : Nat} {L : Lc} {st : List Value} {h : Hp} : ex (d) 67 35 L st h = ex d 67 37 L (.int (nI 6) :: st) h := (ex_of d67_35 (d) L st h).trans (rfl)
theorem d67_37 : decode (mB 67) 37 = .ok (.invokevirtual 57, 3) := by decide +kernel
theorem x67_37 {d : Nat} {L : Lc} {a : Nat} {v0 : Int32} {h : Hp} (ht : (h.2.1 a).1 = 10) : ex (d + 1) 67 37 L (.int v0 :: .ref a :: []) h = bnd (ex d 84 0 [some (.ref a), some (.int v0)] [] h) (fun v h' => ex (d + 1) 67 40 L (v.toList ++ []) h') := (ex_of d67_37 (d + 1) L (.int v0 :: .ref a :: []) h).trans (fin_vi (mi := 67) i10_57 ht rfl rfl (by simp [cat1_i, cat1_r]) (by simp) (Nat.le_of_ble_eq_true rfl))
theorem d67_40 : decode (mB 67) 40 = .ok (.ireturn, 1) := by decide +kernel
theorem x67_40 {d : Nat} {L : Lc} {x : Int32} {h : Hp} : ex (d) 67 40 L [.int x] h = some (some (.int x), h) := (ex_of d67_40 (d) L [.int x] h).trans (rfl)
theorem d67_41 : decode (mB 67) 41 = .ok (.aload_n 0, 1) := by decide +kernel
theorem x67_41 {d : Nat} {l1 l2 l3 : Option Value} {st : List Value} {a : Nat} {h : Hp} : ex (d) 67 41 [some (.ref a), l1, l2, l3] st h = ex d 67 42 [some (.ref a), l1, l2, l3] (.ref a :: st) h := (ex_of d67_41 (d) [some (.ref a), l1, l2, l3] st h).trans (rfl)
theorem d67_42 : decode (mB 67) 42 = .ok (.getfield 42, 3) := by decide +kernel
theorem x67_42 {d : Nat} {L : Lc} {st : List Value} {a : Nat} {h : Hp} (ht : (h.2.1 a).1 = 10) : ex (d) 67 42 L (.ref a :: st) h = ex d 67 45 L (h.1 a 10 :: st) h := (ex_of d67_42 (d) L (.ref a :: st) h).trans (fin_get (mi := 67) f10_42 (tg1 ht rfl))
theorem d67_45 : decode (mB 67) 45 = .ok (.aload_n 3, 1) := by decide +kernel
theorem x67_45 {d : Nat} {l0 l1 l2 : Option Value} {st : List Value} {a : Nat} {h : Hp} : ex (d) 67 45 [l0, l1, l2, some (.ref a)] st h = ex d 67 46 [l0, l1, l2, some (.ref a)] (.ref a :: st) h := (ex_of d67_45 (d) [l0, l1, l2, some (.ref a)] st h).trans (rfl)
theorem x67_45n {d : Nat} {l0 l1 l2 : Option Value} {st : List Value} {h : Hp} : ex (d) 67 45 [l0, l1, l2, some .null] st h = ex d 67 46 [l0, l1, l2, some .null] (.null :: st) h := (ex_of d67_45 (d) [l0, l1, l2, some .null] st h).trans (rfl)
theorem x67_45q {d : Nat} {l0 l1 l2 : Option Value} {st : List Value} {a : Option Nat} {h : Hp} : ex (d) 67 45 [l0, l1, l2, some (va_rf a)] st h = ex d 67 46 [l0, l1, l2, some (va_rf a)] (va_rf a :: st) h := (ex_of d67_45 (d) [l0, l1, l2, some (va_rf a)] st h).trans (by cases a <;> rfl)
theorem d67_46 : decode (mB 67) 46 = .ok (.iload_n 2, 1) := by decide +kernel
theorem x67_46 {d : Nat} {l0 l1 l3 : Option Value} {st : List Value} {x : Int32} {h : Hp} : ex (d) 67 46 [l0, l1, some (.int x), l3] st h = ex d 67 47 [l0, l1, some (.int x), l3] (.int x :: st) h := (ex_of d67_46 (d) [l0, l1, some (.int x), l3] st h).trans (rfl)
theorem d67_47 : decode (mB 67) 47 = .ok (.invokevirtual 230, 3) := by decide +kernel
theorem x67_47 {d : Nat} {L : Lc} {a : Nat} {v0 : Value} {v1 : Int32} {h : Hp} (ht : (h.2.1 a).1 = 5) (hv0 : isR v0 = true) : ex (d + 1) 67 47 L (.int v1 :: v0 :: .ref a :: []) h = bnd (ex d 15 0 [some (.ref a), some v0, some (.int v1), none] [] h) (fun v h' => ex (d + 1) 67 50 L (v.toList ++ []) h') := (ex_of d67_47 (d + 1) L (.int v1 :: v0 :: .ref a :: []) h).trans (fin_vi (mi := 67) i10_230 ht rfl rfl (by simp [cat1_i, cat1_r, isR_cat1 hv0]) (by simp) (Nat.le_of_ble_eq_true rfl))
theorem d67_50 : decode (mB 67) 50 = .ok (.ifCond .eq 9, 3) := by decide +kernel
theorem x67_50 {d : Nat} {L : Lc} {st : List Value} {x : Int32} {h : Hp} : ex (d) 67 50 L (.int x :: st) h = if x = 0 then ex d 67 59 L st h else ex d 67 53 L st h := (ex_of d67_50 (d) L (.int x :: st) h).trans (fin_brq (off := 9) (tgt := 59) rfl (by decide))
theorem d67_53 : decode (mB 67) 53 = .ok (.aload_n 0, 1) := by decide +kernel
theorem x67_53 {d : Nat} {l1 l2 l3 : Option Value} {st : List Value} {a : Nat} {h : Hp} : ex (d) 67 53 [some (.ref a), l1, l2, l3] st h = ex d 67 54 [some (.ref a), l1, l2, l3] (.ref a :: st) h := (ex_of d67_53 (d) [some (.ref a), l1, l2, l3] st h).trans (rfl)
theorem d67_54 : decode (mB 67) 54 = .ok (.iconst 5, 1) := by decide +kernel
theorem x67_54 {d : Nat} {L : Lc} {st : List Value} {h : Hp} : ex (d) 67 54 L st h = ex d 67 55 L (.int (nI 5) :: st) h := (ex_of d67_54 (d) L st h).trans (rfl)
theorem d67_55 : decode (mB 67) 55 = .ok (.invokevirtual 57, 3) := by decide +kernel
theorem x67_55 {d : Nat} {L : Lc} {a : Nat} {v0 : Int32} {h : Hp} (ht : (h.2.1 a).1 = 10) : ex (d + 1) 67 55 L (.int v0 :: .ref a :: []) h = bnd (ex d 84 0 [some (.ref a), some (.int v0)] [] h) (fun v h' => ex (d + 1) 67 58 L (v.toList ++ []) h') := (ex_of d67_55 (d + 1) L (.int v0 :: .ref a :: []) h).trans (fin_vi (mi := 67) i10_57 ht rfl rfl (by simp [cat1_i, cat1_r]) (by simp) (Nat.le_of_ble_eq_true rfl))
theorem d67_58 : decode (mB 67) 58 = .ok (.ireturn, 1) := by decide +kernel
theorem x67_58 {d : Nat} {L : Lc} {x : Int32} {h : Hp} : ex (d) 67 58 L [.int x] h = some (some (.int x), h) := (ex_of d67_58 (d) L [.int x] h).trans (rfl)
theorem d67_59 : decode (mB 67) 59 = .ok (.aload_n 0, 1) := by decide +kernel
theorem x67_59 {d : Nat} {l1 l2 l3 : Option Value} {st : List Value} {a : Nat} {h : Hp} : ex (d) 67 59 [some (.ref a), l1, l2, l3] st h = ex d 67 60 [some (.ref a), l1, l2, l3] (.ref a :: st) h := (ex_of d67_59 (d) [some (.ref a), l1, l2, l3] st h).trans (rfl)
theorem d67_60 : decode (mB 67) 60 = .ok (.aload_n 0, 1) := by decide +kernel
theorem x67_60 {d : Nat} {l1 l2 l3 : Option Value} {st : List Value} {a : Nat} {h : Hp} : ex (d) 67 60 [some (.ref a), l1, l2, l3] st h = ex d 67 61 [some (.ref a), l1, l2, l3] (.ref a :: st) h := (ex_of d67_60 (d) [some (.ref a), l1, l2, l3] st h).trans (rfl)
theorem d67_61 : decode (mB 67) 61 = .ok (.getfield 42, 3) := by decide +kernel
theorem x67_61 {d : Nat} {L : Lc} {st : List Value} {a : Nat} {h : Hp} (ht : (h.2.1 a).1 = 10) : ex (d) 67 61 L (.ref a :: st) h = ex d 67 64 L (h.1 a 10 :: st) h := (ex_of d67_61 (d) L (.ref a :: st) h).trans (fin_get (mi := 67) f10_42 (tg1 ht rfl))
theorem d67_64 : decode (mB 67) 64 = .ok (.aload_n 3, 1) := by decide +kernel
theorem x67_64 {d : Nat} {l0 l1 l2 : Option Value} {st : List Value} {a : Nat} {h : Hp} : ex (d) 67 64 [l0, l1, l2, some (.ref a)] st h = ex d 67 65 [l0, l1, l2, some (.ref a)] (.ref a :: st) h := (ex_of d67_64 (d) [l0, l1, l2, some (.ref a)] st h).trans (rfl)
theorem x67_64n {d : Nat} {l0 l1 l2 : Option Value} {st : List Value} {h : Hp} : ex (d) 67 64 [l0, l1, l2, some .null] st h = ex d 67 65 [l0, l1, l2, some .null] (.null :: st) h := (ex_of d67_64 (d) [l0, l1, l2, some .null] st h).trans (rfl)
theorem x67_64q {d : Nat} {l0 l1 l2 : Option Value} {st : List Value} {a : Option Nat} {h : Hp} : ex (d) 67 64 [l0, l1, l2, some (va_rf a)] st h = ex d 67 65 [l0, l1, l2, some (va_rf a)] (va_rf a :: st) h := (ex_of d67_64 (d) [l0, l1, l2, some (va_rf a)] st h).trans (by cases a <;> rfl)
theorem d67_65 : decode (mB 67) 65 = .ok (.iload_n 2, 1) := by decide +kernel
theorem x67_65 {d : Nat} {l0 l1 l3 : Option Value} {st : List Value} {x : Int32} {h : Hp} : ex (d) 67 65 [l0, l1, some (.int x), l3] st h = ex d 67 66 [l0, l1, some (.int x), l3] (.int x :: st) h := (ex_of d67_65 (d) [l0, l1, some (.int x), l3] st h).trans (rfl)
theorem d67_66 : decode (mB 67) 66 = .ok (.invokevirtual 234, 3) := by decide +kernel
theorem x67_66 {d : Nat} {L : Lc} {s0 : Value} {a : Nat} {v0 : Value} {v1 : Int32} {h : Hp} (ht : (h.2.1 a).1 = 5) (hv0 : isR v0 = true) : ex (d + 1) 67 66 L (.int v1 :: v0 :: .ref a :: [s0]) h = bnd (ex d 16 0 [some (.ref a), some v0, some (.int v1), none] [] h) (fun v h' => ex (d + 1) 67 69 L (v.toList ++ [s0]) h') := (ex_of d67_66 (d + 1) L (.int v1 :: v0 :: .ref a :: [s0]) h).trans (fin_vi (mi := 67) i10_234 ht rfl rfl (by simp [cat1_i, cat1_r, isR_cat1 hv0]) (by simp) (Nat.le_of_ble_eq_true rfl))
theorem d67_69 : decode (mB 67) 69 = .ok (.invokevirtual 64, 3) := by decide +kernel
theorem x67_69 {d : Nat} {L : Lc} {a : Nat} {v0 : Int32} {h : Hp} (ht : (h.2.1 a).1 = 10) : ex (d + 1) 67 69 L (.int v0 :: .ref a :: []) h = bnd (ex d 85 0 [some (.ref a), some (.int v0)] [] h) (fun v h' => ex (d + 1) 67 72 L (v.toList ++ []) h') := (ex_of d67_69 (d + 1) L (.int v0 :: .ref a :: []) h).trans (fin_vi (mi := 67) i10_64 ht rfl rfl (by simp [cat1_i, cat1_r]) (by simp) (Nat.le_of_ble_eq_true rfl))
theorem d67_72 : decode (mB 67) 72 = .ok (.ireturn, 1) := by decide +kernel
theorem x67_72 {d : Nat} {L : Lc} {x : Int32} {h : Hp} : ex (d) 67 72 L [.int x] h = some (some (.int x), h) := (ex_of d67_72 (d) L [.int x] h).trans (rfl)
theorem d68_0 : decode (mB 68) 0 = .ok (.aload_n 0, 1) := by decide +kernel
theorem x68_0 {d : Nat} {l1 : Option Value} {st : List Value} {a : Nat} {h : Hp} : ex (d) 68 0 [some (.ref a), l1] st h = ex d 68 1 [some (.ref a), l1] (.ref a :: st) h := (ex_of d68_0 (d) [some (.ref a), l1] st h).trans (rfl)
theorem d68_1 : decode (mB 68) 1 = .ok (.getfield 42, 3) := by decide +kernel
theorem x68_1 {d : Nat} {L : Lc} {st : List Value} {a : Nat} {h : Hp} (ht : (h.2.1 a).1 = 10) : ex (d) 68 1 L (.ref a :: st) h = ex d 68 4 L (h.1 a 10 :: st) h := (ex_of d68_1 (d) L (.ref a :: st) h).trans (fin_get (mi := 68) f10_42 (tg1 ht rfl))
theorem d68_4 : decode (mB 68) 4 = .ok (.getfield 238, 3) := by decide +kernel
theorem x68_4 {d : Nat} {L : Lc} {st : List Value} {a : Nat} {h : Hp} (ht : (h.2.1 a).1 = 5) : ex (d) 68 4 L (.ref a :: st) h = ex d 68 7 L (h.1 a 2 :: st) h := (ex_of d68_4 (d) L (.ref a :: st) h).trans (fin_get (mi := 68) f10_238 (tg1 ht rfl))
theorem d68_7 : decode (mB 68) 7 = .ok (.istore_n 1, 1) := by decide +kernel
theorem x68_7 {d : Nat} {l0 l1 : Option Value} {st : List Value} {x : Int32} {h : Hp} : ex (d) 68 7 [l0, l1] (.int x :: st) h = ex d 68 8 [clr l0, some (.int x)] st h := (ex_of d68_7 (d) [l0, l1] (.int x :: st) h).trans (rfl)
theorem d68_8 : decode (mB 68) 8 = .ok (.aload_n 0, 1) := by decide +kernel
theorem x68_8 {d : Nat} {l1 : Option Value} {st : List Value} {a : Nat} {h : Hp} : ex (d) 68 8 [some (.ref a), l1] st h = ex d 68 9 [some (.ref a), l1] (.ref a :: st) h := (ex_of d68_8 (d) [some (.ref a), l1] st h).trans (rfl)
theorem d68_9 : decode (mB 68) 9 = .ok (.getfield 42, 3) := by decide +kernel
theorem x68_9 {d : Nat} {L : Lc} {st : List Value} {a : Nat} {h : Hp} (ht : (h.2.1 a).1 = 10) : ex (d) 68 9 L (.ref a :: st) h = ex d 68 12 L (h.1 a 10 :: st) h := (ex_of d68_9 (d) L (.ref a :: st) h).trans (fin_get (mi := 68) f10_42 (tg1 ht rfl))
theorem d68_12 : decode (mB 68) 12 = .ok (.iconst 0, 1) := by decide +kernel
theorem x68_12 {d : Nat} {L : Lc} {st : List Value} {h : Hp} : ex (d) 68 12 L st h = ex d 68 13 L (.int (nI 0) :: st) h := (ex_of d68_12 (d) L st h).trans (rfl)
theorem d68_13 : decode (mB 68) 13 = .ok (.putfield 238, 3) := by decide +kernel
theorem x68_13 {d : Nat} {L : Lc} {st : List Value} {a : Nat} {x : Int32} {h : Hp} (ht : (h.2.1 a).1 = 5) : ex (d) 68 13 L (.int x :: .ref a :: st) h = ex d 68 16 L st (mup h.1 a 2 (.int x), h.2) := (ex_of d68_13 (d) L (.int x :: .ref a :: st) h).trans (fin_put (mi := 68) f10_238 ht rfl rfl (by decide +kernel))
theorem d68_16 : decode (mB 68) 16 = .ok (.iload_n 1, 1) := by decide +kernel
theorem x68_16 {d : Nat} {l0 : Option Value} {st : List Value} {x : Int32} {h : Hp} : ex (d) 68 16 [l0, some (.int x)] st h = ex d 68 17 [l0, some (.int x)] (.int x :: st) h := (ex_of d68_16 (d) [l0, some (.int x)] st h).trans (rfl)
theorem d68_17 : decode (mB 68) 17 = .ok (.ireturn, 1) := by decide +kernel
theorem x68_17 {d : Nat} {L : Lc} {x : Int32} {h : Hp} : ex (d) 68 17 L [.int x] h = some (some (.int x), h) := (ex_of d68_17 (d) L [.int x] h).trans (rfl)
theorem d69_0 : decode (mB 69) 0 = .ok (.iload_n 1, 1) := by decide +kernel
theorem x69_0 {d : Nat} {l0 l2 l3 : Option Value} {st : List Value} {x : Int32} {h : Hp} : ex (d) 69 0 [l0, some (.int x), l2, l3] st h = ex d 69 1 [l0, some (.int x), l2, l3] (.int x :: st) h := (ex_of d69_0 (d) [l0, some (.int x), l2, l3] st h).trans (rfl)
theorem d69_1 : decode (mB 69) 1 = .ok (.invokestatic 224, 3) := by decide +kernel
theorem x69_1 {d : Nat} {L : Lc}  {v0 : Int32} {h : Hp} : ex (d + 1) 69 1 L (.int v0 :: []) h = bnd (ex d 94 0 [some (.int v0)] [] h) (fun v h' => ex (d + 1) 69 4 L (v.toList ++ []) h') := (ex_of d69_1 (d + 1) L (.int v0 :: []) h).trans (fin_st (mi := 69) i10_224 (Or.inl rfl) (by simp) (by simp [cat1_i, cat1_r]) (by simp) (Nat.le_of_ble_eq_true rfl))
theorem d69_4 : decode (mB 69) 4 = .ok (.ifCond .eq 13, 3) := by decide +kernel
theorem x69_4 {d : Nat} {L : Lc} {st : List Value} {x : Int32} {h : Hp} : ex (d) 69 4 L (.int x :: st) h = if x = 0 then ex d 69 17 L st h else ex d 69 7 L st h := (ex_of d69_4 (d) L (.int x :: st) h).trans (fin_brq (off := 13) (tgt := 17) rfl (by decide))
theorem d69_7 : decode (mB 69) 7 = .ok (.iload_n 2, 1) := by decide +kernel
theorem x69_7 {d : Nat} {l0 l1 l3 : Option Value} {st : List Value} {x : Int32} {h : Hp} : ex (d) 69 7 [l0, l1, some (.int x), l3] st h = ex d 69 8 [l0, l1, some (.int x), l3] (.int x :: st) h := (ex_of d69_7 (d) [l0, l1, some (.int x), l3] st h).trans (rfl)
theorem d69_8 : decode (mB 69) 8 = .ok (.iconst 0, 1) := by decide +kernel
theorem x69_8 {d : Nat} {L : Lc} {st : List Value} {h : Hp} : ex (d) 69 8 L st h = ex d 69 9 L (.int (nI 0) :: st) h := (ex_of d69_8 (d) L st h).trans (rfl)
theorem d69_9 : decode (mB 69) 9 = .ok (.bipush 90, 2) := by decide +kernel
theorem x69_9 {d : Nat} {L : Lc} {st : List Value} {h : Hp} : ex (d) 69 9 L st h = ex d 69 11 L (.int (nI 90) :: st) h := (ex_of d69_9 (d) L st h).trans (rfl)
theorem d69_11 : decode (mB 69) 11 = .ok (.invokestatic 50, 3) := by decide +kernel
theorem x69_11 {d : Nat} {L : Lc}  {v0 : Int32} {v1 : Int32} {v2 : Int32} {h : Hp} : ex (d + 1) 69 11 L (.int v2 :: .int v1 :: .int v0 :: []) h = bnd (ex d 92 0 [some (.int v0), some (.int v1), some (.int v2)] [] h) (fun v h' => ex (d + 1) 69 14 L (v.toList ++ []) h') := (ex_of d69_11 (d + 1) L (.int v2 :: .int v1 :: .int v0 :: []) h).trans (fin_st (mi := 69) i10_50 (Or.inl rfl) (by simp) (by simp [cat1_i, cat1_r]) (by simp) (Nat.le_of_ble_eq_true rfl))
theorem d69_14 : decode (mB 69) 14 = .ok (.ifCond .ne 10, 3) := by decide +kernel
theorem x69_14 {d : Nat} {L : Lc} {st : List Value} {x : Int32} {h : Hp} : ex (d) 69 14 L (.int x :: st) h = if ¬ x = 0 then ex d 69 24 L st h else ex d 69 17 L st h := (ex_of d69_14 (d) L (.int x :: st) h).trans (fin_brq (off := 10) (tgt := 24) rfl (by decide))
theorem d69_17 : decode (mB 69) 17 = .ok (.aload_n 0, 1) := by decide +kernel
theorem x69_17 {d : Nat} {l1 l2 l3 : Option Value} {st : List Value} {a : Nat} {h : Hp} : ex (d) 69 17 [some (.ref a), l1, l2, l3] st h = ex d 69 18 [some (.ref a), l1, l2, l3] (.ref a :: st) h := (ex_of d69_17 (d) [some (.ref a), l1, l2, l3] st h).trans (rfl)
theorem d69_18 : decode (mB 69) 18 = .ok (.bipush 6, 2) := by decide +kernel
theorem x69_18 {d : Nat} {L : Lc} {st : List Value} {h : Hp} : ex (d) 69 18 L st h = ex d 69 20 L (.int (nI 6) :: st) h := (ex_of d69_18 (d) L st h).trans (rfl)
theorem d69_20 : decode (mB 69) 20 = .ok (.invokevirtual 57, 3) := by decide +kernel
theorem x69_20 {d : Nat} {L : Lc} {a : Nat} {v0 : Int32} {h : Hp} (ht : (h.2.1 a).1 = 10) : ex (d + 1) 69 20 L (.int v0 :: .ref a :: []) h = bnd (ex d 84 0 [some (.ref a), some (.int v0)] [] h) (fun v h' => ex (d + 1) 69 23 L (v.toList ++ []) h') := (ex_of d69_20 (d + 1) L (.int v0 :: .ref a :: []) h).trans (fin_vi (mi := 69) i10_57 ht rfl rfl (by simp [cat1_i, cat1_r]) (by simp) (Nat.le_of_ble_eq_true rfl))
theorem d69_23 : decode (mB 69) 23 = .ok (.ireturn, 1) := by decide +kernel
theorem x69_23 {d : Nat} {L : Lc} {x : Int32} {h : Hp} : ex (d) 69 23 L [.int x] h = some (some (.int x), h) := (ex_of d69_23 (d) L [.int x] h).trans (rfl)
theorem d69_24 : decode (mB 69) 24 = .ok (.aload_n 0, 1) := by decide +kernel
theorem x69_24 {d : Nat} {l1 l2 l3 : Option Value} {st : List Value} {a : Nat} {h : Hp} : ex (d) 69 24 [some (.ref a), l1, l2, l3] st h = ex d 69 25 [some (.ref a), l1, l2, l3] (.ref a :: st) h := (ex_of d69_24 (d) [some (.ref a), l1, l2, l3] st h).trans (rfl)
theorem d69_25 : decode (mB 69) 25 = .ok (.getfield 42, 3) := by decide +kernel
theorem x69_25 {d : Nat} {L : Lc} {st : List Value} {a : Nat} {h : Hp} (ht : (h.2.1 a).1 = 10) : ex (d) 69 25 L (.ref a :: st) h = ex d 69 28 L (h.1 a 10 :: st) h := (ex_of d69_25 (d) L (.ref a :: st) h).trans (fin_get (mi := 69) f10_42 (tg1 ht rfl))
theorem d69_28 : decode (mB 69) 28 = .ok (.getfield 241, 3) := by decide +kernel
theorem x69_28 {d : Nat} {L : Lc} {st : List Value} {a : Nat} {h : Hp} (ht : (h.2.1 a).1 = 5) : ex (d) 69 28 L (.ref a :: st) h = ex d 69 31 L (h.1 a 3 :: st) h := (ex_of d69_28 (d) L (.ref a :: st) h).trans (fin_get (mi := 69) f10_241 (tg1 ht rfl))
theorem d69_31 : decode (mB 69) 31 = .ok (.iload_n 1, 1) := by decide +kernel
theorem x69_31 {d : Nat} {l0 l2 l3 : Option Value} {st : List Value} {x : Int32} {h : Hp} : ex (d) 69 31 [l0, some (.int x), l2, l3] st h = ex d 69 32 [l0, some (.int x), l2, l3] (.int x :: st) h := (ex_of d69_31 (d) [l0, some (.int x), l2, l3] st h).trans (rfl)
theorem d69_32 : decode (mB 69) 32 = .ok (.iaload, 1) := by decide +kernel
theorem x69_32 {d : Nat} {L : Lc} {st : List Value} {a j : Nat} {h : Hp} (ht : (h.2.1 a).1 = 20) (hj : j < (h.2.1 a).2) (hb : j < 2147483648) : ex (d) 69 32 L (.int (nI j) :: .ref a :: st) h = ex d 69 33 L (h.1 a j :: st) h := (ex_of d69_32 (d) L (.int (nI j) :: .ref a :: st) h).trans (fin_iaload (Or.inl ht) hj hb)
theorem d69_33 : decode (mB 69) 33 = .ok (.istore_n 3, 1) := by decide +kernel
theorem x69_33 {d : Nat} {l0 l1 l2 l3 : Option Value} {st : List Value} {x : Int32} {h : Hp} : ex (d) 69 33 [l0, l1, l2, l3] (.int x :: st) h = ex d 69 34 [l0, l1, clr l2, some (.int x)] st h := (ex_of d69_33 (d) [l0, l1, l2, l3] (.int x :: st) h).trans (rfl)
theorem d69_34 : decode (mB 69) 34 = .ok (.aload_n 0, 1) := by decide +kernel
theorem x69_34 {d : Nat} {l1 l2 l3 : Option Value} {st : List Value} {a : Nat} {h : Hp} : ex (d) 69 34 [some (.ref a), l1, l2, l3] st h = ex d 69 35 [some (.ref a), l1, l2, l3] (.ref a :: st) h := (ex_of d69_34 (d) [some (.ref a), l1, l2, l3] st h).trans (rfl)
theorem d69_35 : decode (mB 69) 35 = .ok (.getfield 42, 3) := by decide +kernel
theorem x69_35 {d : Nat} {L : Lc} {st : List Value} {a : Nat} {h : Hp} (ht : (h.2.1 a).1 = 10) : ex (d) 69 35 L (.ref a :: st) h = ex d 69 38 L (h.1 a 10 :: st) h := (ex_of d69_35 (d) L (.ref a :: st) h).trans (fin_get (mi := 69) f10_42 (tg1 ht rfl))
theorem d69_38 : decode (mB 69) 38 = .ok (.getfield 241, 3) := by decide +kernel
theorem x69_38 {d : Nat} {L : Lc} {st : List Value} {a : Nat} {h : Hp} (ht : (h.2.1 a).1 = 5) : ex (d) 69 38 L (.ref a :: st) h = ex d 69 41 L (h.1 a 3 :: st) h := (ex_of d69_38 (d) L (.ref a :: st) h).trans (fin_get (mi := 69) f10_241 (tg1 ht rfl))
theorem d69_41 : decode (mB 69) 41 = .ok (.iload_n 1, 1) := by decide +kernel
theorem x69_41 {d : Nat} {l0 l2 l3 : Option Value} {st : List Value} {x : Int32} {h : Hp} : ex (d) 69 41 [l0, some (.int x), l2, l3] st h = ex d 69 42 [l0, some (.int x), l2, l3] (.int x :: st) h := (ex_of d69_41 (d) [l0, some (.int x), l2, l3] st h).trans (rfl)
theorem d69_42 : decode (mB 69) 42 = .ok (.iload_n 2, 1) := by decide +kernel
theorem x69_42 {d : Nat} {l0 l1 l3 : Option Value} {st : List Value} {x : Int32} {h : Hp} : ex (d) 69 42 [l0, l1, some (.int x), l3] st h = ex d 69 43 [l0, l1, some (.int x), l3] (.int x :: st) h := (ex_of d69_42 (d) [l0, l1, some (.int x), l3] st h).trans (rfl)
theorem d69_43 : decode (mB 69) 43 = .ok (.iastore, 1) := by decide +kernel
theorem x69_43 {d : Nat} {L : Lc} {st : List Value} {a j : Nat} {x : Int32} {h : Hp} (ht : (h.2.1 a).1 = 20) (hj : j < (h.2.1 a).2) (hb : j < 2147483648) : ex (d) 69 43 L (.int x :: .int (nI j) :: .ref a :: st) h = ex d 69 44 L st (mup h.1 a j (.int x), h.2) := (ex_of d69_43 (d) L (.int x :: .int (nI j) :: .ref a :: st) h).trans (fin_iastore ht hj hb)
theorem d69_44 : decode (mB 69) 44 = .ok (.aload_n 0, 1) := by decide +kernel
theorem x69_44 {d : Nat} {l1 l2 l3 : Option Value} {st : List Value} {a : Nat} {h : Hp} : ex (d) 69 44 [some (.ref a), l1, l2, l3] st h = ex d 69 45 [some (.ref a), l1, l2, l3] (.ref a :: st) h := (ex_of d69_44 (d) [some (.ref a), l1, l2, l3] st h).trans (rfl)
theorem d69_45 : decode (mB 69) 45 = .ok (.iload_n 3, 1) := by decide +kernel
theorem x69_45 {d : Nat} {l0 l1 l2 : Option Value} {st : List Value} {x : Int32} {h : Hp} : ex (d) 69 45 [l0, l1, l2, some (.int x)] st h = ex d 69 46 [l0, l1, l2, some (.int x)] (.int x :: st) h := (ex_of d69_45 (d) [l0, l1, l2, some (.int x)] st h).trans (rfl)
theorem d69_46 : decode (mB 69) 46 = .ok (.invokevirtual 64, 3) := by decide +kernel
theorem x69_46 {d : Nat} {L : Lc} {a : Nat} {v0 : Int32} {h : Hp} (ht : (h.2.1 a).1 = 10) : ex (d + 1) 69 46 L (.int v0 :: .ref a :: []) h = bnd (ex d 85 0 [some (.ref a), some (.int v0)] [] h) (fun v h' => ex (d + 1) 69 49 L (v.toList ++ []) h') := (ex_of d69_46 (d + 1) L (.int v0 :: .ref a :: []) h).trans (fin_vi (mi := 69) i10_64 ht rfl rfl (by simp [cat1_i, cat1_r]) (by simp) (Nat.le_of_ble_eq_true rfl))
theorem d69_49 : decode (mB 69) 49 = .ok (.ireturn, 1) := by decide +kernel
theorem x69_49 {d : Nat} {L : Lc} {x : Int32} {h : Hp} : ex (d) 69 49 L [.int x] h = some (some (.int x), h) := (ex_of d69_49 (d) L [.int x] h).trans (rfl)
