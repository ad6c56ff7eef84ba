/-! ===== x-rows, printed by wip/whole/gen/genx.py: X6_init, X6_hasRoom, X6_hasRole, X6_addRole, X6_gather, X6_solve, X6_keepAnswer, X6_fillCosts, X6_insertCheap, X6_fillGaps, X6_hasRoleBetween, X6_minutesBetween, X6_fillOrder, X6_joinGroups, X6_seekCh ===== -/
theorem d13_0 : decode (mB 13) 0 = .ok (.aload_n 0, 1) := by decide +kernel
theorem x13_0 {d : Nat} {st : List Value} {a : Nat} {h : Hp} : ex (d) 13 0 [some (.ref a)] st h = ex d 13 1 [some (.ref a)] (.ref a :: st) h := (ex_of d13_0 (d) [some (.ref a)] st h).trans (rfl)
theorem d13_1 : decode (mB 13) 1 = .ok (.invokespecial 3, 3) := by decide +kernel
theorem x13_1 {d : Nat} {L : Lc} {a : Nat} {h : Hp} : ex (d) 13 1 L (.ref a :: []) h = ex d 13 4 L [] h := (ex_of d13_1 (d) L (.ref a :: []) h).trans (rfl)
theorem d13_4 : decode (mB 13) 4 = .ok (.aload_n 0, 1) := by decide +kernel
theorem x13_4 {d : Nat} {st : List Value} {a : Nat} {h : Hp} : ex (d) 13 4 [some (.ref a)] st h = ex d 13 5 [some (.ref a)] (.ref a :: st) h := (ex_of d13_4 (d) [some (.ref a)] st h).trans (rfl)
theorem d13_5 : decode (mB 13) 5 = .ok (.bipush 7, 2) := by decide +kernel
theorem x13_5 {d : Nat} {L : Lc} {st : List Value} {h : Hp} : ex (d) 13 5 L st h = ex d 13 7 L (.int (nI 7) :: st) h := (ex_of d13_5 (d) L st h).trans (rfl)
theorem d13_7 : decode (mB 13) 7 = .ok (.anewarray 9, 3) := by decide +kernel
theorem x13_7 {d : Nat} {L : Lc} {st : List Value} {n : Nat} {h : Hp} (hn : n ≤ 10000) : ex (d) 13 7 L (.int (nI n) :: st) h = ex d 13 10 L (.ref h.2.2.1 :: st) (mnw h.1 h.2.2.1 (fun _ => .null), mnw h.2.1 h.2.2.1 (23, n), h.2.2.1 + 1, h.2.2.2 + n) := (ex_of d13_7 (d) L (.int (nI n) :: st) h).trans (fin_anw (mi := 13) k5_9 rfl (by decide) hn)
theorem d13_10 : decode (mB 13) 10 = .ok (.putfield 11, 3) := by decide +kernel
theorem x13_10 {d : Nat} {L : Lc} {st : List Value} {a b : Nat} {h : Hp} (ht : (h.2.1 a).1 = 5) : ex (d) 13 10 L (.ref b :: .ref a :: st) h = ex d 13 13 L st (mup h.1 a 0 (.ref b), h.2) := (ex_of d13_10 (d) L (.ref b :: .ref a :: st) h).trans (fin_put (mi := 13) f5_11 ht rfl rfl (by decide +kernel))
theorem x13_10n {d : Nat} {L : Lc} {st : List Value} {a : Nat} {h : Hp} (ht : (h.2.1 a).1 = 5) : ex (d) 13 10 L (.null :: .ref a :: st) h = ex d 13 13 L st (mup h.1 a 0 .null, h.2) := (ex_of d13_10 (d) L (.null :: .ref a :: st) h).trans (fin_put (mi := 13) f5_11 ht rfl rfl (by decide +kernel))
theorem x13_10q {d : Nat} {L : Lc} {st : List Value} {a : Nat} {b : Option Nat} {h : Hp} (ht : (h.2.1 a).1 = 5) : ex (d) 13 10 L (va_rf b :: .ref a :: st) h = ex d 13 13 L st (mup h.1 a 0 (va_rf b), h.2) := (ex_of d13_10 (d) L (va_rf b :: .ref a :: st) h).trans (by cases b <;> exact fin_put (mi := 13) f5_11 ht rfl rfl (by decide +kernel))
theorem d13_13 : decode (mB 13) 13 = .ok (.aload_n 0, 1) := by decide +kernel
theorem x13_13 {d : Nat} {st : List Value} {a : Nat} {h : Hp} : ex (d) 13 13 [some (.ref a)] st h = ex d 13 14 [some (.ref a)] (.ref a :: st) h := (ex_of d13_13 (d) [some (.ref a)] st h).trans (rfl)
theorem d13_14 : decode (mB 13) 14 = .ok (.bipush 7, 2) := by decide +kernel
theorem x13_14 {d : Nat} {L : Lc} {st : List Value} {h : Hp} : ex (d) 13 14 L st h = ex d 13 16 L (.int (nI 7) :: st) h := (ex_of d13_14 (d) L st h).trans (rfl)
theorem d13_16 : decode (mB 13) 16 = .ok (.newarray .int, 2) := by decide +kernel
theorem x13_16 {d : Nat} {L : Lc} {st : List Value} {n : Nat} {h : Hp} (hn : n ≤ 10000) : ex (d) 13 16 L (.int (nI n) :: st) h = ex d 13 18 L (.ref h.2.2.1 :: st) (mnw h.1 h.2.2.1 (fun _ => .int 0), mnw h.2.1 h.2.2.1 (20, n), h.2.2.1 + 1, h.2.2.2 + n) := (ex_of d13_16 (d) L (.int (nI n) :: st) h).trans (fin_nwa hn)
theorem d13_18 : decode (mB 13) 18 = .ok (.putfield 17, 3) := by decide +kernel
theorem x13_18 {d : Nat} {L : Lc} {st : List Value} {a b : Nat} {h : Hp} (ht : (h.2.1 a).1 = 5) : ex (d) 13 18 L (.ref b :: .ref a :: st) h = ex d 13 21 L st (mup h.1 a 1 (.ref b), h.2) := (ex_of d13_18 (d) L (.ref b :: .ref a :: st) h).trans (fin_put (mi := 13) f5_17 ht rfl rfl (by decide +kernel))
theorem x13_18n {d : Nat} {L : Lc} {st : List Value} {a : Nat} {h : Hp} (ht : (h.2.1 a).1 = 5) : ex (d) 13 18 L (.null :: .ref a :: st) h = ex d 13 21 L st (mup h.1 a 1 .null, h.2) := (ex_of d13_18 (d) L (.null :: .ref a :: st) h).trans (fin_put (mi := 13) f5_17 ht rfl rfl (by decide +kernel))
theorem x13_18q {d : Nat} {L : Lc} {st : List Value} {a : Nat} {b : Option Nat} {h : Hp} (ht : (h.2.1 a).1 = 5) : ex (d) 13 18 L (va_rf b :: .ref a :: st) h = ex d 13 21 L st (mup h.1 a 1 (va_rf b), h.2) := (ex_of d13_18 (d) L (va_rf b :: .ref a :: st) h).trans (by cases b <;> exact fin_put (mi := 13) f5_17 ht rfl rfl (by decide +kernel))
theorem d13_21 : decode (mB 13) 21 = .ok (.aload_n 0, 1) := by decide +kernel
theorem x13_21 {d : Nat} {st : List Value} {a : Nat} {h : Hp} : ex (d) 13 21 [some (.ref a)] st h = ex d 13 22 [some (.ref a)] (.ref a :: st) h := (ex_of d13_21 (d) [some (.ref a)] st h).trans (rfl)
theorem d13_22 : decode (mB 13) 22 = .ok (.bipush 10, 2) := by decide +kernel
theorem x13_22 {d : Nat} {L : Lc} {st : List Value} {h : Hp} : ex (d) 13 22 L st h = ex d 13 24 L (.int (nI 10) :: st) h := (ex_of d13_22 (d) L st h).trans (rfl)
theorem d13_24 : decode (mB 13) 24 = .ok (.newarray .int, 2) := by decide +kernel
theorem x13_24 {d : Nat} {L : Lc} {st : List Value} {n : Nat} {h : Hp} (hn : n ≤ 10000) : ex (d) 13 24 L (.int (nI n) :: st) h = ex d 13 26 L (.ref h.2.2.1 :: st) (mnw h.1 h.2.2.1 (fun _ => .int 0), mnw h.2.1 h.2.2.1 (20, n), h.2.2.1 + 1, h.2.2.2 + n) := (ex_of d13_24 (d) L (.int (nI n) :: st) h).trans (fin_nwa hn)
theorem d13_26 : decode (mB 13) 26 = .ok (.putfield 21, 3) := by decide +kernel
theorem x13_26 {d : Nat} {L : Lc} {st : List Value} {a b : Nat} {h : Hp} (ht : (h.2.1 a).1 = 5) : ex (d) 13 26 L (.ref b :: .ref a :: st) h = ex d 13 29 L st (mup h.1 a 3 (.ref b), h.2) := (ex_of d13_26 (d) L (.ref b :: .ref a :: st) h).trans (fin_put (mi := 13) f5_21 ht rfl rfl (by decide +kernel))
theorem x13_26n {d : Nat} {L : Lc} {st : List Value} {a : Nat} {h : Hp} (ht : (h.2.1 a).1 = 5) : ex (d) 13 26 L (.null :: .ref a :: st) h = ex d 13 29 L st (mup h.1 a 3 .null, h.2) := (ex_of d13_26 (d) L (.null :: .ref a :: st) h).trans (fin_put (mi := 13) f5_21 ht rfl rfl (by decide +kernel))
theorem x13_26q {d : Nat} {L : Lc} {st : List Value} {a : Nat} {b : Option Nat} {h : Hp} (ht : (h.2.1 a).1 = 5) : ex (d) 13 26 L (va_rf b :: .ref a :: st) h = ex d 13 29 L st (mup h.1 a 3 (va_rf b), h.2) := (ex_of d13_26 (d) L (va_rf b :: .ref a :: st) h).trans (by cases b <;> exact fin_put (mi := 13) f5_21 ht rfl rfl (by decide +kernel))
theorem d13_29 : decode (mB 13) 29 = .ok (.aload_n 0, 1) := by decide +kernel
theorem x13_29 {d : Nat} {st : List Value} {a : Nat} {h : Hp} : ex (d) 13 29 [some (.ref a)] st h = ex d 13 30 [some (.ref a)] (.ref a :: st) h := (ex_of d13_29 (d) [some (.ref a)] st h).trans (rfl)
theorem d13_30 : decode (mB 13) 30 = .ok (.bipush 8, 2) := by decide +kernel
theorem x13_30 {d : Nat} {L : Lc} {st : List Value} {h : Hp} : ex (d) 13 30 L st h = ex d 13 32 L (.int (nI 8) :: st) h := (ex_of d13_30 (d) L st h).trans (rfl)
theorem d13_32 : decode (mB 13) 32 = .ok (.anewarray 24, 3) := by decide +kernel
theorem x13_32 {d : Nat} {L : Lc} {st : List Value} {n : Nat} {h : Hp} (hn : n ≤ 10000) : ex (d) 13 32 L (.int (nI n) :: st) h = ex d 13 35 L (.ref h.2.2.1 :: st) (mnw h.1 h.2.2.1 (fun _ => .null), mnw h.2.1 h.2.2.1 (21, n), h.2.2.1 + 1, h.2.2.2 + n) := (ex_of d13_32 (d) L (.int (nI n) :: st) h).trans (fin_anw (mi := 13) k5_24 rfl (by decide) hn)
theorem d13_35 : decode (mB 13) 35 = .ok (.putfield 26, 3) := by decide +kernel
theorem x13_35 {d : Nat} {L : Lc} {st : List Value} {a b : Nat} {h : Hp} (ht : (h.2.1 a).1 = 5) : ex (d) 13 35 L (.ref b :: .ref a :: st) h = ex d 13 38 L st (mup h.1 a 4 (.ref b), h.2) := (ex_of d13_35 (d) L (.ref b :: .ref a :: st) h).trans (fin_put (mi := 13) f5_26 ht rfl rfl (by decide +kernel))
theorem x13_35n {d : Nat} {L : Lc} {st : List Value} {a : Nat} {h : Hp} (ht : (h.2.1 a).1 = 5) : ex (d) 13 35 L (.null :: .ref a :: st) h = ex d 13 38 L st (mup h.1 a 4 .null, h.2) := (ex_of d13_35 (d) L (.null :: .ref a :: st) h).trans (fin_put (mi := 13) f5_26 ht rfl rfl (by decide +kernel))
theorem x13_35q {d : Nat} {L : Lc} {st : List Value} {a : Nat} {b : Option Nat} {h : Hp} (ht : (h.2.1 a).1 = 5) : ex (d) 13 35 L (va_rf b :: .ref a :: st) h = ex d 13 38 L st (mup h.1 a 4 (va_rf b), h.2) := (ex_of d13_35 (d) L (va_rf b :: .ref a :: st) h).trans (by cases b <;> exact fin_put (mi := 13) f5_26 ht rfl rfl (by decide +kernel))
theorem d13_38 : decode (mB 13) 38 = .ok (.aload_n 0, 1) := by decide +kernel
theorem x13_38 {d : Nat} {st : List Value} {a : Nat} {h : Hp} : ex (d) 13 38 [some (.ref a)] st h = ex d 13 39 [some (.ref a)] (.ref a :: st) h := (ex_of d13_38 (d) [some (.ref a)] st h).trans (rfl)
theorem d13_39 : decode (mB 13) 39 = .ok (.bipush 8, 2) := by decide +kernel
theorem x13_39 {d : Nat} {L : Lc} {st : List Value} {h : Hp} : ex (d) 13 39 L st h = ex d 13 41 L (.int (nI 8) :: st) h := (ex_of d13_39 (d) L st h).trans (rfl)
theorem d13_41 : decode (mB 13) 41 = .ok (.newarray .int, 2) := by decide +kernel
theorem x13_41 {d : Nat} {L : Lc} {st : List Value} {n : Nat} {h : Hp} (hn : n ≤ 10000) : ex (d) 13 41 L (.int (nI n) :: st) h = ex d 13 43 L (.ref h.2.2.1 :: st) (mnw h.1 h.2.2.1 (fun _ => .int 0), mnw h.2.1 h.2.2.1 (20, n), h.2.2.1 + 1, h.2.2.2 + n) := (ex_of d13_41 (d) L (.int (nI n) :: st) h).trans (fin_nwa hn)
theorem d13_43 : decode (mB 13) 43 = .ok (.putfield 30, 3) := by decide +kernel
theorem x13_43 {d : Nat} {L : Lc} {st : List Value} {a b : Nat} {h : Hp} (ht : (h.2.1 a).1 = 5) : ex (d) 13 43 L (.ref b :: .ref a :: st) h = ex d 13 46 L st (mup h.1 a 6 (.ref b), h.2) := (ex_of d13_43 (d) L (.ref b :: .ref a :: st) h).trans (fin_put (mi := 13) f5_30 ht rfl rfl (by decide +kernel))
theorem x13_43n {d : Nat} {L : Lc} {st : List Value} {a : Nat} {h : Hp} (ht : (h.2.1 a).1 = 5) : ex (d) 13 43 L (.null :: .ref a :: st) h = ex d 13 46 L st (mup h.1 a 6 .null, h.2) := (ex_of d13_43 (d) L (.null :: .ref a :: st) h).trans (fin_put (mi := 13) f5_30 ht rfl rfl (by decide +kernel))
theorem x13_43q {d : Nat} {L : Lc} {st : List Value} {a : Nat} {b : Option Nat} {h : Hp} (ht : (h.2.1 a).1 = 5) : ex (d) 13 43 L (va_rf b :: .ref a :: st) h = ex d 13 46 L st (mup h.1 a 6 (va_rf b), h.2) := (ex_of d13_43 (d) L (va_rf b :: .ref a :: st) h).trans (by cases b <;> exact fin_put (mi := 13) f5_30 ht rfl rfl (by decide +kernel))
theorem d13_46 : decode (mB 13) 46 = .ok (.aload_n 0, 1) := by decide +kernel
theorem x13_46 {d : Nat} {st : List Value} {a : Nat} {h : Hp} : ex (d) 13 46 [some (.ref a)] st h = ex d 13 47 [some (.ref a)] (.ref a :: st) h := (ex_of d13_46 (d) [some (.ref a)] st h).trans (rfl)
theorem d13_47 : decode (mB 13) 47 = .ok (.bipush 7, 2) := by decide +kernel
theorem x13_47 {d : Nat} {L : Lc} {st : List Value} {h : Hp} : ex (d) 13 47 L st h = ex d 13 49 L (.int (nI 7) :: st) h := (ex_of d13_47 (d) L st h).trans (rfl)
theorem d13_49 : decode (mB 13) 49 = .ok (.bipush 8, 2) := by decide +kernel
theorem x13_49 {d : Nat} {L : Lc} {st : List Value} {h : Hp} : ex (d) 13 49 L st h = ex d 13 51 L (.int (nI 8) :: st) h := (ex_of d13_49 (d) L st h).trans (rfl)
theorem d13_51 : decode (mB 13) 51 = .ok (.multianewarray 33 2, 4) := by decide +kernel
theorem x13_51 {d : Nat} {L : Lc} {st : List Value} {n k : Nat} {h : Hp} (hn : n ≤ 1000) (hk : k ≤ 1000) : ex (d) 13 51 L (.int (nI k) :: .int (nI n) :: st) h = ex d 13 55 L (.ref h.2.2.1 :: st) (fun x => if x = h.2.2.1 then (fun j => if j < n then .ref (h.2.2.1 + 1 + j) else .null) else if h.2.2.1 < x ∧ x ≤ h.2.2.1 + n then (fun _ => .int 0) else h.1 x, fun x => if x = h.2.2.1 then (26, n) else if h.2.2.1 < x ∧ x ≤ h.2.2.1 + n then (20, k) else h.2.1 x, h.2.2.1 + 1 + n, h.2.2.2 + n + n * k) := (ex_of d13_51 (d) L (.int (nI k) :: .int (nI n) :: st) h).trans (fin_mna (mi := 13) k5_33 rfl hn hk)
theorem d13_55 : decode (mB 13) 55 = .ok (.putfield 35, 3) := by decide +kernel
theorem x13_55 {d : Nat} {L : Lc} {st : List Value} {a b : Nat} {h : Hp} (ht : (h.2.1 a).1 = 5) : ex (d) 13 55 L (.ref b :: .ref a :: st) h = ex d 13 58 L st (mup h.1 a 7 (.ref b), h.2) := (ex_of d13_55 (d) L (.ref b :: .ref a :: st) h).trans (fin_put (mi := 13) f5_35 ht rfl rfl (by decide +kernel))
theorem x13_55n {d : Nat} {L : Lc} {st : List Value} {a : Nat} {h : Hp} (ht : (h.2.1 a).1 = 5) : ex (d) 13 55 L (.null :: .ref a :: st) h = ex d 13 58 L st (mup h.1 a 7 .null, h.2) := (ex_of d13_55 (d) L (.null :: .ref a :: st) h).trans (fin_put (mi := 13) f5_35 ht rfl rfl (by decide +kernel))
theorem x13_55q {d : Nat} {L : Lc} {st : List Value} {a : Nat} {b : Option Nat} {h : Hp} (ht : (h.2.1 a).1 = 5) : ex (d) 13 55 L (va_rf b :: .ref a :: st) h = ex d 13 58 L st (mup h.1 a 7 (va_rf b), h.2) := (ex_of d13_55 (d) L (va_rf b :: .ref a :: st) h).trans (by cases b <;> exact fin_put (mi := 13) f5_35 ht rfl rfl (by decide +kernel))
theorem d13_58 : decode (mB 13) 58 = .ok (.aload_n 0, 1) := by decide +kernel
theorem x13_58 {d : Nat} {st : List Value} {a : Nat} {h : Hp} : ex (d) 13 58 [some (.ref a)] st h = ex d 13 59 [some (.ref a)] (.ref a :: st) h := (ex_of d13_58 (d) [some (.ref a)] st h).trans (rfl)
theorem d13_59 : decode (mB 13) 59 = .ok (.bipush 7, 2) := by decide +kernel
theorem x13_59 {d : Nat} {L : Lc} {st : List Value} {h : Hp} : ex (d) 13 59 L st h = ex d 13 61 L (.int (nI 7) :: st) h := (ex_of d13_59 (d) L st h).trans (rfl)
theorem d13_61 : decode (mB 13) 61 = .ok (.bipush 8, 2) := by decide +kernel
theorem x13_61 {d : Nat} {L : Lc} {st : List Value} {h : Hp} : ex (d) 13 61 L st h = ex d 13 63 L (.int (nI 8) :: st) h := (ex_of d13_61 (d) L st h).trans (rfl)
theorem d13_63 : decode (mB 13) 63 = .ok (.multianewarray 33 2, 4) := by decide +kernel
theorem x13_63 {d : Nat} {L : Lc} {st : List Value} {n k : Nat} {h : Hp} (hn : n ≤ 1000) (hk : k ≤ 1000) : ex (d) 13 63 L (.int (nI k) :: .int (nI n) :: st) h = ex d 13 67 L (.ref h.2.2.1 :: st) (fun x => if x = h.2.2.1 then (fun j => if j < n then .ref (h.2.2.1 + 1 + j) else .null) else if h.2.2.1 < x ∧ x ≤ h.2.2.1 + n then (fun _ => .int 0) else h.1 x, fun x => if x = h.2.2.1 then (26, n) else if h.2.2.1 < x ∧ x ≤ h.2.2.1 + n then (20, k) else h.2.1 x, h.2.2.1 + 1 + n, h.2.2.2 + n + n * k) := (ex_of d13_63 (d) L (.int (nI k) :: .int (nI n) :: st) h).trans (fin_mna (mi := 13) k5_33 rfl hn hk)
theorem d13_67 : decode (mB 13) 67 = .ok (.putfield 38, 3) := by decide +kernel
theorem x13_67 {d : Nat} {L : Lc} {st : List Value} {a b : Nat} {h : Hp} (ht : (h.2.1 a).1 = 5) : ex (d) 13 67 L (.ref b :: .ref a :: st) h = ex d 13 70 L st (mup h.1 a 8 (.ref b), h.2) := (ex_of d13_67 (d) L (.ref b :: .ref a :: st) h).trans (fin_put (mi := 13) f5_38 ht rfl rfl (by decide +kernel))
theorem x13_67n {d : Nat} {L : Lc} {st : List Value} {a : Nat} {h : Hp} (ht : (h.2.1 a).1 = 5) : ex (d) 13 67 L (.null :: .ref a :: st) h = ex d 13 70 L st (mup h.1 a 8 .null, h.2) := (ex_of d13_67 (d) L (.null :: .ref a :: st) h).trans (fin_put (mi := 13) f5_38 ht rfl rfl (by decide +kernel))
theorem x13_67q {d : Nat} {L : Lc} {st : List Value} {a : Nat} {b : Option Nat} {h : Hp} (ht : (h.2.1 a).1 = 5) : ex (d) 13 67 L (va_rf b :: .ref a :: st) h = ex d 13 70 L st (mup h.1 a 8 (va_rf b), h.2) := (ex_of d13_67 (d) L (va_rf b :: .ref a :: st) h).trans (by cases b <;> exact fin_put (mi := 13) f5_38 ht rfl rfl (by decide +kernel))
theorem d13_70 : decode (mB 13) 70 = .ok (.aload_n 0, 1) := by decide +kernel
theorem x13_70 {d : Nat} {st : List Value} {a : Nat} {h : Hp} : ex (d) 13 70 [some (.ref a)] st h = ex d 13 71 [some (.ref a)] (.ref a :: st) h := (ex_of d13_70 (d) [some (.ref a)] st h).trans (rfl)
theorem d13_71 : decode (mB 13) 71 = .ok (.bipush 7, 2) := by decide +kernel
theorem x13_71 {d : Nat} {L : Lc} {st : List Value} {h : Hp} : ex (d) 13 71 L st h = ex d 13 73 L (.int (nI 7) :: st) h := (ex_of d13_71 (d) L st h).trans (rfl)
theorem d13_73 : decode (mB 13) 73 = .ok (.newarray .int, 2) := by decide +kernel
theorem x13_73 {d : Nat} {L : Lc} {st : List Value} {n : Nat} {h : Hp} (hn : n ≤ 10000) : ex (d) 13 73 L (.int (nI n) :: st) h = ex d 13 75 L (.ref h.2.2.1 :: st) (mnw h.1 h.2.2.1 (fun _ => .int 0), mnw h.2.1 h.2.2.1 (20, n), h.2.2.1 + 1, h.2.2.2 + n) := (ex_of d13_73 (d) L (.int (nI n) :: st) h).trans (fin_nwa hn)
theorem d13_75 : decode (mB 13) 75 = .ok (.putfield 41, 3) := by decide +kernel
theorem x13_75 {d : Nat} {L : Lc} {st : List Value} {a b : Nat} {h : Hp} (ht : (h.2.1 a).1 = 5) : ex (d) 13 75 L (.ref b :: .ref a :: st) h = ex d 13 78 L st (mup h.1 a 9 (.ref b), h.2) := (ex_of d13_75 (d) L (.ref b :: .ref a :: st) h).trans (fin_put (mi := 13) f5_41 ht rfl rfl (by decide +kernel))
theorem x13_75n {d : Nat} {L : Lc} {st : List Value} {a : Nat} {h : Hp} (ht : (h.2.1 a).1 = 5) : ex (d) 13 75 L (.null :: .ref a :: st) h = ex d 13 78 L st (mup h.1 a 9 .null, h.2) := (ex_of d13_75 (d) L (.null :: .ref a :: st) h).trans (fin_put (mi := 13) f5_41 ht rfl rfl (by decide +kernel))
theorem x13_75q {d : Nat} {L : Lc} {st : List Value} {a : Nat} {b : Option Nat} {h : Hp} (ht : (h.2.1 a).1 = 5) : ex (d) 13 75 L (va_rf b :: .ref a :: st) h = ex d 13 78 L st (mup h.1 a 9 (va_rf b), h.2) := (ex_of d13_75 (d) L (va_rf b :: .ref a :: st) h).trans (by cases b <;> exact fin_put (mi := 13) f5_41 ht rfl rfl (by decide +kernel))
theorem d13_78 : decode (mB 13) 78 = .ok (.aload_n 0, 1) := by decide +kernel
theorem x13_78 {d : Nat} {st : List Value} {a : Nat} {h : Hp} : ex (d) 13 78 [some (.ref a)] st h = ex d 13 79 [some (.ref a)] (.ref a :: st) h := (ex_of d13_78 (d) [some (.ref a)] st h).trans (rfl)
theorem d13_79 : decode (mB 13) 79 = .ok (.bipush 7, 2) := by decide +kernel
theorem x13_79 {d : Nat} {L : Lc} {st : List Value} {h : Hp} : ex (d) 13 79 L st h = ex d 13 81 L (.int (nI 7) :: st) h := (ex_of d13_79 (d) L st h).trans (rfl)
theorem d13_81 : decode (mB 13) 81 = .ok (.bipush 7, 2) := by decide +kernel
theorem x13_81 {d : Nat} {L : Lc} {st : List Value} {h : Hp} : ex (d) 13 81 L st h = ex d 13 83 L (.int (nI 7) :: st) h := (ex_of d13_81 (d) L st h).trans (rfl)
theorem d13_83 : decode (mB 13) 83 = .ok (.multianewarray 33 2, 4) := by decide +kernel
theorem x13_83 {d : Nat} {L : Lc} {st : List Value} {n k : Nat} {h : Hp} (hn : n ≤ 1000) (hk : k ≤ 1000) : ex (d) 13 83 L (.int (nI k) :: .int (nI n) :: st) h = ex d 13 87 L (.ref h.2.2.1 :: st) (fun x => if x = h.2.2.1 then (fun j => if j < n then .ref (h.2.2.1 + 1 + j) else .null) else if h.2.2.1 < x ∧ x ≤ h.2.2.1 + n then (fun _ => .int 0) else h.1 x, fun x => if x = h.2.2.1 then (26, n) else if h.2.2.1 < x ∧ x ≤ h.2.2.1 + n then (20, k) else h.2.1 x, h.2.2.1 + 1 + n, h.2.2.2 + n + n * k) := (ex_of d13_83 (d) L (.int (nI k) :: .int (nI n) :: st) h).trans (fin_mna (mi := 13) k5_33 rfl hn hk)
theorem d13_87 : decode (mB 13) 87 = .ok (.putfield 44, 3) := by decide +kernel
theorem x13_87 {d : Nat} {L : Lc} {st : List Value} {a b : Nat} {h : Hp} (ht : (h.2.1 a).1 = 5) : ex (d) 13 87 L (.ref b :: .ref a :: st) h = ex d 13 90 L st (mup h.1 a 10 (.ref b), h.2) := (ex_of d13_87 (d) L (.ref b :: .ref a :: st) h).trans (fin_put (mi := 13) f5_44 ht rfl rfl (by decide +kernel))
theorem x13_87n {d : Nat} {L : Lc} {st : List Value} {a : Nat} {h : Hp} (ht : (h.2.1 a).1 = 5) : ex (d) 13 87 L (.null :: .ref a :: st) h = ex d 13 90 L st (mup h.1 a 10 .null, h.2) := (ex_of d13_87 (d) L (.null :: .ref a :: st) h).trans (fin_put (mi := 13) f5_44 ht rfl rfl (by decide +kernel))
theorem x13_87q {d : Nat} {L : Lc} {st : List Value} {a : Nat} {b : Option Nat} {h : Hp} (ht : (h.2.1 a).1 = 5) : ex (d) 13 87 L (va_rf b :: .ref a :: st) h = ex d 13 90 L st (mup h.1 a 10 (va_rf b), h.2) := (ex_of d13_87 (d) L (va_rf b :: .ref a :: st) h).trans (by cases b <;> exact fin_put (mi := 13) f5_44 ht rfl rfl (by decide +kernel))
theorem d13_90 : decode (mB 13) 90 = .ok (.aload_n 0, 1) := by decide +kernel
theorem x13_90 {d : Nat} {st : List Value} {a : Nat} {h : Hp} : ex (d) 13 90 [some (.ref a)] st h = ex d 13 91 [some (.ref a)] (.ref a :: st) h := (ex_of d13_90 (d) [some (.ref a)] st h).trans (rfl)
theorem d13_91 : decode (mB 13) 91 = .ok (.bipush 7, 2) := by decide +kernel
theorem x13_91 {d : Nat} {L : Lc} {st : List Value} {h : Hp} : ex (d) 13 91 L st h = ex d 13 93 L (.int (nI 7) :: st) h := (ex_of d13_91 (d) L st h).trans (rfl)
theorem d13_93 : decode (mB 13) 93 = .ok (.newarray .int, 2) := by decide +kernel
theorem x13_93 {d : Nat} {L : Lc} {st : List Value} {n : Nat} {h : Hp} (hn : n ≤ 10000) : ex (d) 13 93 L (.int (nI n) :: st) h = ex d 13 95 L (.ref h.2.2.1 :: st) (mnw h.1 h.2.2.1 (fun _ => .int 0), mnw h.2.1 h.2.2.1 (20, n), h.2.2.1 + 1, h.2.2.2 + n) := (ex_of d13_93 (d) L (.int (nI n) :: st) h).trans (fin_nwa hn)
theorem d13_95 : decode (mB 13) 95 = .ok (.putfield 47, 3) := by decide +kernel
theorem x13_95 {d : Nat} {L : Lc} {st : List Value} {a b : Nat} {h : Hp} (ht : (h.2.1 a).1 = 5) : ex (d) 13 95 L (.ref b :: .ref a :: st) h = ex d 13 98 L st (mup h.1 a 11 (.ref b), h.2) := (ex_of d13_95 (d) L (.ref b :: .ref a :: st) h).trans (fin_put (mi := 13) f5_47 ht rfl rfl (by decide +kernel))
theorem x13_95n {d : Nat} {L : Lc} {st : List Value} {a : Nat} {h : Hp} (ht : (h.2.1 a).1 = 5) : ex (d) 13 95 L (.null :: .ref a :: st) h = ex d 13 98 L st (mup h.1 a 11 .null, h.2) := (ex_of d13_95 (d) L (.null :: .ref a :: st) h).trans (fin_put (mi := 13) f5_47 ht rfl rfl (by decide +kernel))
theorem x13_95q {d : Nat} {L : Lc} {st : List Value} {a : Nat} {b : Option Nat} {h : Hp} (ht : (h.2.1 a).1 = 5) : ex (d) 13 95 L (va_rf b :: .ref a :: st) h = ex d 13 98 L st (mup h.1 a 11 (va_rf b), h.2) := (ex_of d13_95 (d) L (va_rf b :: .ref a :: st) h).trans (by cases b <;> exact fin_put (mi := 13) f5_47 ht rfl rfl (by decide +kernel))
theorem d13_98 : decode (mB 13) 98 = .ok (.aload_n 0, 1) := by decide +kernel
theorem x13_98 {d : Nat} {st : List Value} {a : Nat} {h : Hp} : ex (d) 13 98 [some (.ref a)] st h = ex d 13 99 [some (.ref a)] (.ref a :: st) h := (ex_of d13_98 (d) [some (.ref a)] st h).trans (rfl)
theorem d13_99 : decode (mB 13) 99 = .ok (.bipush 7, 2) := by decide +kernel
theorem x13_99 {d : Nat} {L : Lc} {st : List Value} {h : Hp} : ex (d) 13 99 L st h = ex d 13 101 L (.int (nI 7) :: st) h := (ex_of d13_99 (d) L st h).trans (rfl)
theorem d13_101 : decode (mB 13) 101 = .ok (.newarray .int, 2) := by decide +kernel
theorem x13_101 {d : Nat} {L : Lc} {st : List Value} {n : Nat} {h : Hp} (hn : n ≤ 10000) : ex (d) 13 101 L (.int (nI n) :: st) h = ex d 13 103 L (.ref h.2.2.1 :: st) (mnw h.1 h.2.2.1 (fun _ => .int 0), mnw h.2.1 h.2.2.1 (20, n), h.2.2.1 + 1, h.2.2.2 + n) := (ex_of d13_101 (d) L (.int (nI n) :: st) h).trans (fin_nwa hn)
theorem d13_103 : decode (mB 13) 103 = .ok (.putfield 50, 3) := by decide +kernel
theorem x13_103 {d : Nat} {L : Lc} {st : List Value} {a b : Nat} {h : Hp} (ht : (h.2.1 a).1 = 5) : ex (d) 13 103 L (.ref b :: .ref a :: st) h = ex d 13 106 L st (mup h.1 a 12 (.ref b), h.2) := (ex_of d13_103 (d) L (.ref b :: .ref a :: st) h).trans (fin_put (mi := 13) f5_50 ht rfl rfl (by decide +kernel))
theorem x13_103n {d : Nat} {L : Lc} {st : List Value} {a : Nat} {h : Hp} (ht : (h.2.1 a).1 = 5) : ex (d) 13 103 L (.null :: .ref a :: st) h = ex d 13 106 L st (mup h.1 a 12 .null, h.2) := (ex_of d13_103 (d) L (.null :: .ref a :: st) h).trans (fin_put (mi := 13) f5_50 ht rfl rfl (by decide +kernel))
theorem x13_103q {d : Nat} {L : Lc} {st : List Value} {a : Nat} {b : Option Nat} {h : Hp} (ht : (h.2.1 a).1 = 5) : ex (d) 13 103 L (va_rf b :: .ref a :: st) h = ex d 13 106 L st (mup h.1 a 12 (va_rf b), h.2) := (ex_of d13_103 (d) L (va_rf b :: .ref a :: st) h).trans (by cases b <;> exact fin_put (mi := 13) f5_50 ht rfl rfl (by decide +kernel))
theorem d13_106 : decode (mB 13) 106 = .ok (.aload_n 0, 1) := by decide +kernel
theorem x13_106 {d : Nat} {st : List Value} {a : Nat} {h : Hp} : ex (d) 13 106 [some (.ref a)] st h = ex d 13 107 [some (.ref a)] (.ref a :: st) h := (ex_of d13_106 (d) [some (.ref a)] st h).trans (rfl)
theorem d13_107 : decode (mB 13) 107 = .ok (.bipush 8, 2) := by decide +kernel
theorem x13_107 {d : Nat} {L : Lc} {st : List Value} {h : Hp} : ex (d) 13 107 L st h = ex d 13 109 L (.int (nI 8) :: st) h := (ex_of d13_107 (d) L st h).trans (rfl)
theorem d13_109 : decode (mB 13) 109 = .ok (.newarray .int, 2) := by decide +kernel
theorem x13_109 {d : Nat} {L : Lc} {st : List Value} {n : Nat} {h : Hp} (hn : n ≤ 10000) : ex (d) 13 109 L (.int (nI n) :: st) h = ex d 13 111 L (.ref h.2.2.1 :: st) (mnw h.1 h.2.2.1 (fun _ => .int 0), mnw h.2.1 h.2.2.1 (20, n), h.2.2.1 + 1, h.2.2.2 + n) := (ex_of d13_109 (d) L (.int (nI n) :: st) h).trans (fin_nwa hn)
theorem d13_111 : decode (mB 13) 111 = .ok (.putfield 53, 3) := by decide +kernel
theorem x13_111 {d : Nat} {L : Lc} {st : List Value} {a b : Nat} {h : Hp} (ht : (h.2.1 a).1 = 5) : ex (d) 13 111 L (.ref b :: .ref a :: st) h = ex d 13 114 L st (mup h.1 a 13 (.ref b), h.2) := (ex_of d13_111 (d) L (.ref b :: .ref a :: st) h).trans (fin_put (mi := 13) f5_53 ht rfl rfl (by decide +kernel))
theorem x13_111n {d : Nat} {L : Lc} {st : List Value} {a : Nat} {h : Hp} (ht : (h.2.1 a).1 = 5) : ex (d) 13 111 L (.null :: .ref a :: st) h = ex d 13 114 L st (mup h.1 a 13 .null, h.2) := (ex_of d13_111 (d) L (.null :: .ref a :: st) h).trans (fin_put (mi := 13) f5_53 ht rfl rfl (by decide +kernel))
theorem x13_111q {d : Nat} {L : Lc} {st : List Value} {a : Nat} {b : Option Nat} {h : Hp} (ht : (h.2.1 a).1 = 5) : ex (d) 13 111 L (va_rf b :: .ref a :: st) h = ex d 13 114 L st (mup h.1 a 13 (va_rf b), h.2) := (ex_of d13_111 (d) L (va_rf b :: .ref a :: st) h).trans (by cases b <;> exact fin_put (mi := 13) f5_53 ht rfl rfl (by decide +kernel))
theorem d13_114 : decode (mB 13) 114 = .ok (.aload_n 0, 1) := by decide +kernel
theorem x13_114 {d : Nat} {st : List Value} {a : Nat} {h : Hp} : ex (d) 13 114 [some (.ref a)] st h = ex d 13 115 [some (.ref a)] (.ref a :: st) h := (ex_of d13_114 (d) [some (.ref a)] st h).trans (rfl)
theorem d13_115 : decode (mB 13) 115 = .ok (.bipush 7, 2) := by decide +kernel
theorem x13_115 {d : Nat} {L : Lc} {st : List Value} {h : Hp} : ex (d) 13 115 L st h = ex d 13 117 L (.int (nI 7) :: st) h := (ex_of d13_115 (d) L st h).trans (rfl)
theorem d13_117 : decode (mB 13) 117 = .ok (.newarray .int, 2) := by decide +kernel
theorem x13_117 {d : Nat} {L : Lc} {st : List Value} {n : Nat} {h : Hp} (hn : n ≤ 10000) : ex (d) 13 117 L (.int (nI n) :: st) h = ex d 13 119 L (.ref h.2.2.1 :: st) (mnw h.1 h.2.2.1 (fun _ => .int 0), mnw h.2.1 h.2.2.1 (20, n), h.2.2.1 + 1, h.2.2.2 + n) := (ex_of d13_117 (d) L (.int (nI n) :: st) h).trans (fin_nwa hn)
theorem d13_119 : decode (mB 13) 119 = .ok (.putfield 56, 3) := by decide +kernel
theorem x13_119 {d : Nat} {L : Lc} {st : List Value} {a b : Nat} {h : Hp} (ht : (h.2.1 a).1 = 5) : ex (d) 13 119 L (.ref b :: .ref a :: st) h = ex d 13 122 L st (mup h.1 a 14 (.ref b), h.2) := (ex_of d13_119 (d) L (.ref b :: .ref a :: st) h).trans (fin_put (mi := 13) f5_56 ht rfl rfl (by decide +kernel))
theorem x13_119n {d : Nat} {L : Lc} {st : List Value} {a : Nat} {h : Hp} (ht : (h.2.1 a).1 = 5) : ex (d) 13 119 L (.null :: .ref a :: st) h = ex d 13 122 L st (mup h.1 a 14 .null, h.2) := (ex_of d13_119 (d) L (.null :: .ref a :: st) h).trans (fin_put (mi := 13) f5_56 ht rfl rfl (by decide +kernel))
theorem x13_119q {d : Nat} {L : Lc} {st : List Value} {a : Nat} {b : Option Nat} {h : Hp} (ht : (h.2.1 a).1 = 5) : ex (d) 13 119 L (va_rf b :: .ref a :: st) h = ex d 13 122 L st (mup h.1 a 14 (va_rf b), h.2) := (ex_of d13_119 (d) L (va_rf b :: .ref a :: st) h).trans (by cases b <;> exact fin_put (mi := 13) f5_56 ht rfl rfl (by decide +kernel))
theorem d13_122 : decode (mB 13) 122 = .ok (.aload_n 0, 1) := by decide +kernel
theorem x13_122 {d : Nat} {st : List Value} {a : Nat} {h : Hp} : ex (d) 13 122 [some (.ref a)] st h = ex d 13 123 [some (.ref a)] (.ref a :: st) h := (ex_of d13_122 (d) [some (.ref a)] st h).trans (rfl)
theorem d13_123 : decode (mB 13) 123 = .ok (.bipush 7, 2) := by decide +kernel
theorem x13_123 {d : Nat} {L : Lc} {st : List Value} {h : Hp} : ex (d) 13 123 L st h = ex d 13 125 L (.int (nI 7) :: st) h := (ex_of d13_123 (d) L st h).trans (rfl)
theorem d13_125 : decode (mB 13) 125 = .ok (.newarray .int, 2) := by decide +kernel
theorem x13_125 {d : Nat} {L : Lc} {st : List Value} {n : Nat} {h : Hp} (hn : n ≤ 10000) : ex (d) 13 125 L (.int (nI n) :: st) h = ex d 13 127 L (.ref h.2.2.1 :: st) (mnw h.1 h.2.2.1 (fun _ => .int 0), mnw h.2.1 h.2.2.1 (20, n), h.2.2.1 + 1, h.2.2.2 + n) := (ex_of d13_125 (d) L (.int (nI n) :: st) h).trans (fin_nwa hn)
theorem d13_127 : decode (mB 13) 127 = .ok (.putfield 59, 3) := by decide +kernel
theorem x13_127 {d : Nat} {L : Lc} {st : List Value} {a b : Nat} {h : Hp} (ht : (h.2.1 a).1 = 5) : ex (d) 13 127 L (.ref b :: .ref a :: st) h = ex d 13 130 L st (mup h.1 a 16 (.ref b), h.2) := (ex_of d13_127 (d) L (.ref b :: .ref a :: st) h).trans (fin_put (mi := 13) f5_59 ht rfl rfl (by decide +kernel))
theorem x13_127n {d : Nat} {L : Lc} {st : List Value} {a : Nat} {h : Hp} (ht : (h.2.1 a).1 = 5) : ex (d) 13 127 L (.null :: .ref a :: st) h = ex d 13 130 L st (mup h.1 a 16 .null, h.2) := (ex_of d13_127 (d) L (.null :: .ref a :: st) h).trans (fin_put (mi := 13) f5_59 ht rfl rfl (by decide +kernel))
theorem x13_127q {d : Nat} {L : Lc} {st : List Value} {a : Nat} {b : Option Nat} {h : Hp} (ht : (h.2.1 a).1 = 5) : ex (d) 13 127 L (va_rf b :: .ref a :: st) h = ex d 13 130 L st (mup h.1 a 16 (va_rf b), h.2) := (ex_of d13_127 (d) L (va_rf b :: .ref a :: st) h).trans (by cases b <;> exact fin_put (mi := 13) f5_59 ht rfl rfl (by decide +kernel))
theorem d13_130 : decode (mB 13) 130 = .ok (.return_, 1) := by decide +kernel
theorem x13_130 {d : Nat} {L : Lc}  {h : Hp} : ex (d) 13 130 L [] h = some (none, h) := (ex_of d13_130 (d) L [] h).trans (rfl)
theorem d14_0 : decode (mB 14) 0 = .ok (.aload_n 0, 1) := by decide +kernel
theorem x14_0 {d : Nat} {st : List Value} {a : Nat} {h : Hp} : ex (d) 14 0 [some (.ref a)] st h = ex d 14 1 [some (.ref a)] (.ref a :: st) h := (ex_of d14_0 (d) [some (.ref a)] st h).trans (rfl)
theorem d14_1 : decode (mB 14) 1 = .ok (.getfield 62, 3) := by decide +kernel
theorem x14_1 {d : Nat} {L : Lc} {st : List Value} {a : Nat} {h : Hp} (ht : (h.2.1 a).1 = 5) : ex (d) 14 1 L (.ref a :: st) h = ex d 14 4 L (h.1 a 2 :: st) h := (ex_of d14_1 (d) L (.ref a :: st) h).trans (fin_get (mi := 14) f5_62 (tg1 ht rfl))
theorem d14_4 : decode (mB 14) 4 = .ok (.bipush 7, 2) := by decide +kernel
theorem x14_4 {d : Nat} {L : Lc} {st : List Value} {h : Hp} : ex (d) 14 4 L st h = ex d 14 6 L (.int (nI 7) :: st) h := (ex_of d14_4 (d) L st h).trans (rfl)
theorem d14_6 : decode (mB 14) 6 = .ok (.if_icmp .ge 7, 3) := by decide +kernel
theorem x14_6 {d : Nat} {L : Lc} {st : List Value} {x y : Int32} {h : Hp} : ex (d) 14 6 L (.int y :: .int x :: st) h = if y ≤ x then ex d 14 13 L st h else ex d 14 9 L st h := (ex_of d14_6 (d) L (.int y :: .int x :: st) h).trans (fin_brq (off := 7) (tgt := 13) rfl (by decide))
theorem d14_9 : decode (mB 14) 9 = .ok (.iconst 1, 1) := by decide +kernel
theorem x14_9 {d : Nat} {L : Lc} {st : List Value} {h : Hp} : ex (d) 14 9 L st h = ex d 14 10 L (.int (nI 1) :: st) h := (ex_of d14_9 (d) L st h).trans (rfl)
theorem d14_10 : decode (mB 14) 10 = .ok (.goto 4, 3) := by decide +kernel
theorem x14_10 {d : Nat} {L : Lc} {st : List Value} {h : Hp} : ex (d) 14 10 L st h = ex d 14 14 L st h := (ex_of d14_10 (d) L st h).trans (rfl)
theorem d14_13 : decode (mB 14) 13 = .ok (.iconst 0, 1) := by decide +kernel
theorem x14_13 {d : Nat} {L : Lc} {st : List Value} {h : Hp} : ex (d) 14 13 L st h = ex d 14 14 L (.int (nI 0) :: st) h := (ex_of d14_13 (d) L st h).trans (rfl)
theorem d14_14 : decode (mB 14) 14 = .ok (.ireturn, 1) := by decide +kernel
theorem x14_14 {d : Nat} {L : Lc} {x : Int32} {h : Hp} (hx : x = 0 ∨ x = 1) : ex (d) 14 14 L [.int x] h = some (some (.int x), h) := (ex_of d14_14 (d) L [.int x] h).trans (fin_retb rfl hx)
theorem d15_0 : decode (mB 15) 0 = .ok (.iconst 0, 1) := by decide +kernel
theorem x15_0 {d : Nat} {L : Lc} {st : List Value} {h : Hp} : ex (d) 15 0 L st h = ex d 15 1 L (.int (nI 0) :: st) h := (ex_of d15_0 (d) L st h).trans (rfl)
theorem d15_1 : decode (mB 15) 1 = .ok (.istore_n 3, 1) := by decide +kernel
theorem x15_1 {d : Nat} {l0 l1 l2 l3 : Option Value} {st : List Value} {x : Int32} {h : Hp} : ex (d) 15 1 [l0, l1, l2, l3] (.int x :: st) h = ex d 15 2 [l0, l1, clr l2, some (.int x)] st h := (ex_of d15_1 (d) [l0, l1, l2, l3] (.int x :: st) h).trans (rfl)
theorem d15_2 : decode (mB 15) 2 = .ok (.iload_n 3, 1) := by decide +kernel
theorem x15_2 {d : Nat} {l0 l1 l2 : Option Value} {st : List Value} {x : Int32} {h : Hp} : ex (d) 15 2 [l0, l1, l2, some (.int x)] st h = ex d 15 3 [l0, l1, l2, some (.int x)] (.int x :: st) h := (ex_of d15_2 (d) [l0, l1, l2, some (.int x)] st h).trans (rfl)
theorem d15_3 : decode (mB 15) 3 = .ok (.aload_n 0, 1) := by decide +kernel
theorem x15_3 {d : Nat} {l1 l2 l3 : Option Value} {st : List Value} {a : Nat} {h : Hp} : ex (d) 15 3 [some (.ref a), l1, l2, l3] st h = ex d 15 4 [some (.ref a), l1, l2, l3] (.ref a :: st) h := (ex_of d15_3 (d) [some (.ref a), l1, l2, l3] st h).trans (rfl)
theorem d15_4 : decode (mB 15) 4 = .ok (.getfield 62, 3) := by decide +kernel
theorem x15_4 {d : Nat} {L : Lc} {st : List Value} {a : Nat} {h : Hp} (ht : (h.2.1 a).1 = 5) : ex (d) 15 4 L (.ref a :: st) h = ex d 15 7 L (h.1 a 2 :: st) h := (ex_of d15_4 (d) L (.ref a :: st) h).trans (fin_get (mi := 15) f5_62 (tg1 ht rfl))
theorem d15_7 : decode (mB 15) 7 = .ok (.if_icmp .ge 31, 3) := by decide +kernel
theorem x15_7 {d : Nat} {L : Lc} {st : List Value} {x y : Int32} {h : Hp} : ex (d) 15 7 L (.int y :: .int x :: st) h = if y ≤ x then ex d 15 38 L st h else ex d 15 10 L st h := (ex_of d15_7 (d) L (.int y :: .int x :: st) h).trans (fin_brq (off := 31) (tgt := 38) rfl (by decide))
theorem d15_10 : decode (mB 15) 10 = .ok (.aload_n 0, 1) := by decide +kernel
theorem x15_10 {d : Nat} {l1 l2 l3 : Option Value} {st : List Value} {a : Nat} {h : Hp} : ex (d) 15 10 [some (.ref a), l1, l2, l3] st h = ex d 15 11 [some (.ref a), l1, l2, l3] (.ref a :: st) h := (ex_of d15_10 (d) [some (.ref a), l1, l2, l3] st h).trans (rfl)
theorem d15_11 : decode (mB 15) 11 = .ok (.getfield 11, 3) := by decide +kernel
theorem x15_11 {d : Nat} {L : Lc} {st : List Value} {a : Nat} {h : Hp} (ht : (h.2.1 a).1 = 5) : ex (d) 15 11 L (.ref a :: st) h = ex d 15 14 L (h.1 a 0 :: st) h := (ex_of d15_11 (d) L (.ref a :: st) h).trans (fin_get (mi := 15) f5_11 (tg1 ht rfl))
theorem d15_14 : decode (mB 15) 14 = .ok (.iload_n 3, 1) := by decide +kernel
theorem x15_14 {d : Nat} {l0 l1 l2 : Option Value} {st : List Value} {x : Int32} {h : Hp} : ex (d) 15 14 [l0, l1, l2, some (.int x)] st h = ex d 15 15 [l0, l1, l2, some (.int x)] (.int x :: st) h := (ex_of d15_14 (d) [l0, l1, l2, some (.int x)] st h).trans (rfl)
theorem d15_15 : decode (mB 15) 15 = .ok (.aaload, 1) := by decide +kernel
theorem x15_15 {d : Nat} {L : Lc} {st : List Value} {a j : Nat} {h : Hp} (ht : 21 ≤ (h.2.1 a).1 ∧ (h.2.1 a).1 ≤ 26) (hj : j < (h.2.1 a).2) (hb : j < 2147483648) : ex (d) 15 15 L (.int (nI j) :: .ref a :: st) h = ex d 15 16 L (h.1 a j :: st) h := (ex_of d15_15 (d) L (.int (nI j) :: .ref a :: st) h).trans (fin_aaload ht hj hb)
theorem d15_16 : decode (mB 15) 16 = .ok (.aload_n 1, 1) := by decide +kernel
theorem x15_16 {d : Nat} {l0 l2 l3 : Option Value} {st : List Value} {a : Nat} {h : Hp} : ex (d) 15 16 [l0, some (.ref a), l2, l3] st h = ex d 15 17 [l0, some (.ref a), l2, l3] (.ref a :: st) h := (ex_of d15_16 (d) [l0, some (.ref a), l2, l3] st h).trans (rfl)
theorem x15_16n {d : Nat} {l0 l2 l3 : Option Value} {st : List Value} {h : Hp} : ex (d) 15 16 [l0, some .null, l2, l3] st h = ex d 15 17 [l0, some .null, l2, l3] (.null :: st) h := (ex_of d15_16 (d) [l0, some .null, l2, l3] st h).trans (rfl)
theorem x15_16q {d : Nat} {l0 l2 l3 : Option Value} {st : List Value} {a : Option Nat} {h : Hp} : ex (d) 15 16 [l0, some (va_rf a), l2, l3] st h = ex d 15 17 [l0, some (va_rf a), l2, l3] (va_rf a :: st) h := (ex_of d15_16 (d) [l0, some (va_rf a), l2, l3] st h).trans (by cases a <;> rfl)
theorem d15_17 : decode (mB 15) 17 = .ok (.if_acmp .ne 15, 3) := by decide +kernel
theorem x15_17 {d : Nat} {L : Lc} {st : List Value} {v w : Value} {h : Hp} (hv : isR v = true) (hw : isR w = true) : ex (d) 15 17 L (w :: v :: st) h = if ¬ v = w then ex d 15 32 L st h else ex d 15 20 L st h := (ex_of d15_17 (d) L (w :: v :: st) h).trans (fin_acmpN (off := 15) (tgt := 32) rfl hv hw (by decide))
theorem d15_20 : decode (mB 15) 20 = .ok (.aload_n 0, 1) := by decide +kernel
theorem x15_20 {d : Nat} {l1 l2 l3 : Option Value} {st : List Value} {a : Nat} {h : Hp} : ex (d) 15 20 [some (.ref a), l1, l2, l3] st h = ex d 15 21 [some (.ref a), l1, l2, l3] (.ref a :: st) h := (ex_of d15_20 (d) [some (.ref a), l1, l2, l3] st h).trans (rfl)
theorem d15_21 : decode (mB 15) 21 = .ok (.getfield 17, 3) := by decide +kernel
theorem x15_21 {d : Nat} {L : Lc} {st : List Value} {a : Nat} {h : Hp} (ht : (h.2.1 a).1 = 5) : ex (d) 15 21 L (.ref a :: st) h = ex d 15 24 L (h.1 a 1 :: st) h := (ex_of d15_21 (d) L (.ref a :: st) h).trans (fin_get (mi := 15) f5_17 (tg1 ht rfl))
theorem d15_24 : decode (mB 15) 24 = .ok (.iload_n 3, 1) := by decide +kernel
theorem x15_24 {d : Nat} {l0 l1 l2 : Option Value} {st : List Value} {x : Int32} {h : Hp} : ex (d) 15 24 [l0, l1, l2, some (.int x)] st h = ex d 15 25 [l0, l1, l2, some (.int x)] (.int x :: st) h := (ex_of d15_24 (d) [l0, l1, l2, some (.int x)] st h).trans (rfl)
theorem d15_25 : decode (mB 15) 25 = .ok (.iaload, 1) := by decide +kernel
theorem x15_25 {d : Nat} {L : Lc} {st : List Value} {a j : Nat} {h : Hp} (ht : (h.2.1 a).1 = 20) (hj : j < (h.2.1 a).2) (hb : j < 2147483648) : ex (d) 15 25 L (.int (nI j) :: .ref a :: st) h = ex d 15 26 L (h.1 a j :: st) h := (ex_of d15_25 (d) L (.int (nI j) :: .ref a :: st) h).trans (fin_iaload (Or.inl ht) hj hb)
theorem d15_26 : decode (mB 15) 26 = .ok (.iload_n 2, 1) := by decide +kernel
theorem x15_26 {d : Nat} {l0 l1 l3 : Option Value} {st : List Value} {x : Int32} {h : Hp} : ex (d) 15 26 [l0, l1, some (.int x), l3] st h = ex d 15 27 [l0, l1, some (.int x), l3] (.int x :: st) h := (ex_of d15_26 (d) [l0, l1, some (.int x), l3] st h).trans (rfl)
theorem d15_27 : decode (mB 15) 27 = .ok (.if_icmp .ne 5, 3) := by decide +kernel
theorem x15_27 {d : Nat} {L : Lc} {st : List Value} {x y : Int32} {h : Hp} : ex (d) 15 27 L (.int y :: .int x :: st) h = if ¬ x = y then ex d 15 32 L st h else ex d 15 30 L st h := (ex_of d15_27 (d) L (.int y :: .int x :: st) h).trans (fin_brq (off := 5) (tgt := 32) rfl (by decide))
theorem d15_30 : decode (mB 15) 30 = .ok (.iconst 1, 1) := by decide +kernel
theorem x15_30 {d : Nat} {L : Lc} {st : List Value} {h : Hp} : ex (d) 15 30 L st h = ex d 15 31 L (.int (nI 1) :: st) h := (ex_of d15_30 (d) L st h).trans (rfl)
theorem d15_31 : decode (mB 15) 31 = .ok (.ireturn, 1) := by decide +kernel
theorem x15_31 {d : Nat} {L : Lc} {x : Int32} {h : Hp} (hx : x = 0 ∨ x = 1) : ex (d) 15 31 L [.int x] h = some (some (.int x), h) := (ex_of d15_31 (d) L [.int x] h).trans (fin_retb rfl hx)
theorem d15_32 : decode (mB 15) 32 = .ok (.iinc 3 1, 3) := by decide +kernel
theorem x15_32 {d : Nat} {l0 l1 l2 : Option Value} {st : List Value} {x : Int32} {h : Hp} : ex (d) 15 32 [l0, l1, l2, some (.int x)] st h = ex d 15 35 [l0, l1, clr l2, some (.int (x + (nI 1)))] st h := (ex_of d15_32 (d) [l0, l1, l2, some (.int x)] st h).trans (rfl)
theorem d15_35 : decode (mB 15) 35 = .ok (.goto (-33), 3) := by decide +kernel
theorem x15_35 {d : Nat} {L : Lc} {st : List Value} {h : Hp} : ex (d) 15 35 L st h = ex d 15 2 L st h := (ex_of d15_35 (d) L st h).trans (rfl)
theorem d15_38 : decode (mB 15) 38 = .ok (.iconst 0, 1) := by decide +kernel
theorem x15_38 {d : Nat} {L : Lc} {st : List Value} {h : Hp} : ex (d) 15 38 L st h = ex d 15 39 L (.int (nI 0) :: st) h := (ex_of d15_38 (d) L st h).trans (rfl)
theorem d15_39 : decode (mB 15) 39 = .ok (.ireturn, 1) := by decide +kernel
theorem x15_39 {d : Nat} {L : Lc} {x : Int32} {h : Hp} (hx : x = 0 ∨ x = 1) : ex (d) 15 39 L [.int x] h = some (some (.int x), h) := (ex_of d15_39 (d) L [.int x] h).trans (fin_retb rfl hx)
theorem d16_0 : decode (mB 16) 0 = .ok (.aload_n 0, 1) := by decide +kernel
theorem x16_0 {d : Nat} {l1 l2 l3 : Option Value} {st : List Value} {a : Nat} {h : Hp} : ex (d) 16 0 [some (.ref a), l1, l2, l3] st h = ex d 16 1 [some (.ref a), l1, l2, l3] (.ref a :: st) h := (ex_of d16_0 (d) [some (.ref a), l1, l2, l3] st h).trans (rfl)
theorem d16_1 : decode (mB 16) 1 = .ok (.getfield 62, 3) := by decide +kernel
theorem x16_1 {d : Nat} {L : Lc} {st : List Value} {a : Nat} {h : Hp} (ht : (h.2.1 a).1 = 5) : ex (d) 16 1 L (.ref a :: st) h = ex d 16 4 L (h.1 a 2 :: st) h := (ex_of d16_1 (d) L (.ref a :: st) h).trans (fin_get (mi := 16) f5_62 (tg1 ht rfl))
theorem d16_4 : decode (mB 16) 4 = .ok (.istore_n 3, 1) := by decide +kernel
theorem x16_4 {d : Nat} {l0 l1 l2 l3 : Option Value} {st : List Value} {x : Int32} {h : Hp} : ex (d) 16 4 [l0, l1, l2, l3] (.int x :: st) h = ex d 16 5 [l0, l1, clr l2, some (.int x)] st h := (ex_of d16_4 (d) [l0, l1, l2, l3] (.int x :: st) h).trans (rfl)
theorem d16_5 : decode (mB 16) 5 = .ok (.aload_n 0, 1) := by decide +kernel
theorem x16_5 {d : Nat} {l1 l2 l3 : Option Value} {st : List Value} {a : Nat} {h : Hp} : ex (d) 16 5 [some (.ref a), l1, l2, l3] st h = ex d 16 6 [some (.ref a), l1, l2, l3] (.ref a :: st) h := (ex_of d16_5 (d) [some (.ref a), l1, l2, l3] st h).trans (rfl)
theorem d16_6 : decode (mB 16) 6 = .ok (.getfield 11, 3) := by decide +kernel
theorem x16_6 {d : Nat} {L : Lc} {st : List Value} {a : Nat} {h : Hp} (ht : (h.2.1 a).1 = 5) : ex (d) 16 6 L (.ref a :: st) h = ex d 16 9 L (h.1 a 0 :: st) h := (ex_of d16_6 (d) L (.ref a :: st) h).trans (fin_get (mi := 16) f5_11 (tg1 ht rfl))
theorem d16_9 : decode (mB 16) 9 = .ok (.iload_n 3, 1) := by decide +kernel
theorem x16_9 {d : Nat} {l0 l1 l2 : Option Value} {st : List Value} {x : Int32} {h : Hp} : ex (d) 16 9 [l0, l1, l2, some (.int x)] st h = ex d 16 10 [l0, l1, l2, some (.int x)] (.int x :: st) h := (ex_of d16_9 (d) [l0, l1, l2, some (.int x)] st h).trans (rfl)
theorem d16_10 : decode (mB 16) 10 = .ok (.aload_n 1, 1) := by decide +kernel
theorem x16_10 {d : Nat} {l0 l2 l3 : Option Value} {st : List Value} {a : Nat} {h : Hp} : ex (d) 16 10 [l0, some (.ref a), l2, l3] st h = ex d 16 11 [l0, some (.ref a), l2, l3] (.ref a :: st) h := (ex_of d16_10 (d) [l0, some (.ref a), l2, l3] st h).trans (rfl)
theorem x16_10n {d : Nat} {l0 l2 l3 : Option Value} {st : List Value} {h : Hp} : ex (d) 16 10 [l0, some .null, l2, l3] st h = ex d 16 11 [l0, some .null, l2, l3] (.null :: st) h := (ex_of d16_10 (d) [l0, some .null, l2, l3] st h).trans (rfl)
theorem x16_10q {d : Nat} {l0 l2 l3 : Option Value} {st : List Value} {a : Option Nat} {h : Hp} : ex (d) 16 10 [l0, some (va_rf a), l2, l3] st h = ex d 16 11 [l0, some (va_rf a), l2, l3] (va_rf a :: st) h := (ex_of d16_10 (d) [l0, some (va_rf a), l2, l3] st h).trans (by cases a <;> rfl)
theorem d16_11 : decode (mB 16) 11 = .ok (.aastore, 1) := by decide +kernel
theorem x16_11 {d : Nat} {L : Lc} {st : List Value} {a j v : Nat} {h : Hp} (ht : 21 ≤ (h.2.1 a).1 ∧ (h.2.1 a).1 ≤ 25) (hc : casts.contains ((h.2.1 v).1, elT (h.2.1 a).1) = true) (hj : j < (h.2.1 a).2) (hb : j < 2147483648) : ex (d) 16 11 L (.ref v :: .int (nI j) :: .ref a :: st) h = ex d 16 12 L st (mup h.1 a j (.ref v), h.2) := (ex_of d16_11 (d) L (.ref v :: .int (nI j) :: .ref a :: st) h).trans (fin_aastore ht hc hj hb)
theorem x16_11n {d : Nat} {L : Lc} {st : List Value} {a j : Nat} {h : Hp} (ht : 21 ≤ (h.2.1 a).1 ∧ (h.2.1 a).1 ≤ 25) (hj : j < (h.2.1 a).2) (hb : j < 2147483648) : ex (d) 16 11 L (.null :: .int (nI j) :: .ref a :: st) h = ex d 16 12 L st (mup h.1 a j .null, h.2) := (ex_of d16_11 (d) L (.null :: .int (nI j) :: .ref a :: st) h).trans (fin_aastoreN ht hj hb)
theorem d16_12 : decode (mB 16) 12 = .ok (.aload_n 0, 1) := by decide +kernel
theorem x16_12 {d : Nat} {l1 l2 l3 : Option Value} {st : List Value} {a : Nat} {h : Hp} : ex (d) 16 12 [some (.ref a), l1, l2, l3] st h = ex d 16 13 [some (.ref a), l1, l2, l3] (.ref a :: st) h := (ex_of d16_12 (d) [some (.ref a), l1, l2, l3] st h).trans (rfl)
theorem d16_13 : decode (mB 16) 13 = .ok (.getfield 17, 3) := by decide +kernel
theorem x16_13 {d : Nat} {L : Lc} {st : List Value} {a : Nat} {h : Hp} (ht : (h.2.1 a).1 = 5) : ex (d) 16 13 L (.ref a :: st) h = ex d 16 16 L (h.1 a 1 :: st) h := (ex_of d16_13 (d) L (.ref a :: st) h).trans (fin_get (mi := 16) f5_17 (tg1 ht rfl))
theorem d16_16 : decode (mB 16) 16 = .ok (.iload_n 3, 1) := by decide +kernel
theorem x16_16 {d : Nat} {l0 l1 l2 : Option Value} {st : List Value} {x : Int32} {h : Hp} : ex (d) 16 16 [l0, l1, l2, some (.int x)] st h = ex d 16 17 [l0, l1, l2, some (.int x)] (.int x :: st) h := (ex_of d16_16 (d) [l0, l1, l2, some (.int x)] st h).trans (rfl)
theorem d16_17 : decode (mB 16) 17 = .ok (.iload_n 2, 1) := by decide +kernel
theorem x16_17 {d : Nat} {l0 l1 l3 : Option Value} {st : List Value} {x : Int32} {h : Hp} : ex (d) 16 17 [l0, l1, some (.int x), l3] st h = ex d 16 18 [l0, l1, some (.int x), l3] (.int x :: st) h := (ex_of d16_17 (d) [l0, l1, some (.int x), l3] st h).trans (rfl)
theorem d16_18 : decode (mB 16) 18 = .ok (.iastore, 1) := by decide +kernel
theorem x16_18 {d : Nat} {L : Lc} {st : List Value} {a j : Nat} {x : Int32} {h : Hp} (ht : (h.2.1 a).1 = 20) (hj : j < (h.2.1 a).2) (hb : j < 2147483648) : ex (d) 16 18 L (.int x :: .int (nI j) :: .ref a :: st) h = ex d 16 19 L st (mup h.1 a j (.int x), h.2) := (ex_of d16_18 (d) L (.int x :: .int (nI j) :: .ref a :: st) h).trans (fin_iastore ht hj hb)
theorem d16_19 : decode (mB 16) 19 = .ok (.aload_n 0, 1) := by decide +kernel
theorem x16_19 {d : Nat} {l1 l2 l3 : Option Value} {st : List Value} {a : Nat} {h : Hp} : ex (d) 16 19 [some (.ref a), l1, l2, l3] st h = ex d 16 20 [some (.ref a), l1, l2, l3] (.ref a :: st) h := (ex_of d16_19 (d) [some (.ref a), l1, l2, l3] st h).trans (rfl)
theorem d16_20 : decode (mB 16) 20 = .ok (.dup, 1) := by decide +kernel
theorem x16_20 {d : Nat} {L : Lc} {st : List Value} {a : Nat} {h : Hp} : ex (d) 16 20 L (.ref a :: st) h = ex d 16 21 L (.ref a :: .ref a :: st) h := (ex_of d16_20 (d) L (.ref a :: st) h).trans (rfl)
theorem x16_20i {d : Nat} {L : Lc} {st : List Value} {x : Int32} {h : Hp} : ex (d) 16 20 L (.int x :: st) h = ex d 16 21 L (.int x :: .int x :: st) h := (ex_of d16_20 (d) L (.int x :: st) h).trans (rfl)
theorem d16_21 : decode (mB 16) 21 = .ok (.getfield 62, 3) := by decide +kernel
theorem x16_21 {d : Nat} {L : Lc} {st : List Value} {a : Nat} {h : Hp} (ht : (h.2.1 a).1 = 5) : ex (d) 16 21 L (.ref a :: st) h = ex d 16 24 L (h.1 a 2 :: st) h := (ex_of d16_21 (d) L (.ref a :: st) h).trans (fin_get (mi := 16) f5_62 (tg1 ht rfl))
theorem d16_24 : decode (mB 16) 24 = .ok (.iconst 1, 1) := by decide +kernel
theorem x16_24 {d : Nat} {L : Lc} {st : List Value} {h : Hp} : ex (d) 16 24 L st h = ex d 16 25 L (.int (nI 1) :: st) h := (ex_of d16_24 (d) L st h).trans (rfl)
theorem d16_25 : decode (mB 16) 25 = .ok (.iadd, 1) := by decide +kernel
theorem x16_25 {d : Nat} {L : Lc} {st : List Value} {x y : Int32} {h : Hp} : ex (d) 16 25 L (.int y :: .int x :: st) h = ex d 16 26 L (.int (x + y) :: st) h := (ex_of d16_25 (d) L (.int y :: .int x :: st) h).trans (rfl)
theorem d16_26 : decode (mB 16) 26 = .ok (.putfield 62, 3) := by decide +kernel
theorem x16_26 {d : Nat} {L : Lc} {st : List Value} {a : Nat} {x : Int32} {h : Hp} (ht : (h.2.1 a).1 = 5) : ex (d) 16 26 L (.int x :: .ref a :: st) h = ex d 16 29 L st (mup h.1 a 2 (.int x), h.2) := (ex_of d16_26 (d) L (.int x :: .ref a :: st) h).trans (fin_put (mi := 16) f5_62 ht rfl rfl (by decide +kernel))
theorem d16_29 : decode (mB 16) 29 = .ok (.iload_n 3, 1) := by decide +kernel
theorem x16_29 {d : Nat} {l0 l1 l2 : Option Value} {st : List Value} {x : Int32} {h : Hp} : ex (d) 16 29 [l0, l1, l2, some (.int x)] st h = ex d 16 30 [l0, l1, l2, some (.int x)] (.int x :: st) h := (ex_of d16_29 (d) [l0, l1, l2, some (.int x)] st h).trans (rfl)
theorem d16_30 : decode (mB 16) 30 = .ok (.ireturn, 1) := by decide +kernel
theorem x16_30 {d : Nat} {L : Lc} {x : Int32} {h : Hp} : ex (d) 16 30 L [.int x] h = some (some (.int x), h) := (ex_of d16_30 (d) L [.int x] h).trans (rfl)
theorem d17_0 : decode (mB 17) 0 = .ok (.aload_n 0, 1) := by decide +kernel
theorem x17_0 {d : Nat} {l1 l2 l3 l4 : Option Value} {st : List Value} {a : Nat} {h : Hp} : ex (d) 17 0 [some (.ref a), l1, l2, l3, l4] st h = ex d 17 1 [some (.ref a), l1, l2, l3, l4] (.ref a :: st) h := (ex_of d17_0 (d) [some (.ref a), l1, l2, l3, l4] st h).trans (rfl)
theorem d17_1 : decode (mB 17) 1 = .ok (.iconst 0, 1) := by decide +kernel
theorem x17_1 {d : Nat} {L : Lc} {st : List Value} {h : Hp} : ex (d) 17 1 L st h = ex d 17 2 L (.int (nI 0) :: st) h := (ex_of d17_1 (d) L st h).trans (rfl)
theorem d17_2 : decode (mB 17) 2 = .ok (.putfield 66, 3) := by decide +kernel
theorem x17_2 {d : Nat} {L : Lc} {st : List Value} {a : Nat} {x : Int32} {h : Hp} (ht : (h.2.1 a).1 = 5) : ex (d) 17 2 L (.int x :: .ref a :: st) h = ex d 17 5 L st (mup h.1 a 5 (.int x), h.2) := (ex_of d17_2 (d) L (.int x :: .ref a :: st) h).trans (fin_put (mi := 17) f5_66 ht rfl rfl (by decide +kernel))
theorem d17_5 : decode (mB 17) 5 = .ok (.iconst 0, 1) := by decide +kernel
theorem x17_5 {d : Nat} {L : Lc} {st : List Value} {h : Hp} : ex (d) 17 5 L st h = ex d 17 6 L (.int (nI 0) :: st) h := (ex_of d17_5 (d) L st h).trans (rfl)
theorem d17_6 : decode (mB 17) 6 = .ok (.istore_n 3, 1) := by decide +kernel
theorem x17_6 {d : Nat} {l0 l1 l2 l3 l4 : Option Value} {st : List Value} {x : Int32} {h : Hp} : ex (d) 17 6 [l0, l1, l2, l3, l4] (.int x :: st) h = ex d 17 7 [l0, l1, clr l2, some (.int x), l4] st h := (ex_of d17_6 (d) [l0, l1, l2, l3, l4] (.int x :: st) h).trans (rfl)
theorem d17_7 : decode (mB 17) 7 = .ok (.iload_n 3, 1) := by decide +kernel
theorem x17_7 {d : Nat} {l0 l1 l2 l4 : Option Value} {st : List Value} {x : Int32} {h : Hp} : ex (d) 17 7 [l0, l1, l2, some (.int x), l4] st h = ex d 17 8 [l0, l1, l2, some (.int x), l4] (.int x :: st) h := (ex_of d17_7 (d) [l0, l1, l2, some (.int x), l4] st h).trans (rfl)
theorem d17_8 : decode (mB 17) 8 = .ok (.iload_n 2, 1) := by decide +kernel
theorem x17_8 {d : Nat} {l0 l1 l3 l4 : Option Value} {st : List Value} {x : Int32} {h : Hp} : ex (d) 17 8 [l0, l1, some (.int x), l3, l4] st h = ex d 17 9 [l0, l1, some (.int x), l3, l4] (.int x :: st) h := (ex_of d17_8 (d) [l0, l1, some (.int x), l3, l4] st h).trans (rfl)
theorem d17_9 : decode (mB 17) 9 = .ok (.if_icmp .ge 79, 3) := by decide +kernel
theorem x17_9 {d : Nat} {L : Lc} {st : List Value} {x y : Int32} {h : Hp} : ex (d) 17 9 L (.int y :: .int x :: st) h = if y ≤ x then ex d 17 88 L st h else ex d 17 12 L st h := (ex_of d17_9 (d) L (.int y :: .int x :: st) h).trans (fin_brq (off := 79) (tgt := 88) rfl (by decide))
theorem d17_12 : decode (mB 17) 12 = .ok (.aload_n 0, 1) := by decide +kernel
theorem x17_12 {d : Nat} {l1 l2 l3 l4 : Option Value} {st : List Value} {a : Nat} {h : Hp} : ex (d) 17 12 [some (.ref a), l1, l2, l3, l4] st h = ex d 17 13 [some (.ref a), l1, l2, l3, l4] (.ref a :: st) h := (ex_of d17_12 (d) [some (.ref a), l1, l2, l3, l4] st h).trans (rfl)
theorem d17_13 : decode (mB 17) 13 = .ok (.getfield 66, 3) := by decide +kernel
theorem x17_13 {d : Nat} {L : Lc} {st : List Value} {a : Nat} {h : Hp} (ht : (h.2.1 a).1 = 5) : ex (d) 17 13 L (.ref a :: st) h = ex d 17 16 L (h.1 a 5 :: st) h := (ex_of d17_13 (d) L (.ref a :: st) h).trans (fin_get (mi := 17) f5_66 (tg1 ht rfl))
theorem d17_16 : decode (mB 17) 16 = .ok (.bipush 8, 2) := by decide +kernel
theorem x17_16 {d : Nat} {L : Lc} {st : List Value} {h : Hp} : ex (d) 17 16 L st h = ex d 17 18 L (.int (nI 8) :: st) h := (ex_of d17_16 (d) L st h).trans (rfl)
theorem d17_18 : decode (mB 17) 18 = .ok (.if_icmp .ge 70, 3) := by decide +kernel
theorem x17_18 {d : Nat} {L : Lc} {st : List Value} {x y : Int32} {h : Hp} : ex (d) 17 18 L (.int y :: .int x :: st) h = if y ≤ x then ex d 17 88 L st h else ex d 17 21 L st h := (ex_of d17_18 (d) L (.int y :: .int x :: st) h).trans (fin_brq (off := 70) (tgt := 88) rfl (by decide))
theorem d17_21 : decode (mB 17) 21 = .ok (.aload_n 1, 1) := by decide +kernel
theorem x17_21 {d : Nat} {l0 l2 l3 l4 : Option Value} {st : List Value} {a : Nat} {h : Hp} : ex (d) 17 21 [l0, some (.ref a), l2, l3, l4] st h = ex d 17 22 [l0, some (.ref a), l2, l3, l4] (.ref a :: st) h := (ex_of d17_21 (d) [l0, some (.ref a), l2, l3, l4] st h).trans (rfl)
theorem x17_21n {d : Nat} {l0 l2 l3 l4 : Option Value} {st : List Value} {h : Hp} : ex (d) 17 21 [l0, some .null, l2, l3, l4] st h = ex d 17 22 [l0, some .null, l2, l3, l4] (.null :: st) h := (ex_of d17_21 (d) [l0, some .null, l2, l3, l4] st h).trans (rfl)
theorem x17_21q {d : Nat} {l0 l2 l3 l4 : Option Value} {st : List Value} {a : Option Nat} {h : Hp} : ex (d) 17 21 [l0, some (va_rf a), l2, l3, l4] st h = ex d 17 22 [l0, some (va_rf a), l2, l3, l4] (va_rf a :: st) h := (ex_of d17_21 (d) [l0, some (va_rf a), l2, l3, l4] st h).trans (by cases a <;> rfl)
theorem d17_22 : decode (mB 17) 22 = .ok (.iload_n 3, 1) := by decide +kernel
theorem x17_22 {d : Nat} {l0 l1 l2 l4 : Option Value} {st : List Value} {x : Int32} {h : Hp} : ex (d) 17 22 [l0, l1, l2, some (.int x), l4] st h = ex d 17 23 [l0, l1, l2, some (.int x), l4] (.int x :: st) h := (ex_of d17_22 (d) [l0, l1, l2, some (.int x), l4] st h).trans (rfl)
theorem d17_23 : decode (mB 17) 23 = .ok (.aaload, 1) := by decide +kernel
theorem x17_23 {d : Nat} {L : Lc} {st : List Value} {a j : Nat} {h : Hp} (ht : 21 ≤ (h.2.1 a).1 ∧ (h.2.1 a).1 ≤ 26) (hj : j < (h.2.1 a).2) (hb : j < 2147483648) : ex (d) 17 23 L (.int (nI j) :: .ref a :: st) h = ex d 17 24 L (h.1 a j :: st) h := (ex_of d17_23 (d) L (.int (nI j) :: .ref a :: st) h).trans (fin_aaload ht hj hb)
theorem d17_24 : decode (mB 17) 24 = .ok (.astore 4, 2) := by decide +kernel
theorem x17_24 {d : Nat} {l0 l1 l2 l3 l4 : Option Value} {st : List Value} {a : Nat} {h : Hp} : ex (d) 17 24 [l0, l1, l2, l3, l4] (.ref a :: st) h = ex d 17 26 [l0, l1, l2, clr l3, some (.ref a)] st h := (ex_of d17_24 (d) [l0, l1, l2, l3, l4] (.ref a :: st) h).trans (rfl)
theorem x17_24n {d : Nat} {l0 l1 l2 l3 l4 : Option Value} {st : List Value} {h : Hp} : ex (d) 17 24 [l0, l1, l2, l3, l4] (.null :: st) h = ex d 17 26 [l0, l1, l2, clr l3, some .null] st h := (ex_of d17_24 (d) [l0, l1, l2, l3, l4] (.null :: st) h).trans (rfl)
theorem x17_24q {d : Nat} {l0 l1 l2 l3 l4 : Option Value} {st : List Value} {a : Option Nat} {h : Hp} : ex (d) 17 24 [l0, l1, l2, l3, l4] (va_rf a :: st) h = ex d 17 26 [l0, l1, l2, clr l3, some (va_rf a)] st h := (ex_of d17_24 (d) [l0, l1, l2, l3, l4] (va_rf a :: st) h).trans (by cases a <;> rfl)
theorem d17_26 : decode (mB 17) 26 = .ok (.aload 4, 2) := by decide +kernel
theorem x17_26 {d : Nat} {l0 l1 l2 l3 : Option Value} {st : List Value} {a : Nat} {h : Hp} : ex (d) 17 26 [l0, l1, l2, l3, some (.ref a)] st h = ex d 17 28 [l0, l1, l2, l3, some (.ref a)] (.ref a :: st) h := (ex_of d17_26 (d) [l0, l1, l2, l3, some (.ref a)] st h).trans (rfl)
theorem x17_26n {d : Nat} {l0 l1 l2 l3 : Option Value} {st : List Value} {h : Hp} : ex (d) 17 26 [l0, l1, l2, l3, some .null] st h = ex d 17 28 [l0, l1, l2, l3, some .null] (.null :: st) h := (ex_of d17_26 (d) [l0, l1, l2, l3, some .null] st h).trans (rfl)
theorem x17_26q {d : Nat} {l0 l1 l2 l3 : Option Value} {st : List Value} {a : Option Nat} {h : Hp} : ex (d) 17 26 [l0, l1, l2, l3, some (va_rf a)] st h = ex d 17 28 [l0, l1, l2, l3, some (va_rf a)] (va_rf a :: st) h := (ex_of d17_26 (d) [l0, l1, l2, l3, some (va_rf a)] st h).trans (by cases a <;> rfl)
theorem d17_28 : decode (mB 17) 28 = .ok (.ifnull 54, 3) := by decide +kernel
theorem x17_28n {d : Nat} {L : Lc} {st : List Value} {h : Hp} : ex (d) 17 28 L (.null :: st) h = ex d 17 82 L st h := (ex_of d17_28 (d) L (.null :: st) h).trans (rfl)
theorem x17_28 {d : Nat} {L : Lc} {st : List Value} {a : Nat} {h : Hp} : ex (d) 17 28 L (.ref a :: st) h = ex d 17 31 L st h := (ex_of d17_28 (d) L (.ref a :: st) h).trans (rfl)
theorem d17_31 : decode (mB 17) 31 = .ok (.aload 4, 2) := by decide +kernel
theorem x17_31 {d : Nat} {l0 l1 l2 l3 : Option Value} {st : List Value} {a : Nat} {h : Hp} : ex (d) 17 31 [l0, l1, l2, l3, some (.ref a)] st h = ex d 17 33 [l0, l1, l2, l3, some (.ref a)] (.ref a :: st) h := (ex_of d17_31 (d) [l0, l1, l2, l3, some (.ref a)] st h).trans (rfl)
theorem x17_31n {d : Nat} {l0 l1 l2 l3 : Option Value} {st : List Value} {h : Hp} : ex (d) 17 31 [l0, l1, l2, l3, some .null] st h = ex d 17 33 [l0, l1, l2, l3, some .null] (.null :: st) h := (ex_of d17_31 (d) [l0, l1, l2, l3, some .null] st h).trans (rfl)
theorem x17_31q {d : Nat} {l0 l1 l2 l3 : Option Value} {st : List Value} {a : Option Nat} {h : Hp} : ex (d) 17 31 [l0, l1, l2, l3, some (va_rf a)] st h = ex d 17 33 [l0, l1, l2, l3, some (va_rf a)] (va_rf a :: st) h := (ex_of d17_31 (d) [l0, l1, l2, l3, some (va_rf a)] st h).trans (by cases a <;> rfl)
theorem d17_33 : decode (mB 17) 33 = .ok (.invokevirtual 69, 3) := by decide +kernel
theorem x17_33 {d : Nat} {L : Lc} {a : Nat} {h : Hp} (ht : isTh (h.2.1 a).1 = true) : ex (d + 1) 17 33 L (.ref a :: []) h = bnd (ex d 39 0 [some (.ref a)] [] h) (fun v h' => ex (d + 1) 17 36 L (v.toList ++ []) h') := (ex_of d17_33 (d + 1) L (.ref a :: []) h).trans (fin_viT (mi := 17) i5_69 ht (by decide +kernel) rfl (by simp [cat1_i, cat1_r]) (by simp) (Nat.le_of_ble_eq_true rfl))
theorem d17_36 : decode (mB 17) 36 = .ok (.ifCond .eq 46, 3) := by decide +kernel
theorem x17_36 {d : Nat} {L : Lc} {st : List Value} {x : Int32} {h : Hp} : ex (d) 17 36 L (.int x :: st) h = if x = 0 then ex d 17 82 L st h else ex d 17 39 L st h := (ex_of d17_36 (d) L (.int x :: st) h).trans (fin_brq (off := 46) (tgt := 82) rfl (by decide))
theorem d17_39 : decode (mB 17) 39 = .ok (.aload 4, 2) := by decide +kernel
theorem x17_39 {d : Nat} {l0 l1 l2 l3 : Option Value} {st : List Value} {a : Nat} {h : Hp} : ex (d) 17 39 [l0, l1, l2, l3, some (.ref a)] st h = ex d 17 41 [l0, l1, l2, l3, some (.ref a)] (.ref a :: st) h := (ex_of d17_39 (d) [l0, l1, l2, l3, some (.ref a)] st h).trans (rfl)
theorem x17_39n {d : Nat} {l0 l1 l2 l3 : Option Value} {st : List Value} {h : Hp} : ex (d) 17 39 [l0, l1, l2, l3, some .null] st h = ex d 17 41 [l0, l1, l2, l3, some .null] (.null :: st) h := (ex_of d17_39 (d) [l0, l1, l2, l3, some .null] st h).trans (rfl)
theorem x17_39q {d : Nat} {l0 l1 l2 l3 : Option Value} {st : List Value} {a : Option Nat} {h : Hp} : ex (d) 17 39 [l0, l1, l2, l3, some (va_rf a)] st h = ex d 17 41 [l0, l1, l2, l3, some (va_rf a)] (va_rf a :: st) h := (ex_of d17_39 (d) [l0, l1, l2, l3, some (va_rf a)] st h).trans (by cases a <;> rfl)
theorem d17_41 : decode (mB 17) 41 = .ok (.invokevirtual 73, 3) := by decide +kernel
theorem x17_41 {d : Nat} {L : Lc} {a : Nat} {h : Hp} (ht : isTh (h.2.1 a).1 = true) : ex (d + 1) 17 41 L (.ref a :: []) h = bnd (ex d 41 0 [some (.ref a)] [] h) (fun v h' => ex (d + 1) 17 44 L (v.toList ++ []) h') := (ex_of d17_41 (d + 1) L (.ref a :: []) h).trans (fin_viT (mi := 17) i5_73 ht (by decide +kernel) rfl (by simp [cat1_i, cat1_r]) (by simp) (Nat.le_of_ble_eq_true rfl))
theorem d17_44 : decode (mB 17) 44 = .ok (.ifCond .eq 38, 3) := by decide +kernel
theorem x17_44 {d : Nat} {L : Lc} {st : List Value} {x : Int32} {h : Hp} : ex (d) 17 44 L (.int x :: st) h = if x = 0 then ex d 17 82 L st h else ex d 17 47 L st h := (ex_of d17_44 (d) L (.int x :: st) h).trans (fin_brq (off := 38) (tgt := 82) rfl (by decide))
theorem d17_47 : decode (mB 17) 47 = .ok (.aload_n 0, 1) := by decide +kernel
theorem x17_47 {d : Nat} {l1 l2 l3 l4 : Option Value} {st : List Value} {a : Nat} {h : Hp} : ex (d) 17 47 [some (.ref a), l1, l2, l3, l4] st h = ex d 17 48 [some (.ref a), l1, l2, l3, l4] (.ref a :: st) h := (ex_of d17_47 (d) [some (.ref a), l1, l2, l3, l4] st h).trans (rfl)
theorem d17_48 : decode (mB 17) 48 = .ok (.getfield 26, 3) := by decide +kernel
theorem x17_48 {d : Nat} {L : Lc} {st : List Value} {a : Nat} {h : Hp} (ht : (h.2.1 a).1 = 5) : ex (d) 17 48 L (.ref a :: st) h = ex d 17 51 L (h.1 a 4 :: st) h := (ex_of d17_48 (d) L (.ref a :: st) h).trans (fin_get (mi := 17) f5_26 (tg1 ht rfl))
theorem d17_51 : decode (mB 17) 51 = .ok (.aload_n 0, 1) := by decide +kernel
theorem x17_51 {d : Nat} {l1 l2 l3 l4 : Option Value} {st : List Value} {a : Nat} {h : Hp} : ex (d) 17 51 [some (.ref a), l1, l2, l3, l4] st h = ex d 17 52 [some (.ref a), l1, l2, l3, l4] (.ref a :: st) h := (ex_of d17_51 (d) [some (.ref a), l1, l2, l3, l4] st h).trans (rfl)
theorem d17_52 : decode (mB 17) 52 = .ok (.getfield 66, 3) := by decide +kernel
theorem x17_52 {d : Nat} {L : Lc} {st : List Value} {a : Nat} {h : Hp} (ht : (h.2.1 a).1 = 5) : ex (d) 17 52 L (.ref a :: st) h = ex d 17 55 L (h.1 a 5 :: st) h := (ex_of d17_52 (d) L (.ref a :: st) h).trans (fin_get (mi := 17) f5_66 (tg1 ht rfl))
theorem d17_55 : decode (mB 17) 55 = .ok (.aload 4, 2) := by decide +kernel
theorem x17_55 {d : Nat} {l0 l1 l2 l3 : Option Value} {st : List Value} {a : Nat} {h : Hp} : ex (d) 17 55 [l0, l1, l2, l3, some (.ref a)] st h = ex d 17 57 [l0, l1, l2, l3, some (.ref a)] (.ref a :: st) h := (ex_of d17_55 (d) [l0, l1, l2, l3, some (.ref a)] st h).trans (rfl)
theorem x17_55n {d : Nat} {l0 l1 l2 l3 : Option Value} {st : List Value} {h : Hp} : ex (d) 17 55 [l0, l1, l2, l3, some .null] st h = ex d 17 57 [l0, l1, l2, l3, some .null] (.null :: st) h := (ex_of d17_55 (d) [l0, l1, l2, l3, some .null] st h).trans (rfl)
theorem x17_55q {d : Nat} {l0 l1 l2 l3 : Option Value} {st : List Value} {a : Option Nat} {h : Hp} : ex (d) 17 55 [l0, l1, l2, l3, some (va_rf a)] st h = ex d 17 57 [l0, l1, l2, l3, some (va_rf a)] (va_rf a :: st) h := (ex_of d17_55 (d) [l0, l1, l2, l3, some (va_rf a)] st h).trans (by cases a <;> rfl)
theorem d17_57 : decode (mB 17) 57 = .ok (.aastore, 1) := by decide +kernel
theorem x17_57 {d : Nat} {L : Lc} {st : List Value} {a j v : Nat} {h : Hp} (ht : 21 ≤ (h.2.1 a).1 ∧ (h.2.1 a).1 ≤ 25) (hc : casts.contains ((h.2.1 v).1, elT (h.2.1 a).1) = true) (hj : j < (h.2.1 a).2) (hb : j < 2147483648) : ex (d) 17 57 L (.ref v :: .int (nI j) :: .ref a :: st) h = ex d 17 58 L st (mup h.1 a j (.ref v), h.2) := (ex_of d17_57 (d) L (.ref v :: .int (nI j) :: .ref a :: st) h).trans (fin_aastore ht hc hj hb)
theorem x17_57n {d : Nat} {L : Lc} {st : List Value} {a j : Nat} {h : Hp} (ht : 21 ≤ (h.2.1 a).1 ∧ (h.2.1 a).1 ≤ 25) (hj : j < (h.2.1 a).2) (hb : j < 2147483648) : ex (d) 17 57 L (.null :: .int (nI j) :: .ref a :: st) h = ex d 17 58 L st (mup h.1 a j .null, h.2) := (ex_of d17_57 (d) L (.null :: .int (nI j) :: .ref a :: st) h).trans (fin_aastoreN ht hj hb)
theorem d17_58 : decode (mB 17) 58 = .ok (.aload_n 0, 1) := by decide +kernel
theorem x17_58 {d : Nat} {l1 l2 l3 l4 : Option Value} {st : List Value} {a : Nat} {h : Hp} : ex (d) 17 58 [some (.ref a), l1, l2, l3, l4] st h = ex d 17 59 [some (.ref a), l1, l2, l3, l4] (.ref a :: st) h := (ex_of d17_58 (d) [some (.ref a), l1, l2, l3, l4] st h).trans (rfl)
theorem d17_59 : decode (mB 17) 59 = .ok (.getfield 30, 3) := by decide +kernel
theorem x17_59 {d : Nat} {L : Lc} {st : List Value} {a : Nat} {h : Hp} (ht : (h.2.1 a).1 = 5) : ex (d) 17 59 L (.ref a :: st) h = ex d 17 62 L (h.1 a 6 :: st) h := (ex_of d17_59 (d) L (.ref a :: st) h).trans (fin_get (mi := 17) f5_30 (tg1 ht rfl))
theorem d17_62 : decode (mB 17) 62 = .ok (.aload_n 0, 1) := by decide +kernel
theorem x17_62 {d : Nat} {l1 l2 l3 l4 : Option Value} {st : List Value} {a : Nat} {h : Hp} : ex (d) 17 62 [some (.ref a), l1, l2, l3, l4] st h = ex d 17 63 [some (.ref a), l1, l2, l3, l4] (.ref a :: st) h := (ex_of d17_62 (d) [some (.ref a), l1, l2, l3, l4] st h).trans (rfl)
theorem d17_63 : decode (mB 17) 63 = .ok (.getfield 66, 3) := by decide +kernel
theorem x17_63 {d : Nat} {L : Lc} {st : List Value} {a : Nat} {h : Hp} (ht : (h.2.1 a).1 = 5) : ex (d) 17 63 L (.ref a :: st) h = ex d 17 66 L (h.1 a 5 :: st) h := (ex_of d17_63 (d) L (.ref a :: st) h).trans (fin_get (mi := 17) f5_66 (tg1 ht rfl))
theorem d17_66 : decode (mB 17) 66 = .ok (.aload 4, 2) := by decide +kernel
theorem x17_66 {d : Nat} {l0 l1 l2 l3 : Option Value} {st : List Value} {a : Nat} {h : Hp} : ex (d) 17 66 [l0, l1, l2, l3, some (.ref a)] st h = ex d 17 68 [l0, l1, l2, l3, some (.ref a)] (.ref a :: st) h := (ex_of d17_66 (d) [l0, l1, l2, l3, some (.ref a)] st h).trans (rfl)
theorem x17_66n {d : Nat} {l0 l1 l2 l3 : Option Value} {st : List Value} {h : Hp} : ex (d) 17 66 [l0, l1, l2, l3, some .null] st h = ex d 17 68 [l0, l1, l2, l3, some .null] (.null :: st) h := (ex_of d17_66 (d) [l0, l1, l2, l3, some .null] st h).trans (rfl)
theorem x17_66q {d : Nat} {l0 l1 l2 l3 : Option Value} {st : List Value} {a : Option Nat} {h : Hp} : ex (d) 17 66 [l0, l1, l2, l3, some (va_rf a)] st h = ex d 17 68 [l0, l1, l2, l3, some (va_rf a)] (va_rf a :: st) h := (ex_of d17_66 (d) [l0, l1, l2, l3, some (va_rf a)] st h).trans (by cases a <;> rfl)
theorem d17_68 : decode (mB 17) 68 = .ok (.invokestatic 76, 3) := by decide +kernel
theorem x17_68 {d : Nat} {L : Lc} {s0 s1 : Value}  {v0 : Value} {h : Hp} (hv0 : isR v0 = true) : ex (d + 1) 17 68 L (v0 :: [s0, s1]) h = bnd (ex d 125 0 [some v0, none, none, none] [] h) (fun v h' => ex (d + 1) 17 71 L (v.toList ++ [s0, s1]) h') := (ex_of d17_68 (d + 1) L (v0 :: [s0, s1]) h).trans (fin_st (mi := 17) i5_76 (Or.inr rfl) (by simp) (by simp [cat1_i, cat1_r, isR_cat1 hv0]) (by simp) (Nat.le_of_ble_eq_true rfl))
theorem d17_71 : decode (mB 17) 71 = .ok (.iastore, 1) := by decide +kernel
theorem x17_71 {d : Nat} {L : Lc} {st : List Value} {a j : Nat} {x : Int32} {h : Hp} (ht : (h.2.1 a).1 = 20) (hj : j < (h.2.1 a).2) (hb : j < 2147483648) : ex (d) 17 71 L (.int x :: .int (nI j) :: .ref a :: st) h = ex d 17 72 L st (mup h.1 a j (.int x), h.2) := (ex_of d17_71 (d) L (.int x :: .int (nI j) :: .ref a :: st) h).trans (fin_iastore ht hj hb)
theorem d17_72 : decode (mB 17) 72 = .ok (.aload_n 0, 1) := by decide +kernel
theorem x17_72 {d : Nat} {l1 l2 l3 l4 : Option Value} {st : List Value} {a : Nat} {h : Hp} : ex (d) 17 72 [some (.ref a), l1, l2, l3, l4] st h = ex d 17 73 [some (.ref a), l1, l2, l3, l4] (.ref a :: st) h := (ex_of d17_72 (d) [some (.ref a), l1, l2, l3, l4] st h).trans (rfl)
theorem d17_73 : decode (mB 17) 73 = .ok (.dup, 1) := by decide +kernel
theorem x17_73 {d : Nat} {L : Lc} {st : List Value} {a : Nat} {h : Hp} : ex (d) 17 73 L (.ref a :: st) h = ex d 17 74 L (.ref a :: .ref a :: st) h := (ex_of d17_73 (d) L (.ref a :: st) h).trans (rfl)
theorem x17_73i {d : Nat} {L : Lc} {st : List Value} {x : Int32} {h : Hp} : ex (d) 17 73 L (.int x :: st) h = ex d 17 74 L (.int x :: .int x :: st) h := (ex_of d17_73 (d) L (.int x :: st) h).trans (rfl)
theorem d17_74 : decode (mB 17) 74 = .ok (.getfield 66, 3) := by decide +kernel
theorem x17_74 {d : Nat} {L : Lc} {st : List Value} {a : Nat} {h : Hp} (ht : (h.2.1 a).1 = 5) : ex (d) 17 74 L (.ref a :: st) h = ex d 17 77 L (h.1 a 5 :: st) h := (ex_of d17_74 (d) L (.ref a :: st) h).trans (fin_get (mi := 17) f5_66 (tg1 ht rfl))
theorem d17_77 : decode (mB 17) 77 = .ok (.iconst 1, 1) := by decide +kernel
theorem x17_77 {d : Nat} {L : Lc} {st : List Value} {h : Hp} : ex (d) 17 77 L st h = ex d 17 78 L (.int (nI 1) :: st) h := (ex_of d17_77 (d) L st h).trans (rfl)
theorem d17_78 : decode (mB 17) 78 = .ok (.iadd, 1) := by decide +kernel
theorem x17_78 {d : Nat} {L : Lc} {st : List Value} {x y : Int32} {h : Hp} : ex (d) 17 78 L (.int y :: .int x :: st) h = ex d 17 79 L (.int (x + y) :: st) h := (ex_of d17_78 (d) L (.int y :: .int x :: st) h).trans (rfl)
theorem d17_79 : decode (mB 17) 79 = .ok (.putfield 66, 3) := by decide +kernel
theorem x17_79 {d : Nat} {L : Lc} {st : List Value} {a : Nat} {x : Int32} {h : Hp} (ht : (h.2.1 a).1 = 5) : ex (d) 17 79 L (.int x :: .ref a :: st) h = ex d 17 82 L st (mup h.1 a 5 (.int x), h.2) := (ex_of d17_79 (d) L (.int x :: .ref a :: st) h).trans (fin_put (mi := 17) f5_66 ht rfl rfl (by decide +kernel))
theorem d17_82 : decode (mB 17) 82 = .ok (.iinc 3 1, 3) := by decide +kernel
theorem x17_82 {d : Nat} {l0 l1 l2 l4 : Option Value} {st : List Value} {x : Int32} {h : Hp} : ex (d) 17 82 [l0, l1, l2, some (.int x), l4] st h = ex d 17 85 [l0, l1, clr l2, some (.int (x + (nI 1))), l4] st h := (ex_of d17_82 (d) [l0, l1, l2, some (.int x), l4] st h).trans (rfl)
theorem d17_85 : decode (mB 17) 85 = .ok (.goto (-78), 3) := by decide +kernel
theorem x17_85 {d : Nat} {L : Lc} {st : List Value} {h : Hp} : ex (d) 17 85 L st h = ex d 17 7 L st h := (ex_of d17_85 (d) L st h).trans (rfl)
theorem d17_88 : decode (mB 17) 88 = .ok (.return_, 1) := by decide +kernel
theorem x17_88 {d : Nat} {L : Lc}  {h : Hp} : ex (d) 17 88 L [] h = some (none, h) := (ex_of d17_88 (d) L [] h).trans (rfl)
theorem d18_0 : decode (mB 18) 0 = .ok (.iconst 0, 1) := by decide +kernel
theorem x18_0 {d : Nat} {L : Lc} {st : List Value} {h : Hp} : ex (d) 18 0 L st h = ex d 18 1 L (.int (nI 0) :: st) h := (ex_of d18_0 (d) L st h).trans (rfl)
theorem d18_1 : decode (mB 18) 1 = .ok (.istore_n 3, 1) := by decide +kernel
theorem x18_1 {d : Nat} {l0 l1 l2 l3 : Option Value} {st : List Value} {x : Int32} {h : Hp} : ex (d) 18 1 [l0, l1, l2, l3] (.int x :: st) h = ex d 18 2 [l0, l1, clr l2, some (.int x)] st h := (ex_of d18_1 (d) [l0, l1, l2, l3] (.int x :: st) h).trans (rfl)
theorem d18_2 : decode (mB 18) 2 = .ok (.iload_n 3, 1) := by decide +kernel
theorem x18_2 {d : Nat} {l0 l1 l2 : Option Value} {st : List Value} {x : Int32} {h : Hp} : ex (d) 18 2 [l0, l1, l2, some (.int x)] st h = ex d 18 3 [l0, l1, l2, some (.int x)] (.int x :: st) h := (ex_of d18_2 (d) [l0, l1, l2, some (.int x)] st h).trans (rfl)
theorem d18_3 : decode (mB 18) 3 = .ok (.aload_n 0, 1) := by decide +kernel
theorem x18_3 {d : Nat} {l1 l2 l3 : Option Value} {st : List Value} {a : Nat} {h : Hp} : ex (d) 18 3 [some (.ref a), l1, l2, l3] st h = ex d 18 4 [some (.ref a), l1, l2, l3] (.ref a :: st) h := (ex_of d18_3 (d) [some (.ref a), l1, l2, l3] st h).trans (rfl)
theorem d18_4 : decode (mB 18) 4 = .ok (.getfield 62, 3) := by decide +kernel
theorem x18_4 {d : Nat} {L : Lc} {st : List Value} {a : Nat} {h : Hp} (ht : (h.2.1 a).1 = 5) : ex (d) 18 4 L (.ref a :: st) h = ex d 18 7 L (h.1 a 2 :: st) h := (ex_of d18_4 (d) L (.ref a :: st) h).trans (fin_get (mi := 18) f5_62 (tg1 ht rfl))
theorem d18_7 : decode (mB 18) 7 = .ok (.if_icmp .ge 29, 3) := by decide +kernel
theorem x18_7 {d : Nat} {L : Lc} {st : List Value} {x y : Int32} {h : Hp} : ex (d) 18 7 L (.int y :: .int x :: st) h = if y ≤ x then ex d 18 36 L st h else ex d 18 10 L st h := (ex_of d18_7 (d) L (.int y :: .int x :: st) h).trans (fin_brq (off := 29) (tgt := 36) rfl (by decide))
theorem d18_10 : decode (mB 18) 10 = .ok (.aload_n 0, 1) := by decide +kernel
theorem x18_10 {d : Nat} {l1 l2 l3 : Option Value} {st : List Value} {a : Nat} {h : Hp} : ex (d) 18 10 [some (.ref a), l1, l2, l3] st h = ex d 18 11 [some (.ref a), l1, l2, l3] (.ref a :: st) h := (ex_of d18_10 (d) [some (.ref a), l1, l2, l3] st h).trans (rfl)
theorem d18_11 : decode (mB 18) 11 = .ok (.iload_n 3, 1) := by decide +kernel
theorem x18_11 {d : Nat} {l0 l1 l2 : Option Value} {st : List Value} {x : Int32} {h : Hp} : ex (d) 18 11 [l0, l1, l2, some (.int x)] st h = ex d 18 12 [l0, l1, l2, some (.int x)] (.int x :: st) h := (ex_of d18_11 (d) [l0, l1, l2, some (.int x)] st h).trans (rfl)
theorem d18_12 : decode (mB 18) 12 = .ok (.iload_n 3, 1) := by decide +kernel
theorem x18_12 {d : Nat} {l0 l1 l2 : Option Value} {st : List Value} {x : Int32} {h : Hp} : ex (d) 18 12 [l0, l1, l2, some (.int x)] st h = ex d 18 13 [l0, l1, l2, some (.int x)] (.int x :: st) h := (ex_of d18_12 (d) [l0, l1, l2, some (.int x)] st h).trans (rfl)
theorem d18_13 : decode (mB 18) 13 = .ok (.iload_n 1, 1) := by decide +kernel
theorem x18_13 {d : Nat} {l0 l2 l3 : Option Value} {st : List Value} {x : Int32} {h : Hp} : ex (d) 18 13 [l0, some (.int x), l2, l3] st h = ex d 18 14 [l0, some (.int x), l2, l3] (.int x :: st) h := (ex_of d18_13 (d) [l0, some (.int x), l2, l3] st h).trans (rfl)
theorem d18_14 : decode (mB 18) 14 = .ok (.if_icmp .ne 7, 3) := by decide +kernel
theorem x18_14 {d : Nat} {L : Lc} {st : List Value} {x y : Int32} {h : Hp} : ex (d) 18 14 L (.int y :: .int x :: st) h = if ¬ x = y then ex d 18 21 L st h else ex d 18 17 L st h := (ex_of d18_14 (d) L (.int y :: .int x :: st) h).trans (fin_brq (off := 7) (tgt := 21) rfl (by decide))
theorem d18_17 : decode (mB 18) 17 = .ok (.aload_n 2, 1) := by decide +kernel
theorem x18_17 {d : Nat} {l0 l1 l3 : Option Value} {st : List Value} {a : Nat} {h : Hp} : ex (d) 18 17 [l0, l1, some (.ref a), l3] st h = ex d 18 18 [l0, l1, some (.ref a), l3] (.ref a :: st) h := (ex_of d18_17 (d) [l0, l1, some (.ref a), l3] st h).trans (rfl)
theorem x18_17n {d : Nat} {l0 l1 l3 : Option Value} {st : List Value} {h : Hp} : ex (d) 18 17 [l0, l1, some .null, l3] st h = ex d 18 18 [l0, l1, some .null, l3] (.null :: st) h := (ex_of d18_17 (d) [l0, l1, some .null, l3] st h).trans (rfl)
theorem x18_17q {d : Nat} {l0 l1 l3 : Option Value} {st : List Value} {a : Option Nat} {h : Hp} : ex (d) 18 17 [l0, l1, some (va_rf a), l3] st h = ex d 18 18 [l0, l1, some (va_rf a), l3] (va_rf a :: st) h := (ex_of d18_17 (d) [l0, l1, some (va_rf a), l3] st h).trans (by cases a <;> rfl)
theorem d18_18 : decode (mB 18) 18 = .ok (.goto 4, 3) := by decide +kernel
theorem x18_18 {d : Nat} {L : Lc} {st : List Value} {h : Hp} : ex (d) 18 18 L st h = ex d 18 22 L st h := (ex_of d18_18 (d) L st h).trans (rfl)
theorem d18_21 : decode (mB 18) 21 = .ok (.aconst_null, 1) := by decide +kernel
theorem x18_21 {d : Nat} {L : Lc} {st : List Value} {h : Hp} : ex (d) 18 21 L st h = ex d 18 22 L (.null :: st) h := (ex_of d18_21 (d) L st h).trans (rfl)
theorem d18_22 : decode (mB 18) 22 = .ok (.invokevirtual 80, 3) := by decide +kernel
theorem x18_22 {d : Nat} {L : Lc} {a : Nat} {v0 : Int32} {v1 : Value} {h : Hp} (ht : (h.2.1 a).1 = 5) (hv1 : isR v1 = true) : ex (d + 1) 18 22 L (v1 :: .int v0 :: .ref a :: []) h = bnd (ex d 20 0 [some (.ref a), some (.int v0), some v1, none, none, none, none, none] [] h) (fun v h' => ex (d + 1) 18 25 L (v.toList ++ []) h') := (ex_of d18_22 (d + 1) L (v1 :: .int v0 :: .ref a :: []) h).trans (fin_vi (mi := 18) i5_80 ht rfl rfl (by simp [cat1_i, cat1_r, isR_cat1 hv1]) (by simp) (Nat.le_of_ble_eq_true rfl))
theorem d18_25 : decode (mB 18) 25 = .ok (.aload_n 0, 1) := by decide +kernel
theorem x18_25 {d : Nat} {l1 l2 l3 : Option Value} {st : List Value} {a : Nat} {h : Hp} : ex (d) 18 25 [some (.ref a), l1, l2, l3] st h = ex d 18 26 [some (.ref a), l1, l2, l3] (.ref a :: st) h := (ex_of d18_25 (d) [some (.ref a), l1, l2, l3] st h).trans (rfl)
theorem d18_26 : decode (mB 18) 26 = .ok (.iload_n 3, 1) := by decide +kernel
theorem x18_26 {d : Nat} {l0 l1 l2 : Option Value} {st : List Value} {x : Int32} {h : Hp} : ex (d) 18 26 [l0, l1, l2, some (.int x)] st h = ex d 18 27 [l0, l1, l2, some (.int x)] (.int x :: st) h := (ex_of d18_26 (d) [l0, l1, l2, some (.int x)] st h).trans (rfl)
theorem d18_27 : decode (mB 18) 27 = .ok (.invokevirtual 84, 3) := by decide +kernel
theorem x18_27 {d : Nat} {L : Lc} {a : Nat} {v0 : Int32} {h : Hp} (ht : (h.2.1 a).1 = 5) : ex (d + 1) 18 27 L (.int v0 :: .ref a :: []) h = bnd (ex d 22 0 [some (.ref a), some (.int v0), none, none, none, none] [] h) (fun v h' => ex (d + 1) 18 30 L (v.toList ++ []) h') := (ex_of d18_27 (d + 1) L (.int v0 :: .ref a :: []) h).trans (fin_vi (mi := 18) i5_84 ht rfl rfl (by simp [cat1_i, cat1_r]) (by simp) (Nat.le_of_ble_eq_true rfl))
theorem d18_30 : decode (mB 18) 30 = .ok (.iinc 3 1, 3) := by decide +kernel
theorem x18_30 {d : Nat} {l0 l1 l2 : Option Value} {st : List Value} {x : Int32} {h : Hp} : ex (d) 18 30 [l0, l1, l2, some (.int x)] st h = ex d 18 33 [l0, l1, clr l2, some (.int (x + (nI 1)))] st h := (ex_of d18_30 (d) [l0, l1, l2, some (.int x)] st h).trans (rfl)
theorem d18_33 : decode (mB 18) 33 = .ok (.goto (-31), 3) := by decide +kernel
theorem x18_33 {d : Nat} {L : Lc} {st : List Value} {h : Hp} : ex (d) 18 33 L st h = ex d 18 2 L st h := (ex_of d18_33 (d) L st h).trans (rfl)
theorem d18_36 : decode (mB 18) 36 = .ok (.aload_n 0, 1) := by decide +kernel
theorem x18_36 {d : Nat} {l1 l2 l3 : Option Value} {st : List Value} {a : Nat} {h : Hp} : ex (d) 18 36 [some (.ref a), l1, l2, l3] st h = ex d 18 37 [some (.ref a), l1, l2, l3] (.ref a :: st) h := (ex_of d18_36 (d) [some (.ref a), l1, l2, l3] st h).trans (rfl)
theorem d18_37 : decode (mB 18) 37 = .ok (.invokevirtual 88, 3) := by decide +kernel
theorem x18_37 {d : Nat} {L : Lc} {a : Nat} {h : Hp} (ht : (h.2.1 a).1 = 5) : ex (d + 1) 18 37 L (.ref a :: []) h = bnd (ex d 25 0 [some (.ref a), none, none, none] [] h) (fun v h' => ex (d + 1) 18 40 L (v.toList ++ []) h') := (ex_of d18_37 (d + 1) L (.ref a :: []) h).trans (fin_vi (mi := 18) i5_88 ht rfl rfl (by simp [cat1_i, cat1_r]) (by simp) (Nat.le_of_ble_eq_true rfl))
theorem d18_40 : decode (mB 18) 40 = .ok (.aload_n 0, 1) := by decide +kernel
theorem x18_40 {d : Nat} {l1 l2 l3 : Option Value} {st : List Value} {a : Nat} {h : Hp} : ex (d) 18 40 [some (.ref a), l1, l2, l3] st h = ex d 18 41 [some (.ref a), l1, l2, l3] (.ref a :: st) h := (ex_of d18_40 (d) [some (.ref a), l1, l2, l3] st h).trans (rfl)
theorem d18_41 : decode (mB 18) 41 = .ok (.getfield 53, 3) := by decide +kernel
theorem x18_41 {d : Nat} {L : Lc} {st : List Value} {a : Nat} {h : Hp} (ht : (h.2.1 a).1 = 5) : ex (d) 18 41 L (.ref a :: st) h = ex d 18 44 L (h.1 a 13 :: st) h := (ex_of d18_41 (d) L (.ref a :: st) h).trans (fin_get (mi := 18) f5_53 (tg1 ht rfl))
theorem d18_44 : decode (mB 18) 44 = .ok (.aload_n 0, 1) := by decide +kernel
theorem x18_44 {d : Nat} {l1 l2 l3 : Option Value} {st : List Value} {a : Nat} {h : Hp} : ex (d) 18 44 [some (.ref a), l1, l2, l3] st h = ex d 18 45 [some (.ref a), l1, l2, l3] (.ref a :: st) h := (ex_of d18_44 (d) [some (.ref a), l1, l2, l3] st h).trans (rfl)
theorem d18_45 : decode (mB 18) 45 = .ok (.getfield 62, 3) := by decide +kernel
theorem x18_45 {d : Nat} {L : Lc} {st : List Value} {a : Nat} {h : Hp} (ht : (h.2.1 a).1 = 5) : ex (d) 18 45 L (.ref a :: st) h = ex d 18 48 L (h.1 a 2 :: st) h := (ex_of d18_45 (d) L (.ref a :: st) h).trans (fin_get (mi := 18) f5_62 (tg1 ht rfl))
theorem d18_48 : decode (mB 18) 48 = .ok (.iconst 0, 1) := by decide +kernel
theorem x18_48 {d : Nat} {L : Lc} {st : List Value} {h : Hp} : ex (d) 18 48 L st h = ex d 18 49 L (.int (nI 0) :: st) h := (ex_of d18_48 (d) L st h).trans (rfl)
theorem d18_49 : decode (mB 18) 49 = .ok (.iastore, 1) := by decide +kernel
theorem x18_49 {d : Nat} {L : Lc} {st : List Value} {a j : Nat} {x : Int32} {h : Hp} (ht : (h.2.1 a).1 = 20) (hj : j < (h.2.1 a).2) (hb : j < 2147483648) : ex (d) 18 49 L (.int x :: .int (nI j) :: .ref a :: st) h = ex d 18 50 L st (mup h.1 a j (.int x), h.2) := (ex_of d18_49 (d) L (.int x :: .int (nI j) :: .ref a :: st) h).trans (fin_iastore ht hj hb)
theorem d18_50 : decode (mB 18) 50 = .ok (.aload_n 0, 1) := by decide +kernel
theorem x18_50 {d : Nat} {l1 l2 l3 : Option Value} {st : List Value} {a : Nat} {h : Hp} : ex (d) 18 50 [some (.ref a), l1, l2, l3] st h = ex d 18 51 [some (.ref a), l1, l2, l3] (.ref a :: st) h := (ex_of d18_50 (d) [some (.ref a), l1, l2, l3] st h).trans (rfl)
theorem d18_51 : decode (mB 18) 51 = .ok (.getfield 62, 3) := by decide +kernel
theorem x18_51 {d : Nat} {L : Lc} {st : List Value} {a : Nat} {h : Hp} (ht : (h.2.1 a).1 = 5) : ex (d) 18 51 L (.ref a :: st) h = ex d 18 54 L (h.1 a 2 :: st) h := (ex_of d18_51 (d) L (.ref a :: st) h).trans (fin_get (mi := 18) f5_62 (tg1 ht rfl))
theorem d18_54 : decode (mB 18) 54 = .ok (.iconst 1, 1) := by decide +kernel
theorem x18_54 {d : Nat} {L : Lc} {st : List Value} {h : Hp} : ex (d) 18 54 L st h = ex d 18 55 L (.int (nI 1) :: st) h := (ex_of d18_54 (d) L st h).trans (rfl)
theorem d18_55 : decode (mB 18) 55 = .ok (.isub, 1) := by decide +kernel
theorem x18_55 {d : Nat} {L : Lc} {st : List Value} {x y : Int32} {h : Hp} : ex (d) 18 55 L (.int y :: .int x :: st) h = ex d 18 56 L (.int (x - y) :: st) h := (ex_of d18_55 (d) L (.int y :: .int x :: st) h).trans (rfl)
theorem d18_56 : decode (mB 18) 56 = .ok (.istore_n 3, 1) := by decide +kernel
theorem x18_56 {d : Nat} {l0 l1 l2 l3 : Option Value} {st : List Value} {x : Int32} {h : Hp} : ex (d) 18 56 [l0, l1, l2, l3] (.int x :: st) h = ex d 18 57 [l0, l1, clr l2, some (.int x)] st h := (ex_of d18_56 (d) [l0, l1, l2, l3] (.int x :: st) h).trans (rfl)
theorem d18_57 : decode (mB 18) 57 = .ok (.iload_n 3, 1) := by decide +kernel
theorem x18_57 {d : Nat} {l0 l1 l2 : Option Value} {st : List Value} {x : Int32} {h : Hp} : ex (d) 18 57 [l0, l1, l2, some (.int x)] st h = ex d 18 58 [l0, l1, l2, some (.int x)] (.int x :: st) h := (ex_of d18_57 (d) [l0, l1, l2, some (.int x)] st h).trans (rfl)
theorem d18_58 : decode (mB 18) 58 = .ok (.ifCond .lt 44, 3) := by decide +kernel
theorem x18_58 {d : Nat} {L : Lc} {st : List Value} {x : Int32} {h : Hp} : ex (d) 18 58 L (.int x :: st) h = if x < 0 then ex d 18 102 L st h else ex d 18 61 L st h := (ex_of d18_58 (d) L (.int x :: st) h).trans (fin_brq (off := 44) (tgt := 102) rfl (by decide))
theorem d18_61 : decode (mB 18) 61 = .ok (.aload_n 0, 1) := by decide +kernel
theorem x18_61 {d : Nat} {l1 l2 l3 : Option Value} {st : List Value} {a : Nat} {h : Hp} : ex (d) 18 61 [some (.ref a), l1, l2, l3] st h = ex d 18 62 [some (.ref a), l1, l2, l3] (.ref a :: st) h := (ex_of d18_61 (d) [some (.ref a), l1, l2, l3] st h).trans (rfl)
theorem d18_62 : decode (mB 18) 62 = .ok (.ldc 91, 2) := by decide +kernel
theorem x18_62 {d : Nat} {L : Lc} {st : List Value} {h : Hp} : ex (d) 18 62 L st h = ex d 18 64 L (.int (nI 2147483647) :: st) h := (ex_of d18_62 (d) L st h).trans (fin_ldc (mi := 18) c5_91)
theorem d18_64 : decode (mB 18) 64 = .ok (.putfield 92, 3) := by decide +kernel
theorem x18_64 {d : Nat} {L : Lc} {st : List Value} {a : Nat} {x : Int32} {h : Hp} (ht : (h.2.1 a).1 = 5) : ex (d) 18 64 L (.int x :: .ref a :: st) h = ex d 18 67 L st (mup h.1 a 15 (.int x), h.2) := (ex_of d18_64 (d) L (.int x :: .ref a :: st) h).trans (fin_put (mi := 18) f5_92 ht rfl rfl (by decide +kernel))
theorem d18_67 : decode (mB 18) 67 = .ok (.aload_n 0, 1) := by decide +kernel
theorem x18_67 {d : Nat} {l1 l2 l3 : Option Value} {st : List Value} {a : Nat} {h : Hp} : ex (d) 18 67 [some (.ref a), l1, l2, l3] st h = ex d 18 68 [some (.ref a), l1, l2, l3] (.ref a :: st) h := (ex_of d18_67 (d) [some (.ref a), l1, l2, l3] st h).trans (rfl)
theorem d18_68 : decode (mB 18) 68 = .ok (.iload_n 3, 1) := by decide +kernel
theorem x18_68 {d : Nat} {l0 l1 l2 : Option Value} {st : List Value} {x : Int32} {h : Hp} : ex (d) 18 68 [l0, l1, l2, some (.int x)] st h = ex d 18 69 [l0, l1, l2, some (.int x)] (.int x :: st) h := (ex_of d18_68 (d) [l0, l1, l2, some (.int x)] st h).trans (rfl)
theorem d18_69 : decode (mB 18) 69 = .ok (.iload_n 3, 1) := by decide +kernel
theorem x18_69 {d : Nat} {l0 l1 l2 : Option Value} {st : List Value} {x : Int32} {h : Hp} : ex (d) 18 69 [l0, l1, l2, some (.int x)] st h = ex d 18 70 [l0, l1, l2, some (.int x)] (.int x :: st) h := (ex_of d18_69 (d) [l0, l1, l2, some (.int x)] st h).trans (rfl)
theorem d18_70 : decode (mB 18) 70 = .ok (.iconst 0, 1) := by decide +kernel
theorem x18_70 {d : Nat} {L : Lc} {st : List Value} {h : Hp} : ex (d) 18 70 L st h = ex d 18 71 L (.int (nI 0) :: st) h := (ex_of d18_70 (d) L st h).trans (rfl)
theorem d18_71 : decode (mB 18) 71 = .ok (.invokevirtual 95, 3) := by decide +kernel
theorem x18_71 {d : Nat} {L : Lc} {a : Nat} {v0 : Int32} {v1 : Int32} {v2 : Int32} {h : Hp} (ht : (h.2.1 a).1 = 5) : ex (d + 1) 18 71 L (.int v2 :: .int v1 :: .int v0 :: .ref a :: []) h = bnd (ex d 27 0 [some (.ref a), some (.int v0), some (.int v1), some (.int v2), none, none, none, none] [] h) (fun v h' => ex (d + 1) 18 74 L (v.toList ++ []) h') := (ex_of d18_71 (d + 1) L (.int v2 :: .int v1 :: .int v0 :: .ref a :: []) h).trans (fin_vi (mi := 18) i5_95 ht rfl rfl (by simp [cat1_i, cat1_r]) (by simp) (Nat.le_of_ble_eq_true rfl))
theorem d18_74 : decode (mB 18) 74 = .ok (.aload_n 0, 1) := by decide +kernel
theorem x18_74 {d : Nat} {l1 l2 l3 : Option Value} {st : List Value} {a : Nat} {h : Hp} : ex (d) 18 74 [some (.ref a), l1, l2, l3] st h = ex d 18 75 [some (.ref a), l1, l2, l3] (.ref a :: st) h := (ex_of d18_74 (d) [some (.ref a), l1, l2, l3] st h).trans (rfl)
theorem d18_75 : decode (mB 18) 75 = .ok (.getfield 53, 3) := by decide +kernel
theorem x18_75 {d : Nat} {L : Lc} {st : List Value} {a : Nat} {h : Hp} (ht : (h.2.1 a).1 = 5) : ex (d) 18 75 L (.ref a :: st) h = ex d 18 78 L (h.1 a 13 :: st) h := (ex_of d18_75 (d) L (.ref a :: st) h).trans (fin_get (mi := 18) f5_53 (tg1 ht rfl))
theorem d18_78 : decode (mB 18) 78 = .ok (.iload_n 3, 1) := by decide +kernel
theorem x18_78 {d : Nat} {l0 l1 l2 : Option Value} {st : List Value} {x : Int32} {h : Hp} : ex (d) 18 78 [l0, l1, l2, some (.int x)] st h = ex d 18 79 [l0, l1, l2, some (.int x)] (.int x :: st) h := (ex_of d18_78 (d) [l0, l1, l2, some (.int x)] st h).trans (rfl)
theorem d18_79 : decode (mB 18) 79 = .ok (.aload_n 0, 1) := by decide +kernel
theorem x18_79 {d : Nat} {l1 l2 l3 : Option Value} {st : List Value} {a : Nat} {h : Hp} : ex (d) 18 79 [some (.ref a), l1, l2, l3] st h = ex d 18 80 [some (.ref a), l1, l2, l3] (.ref a :: st) h := (ex_of d18_79 (d) [some (.ref a), l1, l2, l3] st h).trans (rfl)
theorem d18_80 : decode (mB 18) 80 = .ok (.getfield 92, 3) := by decide +kernel
theorem x18_80 {d : Nat} {L : Lc} {st : List Value} {a : Nat} {h : Hp} (ht : (h.2.1 a).1 = 5) : ex (d) 18 80 L (.ref a :: st) h = ex d 18 83 L (h.1 a 15 :: st) h := (ex_of d18_80 (d) L (.ref a :: st) h).trans (fin_get (mi := 18) f5_92 (tg1 ht rfl))
theorem d18_83 : decode (mB 18) 83 = .ok (.iastore, 1) := by decide +kernel
theorem x18_83 {d : Nat} {L : Lc} {st : List Value} {a j : Nat} {x : Int32} {h : Hp} (ht : (h.2.1 a).1 = 20) (hj : j < (h.2.1 a).2) (hb : j < 2147483648) : ex (d) 18 83 L (.int x :: .int (nI j) :: .ref a :: st) h = ex d 18 84 L st (mup h.1 a j (.int x), h.2) := (ex_of d18_83 (d) L (.int x :: .int (nI j) :: .ref a :: st) h).trans (fin_iastore ht hj hb)
theorem d18_84 : decode (mB 18) 84 = .ok (.aload_n 0, 1) := by decide +kernel
theorem x18_84 {d : Nat} {l1 l2 l3 : Option Value} {st : List Value} {a : Nat} {h : Hp} : ex (d) 18 84 [some (.ref a), l1, l2, l3] st h = ex d 18 85 [some (.ref a), l1, l2, l3] (.ref a :: st) h := (ex_of d18_84 (d) [some (.ref a), l1, l2, l3] st h).trans (rfl)
theorem d18_85 : decode (mB 18) 85 = .ok (.getfield 92, 3) := by decide +kernel
theorem x18_85 {d : Nat} {L : Lc} {st : List Value} {a : Nat} {h : Hp} (ht : (h.2.1 a).1 = 5) : ex (d) 18 85 L (.ref a :: st) h = ex d 18 88 L (h.1 a 15 :: st) h := (ex_of d18_85 (d) L (.ref a :: st) h).trans (fin_get (mi := 18) f5_92 (tg1 ht rfl))
theorem d18_88 : decode (mB 18) 88 = .ok (.ldc 91, 2) := by decide +kernel
theorem x18_88 {d : Nat} {L : Lc} {st : List Value} {h : Hp} : ex (d) 18 88 L st h = ex d 18 90 L (.int (nI 2147483647) :: st) h := (ex_of d18_88 (d) L st h).trans (fin_ldc (mi := 18) c5_91)
theorem d18_90 : decode (mB 18) 90 = .ok (.if_icmp .ne 6, 3) := by decide +kernel
theorem x18_90 {d : Nat} {L : Lc} {st : List Value} {x y : Int32} {h : Hp} : ex (d) 18 90 L (.int y :: .int x :: st) h = if ¬ x = y then ex d 18 96 L st h else ex d 18 93 L st h := (ex_of d18_90 (d) L (.int y :: .int x :: st) h).trans (fin_brq (off := 6) (tgt := 96) rfl (by decide))
theorem d18_93 : decode (mB 18) 93 = .ok (.ldc 91, 2) := by decide +kernel
theorem x18_93 {d : Nat} {L : Lc} {st : List Value} {h : Hp} : ex (d) 18 93 L st h = ex d 18 95 L (.int (nI 2147483647) :: st) h := (ex_of d18_93 (d) L st h).trans (fin_ldc (mi := 18) c5_91)
theorem d18_95 : decode (mB 18) 95 = .ok (.ireturn, 1) := by decide +kernel
theorem x18_95 {d : Nat} {L : Lc} {x : Int32} {h : Hp} : ex (d) 18 95 L [.int x] h = some (some (.int x), h) := (ex_of d18_95 (d) L [.int x] h).trans (rfl)
theorem d18_96 : decode (mB 18) 96 = .ok (.iinc 3 (-1), 3) := by decide +kernel
theorem x18_96 {d : Nat} {l0 l1 l2 : Option Value} {st : List Value} {x : Int32} {h : Hp} : ex (d) 18 96 [l0, l1, l2, some (.int x)] st h = ex d 18 99 [l0, l1, clr l2, some (.int (x + (-1)))] st h := (ex_of d18_96 (d) [l0, l1, l2, some (.int x)] st h).trans (rfl)
theorem d18_99 : decode (mB 18) 99 = .ok (.goto (-42), 3) := by decide +kernel
theorem x18_99 {d : Nat} {L : Lc} {st : List Value} {h : Hp} : ex (d) 18 99 L st h = ex d 18 57 L st h := (ex_of d18_99 (d) L st h).trans (rfl)
theorem d18_102 : decode (mB 18) 102 = .ok (.aload_n 0, 1) := by decide +kernel
theorem x18_102 {d : Nat} {l1 l2 l3 : Option Value} {st : List Value} {a : Nat} {h : Hp} : ex (d) 18 102 [some (.ref a), l1, l2, l3] st h = ex d 18 103 [some (.ref a), l1, l2, l3] (.ref a :: st) h := (ex_of d18_102 (d) [some (.ref a), l1, l2, l3] st h).trans (rfl)
theorem d18_103 : decode (mB 18) 103 = .ok (.getfield 53, 3) := by decide +kernel
theorem x18_103 {d : Nat} {L : Lc} {st : List Value} {a : Nat} {h : Hp} (ht : (h.2.1 a).1 = 5) : ex (d) 18 103 L (.ref a :: st) h = ex d 18 106 L (h.1 a 13 :: st) h := (ex_of d18_103 (d) L (.ref a :: st) h).trans (fin_get (mi := 18) f5_53 (tg1 ht rfl))
theorem d18_106 : decode (mB 18) 106 = .ok (.iconst 0, 1) := by decide +kernel
theorem x18_106 {d : Nat} {L : Lc} {st : List Value} {h : Hp} : ex (d) 18 106 L st h = ex d 18 107 L (.int (nI 0) :: st) h := (ex_of d18_106 (d) L st h).trans (rfl)
theorem d18_107 : decode (mB 18) 107 = .ok (.iaload, 1) := by decide +kernel
theorem x18_107 {d : Nat} {L : Lc} {st : List Value} {a j : Nat} {h : Hp} (ht : (h.2.1 a).1 = 20) (hj : j < (h.2.1 a).2) (hb : j < 2147483648) : ex (d) 18 107 L (.int (nI j) :: .ref a :: st) h = ex d 18 108 L (h.1 a j :: st) h := (ex_of d18_107 (d) L (.int (nI j) :: .ref a :: st) h).trans (fin_iaload (Or.inl ht) hj hb)
theorem d18_108 : decode (mB 18) 108 = .ok (.ireturn, 1) := by decide +kernel
theorem x18_108 {d : Nat} {L : Lc} {x : Int32} {h : Hp} : ex (d) 18 108 L [.int x] h = some (some (.int x), h) := (ex_of d18_108 (d) L [.int x] h).trans (rfl)
theorem d19_0 : decode (mB 19) 0 = .ok (.aload_n 0, 1) := by decide +kernel
theorem x19_0 {d : Nat} {l1 l2 l3 : Option Value} {st : List Value} {a : Nat} {h : Hp} : ex (d) 19 0 [some (.ref a), l1, l2, l3] st h = ex d 19 1 [some (.ref a), l1, l2, l3] (.ref a :: st) h := (ex_of d19_0 (d) [some (.ref a), l1, l2, l3] st h).trans (rfl)
theorem d19_1 : decode (mB 19) 1 = .ok (.iconst 0, 1) := by decide +kernel
theorem x19_1 {d : Nat} {L : Lc} {st : List Value} {h : Hp} : ex (d) 19 1 L st h = ex d 19 2 L (.int (nI 0) :: st) h := (ex_of d19_1 (d) L st h).trans (rfl)
theorem d19_2 : decode (mB 19) 2 = .ok (.putfield 99, 3) := by decide +kernel
theorem x19_2 {d : Nat} {L : Lc} {st : List Value} {a : Nat} {x : Int32} {h : Hp} (ht : (h.2.1 a).1 = 5) : ex (d) 19 2 L (.int x :: .ref a :: st) h = ex d 19 5 L st (mup h.1 a 17 (.int x), h.2) := (ex_of d19_2 (d) L (.int x :: .ref a :: st) h).trans (fin_put (mi := 19) f5_99 ht rfl rfl (by decide +kernel))
theorem d19_5 : decode (mB 19) 5 = .ok (.iload_n 1, 1) := by decide +kernel
theorem x19_5 {d : Nat} {l0 l2 l3 : Option Value} {st : List Value} {x : Int32} {h : Hp} : ex (d) 19 5 [l0, some (.int x), l2, l3] st h = ex d 19 6 [l0, some (.int x), l2, l3] (.int x :: st) h := (ex_of d19_5 (d) [l0, some (.int x), l2, l3] st h).trans (rfl)
theorem d19_6 : decode (mB 19) 6 = .ok (.ldc 91, 2) := by decide +kernel
theorem x19_6 {d : Nat} {L : Lc} {st : List Value} {h : Hp} : ex (d) 19 6 L st h = ex d 19 8 L (.int (nI 2147483647) :: st) h := (ex_of d19_6 (d) L st h).trans (fin_ldc (mi := 19) c5_91)
theorem d19_8 : decode (mB 19) 8 = .ok (.if_icmp .eq 12, 3) := by decide +kernel
theorem x19_8 {d : Nat} {L : Lc} {st : List Value} {x y : Int32} {h : Hp} : ex (d) 19 8 L (.int y :: .int x :: st) h = if x = y then ex d 19 20 L st h else ex d 19 11 L st h := (ex_of d19_8 (d) L (.int y :: .int x :: st) h).trans (fin_brq (off := 12) (tgt := 20) rfl (by decide))
theorem d19_11 : decode (mB 19) 11 = .ok (.aload_n 0, 1) := by decide +kernel
theorem x19_11 {d : Nat} {l1 l2 l3 : Option Value} {st : List Value} {a : Nat} {h : Hp} : ex (d) 19 11 [some (.ref a), l1, l2, l3] st h = ex d 19 12 [some (.ref a), l1, l2, l3] (.ref a :: st) h := (ex_of d19_11 (d) [some (.ref a), l1, l2, l3] st h).trans (rfl)
theorem d19_12 : decode (mB 19) 12 = .ok (.iconst 0, 1) := by decide +kernel
theorem x19_12 {d : Nat} {L : Lc} {st : List Value} {h : Hp} : ex (d) 19 12 L st h = ex d 19 13 L (.int (nI 0) :: st) h := (ex_of d19_12 (d) L st h).trans (rfl)
theorem d19_13 : decode (mB 19) 13 = .ok (.iload_n 1, 1) := by decide +kernel
theorem x19_13 {d : Nat} {l0 l2 l3 : Option Value} {st : List Value} {x : Int32} {h : Hp} : ex (d) 19 13 [l0, some (.int x), l2, l3] st h = ex d 19 14 [l0, some (.int x), l2, l3] (.int x :: st) h := (ex_of d19_13 (d) [l0, some (.int x), l2, l3] st h).trans (rfl)
theorem d19_14 : decode (mB 19) 14 = .ok (.invokevirtual 102, 3) := by decide +kernel
theorem x19_14 {d : Nat} {L : Lc} {a : Nat} {v0 : Int32} {v1 : Int32} {h : Hp} (ht : (h.2.1 a).1 = 5) : ex (d + 1) 19 14 L (.int v1 :: .int v0 :: .ref a :: []) h = bnd (ex d 28 0 [some (.ref a), some (.int v0), some (.int v1), none, none, none] [] h) (fun v h' => ex (d + 1) 19 17 L (v.toList ++ []) h') := (ex_of d19_14 (d + 1) L (.int v1 :: .int v0 :: .ref a :: []) h).trans (fin_vi (mi := 19) i5_102 ht rfl rfl (by simp [cat1_i, cat1_r]) (by simp) (Nat.le_of_ble_eq_true rfl))
theorem d19_17 : decode (mB 19) 17 = .ok (.ifCond .ne 4, 3) := by decide +kernel
theorem x19_17 {d : Nat} {L : Lc} {st : List Value} {x : Int32} {h : Hp} : ex (d) 19 17 L (.int x :: st) h = if ¬ x = 0 then ex d 19 21 L st h else ex d 19 20 L st h := (ex_of d19_17 (d) L (.int x :: st) h).trans (fin_brq (off := 4) (tgt := 21) rfl (by decide))
theorem d19_20 : decode (mB 19) 20 = .ok (.return_, 1) := by decide +kernel
theorem x19_20 {d : Nat} {L : Lc}  {h : Hp} : ex (d) 19 20 L [] h = some (none, h) := (ex_of d19_20 (d) L [] h).trans (rfl)
theorem d19_21 : decode (mB 19) 21 = .ok (.aload_n 0, 1) := by decide +kernel
theorem x19_21 {d : Nat} {l1 l2 l3 : Option Value} {st : List Value} {a : Nat} {h : Hp} : ex (d) 19 21 [some (.ref a), l1, l2, l3] st h = ex d 19 22 [some (.ref a), l1, l2, l3] (.ref a :: st) h := (ex_of d19_21 (d) [some (.ref a), l1, l2, l3] st h).trans (rfl)
theorem d19_22 : decode (mB 19) 22 = .ok (.aload_n 0, 1) := by decide +kernel
theorem x19_22 {d : Nat} {l1 l2 l3 : Option Value} {st : List Value} {a : Nat} {h : Hp} : ex (d) 19 22 [some (.ref a), l1, l2, l3] st h = ex d 19 23 [some (.ref a), l1, l2, l3] (.ref a :: st) h := (ex_of d19_22 (d) [some (.ref a), l1, l2, l3] st h).trans (rfl)
theorem d19_23 : decode (mB 19) 23 = .ok (.getfield 62, 3) := by decide +kernel
theorem x19_23 {d : Nat} {L : Lc} {st : List Value} {a : Nat} {h : Hp} (ht : (h.2.1 a).1 = 5) : ex (d) 19 23 L (.ref a :: st) h = ex d 19 26 L (h.1 a 2 :: st) h := (ex_of d19_23 (d) L (.ref a :: st) h).trans (fin_get (mi := 19) f5_62 (tg1 ht rfl))
theorem d19_26 : decode (mB 19) 26 = .ok (.putfield 99, 3) := by decide +kernel
theorem x19_26 {d : Nat} {L : Lc} {st : List Value} {a : Nat} {x : Int32} {h : Hp} (ht : (h.2.1 a).1 = 5) : ex (d) 19 26 L (.int x :: .ref a :: st) h = ex d 19 29 L st (mup h.1 a 17 (.int x), h.2) := (ex_of d19_26 (d) L (.int x :: .ref a :: st) h).trans (fin_put (mi := 19) f5_99 ht rfl rfl (by decide +kernel))
theorem d19_29 : decode (mB 19) 29 = .ok (.iconst 0, 1) := by decide +kernel
theorem x19_29 {d : Nat} {L : Lc} {st : List Value} {h : Hp} : ex (d) 19 29 L st h = ex d 19 30 L (.int (nI 0) :: st) h := (ex_of d19_29 (d) L st h).trans (rfl)
theorem d19_30 : decode (mB 19) 30 = .ok (.istore_n 2, 1) := by decide +kernel
theorem x19_30 {d : Nat} {l0 l1 l2 l3 : Option Value} {st : List Value} {x : Int32} {h : Hp} : ex (d) 19 30 [l0, l1, l2, l3] (.int x :: st) h = ex d 19 31 [l0, clr l1, some (.int x), l3] st h := (ex_of d19_30 (d) [l0, l1, l2, l3] (.int x :: st) h).trans (rfl)
theorem d19_31 : decode (mB 19) 31 = .ok (.iload_n 2, 1) := by decide +kernel
theorem x19_31 {d : Nat} {l0 l1 l3 : Option Value} {st : List Value} {x : Int32} {h : Hp} : ex (d) 19 31 [l0, l1, some (.int x), l3] st h = ex d 19 32 [l0, l1, some (.int x), l3] (.int x :: st) h := (ex_of d19_31 (d) [l0, l1, some (.int x), l3] st h).trans (rfl)
theorem d19_32 : decode (mB 19) 32 = .ok (.aload_n 0, 1) := by decide +kernel
theorem x19_32 {d : Nat} {l1 l2 l3 : Option Value} {st : List Value} {a : Nat} {h : Hp} : ex (d) 19 32 [some (.ref a), l1, l2, l3] st h = ex d 19 33 [some (.ref a), l1, l2, l3] (.ref a :: st) h := (ex_of d19_32 (d) [some (.ref a), l1, l2, l3] st h).trans (rfl)
theorem d19_33 : decode (mB 19) 33 = .ok (.getfield 62, 3) := by decide +kernel
theorem x19_33 {d : Nat} {L : Lc} {st : List Value} {a : Nat} {h : Hp} (ht : (h.2.1 a).1 = 5) : ex (d) 19 33 L (.ref a :: st) h = ex d 19 36 L (h.1 a 2 :: st) h := (ex_of d19_33 (d) L (.ref a :: st) h).trans (fin_get (mi := 19) f5_62 (tg1 ht rfl))
theorem d19_36 : decode (mB 19) 36 = .ok (.if_icmp .ge 44, 3) := by decide +kernel
theorem x19_36 {d : Nat} {L : Lc} {st : List Value} {x y : Int32} {h : Hp} : ex (d) 19 36 L (.int y :: .int x :: st) h = if y ≤ x then ex d 19 80 L st h else ex d 19 39 L st h := (ex_of d19_36 (d) L (.int y :: .int x :: st) h).trans (fin_brq (off := 44) (tgt := 80) rfl (by decide))
theorem d19_39 : decode (mB 19) 39 = .ok (.aload_n 0, 1) := by decide +kernel
theorem x19_39 {d : Nat} {l1 l2 l3 : Option Value} {st : List Value} {a : Nat} {h : Hp} : ex (d) 19 39 [some (.ref a), l1, l2, l3] st h = ex d 19 40 [some (.ref a), l1, l2, l3] (.ref a :: st) h := (ex_of d19_39 (d) [some (.ref a), l1, l2, l3] st h).trans (rfl)
theorem d19_40 : decode (mB 19) 40 = .ok (.getfield 26, 3) := by decide +kernel
theorem x19_40 {d : Nat} {L : Lc} {st : List Value} {a : Nat} {h : Hp} (ht : (h.2.1 a).1 = 5) : ex (d) 19 40 L (.ref a :: st) h = ex d 19 43 L (h.1 a 4 :: st) h := (ex_of d19_40 (d) L (.ref a :: st) h).trans (fin_get (mi := 19) f5_26 (tg1 ht rfl))
theorem d19_43 : decode (mB 19) 43 = .ok (.aload_n 0, 1) := by decide +kernel
theorem x19_43 {d : Nat} {l1 l2 l3 : Option Value} {st : List Value} {a : Nat} {h : Hp} : ex (d) 19 43 [some (.ref a), l1, l2, l3] st h = ex d 19 44 [some (.ref a), l1, l2, l3] (.ref a :: st) h := (ex_of d19_43 (d) [some (.ref a), l1, l2, l3] st h).trans (rfl)
theorem d19_44 : decode (mB 19) 44 = .ok (.getfield 56, 3) := by decide +kernel
theorem x19_44 {d : Nat} {L : Lc} {st : List Value} {a : Nat} {h : Hp} (ht : (h.2.1 a).1 = 5) : ex (d) 19 44 L (.ref a :: st) h = ex d 19 47 L (h.1 a 14 :: st) h := (ex_of d19_44 (d) L (.ref a :: st) h).trans (fin_get (mi := 19) f5_56 (tg1 ht rfl))
theorem d19_47 : decode (mB 19) 47 = .ok (.iload_n 2, 1) := by decide +kernel
theorem x19_47 {d : Nat} {l0 l1 l3 : Option Value} {st : List Value} {x : Int32} {h : Hp} : ex (d) 19 47 [l0, l1, some (.int x), l3] st h = ex d 19 48 [l0, l1, some (.int x), l3] (.int x :: st) h := (ex_of d19_47 (d) [l0, l1, some (.int x), l3] st h).trans (rfl)
theorem d19_48 : decode (mB 19) 48 = .ok (.iaload, 1) := by decide +kernel
theorem x19_48 {d : Nat} {L : Lc} {st : List Value} {a j : Nat} {h : Hp} (ht : (h.2.1 a).1 = 20) (hj : j < (h.2.1 a).2) (hb : j < 2147483648) : ex (d) 19 48 L (.int (nI j) :: .ref a :: st) h = ex d 19 49 L (h.1 a j :: st) h := (ex_of d19_48 (d) L (.int (nI j) :: .ref a :: st) h).trans (fin_iaload (Or.inl ht) hj hb)
theorem d19_49 : decode (mB 19) 49 = .ok (.aaload, 1) := by decide +kernel
theorem x19_49 {d : Nat} {L : Lc} {st : List Value} {a j : Nat} {h : Hp} (ht : 21 ≤ (h.2.1 a).1 ∧ (h.2.1 a).1 ≤ 26) (hj : j < (h.2.1 a).2) (hb : j < 2147483648) : ex (d) 19 49 L (.int (nI j) :: .ref a :: st) h = ex d 19 50 L (h.1 a j :: st) h := (ex_of d19_49 (d) L (.int (nI j) :: .ref a :: st) h).trans (fin_aaload ht hj hb)
theorem d19_50 : decode (mB 19) 50 = .ok (.astore_n 3, 1) := by decide +kernel
theorem x19_50 {d : Nat} {l0 l1 l2 l3 : Option Value} {st : List Value} {a : Nat} {h : Hp} : ex (d) 19 50 [l0, l1, l2, l3] (.ref a :: st) h = ex d 19 51 [l0, l1, clr l2, some (.ref a)] st h := (ex_of d19_50 (d) [l0, l1, l2, l3] (.ref a :: st) h).trans (rfl)
theorem x19_50n {d : Nat} {l0 l1 l2 l3 : Option Value} {st : List Value} {h : Hp} : ex (d) 19 50 [l0, l1, l2, l3] (.null :: st) h = ex d 19 51 [l0, l1, clr l2, some .null] st h := (ex_of d19_50 (d) [l0, l1, l2, l3] (.null :: st) h).trans (rfl)
theorem x19_50q {d : Nat} {l0 l1 l2 l3 : Option Value} {st : List Value} {a : Option Nat} {h : Hp} : ex (d) 19 50 [l0, l1, l2, l3] (va_rf a :: st) h = ex d 19 51 [l0, l1, clr l2, some (va_rf a)] st h := (ex_of d19_50 (d) [l0, l1, l2, l3] (va_rf a :: st) h).trans (by cases a <;> rfl)
theorem d19_51 : decode (mB 19) 51 = .ok (.aload_n 0, 1) := by decide +kernel
theorem x19_51 {d : Nat} {l1 l2 l3 : Option Value} {st : List Value} {a : Nat} {h : Hp} : ex (d) 19 51 [some (.ref a), l1, l2, l3] st h = ex d 19 52 [some (.ref a), l1, l2, l3] (.ref a :: st) h := (ex_of d19_51 (d) [some (.ref a), l1, l2, l3] st h).trans (rfl)
theorem d19_52 : decode (mB 19) 52 = .ok (.getfield 59, 3) := by decide +kernel
theorem x19_52 {d : Nat} {L : Lc} {st : List Value} {a : Nat} {h : Hp} (ht : (h.2.1 a).1 = 5) : ex (d) 19 52 L (.ref a :: st) h = ex d 19 55 L (h.1 a 16 :: st) h := (ex_of d19_52 (d) L (.ref a :: st) h).trans (fin_get (mi := 19) f5_59 (tg1 ht rfl))
theorem d19_55 : decode (mB 19) 55 = .ok (.aload_n 0, 1) := by decide +kernel
theorem x19_55 {d : Nat} {l1 l2 l3 : Option Value} {st : List Value} {a : Nat} {h : Hp} : ex (d) 19 55 [some (.ref a), l1, l2, l3] st h = ex d 19 56 [some (.ref a), l1, l2, l3] (.ref a :: st) h := (ex_of d19_55 (d) [some (.ref a), l1, l2, l3] st h).trans (rfl)
theorem d19_56 : decode (mB 19) 56 = .ok (.getfield 50, 3) := by decide +kernel
theorem x19_56 {d : Nat} {L : Lc} {st : List Value} {a : Nat} {h : Hp} (ht : (h.2.1 a).1 = 5) : ex (d) 19 56 L (.ref a :: st) h = ex d 19 59 L (h.1 a 12 :: st) h := (ex_of d19_56 (d) L (.ref a :: st) h).trans (fin_get (mi := 19) f5_50 (tg1 ht rfl))
theorem d19_59 : decode (mB 19) 59 = .ok (.iload_n 2, 1) := by decide +kernel
theorem x19_59 {d : Nat} {l0 l1 l3 : Option Value} {st : List Value} {x : Int32} {h : Hp} : ex (d) 19 59 [l0, l1, some (.int x), l3] st h = ex d 19 60 [l0, l1, some (.int x), l3] (.int x :: st) h := (ex_of d19_59 (d) [l0, l1, some (.int x), l3] st h).trans (rfl)
theorem d19_60 : decode (mB 19) 60 = .ok (.iaload, 1) := by decide +kernel
theorem x19_60 {d : Nat} {L : Lc} {st : List Value} {a j : Nat} {h : Hp} (ht : (h.2.1 a).1 = 20) (hj : j < (h.2.1 a).2) (hb : j < 2147483648) : ex (d) 19 60 L (.int (nI j) :: .ref a :: st) h = ex d 19 61 L (h.1 a j :: st) h := (ex_of d19_60 (d) L (.int (nI j) :: .ref a :: st) h).trans (fin_iaload (Or.inl ht) hj hb)
theorem d19_61 : decode (mB 19) 61 = .ok (.aload_n 3, 1) := by decide +kernel
theorem x19_61 {d : Nat} {l0 l1 l2 : Option Value} {st : List Value} {a : Nat} {h : Hp} : ex (d) 19 61 [l0, l1, l2, some (.ref a)] st h = ex d 19 62 [l0, l1, l2, some (.ref a)] (.ref a :: st) h := (ex_of d19_61 (d) [l0, l1, l2, some (.ref a)] st h).trans (rfl)
theorem x19_61n {d : Nat} {l0 l1 l2 : Option Value} {st : List Value} {h : Hp} : ex (d) 19 61 [l0, l1, l2, some .null] st h = ex d 19 62 [l0, l1, l2, some .null] (.null :: st) h := (ex_of d19_61 (d) [l0, l1, l2, some .null] st h).trans (rfl)
theorem x19_61q {d : Nat} {l0 l1 l2 : Option Value} {st : List Value} {a : Option Nat} {h : Hp} : ex (d) 19 61 [l0, l1, l2, some (va_rf a)] st h = ex d 19 62 [l0, l1, l2, some (va_rf a)] (va_rf a :: st) h := (ex_of d19_61 (d) [l0, l1, l2, some (va_rf a)] st h).trans (by cases a <;> rfl)
theorem d19_62 : decode (mB 19) 62 = .ok (.ifnonnull 7, 3) := by decide +kernel
theorem x19_62n {d : Nat} {L : Lc} {st : List Value} {h : Hp} : ex (d) 19 62 L (.null :: st) h = ex d 19 65 L st h := (ex_of d19_62 (d) L (.null :: st) h).trans (rfl)
theorem x19_62 {d : Nat} {L : Lc} {st : List Value} {a : Nat} {h : Hp} : ex (d) 19 62 L (.ref a :: st) h = ex d 19 69 L st h := (ex_of d19_62 (d) L (.ref a :: st) h).trans (rfl)
theorem d19_65 : decode (mB 19) 65 = .ok (.iconst (-1), 1) := by decide +kernel
theorem x19_65 {d : Nat} {L : Lc} {st : List Value} {h : Hp} : ex (d) 19 65 L st h = ex d 19 66 L (.int (-1) :: st) h := (ex_of d19_65 (d) L st h).trans (rfl)
theorem d19_66 : decode (mB 19) 66 = .ok (.goto 7, 3) := by decide +kernel
theorem x19_66 {d : Nat} {L : Lc} {st : List Value} {h : Hp} : ex (d) 19 66 L st h = ex d 19 73 L st h := (ex_of d19_66 (d) L st h).trans (rfl)
theorem d19_69 : decode (mB 19) 69 = .ok (.aload_n 3, 1) := by decide +kernel
theorem x19_69 {d : Nat} {l0 l1 l2 : Option Value} {st : List Value} {a : Nat} {h : Hp} : ex (d) 19 69 [l0, l1, l2, some (.ref a)] st h = ex d 19 70 [l0, l1, l2, some (.ref a)] (.ref a :: st) h := (ex_of d19_69 (d) [l0, l1, l2, some (.ref a)] st h).trans (rfl)
theorem x19_69n {d : Nat} {l0 l1 l2 : Option Value} {st : List Value} {h : Hp} : ex (d) 19 69 [l0, l1, l2, some .null] st h = ex d 19 70 [l0, l1, l2, some .null] (.null :: st) h := (ex_of d19_69 (d) [l0, l1, l2, some .null] st h).trans (rfl)
theorem x19_69q {d : Nat} {l0 l1 l2 : Option Value} {st : List Value} {a : Option Nat} {h : Hp} : ex (d) 19 69 [l0, l1, l2, some (va_rf a)] st h = ex d 19 70 [l0, l1, l2, some (va_rf a)] (va_rf a :: st) h := (ex_of d19_69 (d) [l0, l1, l2, some (va_rf a)] st h).trans (by cases a <;> rfl)
theorem d19_70 : decode (mB 19) 70 = .ok (.getfield 106, 3) := by decide +kernel
theorem x19_70 {d : Nat} {L : Lc} {st : List Value} {a : Nat} {h : Hp} (ht : isTh (h.2.1 a).1 = true) : ex (d) 19 70 L (.ref a :: st) h = ex d 19 73 L (h.1 a 0 :: st) h := (ex_of d19_70 (d) L (.ref a :: st) h).trans (fin_get (mi := 19) f5_106 ht)
theorem d19_73 : decode (mB 19) 73 = .ok (.iastore, 1) := by decide +kernel
theorem x19_73 {d : Nat} {L : Lc} {st : List Value} {a j : Nat} {x : Int32} {h : Hp} (ht : (h.2.1 a).1 = 20) (hj : j < (h.2.1 a).2) (hb : j < 2147483648) : ex (d) 19 73 L (.int x :: .int (nI j) :: .ref a :: st) h = ex d 19 74 L st (mup h.1 a j (.int x), h.2) := (ex_of d19_73 (d) L (.int x :: .int (nI j) :: .ref a :: st) h).trans (fin_iastore ht hj hb)
theorem d19_74 : decode (mB 19) 74 = .ok (.iinc 2 1, 3) := by decide +kernel
theorem x19_74 {d : Nat} {l0 l1 l3 : Option Value} {st : List Value} {x : Int32} {h : Hp} : ex (d) 19 74 [l0, l1, some (.int x), l3] st h = ex d 19 77 [l0, clr l1, some (.int (x + (nI 1))), l3] st h := (ex_of d19_74 (d) [l0, l1, some (.int x), l3] st h).trans (rfl)
theorem d19_77 : decode (mB 19) 77 = .ok (.goto (-46), 3) := by decide +kernel
theorem x19_77 {d : Nat} {L : Lc} {st : List Value} {h : Hp} : ex (d) 19 77 L st h = ex d 19 31 L st h := (ex_of d19_77 (d) L st h).trans (rfl)
theorem d19_80 : decode (mB 19) 80 = .ok (.return_, 1) := by decide +kernel
theorem x19_80 {d : Nat} {L : Lc}  {h : Hp} : ex (d) 19 80 L [] h = some (none, h) := (ex_of d19_80 (d) L [] h).trans (rfl)
theorem d20_0 : decode (mB 20) 0 = .ok (.aload_n 0, 1) := by decide +kernel
theorem x20_0 {d : Nat} {l1 l2 l3 l4 l5 l6 l7 : Option Value} {st : List Value} {a : Nat} {h : Hp} : ex (d) 20 0 [some (.ref a), l1, l2, l3, l4, l5, l6, l7] st h = ex d 20 1 [some (.ref a), l1, l2, l3, l4, l5, l6, l7] (.ref a :: st) h := (ex_of d20_0 (d) [some (.ref a), l1, l2, l3, l4, l5, l6, l7] st h).trans (rfl)
theorem d20_1 : decode (mB 20) 1 = .ok (.getfield 11, 3) := by decide +kernel
theorem x20_1 {d : Nat} {L : Lc} {st : List Value} {a : Nat} {h : Hp} (ht : (h.2.1 a).1 = 5) : ex (d) 20 1 L (.ref a :: st) h = ex d 20 4 L (h.1 a 0 :: st) h := (ex_of d20_1 (d) L (.ref a :: st) h).trans (fin_get (mi := 20) f5_11 (tg1 ht rfl))
theorem d20_4 : decode (mB 20) 4 = .ok (.iload_n 1, 1) := by decide +kernel
theorem x20_4 {d : Nat} {l0 l2 l3 l4 l5 l6 l7 : Option Value} {st : List Value} {x : Int32} {h : Hp} : ex (d) 20 4 [l0, some (.int x), l2, l3, l4, l5, l6, l7] st h = ex d 20 5 [l0, some (.int x), l2, l3, l4, l5, l6, l7] (.int x :: st) h := (ex_of d20_4 (d) [l0, some (.int x), l2, l3, l4, l5, l6, l7] st h).trans (rfl)
theorem d20_5 : decode (mB 20) 5 = .ok (.aaload, 1) := by decide +kernel
theorem x20_5 {d : Nat} {L : Lc} {st : List Value} {a j : Nat} {h : Hp} (ht : 21 ≤ (h.2.1 a).1 ∧ (h.2.1 a).1 ≤ 26) (hj : j < (h.2.1 a).2) (hb : j < 2147483648) : ex (d) 20 5 L (.int (nI j) :: .ref a :: st) h = ex d 20 6 L (h.1 a j :: st) h := (ex_of d20_5 (d) L (.int (nI j) :: .ref a :: st) h).trans (fin_aaload ht hj hb)
theorem d20_6 : decode (mB 20) 6 = .ok (.astore_n 3, 1) := by decide +kernel
theorem x20_6 {d : Nat} {l0 l1 l2 l3 l4 l5 l6 l7 : Option Value} {st : List Value} {a : Nat} {h : Hp} : ex (d) 20 6 [l0, l1, l2, l3, l4, l5, l6, l7] (.ref a :: st) h = ex d 20 7 [l0, l1, clr l2, some (.ref a), l4, l5, l6, l7] st h := (ex_of d20_6 (d) [l0, l1, l2, l3, l4, l5, l6, l7] (.ref a :: st) h).trans (rfl)
theorem x20_6n {d : Nat} {l0 l1 l2 l3 l4 l5 l6 l7 : Option Value} {st : List Value} {h : Hp} : ex (d) 20 6 [l0, l1, l2, l3, l4, l5, l6, l7] (.null :: st) h = ex d 20 7 [l0, l1, clr l2, some .null, l4, l5, l6, l7] st h := (ex_of d20_6 (d) [l0, l1, l2, l3, l4, l5, l6, l7] (.null :: st) h).trans (rfl)
theorem x20_6q {d : Nat} {l0 l1 l2 l3 l4 l5 l6 l7 : Option Value} {st : List Value} {a : Option Nat} {h : Hp} : ex (d) 20 6 [l0, l1, l2, l3, l4, l5, l6, l7] (va_rf a :: st) h = ex d 20 7 [l0, l1, clr l2, some (va_rf a), l4, l5, l6, l7] st h := (ex_of d20_6 (d) [l0, l1, l2, l3, l4, l5, l6, l7] (va_rf a :: st) h).trans (by cases a <;> rfl)
theorem d20_7 : decode (mB 20) 7 = .ok (.aload_n 0, 1) := by decide +kernel
theorem x20_7 {d : Nat} {l1 l2 l3 l4 l5 l6 l7 : Option Value} {st : List Value} {a : Nat} {h : Hp} : ex (d) 20 7 [some (.ref a), l1, l2, l3, l4, l5, l6, l7] st h = ex d 20 8 [some (.ref a), l1, l2, l3, l4, l5, l6, l7] (.ref a :: st) h := (ex_of d20_7 (d) [some (.ref a), l1, l2, l3, l4, l5, l6, l7] st h).trans (rfl)
theorem d20_8 : decode (mB 20) 8 = .ok (.getfield 41, 3) := by decide +kernel
theorem x20_8 {d : Nat} {L : Lc} {st : List Value} {a : Nat} {h : Hp} (ht : (h.2.1 a).1 = 5) : ex (d) 20 8 L (.ref a :: st) h = ex d 20 11 L (h.1 a 9 :: st) h := (ex_of d20_8 (d) L (.ref a :: st) h).trans (fin_get (mi := 20) f5_41 (tg1 ht rfl))
theorem d20_11 : decode (mB 20) 11 = .ok (.iload_n 1, 1) := by decide +kernel
theorem x20_11 {d : Nat} {l0 l2 l3 l4 l5 l6 l7 : Option Value} {st : List Value} {x : Int32} {h : Hp} : ex (d) 20 11 [l0, some (.int x), l2, l3, l4, l5, l6, l7] st h = ex d 20 12 [l0, some (.int x), l2, l3, l4, l5, l6, l7] (.int x :: st) h := (ex_of d20_11 (d) [l0, some (.int x), l2, l3, l4, l5, l6, l7] st h).trans (rfl)
theorem d20_12 : decode (mB 20) 12 = .ok (.iconst 0, 1) := by decide +kernel
theorem x20_12 {d : Nat} {L : Lc} {st : List Value} {h : Hp} : ex (d) 20 12 L st h = ex d 20 13 L (.int (nI 0) :: st) h := (ex_of d20_12 (d) L st h).trans (rfl)
theorem d20_13 : decode (mB 20) 13 = .ok (.iastore, 1) := by decide +kernel
theorem x20_13 {d : Nat} {L : Lc} {st : List Value} {a j : Nat} {x : Int32} {h : Hp} (ht : (h.2.1 a).1 = 20) (hj : j < (h.2.1 a).2) (hb : j < 2147483648) : ex (d) 20 13 L (.int x :: .int (nI j) :: .ref a :: st) h = ex d 20 14 L st (mup h.1 a j (.int x), h.2) := (ex_of d20_13 (d) L (.int x :: .int (nI j) :: .ref a :: st) h).trans (fin_iastore ht hj hb)
theorem d20_14 : decode (mB 20) 14 = .ok (.iconst 0, 1) := by decide +kernel
theorem x20_14 {d : Nat} {L : Lc} {st : List Value} {h : Hp} : ex (d) 20 14 L st h = ex d 20 15 L (.int (nI 0) :: st) h := (ex_of d20_14 (d) L st h).trans (rfl)
theorem d20_15 : decode (mB 20) 15 = .ok (.istore 4, 2) := by decide +kernel
theorem x20_15 {d : Nat} {l0 l1 l2 l3 l4 l5 l6 l7 : Option Value} {st : List Value} {x : Int32} {h : Hp} : ex (d) 20 15 [l0, l1, l2, l3, l4, l5, l6, l7] (.int x :: st) h = ex d 20 17 [l0, l1, l2, clr l3, some (.int x), l5, l6, l7] st h := (ex_of d20_15 (d) [l0, l1, l2, l3, l4, l5, l6, l7] (.int x :: st) h).trans (rfl)
theorem d20_17 : decode (mB 20) 17 = .ok (.iload 4, 2) := by decide +kernel
theorem x20_17 {d : Nat} {l0 l1 l2 l3 l5 l6 l7 : Option Value} {st : List Value} {x : Int32} {h : Hp} : ex (d) 20 17 [l0, l1, l2, l3, some (.int x), l5, l6, l7] st h = ex d 20 19 [l0, l1, l2, l3, some (.int x), l5, l6, l7] (.int x :: st) h := (ex_of d20_17 (d) [l0, l1, l2, l3, some (.int x), l5, l6, l7] st h).trans (rfl)
theorem d20_19 : decode (mB 20) 19 = .ok (.aload_n 0, 1) := by decide +kernel
theorem x20_19 {d : Nat} {l1 l2 l3 l4 l5 l6 l7 : Option Value} {st : List Value} {a : Nat} {h : Hp} : ex (d) 20 19 [some (.ref a), l1, l2, l3, l4, l5, l6, l7] st h = ex d 20 20 [some (.ref a), l1, l2, l3, l4, l5, l6, l7] (.ref a :: st) h := (ex_of d20_19 (d) [some (.ref a), l1, l2, l3, l4, l5, l6, l7] st h).trans (rfl)
theorem d20_20 : decode (mB 20) 20 = .ok (.getfield 66, 3) := by decide +kernel
theorem x20_20 {d : Nat} {L : Lc} {st : List Value} {a : Nat} {h : Hp} (ht : (h.2.1 a).1 = 5) : ex (d) 20 20 L (.ref a :: st) h = ex d 20 23 L (h.1 a 5 :: st) h := (ex_of d20_20 (d) L (.ref a :: st) h).trans (fin_get (mi := 20) f5_66 (tg1 ht rfl))
theorem d20_23 : decode (mB 20) 23 = .ok (.if_icmp .ge 102, 3) := by decide +kernel
theorem x20_23 {d : Nat} {L : Lc} {st : List Value} {x y : Int32} {h : Hp} : ex (d) 20 23 L (.int y :: .int x :: st) h = if y ≤ x then ex d 20 125 L st h else ex d 20 26 L st h := (ex_of d20_23 (d) L (.int y :: .int x :: st) h).trans (fin_brq (off := 102) (tgt := 125) rfl (by decide))
theorem d20_26 : decode (mB 20) 26 = .ok (.aload_n 0, 1) := by decide +kernel
theorem x20_26 {d : Nat} {l1 l2 l3 l4 l5 l6 l7 : Option Value} {st : List Value} {a : Nat} {h : Hp} : ex (d) 20 26 [some (.ref a), l1, l2, l3, l4, l5, l6, l7] st h = ex d 20 27 [some (.ref a), l1, l2, l3, l4, l5, l6, l7] (.ref a :: st) h := (ex_of d20_26 (d) [some (.ref a), l1, l2, l3, l4, l5, l6, l7] st h).trans (rfl)
theorem d20_27 : decode (mB 20) 27 = .ok (.getfield 26, 3) := by decide +kernel
theorem x20_27 {d : Nat} {L : Lc} {st : List Value} {a : Nat} {h : Hp} (ht : (h.2.1 a).1 = 5) : ex (d) 20 27 L (.ref a :: st) h = ex d 20 30 L (h.1 a 4 :: st) h := (ex_of d20_27 (d) L (.ref a :: st) h).trans (fin_get (mi := 20) f5_26 (tg1 ht rfl))
theorem d20_30 : decode (mB 20) 30 = .ok (.iload 4, 2) := by decide +kernel
theorem x20_30 {d : Nat} {l0 l1 l2 l3 l5 l6 l7 : Option Value} {st : List Value} {x : Int32} {h : Hp} : ex (d) 20 30 [l0, l1, l2, l3, some (.int x), l5, l6, l7] st h = ex d 20 32 [l0, l1, l2, l3, some (.int x), l5, l6, l7] (.int x :: st) h := (ex_of d20_30 (d) [l0, l1, l2, l3, some (.int x), l5, l6, l7] st h).trans (rfl)
theorem d20_32 : decode (mB 20) 32 = .ok (.aaload, 1) := by decide +kernel
theorem x20_32 {d : Nat} {L : Lc} {st : List Value} {a j : Nat} {h : Hp} (ht : 21 ≤ (h.2.1 a).1 ∧ (h.2.1 a).1 ≤ 26) (hj : j < (h.2.1 a).2) (hb : j < 2147483648) : ex (d) 20 32 L (.int (nI j) :: .ref a :: st) h = ex d 20 33 L (h.1 a j :: st) h := (ex_of d20_32 (d) L (.int (nI j) :: .ref a :: st) h).trans (fin_aaload ht hj hb)
theorem d20_33 : decode (mB 20) 33 = .ok (.astore 5, 2) := by decide +kernel
theorem x20_33 {d : Nat} {l0 l1 l2 l3 l4 l5 l6 l7 : Option Value} {st : List Value} {a : Nat} {h : Hp} : ex (d) 20 33 [l0, l1, l2, l3, l4, l5, l6, l7] (.ref a :: st) h = ex d 20 35 [l0, l1, l2, l3, clr l4, some (.ref a), l6, l7] st h := (ex_of d20_33 (d) [l0, l1, l2, l3, l4, l5, l6, l7] (.ref a :: st) h).trans (rfl)
theorem x20_33n {d : Nat} {l0 l1 l2 l3 l4 l5 l6 l7 : Option Value} {st : List Value} {h : Hp} : ex (d) 20 33 [l0, l1, l2, l3, l4, l5, l6, l7] (.null :: st) h = ex d 20 35 [l0, l1, l2, l3, clr l4, some .null, l6, l7] st h := (ex_of d20_33 (d) [l0, l1, l2, l3, l4, l5, l6, l7] (.null :: st) h).trans (rfl)
theorem x20_33q {d : Nat} {l0 l1 l2 l3 l4 l5 l6 l7 : Option Value} {st : List Value} {a : Option Nat} {h : Hp} : ex (d) 20 33 [l0, l1, l2, l3, l4, l5, l6, l7] (va_rf a :: st) h = ex d 20 35 [l0, l1, l2, l3, clr l4, some (va_rf a), l6, l7] st h := (ex_of d20_33 (d) [l0, l1, l2, l3, l4, l5, l6, l7] (va_rf a :: st) h).trans (by cases a <;> rfl)
theorem d20_35 : decode (mB 20) 35 = .ok (.aload_n 3, 1) := by decide +kernel
theorem x20_35 {d : Nat} {l0 l1 l2 l4 l5 l6 l7 : Option Value} {st : List Value} {a : Nat} {h : Hp} : ex (d) 20 35 [l0, l1, l2, some (.ref a), l4, l5, l6, l7] st h = ex d 20 36 [l0, l1, l2, some (.ref a), l4, l5, l6, l7] (.ref a :: st) h := (ex_of d20_35 (d) [l0, l1, l2, some (.ref a), l4, l5, l6, l7] st h).trans (rfl)
theorem x20_35n {d : Nat} {l0 l1 l2 l4 l5 l6 l7 : Option Value} {st : List Value} {h : Hp} : ex (d) 20 35 [l0, l1, l2, some .null, l4, l5, l6, l7] st h = ex d 20 36 [l0, l1, l2, some .null, l4, l5, l6, l7] (.null :: st) h := (ex_of d20_35 (d) [l0, l1, l2, some .null, l4, l5, l6, l7] st h).trans (rfl)
theorem x20_35q {d : Nat} {l0 l1 l2 l4 l5 l6 l7 : Option Value} {st : List Value} {a : Option Nat} {h : Hp} : ex (d) 20 35 [l0, l1, l2, some (va_rf a), l4, l5, l6, l7] st h = ex d 20 36 [l0, l1, l2, some (va_rf a), l4, l5, l6, l7] (va_rf a :: st) h := (ex_of d20_35 (d) [l0, l1, l2, some (va_rf a), l4, l5, l6, l7] st h).trans (by cases a <;> rfl)
theorem d20_36 : decode (mB 20) 36 = .ok (.ifnull 22, 3) := by decide +kernel
theorem x20_36n {d : Nat} {L : Lc} {st : List Value} {h : Hp} : ex (d) 20 36 L (.null :: st) h = ex d 20 58 L st h := (ex_of d20_36 (d) L (.null :: st) h).trans (rfl)
theorem x20_36 {d : Nat} {L : Lc} {st : List Value} {a : Nat} {h : Hp} : ex (d) 20 36 L (.ref a :: st) h = ex d 20 39 L st h := (ex_of d20_36 (d) L (.ref a :: st) h).trans (rfl)
theorem d20_39 : decode (mB 20) 39 = .ok (.aload 5, 2) := by decide +kernel
theorem x20_39 {d : Nat} {l0 l1 l2 l3 l4 l6 l7 : Option Value} {st : List Value} {a : Nat} {h : Hp} : ex (d) 20 39 [l0, l1, l2, l3, l4, some (.ref a), l6, l7] st h = ex d 20 41 [l0, l1, l2, l3, l4, some (.ref a), l6, l7] (.ref a :: st) h := (ex_of d20_39 (d) [l0, l1, l2, l3, l4, some (.ref a), l6, l7] st h).trans (rfl)
theorem x20_39n {d : Nat} {l0 l1 l2 l3 l4 l6 l7 : Option Value} {st : List Value} {h : Hp} : ex (d) 20 39 [l0, l1, l2, l3, l4, some .null, l6, l7] st h = ex d 20 41 [l0, l1, l2, l3, l4, some .null, l6, l7] (.null :: st) h := (ex_of d20_39 (d) [l0, l1, l2, l3, l4, some .null, l6, l7] st h).trans (rfl)
theorem x20_39q {d : Nat} {l0 l1 l2 l3 l4 l6 l7 : Option Value} {st : List Value} {a : Option Nat} {h : Hp} : ex (d) 20 39 [l0, l1, l2, l3, l4, some (va_rf a), l6, l7] st h = ex d 20 41 [l0, l1, l2, l3, l4, some (va_rf a), l6, l7] (va_rf a :: st) h := (ex_of d20_39 (d) [l0, l1, l2, l3, l4, some (va_rf a), l6, l7] st h).trans (by cases a <;> rfl)
theorem d20_41 : decode (mB 20) 41 = .ok (.ifnull 17, 3) := by decide +kernel
theorem x20_41n {d : Nat} {L : Lc} {st : List Value} {h : Hp} : ex (d) 20 41 L (.null :: st) h = ex d 20 58 L st h := (ex_of d20_41 (d) L (.null :: st) h).trans (rfl)
theorem x20_41 {d : Nat} {L : Lc} {st : List Value} {a : Nat} {h : Hp} : ex (d) 20 41 L (.ref a :: st) h = ex d 20 44 L st h := (ex_of d20_41 (d) L (.ref a :: st) h).trans (rfl)
theorem d20_44 : decode (mB 20) 44 = .ok (.aload_n 2, 1) := by decide +kernel
theorem x20_44 {d : Nat} {l0 l1 l3 l4 l5 l6 l7 : Option Value} {st : List Value} {a : Nat} {h : Hp} : ex (d) 20 44 [l0, l1, some (.ref a), l3, l4, l5, l6, l7] st h = ex d 20 45 [l0, l1, some (.ref a), l3, l4, l5, l6, l7] (.ref a :: st) h := (ex_of d20_44 (d) [l0, l1, some (.ref a), l3, l4, l5, l6, l7] st h).trans (rfl)
theorem x20_44n {d : Nat} {l0 l1 l3 l4 l5 l6 l7 : Option Value} {st : List Value} {h : Hp} : ex (d) 20 44 [l0, l1, some .null, l3, l4, l5, l6, l7] st h = ex d 20 45 [l0, l1, some .null, l3, l4, l5, l6, l7] (.null :: st) h := (ex_of d20_44 (d) [l0, l1, some .null, l3, l4, l5, l6, l7] st h).trans (rfl)
theorem x20_44q {d : Nat} {l0 l1 l3 l4 l5 l6 l7 : Option Value} {st : List Value} {a : Option Nat} {h : Hp} : ex (d) 20 44 [l0, l1, some (va_rf a), l3, l4, l5, l6, l7] st h = ex d 20 45 [l0, l1, some (va_rf a), l3, l4, l5, l6, l7] (va_rf a :: st) h := (ex_of d20_44 (d) [l0, l1, some (va_rf a), l3, l4, l5, l6, l7] st h).trans (by cases a <;> rfl)
theorem d20_45 : decode (mB 20) 45 = .ok (.ifnull 9, 3) := by decide +kernel
theorem x20_45n {d : Nat} {L : Lc} {st : List Value} {h : Hp} : ex (d) 20 45 L (.null :: st) h = ex d 20 54 L st h := (ex_of d20_45 (d) L (.null :: st) h).trans (rfl)
theorem x20_45 {d : Nat} {L : Lc} {st : List Value} {a : Nat} {h : Hp} : ex (d) 20 45 L (.ref a :: st) h = ex d 20 48 L st h := (ex_of d20_45 (d) L (.ref a :: st) h).trans (rfl)
theorem d20_48 : decode (mB 20) 48 = .ok (.aload 5, 2) := by decide +kernel
theorem x20_48 {d : Nat} {l0 l1 l2 l3 l4 l6 l7 : Option Value} {st : List Value} {a : Nat} {h : Hp} : ex (d) 20 48 [l0, l1, l2, l3, l4, some (.ref a), l6, l7] st h = ex d 20 50 [l0, l1, l2, l3, l4, some (.ref a), l6, l7] (.ref a :: st) h := (ex_of d20_48 (d) [l0, l1, l2, l3, l4, some (.ref a), l6, l7] st h).trans (rfl)
theorem x20_48n {d : Nat} {l0 l1 l2 l3 l4 l6 l7 : Option Value} {st : List Value} {h : Hp} : ex (d) 20 48 [l0, l1, l2, l3, l4, some .null, l6, l7] st h = ex d 20 50 [l0, l1, l2, l3, l4, some .null, l6, l7] (.null :: st) h := (ex_of d20_48 (d) [l0, l1, l2, l3, l4, some .null, l6, l7] st h).trans (rfl)
theorem x20_48q {d : Nat} {l0 l1 l2 l3 l4 l6 l7 : Option Value} {st : List Value} {a : Option Nat} {h : Hp} : ex (d) 20 48 [l0, l1, l2, l3, l4, some (va_rf a), l6, l7] st h = ex d 20 50 [l0, l1, l2, l3, l4, some (va_rf a), l6, l7] (va_rf a :: st) h := (ex_of d20_48 (d) [l0, l1, l2, l3, l4, some (va_rf a), l6, l7] st h).trans (by cases a <;> rfl)
theorem d20_50 : decode (mB 20) 50 = .ok (.aload_n 2, 1) := by decide +kernel
theorem x20_50 {d : Nat} {l0 l1 l3 l4 l5 l6 l7 : Option Value} {st : List Value} {a : Nat} {h : Hp} : ex (d) 20 50 [l0, l1, some (.ref a), l3, l4, l5, l6, l7] st h = ex d 20 51 [l0, l1, some (.ref a), l3, l4, l5, l6, l7] (.ref a :: st) h := (ex_of d20_50 (d) [l0, l1, some (.ref a), l3, l4, l5, l6, l7] st h).trans (rfl)
theorem x20_50n {d : Nat} {l0 l1 l3 l4 l5 l6 l7 : Option Value} {st : List Value} {h : Hp} : ex (d) 20 50 [l0, l1, some .null, l3, l4, l5, l6, l7] st h = ex d 20 51 [l0, l1, some .null, l3, l4, l5, l6, l7] (.null :: st) h := (ex_of d20_50 (d) [l0, l1, some .null, l3, l4, l5, l6, l7] st h).trans (rfl)
theorem x20_50q {d : Nat} {l0 l1 l3 l4 l5 l6 l7 : Option Value} {st : List Value} {a : Option Nat} {h : Hp} : ex (d) 20 50 [l0, l1, some (va_rf a), l3, l4, l5, l6, l7] st h = ex d 20 51 [l0, l1, some (va_rf a), l3, l4, l5, l6, l7] (va_rf a :: st) h := (ex_of d20_50 (d) [l0, l1, some (va_rf a), l3, l4, l5, l6, l7] st h).trans (by cases a <;> rfl)
theorem d20_51 : decode (mB 20) 51 = .ok (.if_acmp .ne 7, 3) := by decide +kernel
theorem x20_51 {d : Nat} {L : Lc} {st : List Value} {v w : Value} {h : Hp} (hv : isR v = true) (hw : isR w = true) : ex (d) 20 51 L (w :: v :: st) h = if ¬ v = w then ex d 20 58 L st h else ex d 20 54 L st h := (ex_of d20_51 (d) L (w :: v :: st) h).trans (fin_acmpN (off := 7) (tgt := 58) rfl hv hw (by decide))
theorem d20_54 : decode (mB 20) 54 = .ok (.iconst 1, 1) := by decide +kernel
theorem x20_54 {d : Nat} {L : Lc} {st : List Value} {h : Hp} : ex (d) 20 54 L st h = ex d 20 55 L (.int (nI 1) :: st) h := (ex_of d20_54 (d) L st h).trans (rfl)
theorem d20_55 : decode (mB 20) 55 = .ok (.goto 4, 3) := by decide +kernel
theorem x20_55 {d : Nat} {L : Lc} {st : List Value} {h : Hp} : ex (d) 20 55 L st h = ex d 20 59 L st h := (ex_of d20_55 (d) L st h).trans (rfl)
theorem d20_58 : decode (mB 20) 58 = .ok (.iconst 0, 1) := by decide +kernel
theorem x20_58 {d : Nat} {L : Lc} {st : List Value} {h : Hp} : ex (d) 20 58 L st h = ex d 20 59 L (.int (nI 0) :: st) h := (ex_of d20_58 (d) L st h).trans (rfl)
theorem d20_59 : decode (mB 20) 59 = .ok (.istore 6, 2) := by decide +kernel
theorem x20_59 {d : Nat} {l0 l1 l2 l3 l4 l5 l6 l7 : Option Value} {st : List Value} {x : Int32} {h : Hp} : ex (d) 20 59 [l0, l1, l2, l3, l4, l5, l6, l7] (.int x :: st) h = ex d 20 61 [l0, l1, l2, l3, l4, clr l5, some (.int x), l7] st h := (ex_of d20_59 (d) [l0, l1, l2, l3, l4, l5, l6, l7] (.int x :: st) h).trans (rfl)
theorem d20_61 : decode (mB 20) 61 = .ok (.iload 6, 2) := by decide +kernel
theorem x20_61 {d : Nat} {l0 l1 l2 l3 l4 l5 l7 : Option Value} {st : List Value} {x : Int32} {h : Hp} : ex (d) 20 61 [l0, l1, l2, l3, l4, l5, some (.int x), l7] st h = ex d 20 63 [l0, l1, l2, l3, l4, l5, some (.int x), l7] (.int x :: st) h := (ex_of d20_61 (d) [l0, l1, l2, l3, l4, l5, some (.int x), l7] st h).trans (rfl)
theorem d20_63 : decode (mB 20) 63 = .ok (.ifCond .eq 17, 3) := by decide +kernel
theorem x20_63 {d : Nat} {L : Lc} {st : List Value} {x : Int32} {h : Hp} : ex (d) 20 63 L (.int x :: st) h = if x = 0 then ex d 20 80 L st h else ex d 20 66 L st h := (ex_of d20_63 (d) L (.int x :: st) h).trans (fin_brq (off := 17) (tgt := 80) rfl (by decide))
theorem d20_66 : decode (mB 20) 66 = .ok (.aload_n 3, 1) := by decide +kernel
theorem x20_66 {d : Nat} {l0 l1 l2 l4 l5 l6 l7 : Option Value} {st : List Value} {a : Nat} {h : Hp} : ex (d) 20 66 [l0, l1, l2, some (.ref a), l4, l5, l6, l7] st h = ex d 20 67 [l0, l1, l2, some (.ref a), l4, l5, l6, l7] (.ref a :: st) h := (ex_of d20_66 (d) [l0, l1, l2, some (.ref a), l4, l5, l6, l7] st h).trans (rfl)
theorem x20_66n {d : Nat} {l0 l1 l2 l4 l5 l6 l7 : Option Value} {st : List Value} {h : Hp} : ex (d) 20 66 [l0, l1, l2, some .null, l4, l5, l6, l7] st h = ex d 20 67 [l0, l1, l2, some .null, l4, l5, l6, l7] (.null :: st) h := (ex_of d20_66 (d) [l0, l1, l2, some .null, l4, l5, l6, l7] st h).trans (rfl)
theorem x20_66q {d : Nat} {l0 l1 l2 l4 l5 l6 l7 : Option Value} {st : List Value} {a : Option Nat} {h : Hp} : ex (d) 20 66 [l0, l1, l2, some (va_rf a), l4, l5, l6, l7] st h = ex d 20 67 [l0, l1, l2, some (va_rf a), l4, l5, l6, l7] (va_rf a :: st) h := (ex_of d20_66 (d) [l0, l1, l2, some (va_rf a), l4, l5, l6, l7] st h).trans (by cases a <;> rfl)
theorem d20_67 : decode (mB 20) 67 = .ok (.aload 5, 2) := by decide +kernel
theorem x20_67 {d : Nat} {l0 l1 l2 l3 l4 l6 l7 : Option Value} {st : List Value} {a : Nat} {h : Hp} : ex (d) 20 67 [l0, l1, l2, l3, l4, some (.ref a), l6, l7] st h = ex d 20 69 [l0, l1, l2, l3, l4, some (.ref a), l6, l7] (.ref a :: st) h := (ex_of d20_67 (d) [l0, l1, l2, l3, l4, some (.ref a), l6, l7] st h).trans (rfl)
theorem x20_67n {d : Nat} {l0 l1 l2 l3 l4 l6 l7 : Option Value} {st : List Value} {h : Hp} : ex (d) 20 67 [l0, l1, l2, l3, l4, some .null, l6, l7] st h = ex d 20 69 [l0, l1, l2, l3, l4, some .null, l6, l7] (.null :: st) h := (ex_of d20_67 (d) [l0, l1, l2, l3, l4, some .null, l6, l7] st h).trans (rfl)
theorem x20_67q {d : Nat} {l0 l1 l2 l3 l4 l6 l7 : Option Value} {st : List Value} {a : Option Nat} {h : Hp} : ex (d) 20 67 [l0, l1, l2, l3, l4, some (va_rf a), l6, l7] st h = ex d 20 69 [l0, l1, l2, l3, l4, some (va_rf a), l6, l7] (va_rf a :: st) h := (ex_of d20_67 (d) [l0, l1, l2, l3, l4, some (va_rf a), l6, l7] st h).trans (by cases a <;> rfl)
theorem d20_69 : decode (mB 20) 69 = .ok (.invokestatic 109, 3) := by decide +kernel
theorem x20_69 {d : Nat} {L : Lc}  {v0 : Value} {v1 : Value} {h : Hp} (hv0 : isR v0 = true) (hv1 : isR v1 = true) : ex (d + 1) 20 69 L (v1 :: v0 :: []) h = bnd (ex d 116 0 [some v0, some v1, none, none, none, none, none] [] h) (fun v h' => ex (d + 1) 20 72 L (v.toList ++ []) h') := (ex_of d20_69 (d + 1) L (v1 :: v0 :: []) h).trans (fin_st (mi := 20) i5_109 (Or.inr rfl) (by simp) (by simp [cat1_i, cat1_r, isR_cat1 hv0, isR_cat1 hv1]) (by simp) (Nat.le_of_ble_eq_true rfl))
theorem d20_72 : decode (mB 20) 72 = .ok (.iconst 1, 1) := by decide +kernel
theorem x20_72 {d : Nat} {L : Lc} {st : List Value} {h : Hp} : ex (d) 20 72 L st h = ex d 20 73 L (.int (nI 1) :: st) h := (ex_of d20_72 (d) L st h).trans (rfl)
theorem d20_73 : decode (mB 20) 73 = .ok (.if_icmp .ne 7, 3) := by decide +kernel
theorem x20_73 {d : Nat} {L : Lc} {st : List Value} {x y : Int32} {h : Hp} : ex (d) 20 73 L (.int y :: .int x :: st) h = if ¬ x = y then ex d 20 80 L st h else ex d 20 76 L st h := (ex_of d20_73 (d) L (.int y :: .int x :: st) h).trans (fin_brq (off := 7) (tgt := 80) rfl (by decide))
theorem d20_76 : decode (mB 20) 76 = .ok (.iconst 1, 1) := by decide +kernel
theorem x20_76 {d : Nat} {L : Lc} {st : List Value} {h : Hp} : ex (d) 20 76 L st h = ex d 20 77 L (.int (nI 1) :: st) h := (ex_of d20_76 (d) L st h).trans (rfl)
theorem d20_77 : decode (mB 20) 77 = .ok (.goto 4, 3) := by decide +kernel
theorem x20_77 {d : Nat} {L : Lc} {st : List Value} {h : Hp} : ex (d) 20 77 L st h = ex d 20 81 L st h := (ex_of d20_77 (d) L st h).trans (rfl)
theorem d20_80 : decode (mB 20) 80 = .ok (.iconst 0, 1) := by decide +kernel
theorem x20_80 {d : Nat} {L : Lc} {st : List Value} {h : Hp} : ex (d) 20 80 L st h = ex d 20 81 L (.int (nI 0) :: st) h := (ex_of d20_80 (d) L st h).trans (rfl)
theorem d20_81 : decode (mB 20) 81 = .ok (.istore 7, 2) := by decide +kernel
theorem x20_81 {d : Nat} {l0 l1 l2 l3 l4 l5 l6 l7 : Option Value} {st : List Value} {x : Int32} {h : Hp} : ex (d) 20 81 [l0, l1, l2, l3, l4, l5, l6, l7] (.int x :: st) h = ex d 20 83 [l0, l1, l2, l3, l4, l5, clr l6, some (.int x)] st h := (ex_of d20_81 (d) [l0, l1, l2, l3, l4, l5, l6, l7] (.int x :: st) h).trans (rfl)
theorem d20_83 : decode (mB 20) 83 = .ok (.aload_n 0, 1) := by decide +kernel
theorem x20_83 {d : Nat} {l1 l2 l3 l4 l5 l6 l7 : Option Value} {st : List Value} {a : Nat} {h : Hp} : ex (d) 20 83 [some (.ref a), l1, l2, l3, l4, l5, l6, l7] st h = ex d 20 84 [some (.ref a), l1, l2, l3, l4, l5, l6, l7] (.ref a :: st) h := (ex_of d20_83 (d) [some (.ref a), l1, l2, l3, l4, l5, l6, l7] st h).trans (rfl)
theorem d20_84 : decode (mB 20) 84 = .ok (.getfield 35, 3) := by decide +kernel
theorem x20_84 {d : Nat} {L : Lc} {st : List Value} {a : Nat} {h : Hp} (ht : (h.2.1 a).1 = 5) : ex (d) 20 84 L (.ref a :: st) h = ex d 20 87 L (h.1 a 7 :: st) h := (ex_of d20_84 (d) L (.ref a :: st) h).trans (fin_get (mi := 20) f5_35 (tg1 ht rfl))
theorem d20_87 : decode (mB 20) 87 = .ok (.iload_n 1, 1) := by decide +kernel
theorem x20_87 {d : Nat} {l0 l2 l3 l4 l5 l6 l7 : Option Value} {st : List Value} {x : Int32} {h : Hp} : ex (d) 20 87 [l0, some (.int x), l2, l3, l4, l5, l6, l7] st h = ex d 20 88 [l0, some (.int x), l2, l3, l4, l5, l6, l7] (.int x :: st) h := (ex_of d20_87 (d) [l0, some (.int x), l2, l3, l4, l5, l6, l7] st h).trans (rfl)
theorem d20_88 : decode (mB 20) 88 = .ok (.aaload, 1) := by decide +kernel
theorem x20_88 {d : Nat} {L : Lc} {st : List Value} {a j : Nat} {h : Hp} (ht : 21 ≤ (h.2.1 a).1 ∧ (h.2.1 a).1 ≤ 26) (hj : j < (h.2.1 a).2) (hb : j < 2147483648) : ex (d) 20 88 L (.int (nI j) :: .ref a :: st) h = ex d 20 89 L (h.1 a j :: st) h := (ex_of d20_88 (d) L (.int (nI j) :: .ref a :: st) h).trans (fin_aaload ht hj hb)
theorem d20_89 : decode (mB 20) 89 = .ok (.iload 4, 2) := by decide +kernel
theorem x20_89 {d : Nat} {l0 l1 l2 l3 l5 l6 l7 : Option Value} {st : List Value} {x : Int32} {h : Hp} : ex (d) 20 89 [l0, l1, l2, l3, some (.int x), l5, l6, l7] st h = ex d 20 91 [l0, l1, l2, l3, some (.int x), l5, l6, l7] (.int x :: st) h := (ex_of d20_89 (d) [l0, l1, l2, l3, some (.int x), l5, l6, l7] st h).trans (rfl)
theorem d20_91 : decode (mB 20) 91 = .ok (.iload 7, 2) := by decide +kernel
theorem x20_91 {d : Nat} {l0 l1 l2 l3 l4 l5 l6 : Option Value} {st : List Value} {x : Int32} {h : Hp} : ex (d) 20 91 [l0, l1, l2, l3, l4, l5, l6, some (.int x)] st h = ex d 20 93 [l0, l1, l2, l3, l4, l5, l6, some (.int x)] (.int x :: st) h := (ex_of d20_91 (d) [l0, l1, l2, l3, l4, l5, l6, some (.int x)] st h).trans (rfl)
theorem d20_93 : decode (mB 20) 93 = .ok (.ifCond .eq 12, 3) := by decide +kernel
theorem x20_93 {d : Nat} {L : Lc} {st : List Value} {x : Int32} {h : Hp} : ex (d) 20 93 L (.int x :: st) h = if x = 0 then ex d 20 105 L st h else ex d 20 96 L st h := (ex_of d20_93 (d) L (.int x :: st) h).trans (fin_brq (off := 12) (tgt := 105) rfl (by decide))
theorem d20_96 : decode (mB 20) 96 = .ok (.aload_n 3, 1) := by decide +kernel
theorem x20_96 {d : Nat} {l0 l1 l2 l4 l5 l6 l7 : Option Value} {st : List Value} {a : Nat} {h : Hp} : ex (d) 20 96 [l0, l1, l2, some (.ref a), l4, l5, l6, l7] st h = ex d 20 97 [l0, l1, l2, some (.ref a), l4, l5, l6, l7] (.ref a :: st) h := (ex_of d20_96 (d) [l0, l1, l2, some (.ref a), l4, l5, l6, l7] st h).trans (rfl)
theorem x20_96n {d : Nat} {l0 l1 l2 l4 l5 l6 l7 : Option Value} {st : List Value} {h : Hp} : ex (d) 20 96 [l0, l1, l2, some .null, l4, l5, l6, l7] st h = ex d 20 97 [l0, l1, l2, some .null, l4, l5, l6, l7] (.null :: st) h := (ex_of d20_96 (d) [l0, l1, l2, some .null, l4, l5, l6, l7] st h).trans (rfl)
theorem x20_96q {d : Nat} {l0 l1 l2 l4 l5 l6 l7 : Option Value} {st : List Value} {a : Option Nat} {h : Hp} : ex (d) 20 96 [l0, l1, l2, some (va_rf a), l4, l5, l6, l7] st h = ex d 20 97 [l0, l1, l2, some (va_rf a), l4, l5, l6, l7] (va_rf a :: st) h := (ex_of d20_96 (d) [l0, l1, l2, some (va_rf a), l4, l5, l6, l7] st h).trans (by cases a <;> rfl)
theorem d20_97 : decode (mB 20) 97 = .ok (.aload 5, 2) := by decide +kernel
theorem x20_97 {d : Nat} {l0 l1 l2 l3 l4 l6 l7 : Option Value} {st : List Value} {a : Nat} {h : Hp} : ex (d) 20 97 [l0, l1, l2, l3, l4, some (.ref a), l6, l7] st h = ex d 20 99 [l0, l1, l2, l3, l4, some (.ref a), l6, l7] (.ref a :: st) h := (ex_of d20_97 (d) [l0, l1, l2, l3, l4, some (.ref a), l6, l7] st h).trans (rfl)
theorem x20_97n {d : Nat} {l0 l1 l2 l3 l4 l6 l7 : Option Value} {st : List Value} {h : Hp} : ex (d) 20 97 [l0, l1, l2, l3, l4, some .null, l6, l7] st h = ex d 20 99 [l0, l1, l2, l3, l4, some .null, l6, l7] (.null :: st) h := (ex_of d20_97 (d) [l0, l1, l2, l3, l4, some .null, l6, l7] st h).trans (rfl)
theorem x20_97q {d : Nat} {l0 l1 l2 l3 l4 l6 l7 : Option Value} {st : List Value} {a : Option Nat} {h : Hp} : ex (d) 20 97 [l0, l1, l2, l3, l4, some (va_rf a), l6, l7] st h = ex d 20 99 [l0, l1, l2, l3, l4, some (va_rf a), l6, l7] (va_rf a :: st) h := (ex_of d20_97 (d) [l0, l1, l2, l3, l4, some (va_rf a), l6, l7] st h).trans (by cases a <;> rfl)
theorem d20_99 : decode (mB 20) 99 = .ok (.invokestatic 113, 3) := by decide +kernel
theorem x20_99 {d : Nat} {L : Lc} {s0 s1 : Value}  {v0 : Value} {v1 : Value} {h : Hp} (hv0 : isR v0 = true) (hv1 : isR v1 = true) : ex (d + 1) 20 99 L (v1 :: v0 :: [s0, s1]) h = bnd (ex d 122 0 [some v0, some v1, none, none, none, none] [] h) (fun v h' => ex (d + 1) 20 102 L (v.toList ++ [s0, s1]) h') := (ex_of d20_99 (d + 1) L (v1 :: v0 :: [s0, s1]) h).trans (fin_st (mi := 20) i5_113 (Or.inr rfl) (by simp) (by simp [cat1_i, cat1_r, isR_cat1 hv0, isR_cat1 hv1]) (by simp) (Nat.le_of_ble_eq_true rfl))
theorem d20_102 : decode (mB 20) 102 = .ok (.goto 4, 3) := by decide +kernel
theorem x20_102 {d : Nat} {L : Lc} {st : List Value} {h : Hp} : ex (d) 20 102 L st h = ex d 20 106 L st h := (ex_of d20_102 (d) L st h).trans (rfl)
theorem d20_105 : decode (mB 20) 105 = .ok (.iconst (-1), 1) := by decide +kernel
theorem x20_105 {d : Nat} {L : Lc} {st : List Value} {h : Hp} : ex (d) 20 105 L st h = ex d 20 106 L (.int (-1) :: st) h := (ex_of d20_105 (d) L st h).trans (rfl)
theorem d20_106 : decode (mB 20) 106 = .ok (.iastore, 1) := by decide +kernel
theorem x20_106 {d : Nat} {L : Lc} {st : List Value} {a j : Nat} {x : Int32} {h : Hp} (ht : (h.2.1 a).1 = 20) (hj : j < (h.2.1 a).2) (hb : j < 2147483648) : ex (d) 20 106 L (.int x :: .int (nI j) :: .ref a :: st) h = ex d 20 107 L st (mup h.1 a j (.int x), h.2) := (ex_of d20_106 (d) L (.int x :: .int (nI j) :: .ref a :: st) h).trans (fin_iastore ht hj hb)
theorem d20_107 : decode (mB 20) 107 = .ok (.iload 7, 2) := by decide +kernel
theorem x20_107 {d : Nat} {l0 l1 l2 l3 l4 l5 l6 : Option Value} {st : List Value} {x : Int32} {h : Hp} : ex (d) 20 107 [l0, l1, l2, l3, l4, l5, l6, some (.int x)] st h = ex d 20 109 [l0, l1, l2, l3, l4, l5, l6, some (.int x)] (.int x :: st) h := (ex_of d20_107 (d) [l0, l1, l2, l3, l4, l5, l6, some (.int x)] st h).trans (rfl)
theorem d20_109 : decode (mB 20) 109 = .ok (.ifCond .eq 10, 3) := by decide +kernel
theorem x20_109 {d : Nat} {L : Lc} {st : List Value} {x : Int32} {h : Hp} : ex (d) 20 109 L (.int x :: st) h = if x = 0 then ex d 20 119 L st h else ex d 20 112 L st h := (ex_of d20_109 (d) L (.int x :: st) h).trans (fin_brq (off := 10) (tgt := 119) rfl (by decide))
theorem d20_112 : decode (mB 20) 112 = .ok (.aload_n 0, 1) := by decide +kernel
theorem x20_112 {d : Nat} {l1 l2 l3 l4 l5 l6 l7 : Option Value} {st : List Value} {a : Nat} {h : Hp} : ex (d) 20 112 [some (.ref a), l1, l2, l3, l4, l5, l6, l7] st h = ex d 20 113 [some (.ref a), l1, l2, l3, l4, l5, l6, l7] (.ref a :: st) h := (ex_of d20_112 (d) [some (.ref a), l1, l2, l3, l4, l5, l6, l7] st h).trans (rfl)
theorem d20_113 : decode (mB 20) 113 = .ok (.iload_n 1, 1) := by decide +kernel
theorem x20_113 {d : Nat} {l0 l2 l3 l4 l5 l6 l7 : Option Value} {st : List Value} {x : Int32} {h : Hp} : ex (d) 20 113 [l0, some (.int x), l2, l3, l4, l5, l6, l7] st h = ex d 20 114 [l0, some (.int x), l2, l3, l4, l5, l6, l7] (.int x :: st) h := (ex_of d20_113 (d) [l0, some (.int x), l2, l3, l4, l5, l6, l7] st h).trans (rfl)
theorem d20_114 : decode (mB 20) 114 = .ok (.iload 4, 2) := by decide +kernel
theorem x20_114 {d : Nat} {l0 l1 l2 l3 l5 l6 l7 : Option Value} {st : List Value} {x : Int32} {h : Hp} : ex (d) 20 114 [l0, l1, l2, l3, some (.int x), l5, l6, l7] st h = ex d 20 116 [l0, l1, l2, l3, some (.int x), l5, l6, l7] (.int x :: st) h := (ex_of d20_114 (d) [l0, l1, l2, l3, some (.int x), l5, l6, l7] st h).trans (rfl)
theorem d20_116 : decode (mB 20) 116 = .ok (.invokevirtual 116, 3) := by decide +kernel
theorem x20_116 {d : Nat} {L : Lc} {a : Nat} {v0 : Int32} {v1 : Int32} {h : Hp} (ht : (h.2.1 a).1 = 5) : ex (d + 1) 20 116 L (.int v1 :: .int v0 :: .ref a :: []) h = bnd (ex d 21 0 [some (.ref a), some (.int v0), some (.int v1), none] [] h) (fun v h' => ex (d + 1) 20 119 L (v.toList ++ []) h') := (ex_of d20_116 (d + 1) L (.int v1 :: .int v0 :: .ref a :: []) h).trans (fin_vi (mi := 20) i5_116 ht rfl rfl (by simp [cat1_i, cat1_r]) (by simp) (Nat.le_of_ble_eq_true rfl))
theorem d20_119 : decode (mB 20) 119 = .ok (.iinc 4 1, 3) := by decide +kernel
theorem x20_119 {d : Nat} {l0 l1 l2 l3 l5 l6 l7 : Option Value} {st : List Value} {x : Int32} {h : Hp} : ex (d) 20 119 [l0, l1, l2, l3, some (.int x), l5, l6, l7] st h = ex d 20 122 [l0, l1, l2, clr l3, some (.int (x + (nI 1))), l5, l6, l7] st h := (ex_of d20_119 (d) [l0, l1, l2, l3, some (.int x), l5, l6, l7] st h).trans (rfl)
theorem d20_122 : decode (mB 20) 122 = .ok (.goto (-105), 3) := by decide +kernel
theorem x20_122 {d : Nat} {L : Lc} {st : List Value} {h : Hp} : ex (d) 20 122 L st h = ex d 20 17 L st h := (ex_of d20_122 (d) L st h).trans (rfl)
theorem d20_125 : decode (mB 20) 125 = .ok (.return_, 1) := by decide +kernel
theorem x20_125 {d : Nat} {L : Lc}  {h : Hp} : ex (d) 20 125 L [] h = some (none, h) := (ex_of d20_125 (d) L [] h).trans (rfl)
theorem d21_0 : decode (mB 21) 0 = .ok (.aload_n 0, 1) := by decide +kernel
theorem x21_0 {d : Nat} {l1 l2 l3 : Option Value} {st : List Value} {a : Nat} {h : Hp} : ex (d) 21 0 [some (.ref a), l1, l2, l3] st h = ex d 21 1 [some (.ref a), l1, l2, l3] (.ref a :: st) h := (ex_of d21_0 (d) [some (.ref a), l1, l2, l3] st h).trans (rfl)
theorem d21_1 : decode (mB 21) 1 = .ok (.getfield 41, 3) := by decide +kernel
theorem x21_1 {d : Nat} {L : Lc} {st : List Value} {a : Nat} {h : Hp} (ht : (h.2.1 a).1 = 5) : ex (d) 21 1 L (.ref a :: st) h = ex d 21 4 L (h.1 a 9 :: st) h := (ex_of d21_1 (d) L (.ref a :: st) h).trans (fin_get (mi := 21) f5_41 (tg1 ht rfl))
theorem d21_4 : decode (mB 21) 4 = .ok (.iload_n 1, 1) := by decide +kernel
theorem x21_4 {d : Nat} {l0 l2 l3 : Option Value} {st : List Value} {x : Int32} {h : Hp} : ex (d) 21 4 [l0, some (.int x), l2, l3] st h = ex d 21 5 [l0, some (.int x), l2, l3] (.int x :: st) h := (ex_of d21_4 (d) [l0, some (.int x), l2, l3] st h).trans (rfl)
theorem d21_5 : decode (mB 21) 5 = .ok (.iaload, 1) := by decide +kernel
theorem x21_5 {d : Nat} {L : Lc} {st : List Value} {a j : Nat} {h : Hp} (ht : (h.2.1 a).1 = 20) (hj : j < (h.2.1 a).2) (hb : j < 2147483648) : ex (d) 21 5 L (.int (nI j) :: .ref a :: st) h = ex d 21 6 L (h.1 a j :: st) h := (ex_of d21_5 (d) L (.int (nI j) :: .ref a :: st) h).trans (fin_iaload (Or.inl ht) hj hb)
theorem d21_6 : decode (mB 21) 6 = .ok (.istore_n 3, 1) := by decide +kernel
theorem x21_6 {d : Nat} {l0 l1 l2 l3 : Option Value} {st : List Value} {x : Int32} {h : Hp} : ex (d) 21 6 [l0, l1, l2, l3] (.int x :: st) h = ex d 21 7 [l0, l1, clr l2, some (.int x)] st h := (ex_of d21_6 (d) [l0, l1, l2, l3] (.int x :: st) h).trans (rfl)
theorem d21_7 : decode (mB 21) 7 = .ok (.iload_n 3, 1) := by decide +kernel
theorem x21_7 {d : Nat} {l0 l1 l2 : Option Value} {st : List Value} {x : Int32} {h : Hp} : ex (d) 21 7 [l0, l1, l2, some (.int x)] st h = ex d 21 8 [l0, l1, l2, some (.int x)] (.int x :: st) h := (ex_of d21_7 (d) [l0, l1, l2, some (.int x)] st h).trans (rfl)
theorem d21_8 : decode (mB 21) 8 = .ok (.ifCond .le 55, 3) := by decide +kernel
theorem x21_8 {d : Nat} {L : Lc} {st : List Value} {x : Int32} {h : Hp} : ex (d) 21 8 L (.int x :: st) h = if x ≤ 0 then ex d 21 63 L st h else ex d 21 11 L st h := (ex_of d21_8 (d) L (.int x :: st) h).trans (fin_brq (off := 55) (tgt := 63) rfl (by decide))
theorem d21_11 : decode (mB 21) 11 = .ok (.aload_n 0, 1) := by decide +kernel
theorem x21_11 {d : Nat} {l1 l2 l3 : Option Value} {st : List Value} {a : Nat} {h : Hp} : ex (d) 21 11 [some (.ref a), l1, l2, l3] st h = ex d 21 12 [some (.ref a), l1, l2, l3] (.ref a :: st) h := (ex_of d21_11 (d) [some (.ref a), l1, l2, l3] st h).trans (rfl)
theorem d21_12 : decode (mB 21) 12 = .ok (.getfield 35, 3) := by decide +kernel
theorem x21_12 {d : Nat} {L : Lc} {st : List Value} {a : Nat} {h : Hp} (ht : (h.2.1 a).1 = 5) : ex (d) 21 12 L (.ref a :: st) h = ex d 21 15 L (h.1 a 7 :: st) h := (ex_of d21_12 (d) L (.ref a :: st) h).trans (fin_get (mi := 21) f5_35 (tg1 ht rfl))
theorem d21_15 : decode (mB 21) 15 = .ok (.iload_n 1, 1) := by decide +kernel
theorem x21_15 {d : Nat} {l0 l2 l3 : Option Value} {st : List Value} {x : Int32} {h : Hp} : ex (d) 21 15 [l0, some (.int x), l2, l3] st h = ex d 21 16 [l0, some (.int x), l2, l3] (.int x :: st) h := (ex_of d21_15 (d) [l0, some (.int x), l2, l3] st h).trans (rfl)
theorem d21_16 : decode (mB 21) 16 = .ok (.aaload, 1) := by decide +kernel
theorem x21_16 {d : Nat} {L : Lc} {st : List Value} {a j : Nat} {h : Hp} (ht : 21 ≤ (h.2.1 a).1 ∧ (h.2.1 a).1 ≤ 26) (hj : j < (h.2.1 a).2) (hb : j < 2147483648) : ex (d) 21 16 L (.int (nI j) :: .ref a :: st) h = ex d 21 17 L (h.1 a j :: st) h := (ex_of d21_16 (d) L (.int (nI j) :: .ref a :: st) h).trans (fin_aaload ht hj hb)
theorem d21_17 : decode (mB 21) 17 = .ok (.aload_n 0, 1) := by decide +kernel
theorem x21_17 {d : Nat} {l1 l2 l3 : Option Value} {st : List Value} {a : Nat} {h : Hp} : ex (d) 21 17 [some (.ref a), l1, l2, l3] st h = ex d 21 18 [some (.ref a), l1, l2, l3] (.ref a :: st) h := (ex_of d21_17 (d) [some (.ref a), l1, l2, l3] st h).trans (rfl)
theorem d21_18 : decode (mB 21) 18 = .ok (.getfield 38, 3) := by decide +kernel
theorem x21_18 {d : Nat} {L : Lc} {st : List Value} {a : Nat} {h : Hp} (ht : (h.2.1 a).1 = 5) : ex (d) 21 18 L (.ref a :: st) h = ex d 21 21 L (h.1 a 8 :: st) h := (ex_of d21_18 (d) L (.ref a :: st) h).trans (fin_get (mi := 21) f5_38 (tg1 ht rfl))
theorem d21_21 : decode (mB 21) 21 = .ok (.iload_n 1, 1) := by decide +kernel
theorem x21_21 {d : Nat} {l0 l2 l3 : Option Value} {st : List Value} {x : Int32} {h : Hp} : ex (d) 21 21 [l0, some (.int x), l2, l3] st h = ex d 21 22 [l0, some (.int x), l2, l3] (.int x :: st) h := (ex_of d21_21 (d) [l0, some (.int x), l2, l3] st h).trans (rfl)
theorem d21_22 : decode (mB 21) 22 = .ok (.aaload, 1) := by decide +kernel
theorem x21_22 {d : Nat} {L : Lc} {st : List Value} {a j : Nat} {h : Hp} (ht : 21 ≤ (h.2.1 a).1 ∧ (h.2.1 a).1 ≤ 26) (hj : j < (h.2.1 a).2) (hb : j < 2147483648) : ex (d) 21 22 L (.int (nI j) :: .ref a :: st) h = ex d 21 23 L (h.1 a j :: st) h := (ex_of d21_22 (d) L (.int (nI j) :: .ref a :: st) h).trans (fin_aaload ht hj hb)
theorem d21_23 : decode (mB 21) 23 = .ok (.iload_n 3, 1) := by decide +kernel
theorem x21_23 {d : Nat} {l0 l1 l2 : Option Value} {st : List Value} {x : Int32} {h : Hp} : ex (d) 21 23 [l0, l1, l2, some (.int x)] st h = ex d 21 24 [l0, l1, l2, some (.int x)] (.int x :: st) h := (ex_of d21_23 (d) [l0, l1, l2, some (.int x)] st h).trans (rfl)
theorem d21_24 : decode (mB 21) 24 = .ok (.iconst 1, 1) := by decide +kernel
theorem x21_24 {d : Nat} {L : Lc} {st : List Value} {h : Hp} : ex (d) 21 24 L st h = ex d 21 25 L (.int (nI 1) :: st) h := (ex_of d21_24 (d) L st h).trans (rfl)
theorem d21_25 : decode (mB 21) 25 = .ok (.isub, 1) := by decide +kernel
theorem x21_25 {d : Nat} {L : Lc} {st : List Value} {x y : Int32} {h : Hp} : ex (d) 21 25 L (.int y :: .int x :: st) h = ex d 21 26 L (.int (x - y) :: st) h := (ex_of d21_25 (d) L (.int y :: .int x :: st) h).trans (rfl)
theorem d21_26 : decode (mB 21) 26 = .ok (.iaload, 1) := by decide +kernel
theorem x21_26 {d : Nat} {L : Lc} {st : List Value} {a j : Nat} {h : Hp} (ht : (h.2.1 a).1 = 20) (hj : j < (h.2.1 a).2) (hb : j < 2147483648) : ex (d) 21 26 L (.int (nI j) :: .ref a :: st) h = ex d 21 27 L (h.1 a j :: st) h := (ex_of d21_26 (d) L (.int (nI j) :: .ref a :: st) h).trans (fin_iaload (Or.inl ht) hj hb)
theorem d21_27 : decode (mB 21) 27 = .ok (.iaload, 1) := by decide +kernel
theorem x21_27 {d : Nat} {L : Lc} {st : List Value} {a j : Nat} {h : Hp} (ht : (h.2.1 a).1 = 20) (hj : j < (h.2.1 a).2) (hb : j < 2147483648) : ex (d) 21 27 L (.int (nI j) :: .ref a :: st) h = ex d 21 28 L (h.1 a j :: st) h := (ex_of d21_27 (d) L (.int (nI j) :: .ref a :: st) h).trans (fin_iaload (Or.inl ht) hj hb)
theorem d21_28 : decode (mB 21) 28 = .ok (.aload_n 0, 1) := by decide +kernel
theorem x21_28 {d : Nat} {l1 l2 l3 : Option Value} {st : List Value} {a : Nat} {h : Hp} : ex (d) 21 28 [some (.ref a), l1, l2, l3] st h = ex d 21 29 [some (.ref a), l1, l2, l3] (.ref a :: st) h := (ex_of d21_28 (d) [some (.ref a), l1, l2, l3] st h).trans (rfl)
theorem d21_29 : decode (mB 21) 29 = .ok (.getfield 35, 3) := by decide +kernel
theorem x21_29 {d : Nat} {L : Lc} {st : List Value} {a : Nat} {h : Hp} (ht : (h.2.1 a).1 = 5) : ex (d) 21 29 L (.ref a :: st) h = ex d 21 32 L (h.1 a 7 :: st) h := (ex_of d21_29 (d) L (.ref a :: st) h).trans (fin_get (mi := 21) f5_35 (tg1 ht rfl))
theorem d21_32 : decode (mB 21) 32 = .ok (.iload_n 1, 1) := by decide +kernel
theorem x21_32 {d : Nat} {l0 l2 l3 : Option Value} {st : List Value} {x : Int32} {h : Hp} : ex (d) 21 32 [l0, some (.int x), l2, l3] st h = ex d 21 33 [l0, some (.int x), l2, l3] (.int x :: st) h := (ex_of d21_32 (d) [l0, some (.int x), l2, l3] st h).trans (rfl)
theorem d21_33 : decode (mB 21) 33 = .ok (.aaload, 1) := by decide +kernel
theorem x21_33 {d : Nat} {L : Lc} {st : List Value} {a j : Nat} {h : Hp} (ht : 21 ≤ (h.2.1 a).1 ∧ (h.2.1 a).1 ≤ 26) (hj : j < (h.2.1 a).2) (hb : j < 2147483648) : ex (d) 21 33 L (.int (nI j) :: .ref a :: st) h = ex d 21 34 L (h.1 a j :: st) h := (ex_of d21_33 (d) L (.int (nI j) :: .ref a :: st) h).trans (fin_aaload ht hj hb)
theorem d21_34 : decode (mB 21) 34 = .ok (.iload_n 2, 1) := by decide +kernel
theorem x21_34 {d : Nat} {l0 l1 l3 : Option Value} {st : List Value} {x : Int32} {h : Hp} : ex (d) 21 34 [l0, l1, some (.int x), l3] st h = ex d 21 35 [l0, l1, some (.int x), l3] (.int x :: st) h := (ex_of d21_34 (d) [l0, l1, some (.int x), l3] st h).trans (rfl)
theorem d21_35 : decode (mB 21) 35 = .ok (.iaload, 1) := by decide +kernel
theorem x21_35 {d : Nat} {L : Lc} {st : List Value} {a j : Nat} {h : Hp} (ht : (h.2.1 a).1 = 20) (hj : j < (h.2.1 a).2) (hb : j < 2147483648) : ex (d) 21 35 L (.int (nI j) :: .ref a :: st) h = ex d 21 36 L (h.1 a j :: st) h := (ex_of d21_35 (d) L (.int (nI j) :: .ref a :: st) h).trans (fin_iaload (Or.inl ht) hj hb)
theorem d21_36 : decode (mB 21) 36 = .ok (.if_icmp .le 27, 3) := by decide +kernel
theorem x21_36 {d : Nat} {L : Lc} {st : List Value} {x y : Int32} {h : Hp} : ex (d) 21 36 L (.int y :: .int x :: st) h = if x ≤ y then ex d 21 63 L st h else ex d 21 39 L st h := (ex_of d21_36 (d) L (.int y :: .int x :: st) h).trans (fin_brq (off := 27) (tgt := 63) rfl (by decide))
theorem d21_39 : decode (mB 21) 39 = .ok (.aload_n 0, 1) := by decide +kernel
theorem x21_39 {d : Nat} {l1 l2 l3 : Option Value} {st : List Value} {a : Nat} {h : Hp} : ex (d) 21 39 [some (.ref a), l1, l2, l3] st h = ex d 21 40 [some (.ref a), l1, l2, l3] (.ref a :: st) h := (ex_of d21_39 (d) [some (.ref a), l1, l2, l3] st h).trans (rfl)
theorem d21_40 : decode (mB 21) 40 = .ok (.getfield 38, 3) := by decide +kernel
theorem x21_40 {d : Nat} {L : Lc} {st : List Value} {a : Nat} {h : Hp} (ht : (h.2.1 a).1 = 5) : ex (d) 21 40 L (.ref a :: st) h = ex d 21 43 L (h.1 a 8 :: st) h := (ex_of d21_40 (d) L (.ref a :: st) h).trans (fin_get (mi := 21) f5_38 (tg1 ht rfl))
theorem d21_43 : decode (mB 21) 43 = .ok (.iload_n 1, 1) := by decide +kernel
theorem x21_43 {d : Nat} {l0 l2 l3 : Option Value} {st : List Value} {x : Int32} {h : Hp} : ex (d) 21 43 [l0, some (.int x), l2, l3] st h = ex d 21 44 [l0, some (.int x), l2, l3] (.int x :: st) h := (ex_of d21_43 (d) [l0, some (.int x), l2, l3] st h).trans (rfl)
theorem d21_44 : decode (mB 21) 44 = .ok (.aaload, 1) := by decide +kernel
theorem x21_44 {d : Nat} {L : Lc} {st : List Value} {a j : Nat} {h : Hp} (ht : 21 ≤ (h.2.1 a).1 ∧ (h.2.1 a).1 ≤ 26) (hj : j < (h.2.1 a).2) (hb : j < 2147483648) : ex (d) 21 44 L (.int (nI j) :: .ref a :: st) h = ex d 21 45 L (h.1 a j :: st) h := (ex_of d21_44 (d) L (.int (nI j) :: .ref a :: st) h).trans (fin_aaload ht hj hb)
theorem d21_45 : decode (mB 21) 45 = .ok (.iload_n 3, 1) := by decide +kernel
theorem x21_45 {d : Nat} {l0 l1 l2 : Option Value} {st : List Value} {x : Int32} {h : Hp} : ex (d) 21 45 [l0, l1, l2, some (.int x)] st h = ex d 21 46 [l0, l1, l2, some (.int x)] (.int x :: st) h := (ex_of d21_45 (d) [l0, l1, l2, some (.int x)] st h).trans (rfl)
theorem d21_46 : decode (mB 21) 46 = .ok (.aload_n 0, 1) := by decide +kernel
theorem x21_46 {d : Nat} {l1 l2 l3 : Option Value} {st : List Value} {a : Nat} {h : Hp} : ex (d) 21 46 [some (.ref a), l1, l2, l3] st h = ex d 21 47 [some (.ref a), l1, l2, l3] (.ref a :: st) h := (ex_of d21_46 (d) [some (.ref a), l1, l2, l3] st h).trans (rfl)
theorem d21_47 : decode (mB 21) 47 = .ok (.getfield 38, 3) := by decide +kernel
theorem x21_47 {d : Nat} {L : Lc} {st : List Value} {a : Nat} {h : Hp} (ht : (h.2.1 a).1 = 5) : ex (d) 21 47 L (.ref a :: st) h = ex d 21 50 L (h.1 a 8 :: st) h := (ex_of d21_47 (d) L (.ref a :: st) h).trans (fin_get (mi := 21) f5_38 (tg1 ht rfl))
theorem d21_50 : decode (mB 21) 50 = .ok (.iload_n 1, 1) := by decide +kernel
theorem x21_50 {d : Nat} {l0 l2 l3 : Option Value} {st : List Value} {x : Int32} {h : Hp} : ex (d) 21 50 [l0, some (.int x), l2, l3] st h = ex d 21 51 [l0, some (.int x), l2, l3] (.int x :: st) h := (ex_of d21_50 (d) [l0, some (.int x), l2, l3] st h).trans (rfl)
theorem d21_51 : decode (mB 21) 51 = .ok (.aaload, 1) := by decide +kernel
theorem x21_51 {d : Nat} {L : Lc} {st : List Value} {a j : Nat} {h : Hp} (ht : 21 ≤ (h.2.1 a).1 ∧ (h.2.1 a).1 ≤ 26) (hj : j < (h.2.1 a).2) (hb : j < 2147483648) : ex (d) 21 51 L (.int (nI j) :: .ref a :: st) h = ex d 21 52 L (h.1 a j :: st) h := (ex_of d21_51 (d) L (.int (nI j) :: .ref a :: st) h).trans (fin_aaload ht hj hb)
theorem d21_52 : decode (mB 21) 52 = .ok (.iload_n 3, 1) := by decide +kernel
theorem x21_52 {d : Nat} {l0 l1 l2 : Option Value} {st : List Value} {x : Int32} {h : Hp} : ex (d) 21 52 [l0, l1, l2, some (.int x)] st h = ex d 21 53 [l0, l1, l2, some (.int x)] (.int x :: st) h := (ex_of d21_52 (d) [l0, l1, l2, some (.int x)] st h).trans (rfl)
theorem d21_53 : decode (mB 21) 53 = .ok (.iconst 1, 1) := by decide +kernel
theorem x21_53 {d : Nat} {L : Lc} {st : List Value} {h : Hp} : ex (d) 21 53 L st h = ex d 21 54 L (.int (nI 1) :: st) h := (ex_of d21_53 (d) L st h).trans (rfl)
theorem d21_54 : decode (mB 21) 54 = .ok (.isub, 1) := by decide +kernel
theorem x21_54 {d : Nat} {L : Lc} {st : List Value} {x y : Int32} {h : Hp} : ex (d) 21 54 L (.int y :: .int x :: st) h = ex d 21 55 L (.int (x - y) :: st) h := (ex_of d21_54 (d) L (.int y :: .int x :: st) h).trans (rfl)
theorem d21_55 : decode (mB 21) 55 = .ok (.iaload, 1) := by decide +kernel
theorem x21_55 {d : Nat} {L : Lc} {st : List Value} {a j : Nat} {h : Hp} (ht : (h.2.1 a).1 = 20) (hj : j < (h.2.1 a).2) (hb : j < 2147483648) : ex (d) 21 55 L (.int (nI j) :: .ref a :: st) h = ex d 21 56 L (h.1 a j :: st) h := (ex_of d21_55 (d) L (.int (nI j) :: .ref a :: st) h).trans (fin_iaload (Or.inl ht) hj hb)
theorem d21_56 : decode (mB 21) 56 = .ok (.iastore, 1) := by decide +kernel
theorem x21_56 {d : Nat} {L : Lc} {st : List Value} {a j : Nat} {x : Int32} {h : Hp} (ht : (h.2.1 a).1 = 20) (hj : j < (h.2.1 a).2) (hb : j < 2147483648) : ex (d) 21 56 L (.int x :: .int (nI j) :: .ref a :: st) h = ex d 21 57 L st (mup h.1 a j (.int x), h.2) := (ex_of d21_56 (d) L (.int x :: .int (nI j) :: .ref a :: st) h).trans (fin_iastore ht hj hb)
theorem d21_57 : decode (mB 21) 57 = .ok (.iinc 3 (-1), 3) := by decide +kernel
theorem x21_57 {d : Nat} {l0 l1 l2 : Option Value} {st : List Value} {x : Int32} {h : Hp} : ex (d) 21 57 [l0, l1, l2, some (.int x)] st h = ex d 21 60 [l0, l1, clr l2, some (.int (x + (-1)))] st h := (ex_of d21_57 (d) [l0, l1, l2, some (.int x)] st h).trans (rfl)
theorem d21_60 : decode (mB 21) 60 = .ok (.goto (-53), 3) := by decide +kernel
theorem x21_60 {d : Nat} {L : Lc} {st : List Value} {h : Hp} : ex (d) 21 60 L st h = ex d 21 7 L st h := (ex_of d21_60 (d) L st h).trans (rfl)
theorem d21_63 : decode (mB 21) 63 = .ok (.aload_n 0, 1) := by decide +kernel
theorem x21_63 {d : Nat} {l1 l2 l3 : Option Value} {st : List Value} {a : Nat} {h : Hp} : ex (d) 21 63 [some (.ref a), l1, l2, l3] st h = ex d 21 64 [some (.ref a), l1, l2, l3] (.ref a :: st) h := (ex_of d21_63 (d) [some (.ref a), l1, l2, l3] st h).trans (rfl)
theorem d21_64 : decode (mB 21) 64 = .ok (.getfield 38, 3) := by decide +kernel
theorem x21_64 {d : Nat} {L : Lc} {st : List Value} {a : Nat} {h : Hp} (ht : (h.2.1 a).1 = 5) : ex (d) 21 64 L (.ref a :: st) h = ex d 21 67 L (h.1 a 8 :: st) h := (ex_of d21_64 (d) L (.ref a :: st) h).trans (fin_get (mi := 21) f5_38 (tg1 ht rfl))
theorem d21_67 : decode (mB 21) 67 = .ok (.iload_n 1, 1) := by decide +kernel
theorem x21_67 {d : Nat} {l0 l2 l3 : Option Value} {st : List Value} {x : Int32} {h : Hp} : ex (d) 21 67 [l0, some (.int x), l2, l3] st h = ex d 21 68 [l0, some (.int x), l2, l3] (.int x :: st) h := (ex_of d21_67 (d) [l0, some (.int x), l2, l3] st h).trans (rfl)
theorem d21_68 : decode (mB 21) 68 = .ok (.aaload, 1) := by decide +kernel
theorem x21_68 {d : Nat} {L : Lc} {st : List Value} {a j : Nat} {h : Hp} (ht : 21 ≤ (h.2.1 a).1 ∧ (h.2.1 a).1 ≤ 26) (hj : j < (h.2.1 a).2) (hb : j < 2147483648) : ex (d) 21 68 L (.int (nI j) :: .ref a :: st) h = ex d 21 69 L (h.1 a j :: st) h := (ex_of d21_68 (d) L (.int (nI j) :: .ref a :: st) h).trans (fin_aaload ht hj hb)
theorem d21_69 : decode (mB 21) 69 = .ok (.iload_n 3, 1) := by decide +kernel
theorem x21_69 {d : Nat} {l0 l1 l2 : Option Value} {st : List Value} {x : Int32} {h : Hp} : ex (d) 21 69 [l0, l1, l2, some (.int x)] st h = ex d 21 70 [l0, l1, l2, some (.int x)] (.int x :: st) h := (ex_of d21_69 (d) [l0, l1, l2, some (.int x)] st h).trans (rfl)
theorem d21_70 : decode (mB 21) 70 = .ok (.iload_n 2, 1) := by decide +kernel
theorem x21_70 {d : Nat} {l0 l1 l3 : Option Value} {st : List Value} {x : Int32} {h : Hp} : ex (d) 21 70 [l0, l1, some (.int x), l3] st h = ex d 21 71 [l0, l1, some (.int x), l3] (.int x :: st) h := (ex_of d21_70 (d) [l0, l1, some (.int x), l3] st h).trans (rfl)
theorem d21_71 : decode (mB 21) 71 = .ok (.iastore, 1) := by decide +kernel
theorem x21_71 {d : Nat} {L : Lc} {st : List Value} {a j : Nat} {x : Int32} {h : Hp} (ht : (h.2.1 a).1 = 20) (hj : j < (h.2.1 a).2) (hb : j < 2147483648) : ex (d) 21 71 L (.int x :: .int (nI j) :: .ref a :: st) h = ex d 21 72 L st (mup h.1 a j (.int x), h.2) := (ex_of d21_71 (d) L (.int x :: .int (nI j) :: .ref a :: st) h).trans (fin_iastore ht hj hb)
theorem d21_72 : decode (mB 21) 72 = .ok (.aload_n 0, 1) := by decide +kernel
theorem x21_72 {d : Nat} {l1 l2 l3 : Option Value} {st : List Value} {a : Nat} {h : Hp} : ex (d) 21 72 [some (.ref a), l1, l2, l3] st h = ex d 21 73 [some (.ref a), l1, l2, l3] (.ref a :: st) h := (ex_of d21_72 (d) [some (.ref a), l1, l2, l3] st h).trans (rfl)
theorem d21_73 : decode (mB 21) 73 = .ok (.getfield 41, 3) := by decide +kernel
theorem x21_73 {d : Nat} {L : Lc} {st : List Value} {a : Nat} {h : Hp} (ht : (h.2.1 a).1 = 5) : ex (d) 21 73 L (.ref a :: st) h = ex d 21 76 L (h.1 a 9 :: st) h := (ex_of d21_73 (d) L (.ref a :: st) h).trans (fin_get (mi := 21) f5_41 (tg1 ht rfl))
theorem d21_76 : decode (mB 21) 76 = .ok (.iload_n 1, 1) := by decide +kernel
theorem x21_76 {d : Nat} {l0 l2 l3 : Option Value} {st : List Value} {x : Int32} {h : Hp} : ex (d) 21 76 [l0, some (.int x), l2, l3] st h = ex d 21 77 [l0, some (.int x), l2, l3] (.int x :: st) h := (ex_of d21_76 (d) [l0, some (.int x), l2, l3] st h).trans (rfl)
theorem d21_77 : decode (mB 21) 77 = .ok (.dup2, 1) := by decide +kernel
theorem x21_77 {d : Nat} {L : Lc} {st : List Value} {x : Int32} {a : Nat} {h : Hp} : ex (d) 21 77 L (.int x :: .ref a :: st) h = ex d 21 78 L (.int x :: .ref a :: .int x :: .ref a :: st) h := (ex_of d21_77 (d) L (.int x :: .ref a :: st) h).trans (rfl)
theorem d21_78 : decode (mB 21) 78 = .ok (.iaload, 1) := by decide +kernel
theorem x21_78 {d : Nat} {L : Lc} {st : List Value} {a j : Nat} {h : Hp} (ht : (h.2.1 a).1 = 20) (hj : j < (h.2.1 a).2) (hb : j < 2147483648) : ex (d) 21 78 L (.int (nI j) :: .ref a :: st) h = ex d 21 79 L (h.1 a j :: st) h := (ex_of d21_78 (d) L (.int (nI j) :: .ref a :: st) h).trans (fin_iaload (Or.inl ht) hj hb)
theorem d21_79 : decode (mB 21) 79 = .ok (.iconst 1, 1) := by decide +kernel
theorem x21_79 {d : Nat} {L : Lc} {st : List Value} {h : Hp} : ex (d) 21 79 L st h = ex d 21 80 L (.int (nI 1) :: st) h := (ex_of d21_79 (d) L st h).trans (rfl)
theorem d21_80 : decode (mB 21) 80 = .ok (.iadd, 1) := by decide +kernel
theorem x21_80 {d : Nat} {L : Lc} {st : List Value} {x y : Int32} {h : Hp} : ex (d) 21 80 L (.int y :: .int x :: st) h = ex d 21 81 L (.int (x + y) :: st) h := (ex_of d21_80 (d) L (.int y :: .int x :: st) h).trans (rfl)
theorem d21_81 : decode (mB 21) 81 = .ok (.iastore, 1) := by decide +kernel
theorem x21_81 {d : Nat} {L : Lc} {st : List Value} {a j : Nat} {x : Int32} {h : Hp} (ht : (h.2.1 a).1 = 20) (hj : j < (h.2.1 a).2) (hb : j < 2147483648) : ex (d) 21 81 L (.int x :: .int (nI j) :: .ref a :: st) h = ex d 21 82 L st (mup h.1 a j (.int x), h.2) := (ex_of d21_81 (d) L (.int x :: .int (nI j) :: .ref a :: st) h).trans (fin_iastore ht hj hb)
theorem d21_82 : decode (mB 21) 82 = .ok (.return_, 1) := by decide +kernel
theorem x21_82 {d : Nat} {L : Lc}  {h : Hp} : ex (d) 21 82 L [] h = some (none, h) := (ex_of d21_82 (d) L [] h).trans (rfl)
theorem d22_0 : decode (mB 22) 0 = .ok (.iconst 0, 1) := by decide +kernel
theorem x22_0 {d : Nat} {L : Lc} {st : List Value} {h : Hp} : ex (d) 22 0 L st h = ex d 22 1 L (.int (nI 0) :: st) h := (ex_of d22_0 (d) L st h).trans (rfl)
theorem d22_1 : decode (mB 22) 1 = .ok (.istore_n 2, 1) := by decide +kernel
theorem x22_1 {d : Nat} {l0 l1 l2 l3 l4 l5 : Option Value} {st : List Value} {x : Int32} {h : Hp} : ex (d) 22 1 [l0, l1, l2, l3, l4, l5] (.int x :: st) h = ex d 22 2 [l0, clr l1, some (.int x), l3, l4, l5] st h := (ex_of d22_1 (d) [l0, l1, l2, l3, l4, l5] (.int x :: st) h).trans (rfl)
theorem d22_2 : decode (mB 22) 2 = .ok (.iload_n 2, 1) := by decide +kernel
theorem x22_2 {d : Nat} {l0 l1 l3 l4 l5 : Option Value} {st : List Value} {x : Int32} {h : Hp} : ex (d) 22 2 [l0, l1, some (.int x), l3, l4, l5] st h = ex d 22 3 [l0, l1, some (.int x), l3, l4, l5] (.int x :: st) h := (ex_of d22_2 (d) [l0, l1, some (.int x), l3, l4, l5] st h).trans (rfl)
theorem d22_3 : decode (mB 22) 3 = .ok (.aload_n 0, 1) := by decide +kernel
theorem x22_3 {d : Nat} {l1 l2 l3 l4 l5 : Option Value} {st : List Value} {a : Nat} {h : Hp} : ex (d) 22 3 [some (.ref a), l1, l2, l3, l4, l5] st h = ex d 22 4 [some (.ref a), l1, l2, l3, l4, l5] (.ref a :: st) h := (ex_of d22_3 (d) [some (.ref a), l1, l2, l3, l4, l5] st h).trans (rfl)
theorem d22_4 : decode (mB 22) 4 = .ok (.getfield 62, 3) := by decide +kernel
theorem x22_4 {d : Nat} {L : Lc} {st : List Value} {a : Nat} {h : Hp} (ht : (h.2.1 a).1 = 5) : ex (d) 22 4 L (.ref a :: st) h = ex d 22 7 L (h.1 a 2 :: st) h := (ex_of d22_4 (d) L (.ref a :: st) h).trans (fin_get (mi := 22) f5_62 (tg1 ht rfl))
theorem d22_7 : decode (mB 22) 7 = .ok (.if_icmp .ge 110, 3) := by decide +kernel
theorem x22_7 {d : Nat} {L : Lc} {st : List Value} {x y : Int32} {h : Hp} : ex (d) 22 7 L (.int y :: .int x :: st) h = if y ≤ x then ex d 22 117 L st h else ex d 22 10 L st h := (ex_of d22_7 (d) L (.int y :: .int x :: st) h).trans (fin_brq (off := 110) (tgt := 117) rfl (by decide))
theorem d22_10 : decode (mB 22) 10 = .ok (.aload_n 0, 1) := by decide +kernel
theorem x22_10 {d : Nat} {l1 l2 l3 l4 l5 : Option Value} {st : List Value} {a : Nat} {h : Hp} : ex (d) 22 10 [some (.ref a), l1, l2, l3, l4, l5] st h = ex d 22 11 [some (.ref a), l1, l2, l3, l4, l5] (.ref a :: st) h := (ex_of d22_10 (d) [some (.ref a), l1, l2, l3, l4, l5] st h).trans (rfl)
theorem d22_11 : decode (mB 22) 11 = .ok (.getfield 17, 3) := by decide +kernel
theorem x22_11 {d : Nat} {L : Lc} {st : List Value} {a : Nat} {h : Hp} (ht : (h.2.1 a).1 = 5) : ex (d) 22 11 L (.ref a :: st) h = ex d 22 14 L (h.1 a 1 :: st) h := (ex_of d22_11 (d) L (.ref a :: st) h).trans (fin_get (mi := 22) f5_17 (tg1 ht rfl))
theorem d22_14 : decode (mB 22) 14 = .ok (.iload_n 1, 1) := by decide +kernel
theorem x22_14 {d : Nat} {l0 l2 l3 l4 l5 : Option Value} {st : List Value} {x : Int32} {h : Hp} : ex (d) 22 14 [l0, some (.int x), l2, l3, l4, l5] st h = ex d 22 15 [l0, some (.int x), l2, l3, l4, l5] (.int x :: st) h := (ex_of d22_14 (d) [l0, some (.int x), l2, l3, l4, l5] st h).trans (rfl)
theorem d22_15 : decode (mB 22) 15 = .ok (.iaload, 1) := by decide +kernel
theorem x22_15 {d : Nat} {L : Lc} {st : List Value} {a j : Nat} {h : Hp} (ht : (h.2.1 a).1 = 20) (hj : j < (h.2.1 a).2) (hb : j < 2147483648) : ex (d) 22 15 L (.int (nI j) :: .ref a :: st) h = ex d 22 16 L (h.1 a j :: st) h := (ex_of d22_15 (d) L (.int (nI j) :: .ref a :: st) h).trans (fin_iaload (Or.inl ht) hj hb)
theorem d22_16 : decode (mB 22) 16 = .ok (.aload_n 0, 1) := by decide +kernel
theorem x22_16 {d : Nat} {l1 l2 l3 l4 l5 : Option Value} {st : List Value} {a : Nat} {h : Hp} : ex (d) 22 16 [some (.ref a), l1, l2, l3, l4, l5] st h = ex d 22 17 [some (.ref a), l1, l2, l3, l4, l5] (.ref a :: st) h := (ex_of d22_16 (d) [some (.ref a), l1, l2, l3, l4, l5] st h).trans (rfl)
theorem d22_17 : decode (mB 22) 17 = .ok (.getfield 17, 3) := by decide +kernel
theorem x22_17 {d : Nat} {L : Lc} {st : List Value} {a : Nat} {h : Hp} (ht : (h.2.1 a).1 = 5) : ex (d) 22 17 L (.ref a :: st) h = ex d 22 20 L (h.1 a 1 :: st) h := (ex_of d22_17 (d) L (.ref a :: st) h).trans (fin_get (mi := 22) f5_17 (tg1 ht rfl))
theorem d22_20 : decode (mB 22) 20 = .ok (.iload_n 2, 1) := by decide +kernel
theorem x22_20 {d : Nat} {l0 l1 l3 l4 l5 : Option Value} {st : List Value} {x : Int32} {h : Hp} : ex (d) 22 20 [l0, l1, some (.int x), l3, l4, l5] st h = ex d 22 21 [l0, l1, some (.int x), l3, l4, l5] (.int x :: st) h := (ex_of d22_20 (d) [l0, l1, some (.int x), l3, l4, l5] st h).trans (rfl)
theorem d22_21 : decode (mB 22) 21 = .ok (.iaload, 1) := by decide +kernel
theorem x22_21 {d : Nat} {L : Lc} {st : List Value} {a j : Nat} {h : Hp} (ht : (h.2.1 a).1 = 20) (hj : j < (h.2.1 a).2) (hb : j < 2147483648) : ex (d) 22 21 L (.int (nI j) :: .ref a :: st) h = ex d 22 22 L (h.1 a j :: st) h := (ex_of d22_21 (d) L (.int (nI j) :: .ref a :: st) h).trans (fin_iaload (Or.inl ht) hj hb)
theorem d22_22 : decode (mB 22) 22 = .ok (.invokestatic 120, 3) := by decide +kernel
theorem x22_22 {d : Nat} {L : Lc} {x y : Int32} {h : Hp} : ex (d) 22 22 L (.int y :: .int x :: []) h = ex d 22 25 L (.int (if y < x then y else x) :: []) h := (ex_of d22_22 (d) L (.int y :: .int x :: []) h).trans (rfl)
theorem d22_25 : decode (mB 22) 25 = .ok (.istore_n 3, 1) := by decide +kernel
theorem x22_25 {d : Nat} {l0 l1 l2 l3 l4 l5 : Option Value} {st : List Value} {x : Int32} {h : Hp} : ex (d) 22 25 [l0, l1, l2, l3, l4, l5] (.int x :: st) h = ex d 22 26 [l0, l1, clr l2, some (.int x), l4, l5] st h := (ex_of d22_25 (d) [l0, l1, l2, l3, l4, l5] (.int x :: st) h).trans (rfl)
theorem d22_26 : decode (mB 22) 26 = .ok (.aload_n 0, 1) := by decide +kernel
theorem x22_26 {d : Nat} {l1 l2 l3 l4 l5 : Option Value} {st : List Value} {a : Nat} {h : Hp} : ex (d) 22 26 [some (.ref a), l1, l2, l3, l4, l5] st h = ex d 22 27 [some (.ref a), l1, l2, l3, l4, l5] (.ref a :: st) h := (ex_of d22_26 (d) [some (.ref a), l1, l2, l3, l4, l5] st h).trans (rfl)
theorem d22_27 : decode (mB 22) 27 = .ok (.getfield 17, 3) := by decide +kernel
theorem x22_27 {d : Nat} {L : Lc} {st : List Value} {a : Nat} {h : Hp} (ht : (h.2.1 a).1 = 5) : ex (d) 22 27 L (.ref a :: st) h = ex d 22 30 L (h.1 a 1 :: st) h := (ex_of d22_27 (d) L (.ref a :: st) h).trans (fin_get (mi := 22) f5_17 (tg1 ht rfl))
theorem d22_30 : decode (mB 22) 30 = .ok (.iload_n 1, 1) := by decide +kernel
theorem x22_30 {d : Nat} {l0 l2 l3 l4 l5 : Option Value} {st : List Value} {x : Int32} {h : Hp} : ex (d) 22 30 [l0, some (.int x), l2, l3, l4, l5] st h = ex d 22 31 [l0, some (.int x), l2, l3, l4, l5] (.int x :: st) h := (ex_of d22_30 (d) [l0, some (.int x), l2, l3, l4, l5] st h).trans (rfl)
theorem d22_31 : decode (mB 22) 31 = .ok (.iaload, 1) := by decide +kernel
theorem x22_31 {d : Nat} {L : Lc} {st : List Value} {a j : Nat} {h : Hp} (ht : (h.2.1 a).1 = 20) (hj : j < (h.2.1 a).2) (hb : j < 2147483648) : ex (d) 22 31 L (.int (nI j) :: .ref a :: st) h = ex d 22 32 L (h.1 a j :: st) h := (ex_of d22_31 (d) L (.int (nI j) :: .ref a :: st) h).trans (fin_iaload (Or.inl ht) hj hb)
theorem d22_32 : decode (mB 22) 32 = .ok (.aload_n 0, 1) := by decide +kernel
theorem x22_32 {d : Nat} {l1 l2 l3 l4 l5 : Option Value} {st : List Value} {a : Nat} {h : Hp} : ex (d) 22 32 [some (.ref a), l1, l2, l3, l4, l5] st h = ex d 22 33 [some (.ref a), l1, l2, l3, l4, l5] (.ref a :: st) h := (ex_of d22_32 (d) [some (.ref a), l1, l2, l3, l4, l5] st h).trans (rfl)
theorem d22_33 : decode (mB 22) 33 = .ok (.getfield 17, 3) := by decide +kernel
theorem x22_33 {d : Nat} {L : Lc} {st : List Value} {a : Nat} {h : Hp} (ht : (h.2.1 a).1 = 5) : ex (d) 22 33 L (.ref a :: st) h = ex d 22 36 L (h.1 a 1 :: st) h := (ex_of d22_33 (d) L (.ref a :: st) h).trans (fin_get (mi := 22) f5_17 (tg1 ht rfl))
theorem d22_36 : decode (mB 22) 36 = .ok (.iload_n 2, 1) := by decide +kernel
theorem x22_36 {d : Nat} {l0 l1 l3 l4 l5 : Option Value} {st : List Value} {x : Int32} {h : Hp} : ex (d) 22 36 [l0, l1, some (.int x), l3, l4, l5] st h = ex d 22 37 [l0, l1, some (.int x), l3, l4, l5] (.int x :: st) h := (ex_of d22_36 (d) [l0, l1, some (.int x), l3, l4, l5] st h).trans (rfl)
theorem d22_37 : decode (mB 22) 37 = .ok (.iaload, 1) := by decide +kernel
theorem x22_37 {d : Nat} {L : Lc} {st : List Value} {a j : Nat} {h : Hp} (ht : (h.2.1 a).1 = 20) (hj : j < (h.2.1 a).2) (hb : j < 2147483648) : ex (d) 22 37 L (.int (nI j) :: .ref a :: st) h = ex d 22 38 L (h.1 a j :: st) h := (ex_of d22_37 (d) L (.int (nI j) :: .ref a :: st) h).trans (fin_iaload (Or.inl ht) hj hb)
theorem d22_38 : decode (mB 22) 38 = .ok (.invokestatic 126, 3) := by decide +kernel
theorem x22_38 {d : Nat} {L : Lc} {x y : Int32} {h : Hp} : ex (d) 22 38 L (.int y :: .int x :: []) h = ex d 22 41 L (.int (if x < y then y else x) :: []) h := (ex_of d22_38 (d) L (.int y :: .int x :: []) h).trans (rfl)
theorem d22_41 : decode (mB 22) 41 = .ok (.istore 4, 2) := by decide +kernel
theorem x22_41 {d : Nat} {l0 l1 l2 l3 l4 l5 : Option Value} {st : List Value} {x : Int32} {h : Hp} : ex (d) 22 41 [l0, l1, l2, l3, l4, l5] (.int x :: st) h = ex d 22 43 [l0, l1, l2, clr l3, some (.int x), l5] st h := (ex_of d22_41 (d) [l0, l1, l2, l3, l4, l5] (.int x :: st) h).trans (rfl)
theorem d22_43 : decode (mB 22) 43 = .ok (.aload_n 0, 1) := by decide +kernel
theorem x22_43 {d : Nat} {l1 l2 l3 l4 l5 : Option Value} {st : List Value} {a : Nat} {h : Hp} : ex (d) 22 43 [some (.ref a), l1, l2, l3, l4, l5] st h = ex d 22 44 [some (.ref a), l1, l2, l3, l4, l5] (.ref a :: st) h := (ex_of d22_43 (d) [some (.ref a), l1, l2, l3, l4, l5] st h).trans (rfl)
theorem d22_44 : decode (mB 22) 44 = .ok (.getfield 11, 3) := by decide +kernel
theorem x22_44 {d : Nat} {L : Lc} {st : List Value} {a : Nat} {h : Hp} (ht : (h.2.1 a).1 = 5) : ex (d) 22 44 L (.ref a :: st) h = ex d 22 47 L (h.1 a 0 :: st) h := (ex_of d22_44 (d) L (.ref a :: st) h).trans (fin_get (mi := 22) f5_11 (tg1 ht rfl))
theorem d22_47 : decode (mB 22) 47 = .ok (.iload_n 1, 1) := by decide +kernel
theorem x22_47 {d : Nat} {l0 l2 l3 l4 l5 : Option Value} {st : List Value} {x : Int32} {h : Hp} : ex (d) 22 47 [l0, some (.int x), l2, l3, l4, l5] st h = ex d 22 48 [l0, some (.int x), l2, l3, l4, l5] (.int x :: st) h := (ex_of d22_47 (d) [l0, some (.int x), l2, l3, l4, l5] st h).trans (rfl)
theorem d22_48 : decode (mB 22) 48 = .ok (.aaload, 1) := by decide +kernel
theorem x22_48 {d : Nat} {L : Lc} {st : List Value} {a j : Nat} {h : Hp} (ht : 21 ≤ (h.2.1 a).1 ∧ (h.2.1 a).1 ≤ 26) (hj : j < (h.2.1 a).2) (hb : j < 2147483648) : ex (d) 22 48 L (.int (nI j) :: .ref a :: st) h = ex d 22 49 L (h.1 a j :: st) h := (ex_of d22_48 (d) L (.int (nI j) :: .ref a :: st) h).trans (fin_aaload ht hj hb)
theorem d22_49 : decode (mB 22) 49 = .ok (.aload_n 0, 1) := by decide +kernel
theorem x22_49 {d : Nat} {l1 l2 l3 l4 l5 : Option Value} {st : List Value} {a : Nat} {h : Hp} : ex (d) 22 49 [some (.ref a), l1, l2, l3, l4, l5] st h = ex d 22 50 [some (.ref a), l1, l2, l3, l4, l5] (.ref a :: st) h := (ex_of d22_49 (d) [some (.ref a), l1, l2, l3, l4, l5] st h).trans (rfl)
theorem d22_50 : decode (mB 22) 50 = .ok (.getfield 11, 3) := by decide +kernel
theorem x22_50 {d : Nat} {L : Lc} {st : List Value} {a : Nat} {h : Hp} (ht : (h.2.1 a).1 = 5) : ex (d) 22 50 L (.ref a :: st) h = ex d 22 53 L (h.1 a 0 :: st) h := (ex_of d22_50 (d) L (.ref a :: st) h).trans (fin_get (mi := 22) f5_11 (tg1 ht rfl))
theorem d22_53 : decode (mB 22) 53 = .ok (.iload_n 2, 1) := by decide +kernel
theorem x22_53 {d : Nat} {l0 l1 l3 l4 l5 : Option Value} {st : List Value} {x : Int32} {h : Hp} : ex (d) 22 53 [l0, l1, some (.int x), l3, l4, l5] st h = ex d 22 54 [l0, l1, some (.int x), l3, l4, l5] (.int x :: st) h := (ex_of d22_53 (d) [l0, l1, some (.int x), l3, l4, l5] st h).trans (rfl)
theorem d22_54 : decode (mB 22) 54 = .ok (.aaload, 1) := by decide +kernel
theorem x22_54 {d : Nat} {L : Lc} {st : List Value} {a j : Nat} {h : Hp} (ht : 21 ≤ (h.2.1 a).1 ∧ (h.2.1 a).1 ≤ 26) (hj : j < (h.2.1 a).2) (hb : j < 2147483648) : ex (d) 22 54 L (.int (nI j) :: .ref a :: st) h = ex d 22 55 L (h.1 a j :: st) h := (ex_of d22_54 (d) L (.int (nI j) :: .ref a :: st) h).trans (fin_aaload ht hj hb)
theorem d22_55 : decode (mB 22) 55 = .ok (.if_acmp .ne 29, 3) := by decide +kernel
theorem x22_55 {d : Nat} {L : Lc} {st : List Value} {v w : Value} {h : Hp} (hv : isR v = true) (hw : isR w = true) : ex (d) 22 55 L (w :: v :: st) h = if ¬ v = w then ex d 22 84 L st h else ex d 22 58 L st h := (ex_of d22_55 (d) L (w :: v :: st) h).trans (fin_acmpN (off := 29) (tgt := 84) rfl hv hw (by decide))
theorem d22_58 : decode (mB 22) 58 = .ok (.iload_n 3, 1) := by decide +kernel
theorem x22_58 {d : Nat} {l0 l1 l2 l4 l5 : Option Value} {st : List Value} {x : Int32} {h : Hp} : ex (d) 22 58 [l0, l1, l2, some (.int x), l4, l5] st h = ex d 22 59 [l0, l1, l2, some (.int x), l4, l5] (.int x :: st) h := (ex_of d22_58 (d) [l0, l1, l2, some (.int x), l4, l5] st h).trans (rfl)
theorem d22_59 : decode (mB 22) 59 = .ok (.iload 4, 2) := by decide +kernel
theorem x22_59 {d : Nat} {l0 l1 l2 l3 l5 : Option Value} {st : List Value} {x : Int32} {h : Hp} : ex (d) 22 59 [l0, l1, l2, l3, some (.int x), l5] st h = ex d 22 61 [l0, l1, l2, l3, some (.int x), l5] (.int x :: st) h := (ex_of d22_59 (d) [l0, l1, l2, l3, some (.int x), l5] st h).trans (rfl)
theorem d22_61 : decode (mB 22) 61 = .ok (.if_icmp .ge 23, 3) := by decide +kernel
theorem x22_61 {d : Nat} {L : Lc} {st : List Value} {x y : Int32} {h : Hp} : ex (d) 22 61 L (.int y :: .int x :: st) h = if y ≤ x then ex d 22 84 L st h else ex d 22 64 L st h := (ex_of d22_61 (d) L (.int y :: .int x :: st) h).trans (fin_brq (off := 23) (tgt := 84) rfl (by decide))
theorem d22_64 : decode (mB 22) 64 = .ok (.aload_n 0, 1) := by decide +kernel
theorem x22_64 {d : Nat} {l1 l2 l3 l4 l5 : Option Value} {st : List Value} {a : Nat} {h : Hp} : ex (d) 22 64 [some (.ref a), l1, l2, l3, l4, l5] st h = ex d 22 65 [some (.ref a), l1, l2, l3, l4, l5] (.ref a :: st) h := (ex_of d22_64 (d) [some (.ref a), l1, l2, l3, l4, l5] st h).trans (rfl)
theorem d22_65 : decode (mB 22) 65 = .ok (.aload_n 0, 1) := by decide +kernel
theorem x22_65 {d : Nat} {l1 l2 l3 l4 l5 : Option Value} {st : List Value} {a : Nat} {h : Hp} : ex (d) 22 65 [some (.ref a), l1, l2, l3, l4, l5] st h = ex d 22 66 [some (.ref a), l1, l2, l3, l4, l5] (.ref a :: st) h := (ex_of d22_65 (d) [some (.ref a), l1, l2, l3, l4, l5] st h).trans (rfl)
theorem d22_66 : decode (mB 22) 66 = .ok (.getfield 11, 3) := by decide +kernel
theorem x22_66 {d : Nat} {L : Lc} {st : List Value} {a : Nat} {h : Hp} (ht : (h.2.1 a).1 = 5) : ex (d) 22 66 L (.ref a :: st) h = ex d 22 69 L (h.1 a 0 :: st) h := (ex_of d22_66 (d) L (.ref a :: st) h).trans (fin_get (mi := 22) f5_11 (tg1 ht rfl))
theorem d22_69 : decode (mB 22) 69 = .ok (.iload_n 1, 1) := by decide +kernel
theorem x22_69 {d : Nat} {l0 l2 l3 l4 l5 : Option Value} {st : List Value} {x : Int32} {h : Hp} : ex (d) 22 69 [l0, some (.int x), l2, l3, l4, l5] st h = ex d 22 70 [l0, some (.int x), l2, l3, l4, l5] (.int x :: st) h := (ex_of d22_69 (d) [l0, some (.int x), l2, l3, l4, l5] st h).trans (rfl)
theorem d22_70 : decode (mB 22) 70 = .ok (.aaload, 1) := by decide +kernel
theorem x22_70 {d : Nat} {L : Lc} {st : List Value} {a j : Nat} {h : Hp} (ht : 21 ≤ (h.2.1 a).1 ∧ (h.2.1 a).1 ≤ 26) (hj : j < (h.2.1 a).2) (hb : j < 2147483648) : ex (d) 22 70 L (.int (nI j) :: .ref a :: st) h = ex d 22 71 L (h.1 a j :: st) h := (ex_of d22_70 (d) L (.int (nI j) :: .ref a :: st) h).trans (fin_aaload ht hj hb)
theorem d22_71 : decode (mB 22) 71 = .ok (.iload_n 3, 1) := by decide +kernel
theorem x22_71 {d : Nat} {l0 l1 l2 l4 l5 : Option Value} {st : List Value} {x : Int32} {h : Hp} : ex (d) 22 71 [l0, l1, l2, some (.int x), l4, l5] st h = ex d 22 72 [l0, l1, l2, some (.int x), l4, l5] (.int x :: st) h := (ex_of d22_71 (d) [l0, l1, l2, some (.int x), l4, l5] st h).trans (rfl)
theorem d22_72 : decode (mB 22) 72 = .ok (.iload 4, 2) := by decide +kernel
theorem x22_72 {d : Nat} {l0 l1 l2 l3 l5 : Option Value} {st : List Value} {x : Int32} {h : Hp} : ex (d) 22 72 [l0, l1, l2, l3, some (.int x), l5] st h = ex d 22 74 [l0, l1, l2, l3, some (.int x), l5] (.int x :: st) h := (ex_of d22_72 (d) [l0, l1, l2, l3, some (.int x), l5] st h).trans (rfl)
theorem d22_74 : decode (mB 22) 74 = .ok (.invokevirtual 129, 3) := by decide +kernel
theorem x22_74 {d : Nat} {L : Lc} {a : Nat} {v0 : Value} {v1 : Int32} {v2 : Int32} {h : Hp} (ht : (h.2.1 a).1 = 5) (hv0 : isR v0 = true) : ex (d + 1) 22 74 L (.int v2 :: .int v1 :: v0 :: .ref a :: []) h = bnd (ex d 23 0 [some (.ref a), some v0, some (.int v1), some (.int v2), none] [] h) (fun v h' => ex (d + 1) 22 77 L (v.toList ++ []) h') := (ex_of d22_74 (d + 1) L (.int v2 :: .int v1 :: v0 :: .ref a :: []) h).trans (fin_vi (mi := 22) i5_129 ht rfl rfl (by simp [cat1_i, cat1_r, isR_cat1 hv0]) (by simp) (Nat.le_of_ble_eq_true rfl))
theorem d22_77 : decode (mB 22) 77 = .ok (.ifCond .ne 7, 3) := by decide +kernel
theorem x22_77 {d : Nat} {L : Lc} {st : List Value} {x : Int32} {h : Hp} : ex (d) 22 77 L (.int x :: st) h = if ¬ x = 0 then ex d 22 84 L st h else ex d 22 80 L st h := (ex_of d22_77 (d) L (.int x :: st) h).trans (fin_brq (off := 7) (tgt := 84) rfl (by decide))
theorem d22_80 : decode (mB 22) 80 = .ok (.iconst 1, 1) := by decide +kernel
theorem x22_80 {d : Nat} {L : Lc} {st : List Value} {h : Hp} : ex (d) 22 80 L st h = ex d 22 81 L (.int (nI 1) :: st) h := (ex_of d22_80 (d) L st h).trans (rfl)
theorem d22_81 : decode (mB 22) 81 = .ok (.goto 4, 3) := by decide +kernel
theorem x22_81 {d : Nat} {L : Lc} {st : List Value} {h : Hp} : ex (d) 22 81 L st h = ex d 22 85 L st h := (ex_of d22_81 (d) L st h).trans (rfl)
theorem d22_84 : decode (mB 22) 84 = .ok (.iconst 0, 1) := by decide +kernel
theorem x22_84 {d : Nat} {L : Lc} {st : List Value} {h : Hp} : ex (d) 22 84 L st h = ex d 22 85 L (.int (nI 0) :: st) h := (ex_of d22_84 (d) L st h).trans (rfl)
theorem d22_85 : decode (mB 22) 85 = .ok (.istore 5, 2) := by decide +kernel
theorem x22_85 {d : Nat} {l0 l1 l2 l3 l4 l5 : Option Value} {st : List Value} {x : Int32} {h : Hp} : ex (d) 22 85 [l0, l1, l2, l3, l4, l5] (.int x :: st) h = ex d 22 87 [l0, l1, l2, l3, clr l4, some (.int x)] st h := (ex_of d22_85 (d) [l0, l1, l2, l3, l4, l5] (.int x :: st) h).trans (rfl)
theorem d22_87 : decode (mB 22) 87 = .ok (.aload_n 0, 1) := by decide +kernel
theorem x22_87 {d : Nat} {l1 l2 l3 l4 l5 : Option Value} {st : List Value} {a : Nat} {h : Hp} : ex (d) 22 87 [some (.ref a), l1, l2, l3, l4, l5] st h = ex d 22 88 [some (.ref a), l1, l2, l3, l4, l5] (.ref a :: st) h := (ex_of d22_87 (d) [some (.ref a), l1, l2, l3, l4, l5] st h).trans (rfl)
theorem d22_88 : decode (mB 22) 88 = .ok (.getfield 44, 3) := by decide +kernel
theorem x22_88 {d : Nat} {L : Lc} {st : List Value} {a : Nat} {h : Hp} (ht : (h.2.1 a).1 = 5) : ex (d) 22 88 L (.ref a :: st) h = ex d 22 91 L (h.1 a 10 :: st) h := (ex_of d22_88 (d) L (.ref a :: st) h).trans (fin_get (mi := 22) f5_44 (tg1 ht rfl))
theorem d22_91 : decode (mB 22) 91 = .ok (.iload_n 1, 1) := by decide +kernel
theorem x22_91 {d : Nat} {l0 l2 l3 l4 l5 : Option Value} {st : List Value} {x : Int32} {h : Hp} : ex (d) 22 91 [l0, some (.int x), l2, l3, l4, l5] st h = ex d 22 92 [l0, some (.int x), l2, l3, l4, l5] (.int x :: st) h := (ex_of d22_91 (d) [l0, some (.int x), l2, l3, l4, l5] st h).trans (rfl)
theorem d22_92 : decode (mB 22) 92 = .ok (.aaload, 1) := by decide +kernel
theorem x22_92 {d : Nat} {L : Lc} {st : List Value} {a j : Nat} {h : Hp} (ht : 21 ≤ (h.2.1 a).1 ∧ (h.2.1 a).1 ≤ 26) (hj : j < (h.2.1 a).2) (hb : j < 2147483648) : ex (d) 22 92 L (.int (nI j) :: .ref a :: st) h = ex d 22 93 L (h.1 a j :: st) h := (ex_of d22_92 (d) L (.int (nI j) :: .ref a :: st) h).trans (fin_aaload ht hj hb)
theorem d22_93 : decode (mB 22) 93 = .ok (.iload_n 2, 1) := by decide +kernel
theorem x22_93 {d : Nat} {l0 l1 l3 l4 l5 : Option Value} {st : List Value} {x : Int32} {h : Hp} : ex (d) 22 93 [l0, l1, some (.int x), l3, l4, l5] st h = ex d 22 94 [l0, l1, some (.int x), l3, l4, l5] (.int x :: st) h := (ex_of d22_93 (d) [l0, l1, some (.int x), l3, l4, l5] st h).trans (rfl)
theorem d22_94 : decode (mB 22) 94 = .ok (.iload 5, 2) := by decide +kernel
theorem x22_94 {d : Nat} {l0 l1 l2 l3 l4 : Option Value} {st : List Value} {x : Int32} {h : Hp} : ex (d) 22 94 [l0, l1, l2, l3, l4, some (.int x)] st h = ex d 22 96 [l0, l1, l2, l3, l4, some (.int x)] (.int x :: st) h := (ex_of d22_94 (d) [l0, l1, l2, l3, l4, some (.int x)] st h).trans (rfl)
theorem d22_96 : decode (mB 22) 96 = .ok (.ifCond .eq 13, 3) := by decide +kernel
theorem x22_96 {d : Nat} {L : Lc} {st : List Value} {x : Int32} {h : Hp} : ex (d) 22 96 L (.int x :: st) h = if x = 0 then ex d 22 109 L st h else ex d 22 99 L st h := (ex_of d22_96 (d) L (.int x :: st) h).trans (fin_brq (off := 13) (tgt := 109) rfl (by decide))
theorem d22_99 : decode (mB 22) 99 = .ok (.aload_n 0, 1) := by decide +kernel
theorem x22_99 {d : Nat} {l1 l2 l3 l4 l5 : Option Value} {st : List Value} {a : Nat} {h : Hp} : ex (d) 22 99 [some (.ref a), l1, l2, l3, l4, l5] st h = ex d 22 100 [some (.ref a), l1, l2, l3, l4, l5] (.ref a :: st) h := (ex_of d22_99 (d) [some (.ref a), l1, l2, l3, l4, l5] st h).trans (rfl)
theorem d22_100 : decode (mB 22) 100 = .ok (.iload_n 3, 1) := by decide +kernel
theorem x22_100 {d : Nat} {l0 l1 l2 l4 l5 : Option Value} {st : List Value} {x : Int32} {h : Hp} : ex (d) 22 100 [l0, l1, l2, some (.int x), l4, l5] st h = ex d 22 101 [l0, l1, l2, some (.int x), l4, l5] (.int x :: st) h := (ex_of d22_100 (d) [l0, l1, l2, some (.int x), l4, l5] st h).trans (rfl)
theorem d22_101 : decode (mB 22) 101 = .ok (.iload 4, 2) := by decide +kernel
theorem x22_101 {d : Nat} {l0 l1 l2 l3 l5 : Option Value} {st : List Value} {x : Int32} {h : Hp} : ex (d) 22 101 [l0, l1, l2, l3, some (.int x), l5] st h = ex d 22 103 [l0, l1, l2, l3, some (.int x), l5] (.int x :: st) h := (ex_of d22_101 (d) [l0, l1, l2, l3, some (.int x), l5] st h).trans (rfl)
theorem d22_103 : decode (mB 22) 103 = .ok (.invokevirtual 133, 3) := by decide +kernel
theorem x22_103 {d : Nat} {L : Lc} {s0 s1 : Value} {a : Nat} {v0 : Int32} {v1 : Int32} {h : Hp} (ht : (h.2.1 a).1 = 5) : ex (d + 1) 22 103 L (.int v1 :: .int v0 :: .ref a :: [s0, s1]) h = bnd (ex d 24 0 [some (.ref a), some (.int v0), some (.int v1), none, none] [] h) (fun v h' => ex (d + 1) 22 106 L (v.toList ++ [s0, s1]) h') := (ex_of d22_103 (d + 1) L (.int v1 :: .int v0 :: .ref a :: [s0, s1]) h).trans (fin_vi (mi := 22) i5_133 ht rfl rfl (by simp [cat1_i, cat1_r]) (by simp) (Nat.le_of_ble_eq_true rfl))
theorem d22_106 : decode (mB 22) 106 = .ok (.goto 4, 3) := by decide +kernel
theorem x22_106 {d : Nat} {L : Lc} {st : List Value} {h : Hp} : ex (d) 22 106 L st h = ex d 22 110 L st h := (ex_of d22_106 (d) L st h).trans (rfl)
theorem d22_109 : decode (mB 22) 109 = .ok (.iconst (-1), 1) := by decide +kernel
theorem x22_109 {d : Nat} {L : Lc} {st : List Value} {h : Hp} : ex (d) 22 109 L st h = ex d 22 110 L (.int (-1) :: st) h := (ex_of d22_109 (d) L st h).trans (rfl)
theorem d22_110 : decode (mB 22) 110 = .ok (.iastore, 1) := by decide +kernel
theorem x22_110 {d : Nat} {L : Lc} {st : List Value} {a j : Nat} {x : Int32} {h : Hp} (ht : (h.2.1 a).1 = 20) (hj : j < (h.2.1 a).2) (hb : j < 2147483648) : ex (d) 22 110 L (.int x :: .int (nI j) :: .ref a :: st) h = ex d 22 111 L st (mup h.1 a j (.int x), h.2) := (ex_of d22_110 (d) L (.int x :: .int (nI j) :: .ref a :: st) h).trans (fin_iastore ht hj hb)
theorem d22_111 : decode (mB 22) 111 = .ok (.iinc 2 1, 3) := by decide +kernel
theorem x22_111 {d : Nat} {l0 l1 l3 l4 l5 : Option Value} {st : List Value} {x : Int32} {h : Hp} : ex (d) 22 111 [l0, l1, some (.int x), l3, l4, l5] st h = ex d 22 114 [l0, clr l1, some (.int (x + (nI 1))), l3, l4, l5] st h := (ex_of d22_111 (d) [l0, l1, some (.int x), l3, l4, l5] st h).trans (rfl)
theorem d22_114 : decode (mB 22) 114 = .ok (.goto (-112), 3) := by decide +kernel
theorem x22_114 {d : Nat} {L : Lc} {st : List Value} {h : Hp} : ex (d) 22 114 L st h = ex d 22 2 L st h := (ex_of d22_114 (d) L st h).trans (rfl)
theorem d22_117 : decode (mB 22) 117 = .ok (.return_, 1) := by decide +kernel
theorem x22_117 {d : Nat} {L : Lc}  {h : Hp} : ex (d) 22 117 L [] h = some (none, h) := (ex_of d22_117 (d) L [] h).trans (rfl)
theorem d23_0 : decode (mB 23) 0 = .ok (.iconst 0, 1) := by decide +kernel
theorem x23_0 {d : Nat} {L : Lc} {st : List Value} {h : Hp} : ex (d) 23 0 L st h = ex d 23 1 L (.int (nI 0) :: st) h := (ex_of d23_0 (d) L st h).trans (rfl)
theorem d23_1 : decode (mB 23) 1 = .ok (.istore 4, 2) := by decide +kernel
theorem x23_1 {d : Nat} {l0 l1 l2 l3 l4 : Option Value} {st : List Value} {x : Int32} {h : Hp} : ex (d) 23 1 [l0, l1, l2, l3, l4] (.int x :: st) h = ex d 23 3 [l0, l1, l2, clr l3, some (.int x)] st h := (ex_of d23_1 (d) [l0, l1, l2, l3, l4] (.int x :: st) h).trans (rfl)
theorem d23_3 : decode (mB 23) 3 = .ok (.iload 4, 2) := by decide +kernel
theorem x23_3 {d : Nat} {l0 l1 l2 l3 : Option Value} {st : List Value} {x : Int32} {h : Hp} : ex (d) 23 3 [l0, l1, l2, l3, some (.int x)] st h = ex d 23 5 [l0, l1, l2, l3, some (.int x)] (.int x :: st) h := (ex_of d23_3 (d) [l0, l1, l2, l3, some (.int x)] st h).trans (rfl)
theorem d23_5 : decode (mB 23) 5 = .ok (.aload_n 0, 1) := by decide +kernel
theorem x23_5 {d : Nat} {l1 l2 l3 l4 : Option Value} {st : List Value} {a : Nat} {h : Hp} : ex (d) 23 5 [some (.ref a), l1, l2, l3, l4] st h = ex d 23 6 [some (.ref a), l1, l2, l3, l4] (.ref a :: st) h := (ex_of d23_5 (d) [some (.ref a), l1, l2, l3, l4] st h).trans (rfl)
theorem d23_6 : decode (mB 23) 6 = .ok (.getfield 62, 3) := by decide +kernel
theorem x23_6 {d : Nat} {L : Lc} {st : List Value} {a : Nat} {h : Hp} (ht : (h.2.1 a).1 = 5) : ex (d) 23 6 L (.ref a :: st) h = ex d 23 9 L (h.1 a 2 :: st) h := (ex_of d23_6 (d) L (.ref a :: st) h).trans (fin_get (mi := 23) f5_62 (tg1 ht rfl))
theorem d23_9 : decode (mB 23) 9 = .ok (.if_icmp .ge 44, 3) := by decide +kernel
theorem x23_9 {d : Nat} {L : Lc} {st : List Value} {x y : Int32} {h : Hp} : ex (d) 23 9 L (.int y :: .int x :: st) h = if y ≤ x then ex d 23 53 L st h else ex d 23 12 L st h := (ex_of d23_9 (d) L (.int y :: .int x :: st) h).trans (fin_brq (off := 44) (tgt := 53) rfl (by decide))
theorem d23_12 : decode (mB 23) 12 = .ok (.aload_n 0, 1) := by decide +kernel
theorem x23_12 {d : Nat} {l1 l2 l3 l4 : Option Value} {st : List Value} {a : Nat} {h : Hp} : ex (d) 23 12 [some (.ref a), l1, l2, l3, l4] st h = ex d 23 13 [some (.ref a), l1, l2, l3, l4] (.ref a :: st) h := (ex_of d23_12 (d) [some (.ref a), l1, l2, l3, l4] st h).trans (rfl)
theorem d23_13 : decode (mB 23) 13 = .ok (.getfield 11, 3) := by decide +kernel
theorem x23_13 {d : Nat} {L : Lc} {st : List Value} {a : Nat} {h : Hp} (ht : (h.2.1 a).1 = 5) : ex (d) 23 13 L (.ref a :: st) h = ex d 23 16 L (h.1 a 0 :: st) h := (ex_of d23_13 (d) L (.ref a :: st) h).trans (fin_get (mi := 23) f5_11 (tg1 ht rfl))
theorem d23_16 : decode (mB 23) 16 = .ok (.iload 4, 2) := by decide +kernel
theorem x23_16 {d : Nat} {l0 l1 l2 l3 : Option Value} {st : List Value} {x : Int32} {h : Hp} : ex (d) 23 16 [l0, l1, l2, l3, some (.int x)] st h = ex d 23 18 [l0, l1, l2, l3, some (.int x)] (.int x :: st) h := (ex_of d23_16 (d) [l0, l1, l2, l3, some (.int x)] st h).trans (rfl)
theorem d23_18 : decode (mB 23) 18 = .ok (.aaload, 1) := by decide +kernel
theorem x23_18 {d : Nat} {L : Lc} {st : List Value} {a j : Nat} {h : Hp} (ht : 21 ≤ (h.2.1 a).1 ∧ (h.2.1 a).1 ≤ 26) (hj : j < (h.2.1 a).2) (hb : j < 2147483648) : ex (d) 23 18 L (.int (nI j) :: .ref a :: st) h = ex d 23 19 L (h.1 a j :: st) h := (ex_of d23_18 (d) L (.int (nI j) :: .ref a :: st) h).trans (fin_aaload ht hj hb)
theorem d23_19 : decode (mB 23) 19 = .ok (.aload_n 1, 1) := by decide +kernel
theorem x23_19 {d : Nat} {l0 l2 l3 l4 : Option Value} {st : List Value} {a : Nat} {h : Hp} : ex (d) 23 19 [l0, some (.ref a), l2, l3, l4] st h = ex d 23 20 [l0, some (.ref a), l2, l3, l4] (.ref a :: st) h := (ex_of d23_19 (d) [l0, some (.ref a), l2, l3, l4] st h).trans (rfl)
theorem x23_19n {d : Nat} {l0 l2 l3 l4 : Option Value} {st : List Value} {h : Hp} : ex (d) 23 19 [l0, some .null, l2, l3, l4] st h = ex d 23 20 [l0, some .null, l2, l3, l4] (.null :: st) h := (ex_of d23_19 (d) [l0, some .null, l2, l3, l4] st h).trans (rfl)
theorem x23_19q {d : Nat} {l0 l2 l3 l4 : Option Value} {st : List Value} {a : Option Nat} {h : Hp} : ex (d) 23 19 [l0, some (va_rf a), l2, l3, l4] st h = ex d 23 20 [l0, some (va_rf a), l2, l3, l4] (va_rf a :: st) h := (ex_of d23_19 (d) [l0, some (va_rf a), l2, l3, l4] st h).trans (by cases a <;> rfl)
theorem d23_20 : decode (mB 23) 20 = .ok (.if_acmp .ne 27, 3) := by decide +kernel
theorem x23_20 {d : Nat} {L : Lc} {st : List Value} {v w : Value} {h : Hp} (hv : isR v = true) (hw : isR w = true) : ex (d) 23 20 L (w :: v :: st) h = if ¬ v = w then ex d 23 47 L st h else ex d 23 23 L st h := (ex_of d23_20 (d) L (w :: v :: st) h).trans (fin_acmpN (off := 27) (tgt := 47) rfl hv hw (by decide))
theorem d23_23 : decode (mB 23) 23 = .ok (.aload_n 0, 1) := by decide +kernel
theorem x23_23 {d : Nat} {l1 l2 l3 l4 : Option Value} {st : List Value} {a : Nat} {h : Hp} : ex (d) 23 23 [some (.ref a), l1, l2, l3, l4] st h = ex d 23 24 [some (.ref a), l1, l2, l3, l4] (.ref a :: st) h := (ex_of d23_23 (d) [some (.ref a), l1, l2, l3, l4] st h).trans (rfl)
theorem d23_24 : decode (mB 23) 24 = .ok (.getfield 17, 3) := by decide +kernel
theorem x23_24 {d : Nat} {L : Lc} {st : List Value} {a : Nat} {h : Hp} (ht : (h.2.1 a).1 = 5) : ex (d) 23 24 L (.ref a :: st) h = ex d 23 27 L (h.1 a 1 :: st) h := (ex_of d23_24 (d) L (.ref a :: st) h).trans (fin_get (mi := 23) f5_17 (tg1 ht rfl))
theorem d23_27 : decode (mB 23) 27 = .ok (.iload 4, 2) := by decide +kernel
theorem x23_27 {d : Nat} {l0 l1 l2 l3 : Option Value} {st : List Value} {x : Int32} {h : Hp} : ex (d) 23 27 [l0, l1, l2, l3, some (.int x)] st h = ex d 23 29 [l0, l1, l2, l3, some (.int x)] (.int x :: st) h := (ex_of d23_27 (d) [l0, l1, l2, l3, some (.int x)] st h).trans (rfl)
theorem d23_29 : decode (mB 23) 29 = .ok (.iaload, 1) := by decide +kernel
theorem x23_29 {d : Nat} {L : Lc} {st : List Value} {a j : Nat} {h : Hp} (ht : (h.2.1 a).1 = 20) (hj : j < (h.2.1 a).2) (hb : j < 2147483648) : ex (d) 23 29 L (.int (nI j) :: .ref a :: st) h = ex d 23 30 L (h.1 a j :: st) h := (ex_of d23_29 (d) L (.int (nI j) :: .ref a :: st) h).trans (fin_iaload (Or.inl ht) hj hb)
theorem d23_30 : decode (mB 23) 30 = .ok (.iload_n 2, 1) := by decide +kernel
theorem x23_30 {d : Nat} {l0 l1 l3 l4 : Option Value} {st : List Value} {x : Int32} {h : Hp} : ex (d) 23 30 [l0, l1, some (.int x), l3, l4] st h = ex d 23 31 [l0, l1, some (.int x), l3, l4] (.int x :: st) h := (ex_of d23_30 (d) [l0, l1, some (.int x), l3, l4] st h).trans (rfl)
theorem d23_31 : decode (mB 23) 31 = .ok (.if_icmp .le 16, 3) := by decide +kernel
theorem x23_31 {d : Nat} {L : Lc} {st : List Value} {x y : Int32} {h : Hp} : ex (d) 23 31 L (.int y :: .int x :: st) h = if x ≤ y then ex d 23 47 L st h else ex d 23 34 L st h := (ex_of d23_31 (d) L (.int y :: .int x :: st) h).trans (fin_brq (off := 16) (tgt := 47) rfl (by decide))
theorem d23_34 : decode (mB 23) 34 = .ok (.aload_n 0, 1) := by decide +kernel
theorem x23_34 {d : Nat} {l1 l2 l3 l4 : Option Value} {st : List Value} {a : Nat} {h : Hp} : ex (d) 23 34 [some (.ref a), l1, l2, l3, l4] st h = ex d 23 35 [some (.ref a), l1, l2, l3, l4] (.ref a :: st) h := (ex_of d23_34 (d) [some (.ref a), l1, l2, l3, l4] st h).trans (rfl)
theorem d23_35 : decode (mB 23) 35 = .ok (.getfield 17, 3) := by decide +kernel
theorem x23_35 {d : Nat} {L : Lc} {st : List Value} {a : Nat} {h : Hp} (ht : (h.2.1 a).1 = 5) : ex (d) 23 35 L (.ref a :: st) h = ex d 23 38 L (h.1 a 1 :: st) h := (ex_of d23_35 (d) L (.ref a :: st) h).trans (fin_get (mi := 23) f5_17 (tg1 ht rfl))
theorem d23_38 : decode (mB 23) 38 = .ok (.iload 4, 2) := by decide +kernel
theorem x23_38 {d : Nat} {l0 l1 l2 l3 : Option Value} {st : List Value} {x : Int32} {h : Hp} : ex (d) 23 38 [l0, l1, l2, l3, some (.int x)] st h = ex d 23 40 [l0, l1, l2, l3, some (.int x)] (.int x :: st) h := (ex_of d23_38 (d) [l0, l1, l2, l3, some (.int x)] st h).trans (rfl)
theorem d23_40 : decode (mB 23) 40 = .ok (.iaload, 1) := by decide +kernel
theorem x23_40 {d : Nat} {L : Lc} {st : List Value} {a j : Nat} {h : Hp} (ht : (h.2.1 a).1 = 20) (hj : j < (h.2.1 a).2) (hb : j < 2147483648) : ex (d) 23 40 L (.int (nI j) :: .ref a :: st) h = ex d 23 41 L (h.1 a j :: st) h := (ex_of d23_40 (d) L (.int (nI j) :: .ref a :: st) h).trans (fin_iaload (Or.inl ht) hj hb)
theorem d23_41 : decode (mB 23) 41 = .ok (.iload_n 3, 1) := by decide +kernel
theorem x23_41 {d : Nat} {l0 l1 l2 l4 : Option Value} {st : List Value} {x : Int32} {h : Hp} : ex (d) 23 41 [l0, l1, l2, some (.int x), l4] st h = ex d 23 42 [l0, l1, l2, some (.int x), l4] (.int x :: st) h := (ex_of d23_41 (d) [l0, l1, l2, some (.int x), l4] st h).trans (rfl)
theorem d23_42 : decode (mB 23) 42 = .ok (.if_icmp .ge 5, 3) := by decide +kernel
theorem x23_42 {d : Nat} {L : Lc} {st : List Value} {x y : Int32} {h : Hp} : ex (d) 23 42 L (.int y :: .int x :: st) h = if y ≤ x then ex d 23 47 L st h else ex d 23 45 L st h := (ex_of d23_42 (d) L (.int y :: .int x :: st) h).trans (fin_brq (off := 5) (tgt := 47) rfl (by decide))
theorem d23_45 : decode (mB 23) 45 = .ok (.iconst 1, 1) := by decide +kernel
theorem x23_45 {d : Nat} {L : Lc} {st : List Value} {h : Hp} : ex (d) 23 45 L st h = ex d 23 46 L (.int (nI 1) :: st) h := (ex_of d23_45 (d) L st h).trans (rfl)
theorem d23_46 : decode (mB 23) 46 = .ok (.ireturn, 1) := by decide +kernel
theorem x23_46 {d : Nat} {L : Lc} {x : Int32} {h : Hp} (hx : x = 0 ∨ x = 1) : ex (d) 23 46 L [.int x] h = some (some (.int x), h) := (ex_of d23_46 (d) L [.int x] h).trans (fin_retb rfl hx)
theorem d23_47 : decode (mB 23) 47 = .ok (.iinc 4 1, 3) := by decide +kernel
theorem x23_47 {d : Nat} {l0 l1 l2 l3 : Option Value} {st : List Value} {x : Int32} {h : Hp} : ex (d) 23 47 [l0, l1, l2, l3, some (.int x)] st h = ex d 23 50 [l0, l1, l2, clr l3, some (.int (x + (nI 1)))] st h := (ex_of d23_47 (d) [l0, l1, l2, l3, some (.int x)] st h).trans (rfl)
theorem d23_50 : decode (mB 23) 50 = .ok (.goto (-47), 3) := by decide +kernel
theorem x23_50 {d : Nat} {L : Lc} {st : List Value} {h : Hp} : ex (d) 23 50 L st h = ex d 23 3 L st h := (ex_of d23_50 (d) L st h).trans (rfl)
theorem d23_53 : decode (mB 23) 53 = .ok (.iconst 0, 1) := by decide +kernel
theorem x23_53 {d : Nat} {L : Lc} {st : List Value} {h : Hp} : ex (d) 23 53 L st h = ex d 23 54 L (.int (nI 0) :: st) h := (ex_of d23_53 (d) L st h).trans (rfl)
theorem d23_54 : decode (mB 23) 54 = .ok (.ireturn, 1) := by decide +kernel
theorem x23_54 {d : Nat} {L : Lc} {x : Int32} {h : Hp} (hx : x = 0 ∨ x = 1) : ex (d) 23 54 L [.int x] h = some (some (.int x), h) := (ex_of d23_54 (d) L [.int x] h).trans (fin_retb rfl hx)
theorem d24_0 : decode (mB 24) 0 = .ok (.iconst 0, 1) := by decide +kernel
theorem x24_0 {d : Nat} {L : Lc} {st : List Value} {h : Hp} : ex (d) 24 0 L st h = ex d 24 1 L (.int (nI 0) :: st) h := (ex_of d24_0 (d) L st h).trans (rfl)
theorem d24_1 : decode (mB 24) 1 = .ok (.istore_n 3, 1) := by decide +kernel
theorem x24_1 {d : Nat} {l0 l1 l2 l3 l4 : Option Value} {st : List Value} {x : Int32} {h : Hp} : ex (d) 24 1 [l0, l1, l2, l3, l4] (.int x :: st) h = ex d 24 2 [l0, l1, clr l2, some (.int x), l4] st h := (ex_of d24_1 (d) [l0, l1, l2, l3, l4] (.int x :: st) h).trans (rfl)
theorem d24_2 : decode (mB 24) 2 = .ok (.iload_n 1, 1) := by decide +kernel
theorem x24_2 {d : Nat} {l0 l2 l3 l4 : Option Value} {st : List Value} {x : Int32} {h : Hp} : ex (d) 24 2 [l0, some (.int x), l2, l3, l4] st h = ex d 24 3 [l0, some (.int x), l2, l3, l4] (.int x :: st) h := (ex_of d24_2 (d) [l0, some (.int x), l2, l3, l4] st h).trans (rfl)
theorem d24_3 : decode (mB 24) 3 = .ok (.iconst 1, 1) := by decide +kernel
theorem x24_3 {d : Nat} {L : Lc} {st : List Value} {h : Hp} : ex (d) 24 3 L st h = ex d 24 4 L (.int (nI 1) :: st) h := (ex_of d24_3 (d) L st h).trans (rfl)
theorem d24_4 : decode (mB 24) 4 = .ok (.iadd, 1) := by decide +kernel
theorem x24_4 {d : Nat} {L : Lc} {st : List Value} {x y : Int32} {h : Hp} : ex (d) 24 4 L (.int y :: .int x :: st) h = ex d 24 5 L (.int (x + y) :: st) h := (ex_of d24_4 (d) L (.int y :: .int x :: st) h).trans (rfl)
theorem d24_5 : decode (mB 24) 5 = .ok (.istore 4, 2) := by decide +kernel
theorem x24_5 {d : Nat} {l0 l1 l2 l3 l4 : Option Value} {st : List Value} {x : Int32} {h : Hp} : ex (d) 24 5 [l0, l1, l2, l3, l4] (.int x :: st) h = ex d 24 7 [l0, l1, l2, clr l3, some (.int x)] st h := (ex_of d24_5 (d) [l0, l1, l2, l3, l4] (.int x :: st) h).trans (rfl)
theorem d24_7 : decode (mB 24) 7 = .ok (.iload 4, 2) := by decide +kernel
theorem x24_7 {d : Nat} {l0 l1 l2 l3 : Option Value} {st : List Value} {x : Int32} {h : Hp} : ex (d) 24 7 [l0, l1, l2, l3, some (.int x)] st h = ex d 24 9 [l0, l1, l2, l3, some (.int x)] (.int x :: st) h := (ex_of d24_7 (d) [l0, l1, l2, l3, some (.int x)] st h).trans (rfl)
theorem d24_9 : decode (mB 24) 9 = .ok (.iload_n 2, 1) := by decide +kernel
theorem x24_9 {d : Nat} {l0 l1 l3 l4 : Option Value} {st : List Value} {x : Int32} {h : Hp} : ex (d) 24 9 [l0, l1, some (.int x), l3, l4] st h = ex d 24 10 [l0, l1, some (.int x), l3, l4] (.int x :: st) h := (ex_of d24_9 (d) [l0, l1, some (.int x), l3, l4] st h).trans (rfl)
theorem d24_10 : decode (mB 24) 10 = .ok (.if_icmp .ge 26, 3) := by decide +kernel
theorem x24_10 {d : Nat} {L : Lc} {st : List Value} {x y : Int32} {h : Hp} : ex (d) 24 10 L (.int y :: .int x :: st) h = if y ≤ x then ex d 24 36 L st h else ex d 24 13 L st h := (ex_of d24_10 (d) L (.int y :: .int x :: st) h).trans (fin_brq (off := 26) (tgt := 36) rfl (by decide))
theorem d24_13 : decode (mB 24) 13 = .ok (.iload 4, 2) := by decide +kernel
theorem x24_13 {d : Nat} {l0 l1 l2 l3 : Option Value} {st : List Value} {x : Int32} {h : Hp} : ex (d) 24 13 [l0, l1, l2, l3, some (.int x)] st h = ex d 24 15 [l0, l1, l2, l3, some (.int x)] (.int x :: st) h := (ex_of d24_13 (d) [l0, l1, l2, l3, some (.int x)] st h).trans (rfl)
theorem d24_15 : decode (mB 24) 15 = .ok (.bipush 10, 2) := by decide +kernel
theorem x24_15 {d : Nat} {L : Lc} {st : List Value} {h : Hp} : ex (d) 24 15 L st h = ex d 24 17 L (.int (nI 10) :: st) h := (ex_of d24_15 (d) L st h).trans (rfl)
theorem d24_17 : decode (mB 24) 17 = .ok (.if_icmp .ge 19, 3) := by decide +kernel
theorem x24_17 {d : Nat} {L : Lc} {st : List Value} {x y : Int32} {h : Hp} : ex (d) 24 17 L (.int y :: .int x :: st) h = if y ≤ x then ex d 24 36 L st h else ex d 24 20 L st h := (ex_of d24_17 (d) L (.int y :: .int x :: st) h).trans (fin_brq (off := 19) (tgt := 36) rfl (by decide))
theorem d24_20 : decode (mB 24) 20 = .ok (.iload_n 3, 1) := by decide +kernel
theorem x24_20 {d : Nat} {l0 l1 l2 l4 : Option Value} {st : List Value} {x : Int32} {h : Hp} : ex (d) 24 20 [l0, l1, l2, some (.int x), l4] st h = ex d 24 21 [l0, l1, l2, some (.int x), l4] (.int x :: st) h := (ex_of d24_20 (d) [l0, l1, l2, some (.int x), l4] st h).trans (rfl)
theorem d24_21 : decode (mB 24) 21 = .ok (.aload_n 0, 1) := by decide +kernel
theorem x24_21 {d : Nat} {l1 l2 l3 l4 : Option Value} {st : List Value} {a : Nat} {h : Hp} : ex (d) 24 21 [some (.ref a), l1, l2, l3, l4] st h = ex d 24 22 [some (.ref a), l1, l2, l3, l4] (.ref a :: st) h := (ex_of d24_21 (d) [some (.ref a), l1, l2, l3, l4] st h).trans (rfl)
theorem d24_22 : decode (mB 24) 22 = .ok (.getfield 21, 3) := by decide +kernel
theorem x24_22 {d : Nat} {L : Lc} {st : List Value} {a : Nat} {h : Hp} (ht : (h.2.1 a).1 = 5) : ex (d) 24 22 L (.ref a :: st) h = ex d 24 25 L (h.1 a 3 :: st) h := (ex_of d24_22 (d) L (.ref a :: st) h).trans (fin_get (mi := 24) f5_21 (tg1 ht rfl))
theorem d24_25 : decode (mB 24) 25 = .ok (.iload 4, 2) := by decide +kernel
theorem x24_25 {d : Nat} {l0 l1 l2 l3 : Option Value} {st : List Value} {x : Int32} {h : Hp} : ex (d) 24 25 [l0, l1, l2, l3, some (.int x)] st h = ex d 24 27 [l0, l1, l2, l3, some (.int x)] (.int x :: st) h := (ex_of d24_25 (d) [l0, l1, l2, l3, some (.int x)] st h).trans (rfl)
theorem d24_27 : decode (mB 24) 27 = .ok (.iaload, 1) := by decide +kernel
theorem x24_27 {d : Nat} {L : Lc} {st : List Value} {a j : Nat} {h : Hp} (ht : (h.2.1 a).1 = 20) (hj : j < (h.2.1 a).2) (hb : j < 2147483648) : ex (d) 24 27 L (.int (nI j) :: .ref a :: st) h = ex d 24 28 L (h.1 a j :: st) h := (ex_of d24_27 (d) L (.int (nI j) :: .ref a :: st) h).trans (fin_iaload (Or.inl ht) hj hb)
theorem d24_28 : decode (mB 24) 28 = .ok (.iadd, 1) := by decide +kernel
theorem x24_28 {d : Nat} {L : Lc} {st : List Value} {x y : Int32} {h : Hp} : ex (d) 24 28 L (.int y :: .int x :: st) h = ex d 24 29 L (.int (x + y) :: st) h := (ex_of d24_28 (d) L (.int y :: .int x :: st) h).trans (rfl)
theorem d24_29 : decode (mB 24) 29 = .ok (.istore_n 3, 1) := by decide +kernel
theorem x24_29 {d : Nat} {l0 l1 l2 l3 l4 : Option Value} {st : List Value} {x : Int32} {h : Hp} : ex (d) 24 29 [l0, l1, l2, l3, l4] (.int x :: st) h = ex d 24 30 [l0, l1, clr l2, some (.int x), l4] st h := (ex_of d24_29 (d) [l0, l1, l2, l3, l4] (.int x :: st) h).trans (rfl)
theorem d24_30 : decode (mB 24) 30 = .ok (.iinc 4 1, 3) := by decide +kernel
theorem x24_30 {d : Nat} {l0 l1 l2 l3 : Option Value} {st : List Value} {x : Int32} {h : Hp} : ex (d) 24 30 [l0, l1, l2, l3, some (.int x)] st h = ex d 24 33 [l0, l1, l2, clr l3, some (.int (x + (nI 1)))] st h := (ex_of d24_30 (d) [l0, l1, l2, l3, some (.int x)] st h).trans (rfl)
theorem d24_33 : decode (mB 24) 33 = .ok (.goto (-26), 3) := by decide +kernel
theorem x24_33 {d : Nat} {L : Lc} {st : List Value} {h : Hp} : ex (d) 24 33 L st h = ex d 24 7 L st h := (ex_of d24_33 (d) L st h).trans (rfl)
theorem d24_36 : decode (mB 24) 36 = .ok (.iload_n 3, 1) := by decide +kernel
theorem x24_36 {d : Nat} {l0 l1 l2 l4 : Option Value} {st : List Value} {x : Int32} {h : Hp} : ex (d) 24 36 [l0, l1, l2, some (.int x), l4] st h = ex d 24 37 [l0, l1, l2, some (.int x), l4] (.int x :: st) h := (ex_of d24_36 (d) [l0, l1, l2, some (.int x), l4] st h).trans (rfl)
theorem d24_37 : decode (mB 24) 37 = .ok (.ireturn, 1) := by decide +kernel
theorem x24_37 {d : Nat} {L : Lc} {x : Int32} {h : Hp} : ex (d) 24 37 L [.int x] h = some (some (.int x), h) := (ex_of d24_37 (d) L [.int x] h).trans (rfl)
theorem d25_0 : decode (mB 25) 0 = .ok (.iconst 0, 1) := by decide +kernel
theorem x25_0 {d : Nat} {L : Lc} {st : List Value} {h : Hp} : ex (d) 25 0 L st h = ex d 25 1 L (.int (nI 0) :: st) h := (ex_of d25_0 (d) L st h).trans (rfl)
theorem d25_1 : decode (mB 25) 1 = .ok (.istore_n 1, 1) := by decide +kernel
theorem x25_1 {d : Nat} {l0 l1 l2 l3 : Option Value} {st : List Value} {x : Int32} {h : Hp} : ex (d) 25 1 [l0, l1, l2, l3] (.int x :: st) h = ex d 25 2 [clr l0, some (.int x), l2, l3] st h := (ex_of d25_1 (d) [l0, l1, l2, l3] (.int x :: st) h).trans (rfl)
theorem d25_2 : decode (mB 25) 2 = .ok (.iload_n 1, 1) := by decide +kernel
theorem x25_2 {d : Nat} {l0 l2 l3 : Option Value} {st : List Value} {x : Int32} {h : Hp} : ex (d) 25 2 [l0, some (.int x), l2, l3] st h = ex d 25 3 [l0, some (.int x), l2, l3] (.int x :: st) h := (ex_of d25_2 (d) [l0, some (.int x), l2, l3] st h).trans (rfl)
theorem d25_3 : decode (mB 25) 3 = .ok (.aload_n 0, 1) := by decide +kernel
theorem x25_3 {d : Nat} {l1 l2 l3 : Option Value} {st : List Value} {a : Nat} {h : Hp} : ex (d) 25 3 [some (.ref a), l1, l2, l3] st h = ex d 25 4 [some (.ref a), l1, l2, l3] (.ref a :: st) h := (ex_of d25_3 (d) [some (.ref a), l1, l2, l3] st h).trans (rfl)
theorem d25_4 : decode (mB 25) 4 = .ok (.getfield 62, 3) := by decide +kernel
theorem x25_4 {d : Nat} {L : Lc} {st : List Value} {a : Nat} {h : Hp} (ht : (h.2.1 a).1 = 5) : ex (d) 25 4 L (.ref a :: st) h = ex d 25 7 L (h.1 a 2 :: st) h := (ex_of d25_4 (d) L (.ref a :: st) h).trans (fin_get (mi := 25) f5_62 (tg1 ht rfl))
theorem d25_7 : decode (mB 25) 7 = .ok (.if_icmp .ge 16, 3) := by decide +kernel
theorem x25_7 {d : Nat} {L : Lc} {st : List Value} {x y : Int32} {h : Hp} : ex (d) 25 7 L (.int y :: .int x :: st) h = if y ≤ x then ex d 25 23 L st h else ex d 25 10 L st h := (ex_of d25_7 (d) L (.int y :: .int x :: st) h).trans (fin_brq (off := 16) (tgt := 23) rfl (by decide))
theorem d25_10 : decode (mB 25) 10 = .ok (.aload_n 0, 1) := by decide +kernel
theorem x25_10 {d : Nat} {l1 l2 l3 : Option Value} {st : List Value} {a : Nat} {h : Hp} : ex (d) 25 10 [some (.ref a), l1, l2, l3] st h = ex d 25 11 [some (.ref a), l1, l2, l3] (.ref a :: st) h := (ex_of d25_10 (d) [some (.ref a), l1, l2, l3] st h).trans (rfl)
theorem d25_11 : decode (mB 25) 11 = .ok (.getfield 47, 3) := by decide +kernel
theorem x25_11 {d : Nat} {L : Lc} {st : List Value} {a : Nat} {h : Hp} (ht : (h.2.1 a).1 = 5) : ex (d) 25 11 L (.ref a :: st) h = ex d 25 14 L (h.1 a 11 :: st) h := (ex_of d25_11 (d) L (.ref a :: st) h).trans (fin_get (mi := 25) f5_47 (tg1 ht rfl))
theorem d25_14 : decode (mB 25) 14 = .ok (.iload_n 1, 1) := by decide +kernel
theorem x25_14 {d : Nat} {l0 l2 l3 : Option Value} {st : List Value} {x : Int32} {h : Hp} : ex (d) 25 14 [l0, some (.int x), l2, l3] st h = ex d 25 15 [l0, some (.int x), l2, l3] (.int x :: st) h := (ex_of d25_14 (d) [l0, some (.int x), l2, l3] st h).trans (rfl)
theorem d25_15 : decode (mB 25) 15 = .ok (.iload_n 1, 1) := by decide +kernel
theorem x25_15 {d : Nat} {l0 l2 l3 : Option Value} {st : List Value} {x : Int32} {h : Hp} : ex (d) 25 15 [l0, some (.int x), l2, l3] st h = ex d 25 16 [l0, some (.int x), l2, l3] (.int x :: st) h := (ex_of d25_15 (d) [l0, some (.int x), l2, l3] st h).trans (rfl)
theorem d25_16 : decode (mB 25) 16 = .ok (.iastore, 1) := by decide +kernel
theorem x25_16 {d : Nat} {L : Lc} {st : List Value} {a j : Nat} {x : Int32} {h : Hp} (ht : (h.2.1 a).1 = 20) (hj : j < (h.2.1 a).2) (hb : j < 2147483648) : ex (d) 25 16 L (.int x :: .int (nI j) :: .ref a :: st) h = ex d 25 17 L st (mup h.1 a j (.int x), h.2) := (ex_of d25_16 (d) L (.int x :: .int (nI j) :: .ref a :: st) h).trans (fin_iastore ht hj hb)
theorem d25_17 : decode (mB 25) 17 = .ok (.iinc 1 1, 3) := by decide +kernel
theorem x25_17 {d : Nat} {l0 l2 l3 : Option Value} {st : List Value} {x : Int32} {h : Hp} : ex (d) 25 17 [l0, some (.int x), l2, l3] st h = ex d 25 20 [clr l0, some (.int (x + (nI 1))), l2, l3] st h := (ex_of d25_17 (d) [l0, some (.int x), l2, l3] st h).trans (rfl)
theorem d25_20 : decode (mB 25) 20 = .ok (.goto (-18), 3) := by decide +kernel
theorem x25_20 {d : Nat} {L : Lc} {st : List Value} {h : Hp} : ex (d) 25 20 L st h = ex d 25 2 L st h := (ex_of d25_20 (d) L st h).trans (rfl)
theorem d25_23 : decode (mB 25) 23 = .ok (.iconst 0, 1) := by decide +kernel
theorem x25_23 {d : Nat} {L : Lc} {st : List Value} {h : Hp} : ex (d) 25 23 L st h = ex d 25 24 L (.int (nI 0) :: st) h := (ex_of d25_23 (d) L st h).trans (rfl)
theorem d25_24 : decode (mB 25) 24 = .ok (.istore_n 1, 1) := by decide +kernel
theorem x25_24 {d : Nat} {l0 l1 l2 l3 : Option Value} {st : List Value} {x : Int32} {h : Hp} : ex (d) 25 24 [l0, l1, l2, l3] (.int x :: st) h = ex d 25 25 [clr l0, some (.int x), l2, l3] st h := (ex_of d25_24 (d) [l0, l1, l2, l3] (.int x :: st) h).trans (rfl)
theorem d25_25 : decode (mB 25) 25 = .ok (.iload_n 1, 1) := by decide +kernel
theorem x25_25 {d : Nat} {l0 l2 l3 : Option Value} {st : List Value} {x : Int32} {h : Hp} : ex (d) 25 25 [l0, some (.int x), l2, l3] st h = ex d 25 26 [l0, some (.int x), l2, l3] (.int x :: st) h := (ex_of d25_25 (d) [l0, some (.int x), l2, l3] st h).trans (rfl)
theorem d25_26 : decode (mB 25) 26 = .ok (.aload_n 0, 1) := by decide +kernel
theorem x25_26 {d : Nat} {l1 l2 l3 : Option Value} {st : List Value} {a : Nat} {h : Hp} : ex (d) 25 26 [some (.ref a), l1, l2, l3] st h = ex d 25 27 [some (.ref a), l1, l2, l3] (.ref a :: st) h := (ex_of d25_26 (d) [some (.ref a), l1, l2, l3] st h).trans (rfl)
theorem d25_27 : decode (mB 25) 27 = .ok (.getfield 62, 3) := by decide +kernel
theorem x25_27 {d : Nat} {L : Lc} {st : List Value} {a : Nat} {h : Hp} (ht : (h.2.1 a).1 = 5) : ex (d) 25 27 L (.ref a :: st) h = ex d 25 30 L (h.1 a 2 :: st) h := (ex_of d25_27 (d) L (.ref a :: st) h).trans (fin_get (mi := 25) f5_62 (tg1 ht rfl))
theorem d25_30 : decode (mB 25) 30 = .ok (.if_icmp .ge 64, 3) := by decide +kernel
theorem x25_30 {d : Nat} {L : Lc} {st : List Value} {x y : Int32} {h : Hp} : ex (d) 25 30 L (.int y :: .int x :: st) h = if y ≤ x then ex d 25 94 L st h else ex d 25 33 L st h := (ex_of d25_30 (d) L (.int y :: .int x :: st) h).trans (fin_brq (off := 64) (tgt := 94) rfl (by decide))
theorem d25_33 : decode (mB 25) 33 = .ok (.iconst 0, 1) := by decide +kernel
theorem x25_33 {d : Nat} {L : Lc} {st : List Value} {h : Hp} : ex (d) 25 33 L st h = ex d 25 34 L (.int (nI 0) :: st) h := (ex_of d25_33 (d) L st h).trans (rfl)
theorem d25_34 : decode (mB 25) 34 = .ok (.istore_n 2, 1) := by decide +kernel
theorem x25_34 {d : Nat} {l0 l1 l2 l3 : Option Value} {st : List Value} {x : Int32} {h : Hp} : ex (d) 25 34 [l0, l1, l2, l3] (.int x :: st) h = ex d 25 35 [l0, clr l1, some (.int x), l3] st h := (ex_of d25_34 (d) [l0, l1, l2, l3] (.int x :: st) h).trans (rfl)
theorem d25_35 : decode (mB 25) 35 = .ok (.iload_n 2, 1) := by decide +kernel
theorem x25_35 {d : Nat} {l0 l1 l3 : Option Value} {st : List Value} {x : Int32} {h : Hp} : ex (d) 25 35 [l0, l1, some (.int x), l3] st h = ex d 25 36 [l0, l1, some (.int x), l3] (.int x :: st) h := (ex_of d25_35 (d) [l0, l1, some (.int x), l3] st h).trans (rfl)
theorem d25_36 : decode (mB 25) 36 = .ok (.iload_n 1, 1) := by decide +kernel
theorem x25_36 {d : Nat} {l0 l2 l3 : Option Value} {st : List Value} {x : Int32} {h : Hp} : ex (d) 25 36 [l0, some (.int x), l2, l3] st h = ex d 25 37 [l0, some (.int x), l2, l3] (.int x :: st) h := (ex_of d25_36 (d) [l0, some (.int x), l2, l3] st h).trans (rfl)
theorem d25_37 : decode (mB 25) 37 = .ok (.if_icmp .ge 51, 3) := by decide +kernel
theorem x25_37 {d : Nat} {L : Lc} {st : List Value} {x y : Int32} {h : Hp} : ex (d) 25 37 L (.int y :: .int x :: st) h = if y ≤ x then ex d 25 88 L st h else ex d 25 40 L st h := (ex_of d25_37 (d) L (.int y :: .int x :: st) h).trans (fin_brq (off := 51) (tgt := 88) rfl (by decide))
theorem d25_40 : decode (mB 25) 40 = .ok (.aload_n 0, 1) := by decide +kernel
theorem x25_40 {d : Nat} {l1 l2 l3 : Option Value} {st : List Value} {a : Nat} {h : Hp} : ex (d) 25 40 [some (.ref a), l1, l2, l3] st h = ex d 25 41 [some (.ref a), l1, l2, l3] (.ref a :: st) h := (ex_of d25_40 (d) [some (.ref a), l1, l2, l3] st h).trans (rfl)
theorem d25_41 : decode (mB 25) 41 = .ok (.getfield 17, 3) := by decide +kernel
theorem x25_41 {d : Nat} {L : Lc} {st : List Value} {a : Nat} {h : Hp} (ht : (h.2.1 a).1 = 5) : ex (d) 25 41 L (.ref a :: st) h = ex d 25 44 L (h.1 a 1 :: st) h := (ex_of d25_41 (d) L (.ref a :: st) h).trans (fin_get (mi := 25) f5_17 (tg1 ht rfl))
theorem d25_44 : decode (mB 25) 44 = .ok (.iload_n 1, 1) := by decide +kernel
theorem x25_44 {d : Nat} {l0 l2 l3 : Option Value} {st : List Value} {x : Int32} {h : Hp} : ex (d) 25 44 [l0, some (.int x), l2, l3] st h = ex d 25 45 [l0, some (.int x), l2, l3] (.int x :: st) h := (ex_of d25_44 (d) [l0, some (.int x), l2, l3] st h).trans (rfl)
theorem d25_45 : decode (mB 25) 45 = .ok (.iaload, 1) := by decide +kernel
theorem x25_45 {d : Nat} {L : Lc} {st : List Value} {a j : Nat} {h : Hp} (ht : (h.2.1 a).1 = 20) (hj : j < (h.2.1 a).2) (hb : j < 2147483648) : ex (d) 25 45 L (.int (nI j) :: .ref a :: st) h = ex d 25 46 L (h.1 a j :: st) h := (ex_of d25_45 (d) L (.int (nI j) :: .ref a :: st) h).trans (fin_iaload (Or.inl ht) hj hb)
theorem d25_46 : decode (mB 25) 46 = .ok (.aload_n 0, 1) := by decide +kernel
theorem x25_46 {d : Nat} {l1 l2 l3 : Option Value} {st : List Value} {a : Nat} {h : Hp} : ex (d) 25 46 [some (.ref a), l1, l2, l3] st h = ex d 25 47 [some (.ref a), l1, l2, l3] (.ref a :: st) h := (ex_of d25_46 (d) [some (.ref a), l1, l2, l3] st h).trans (rfl)
theorem d25_47 : decode (mB 25) 47 = .ok (.getfield 17, 3) := by decide +kernel
theorem x25_47 {d : Nat} {L : Lc} {st : List Value} {a : Nat} {h : Hp} (ht : (h.2.1 a).1 = 5) : ex (d) 25 47 L (.ref a :: st) h = ex d 25 50 L (h.1 a 1 :: st) h := (ex_of d25_47 (d) L (.ref a :: st) h).trans (fin_get (mi := 25) f5_17 (tg1 ht rfl))
theorem d25_50 : decode (mB 25) 50 = .ok (.iload_n 2, 1) := by decide +kernel
theorem x25_50 {d : Nat} {l0 l1 l3 : Option Value} {st : List Value} {x : Int32} {h : Hp} : ex (d) 25 50 [l0, l1, some (.int x), l3] st h = ex d 25 51 [l0, l1, some (.int x), l3] (.int x :: st) h := (ex_of d25_50 (d) [l0, l1, some (.int x), l3] st h).trans (rfl)
theorem d25_51 : decode (mB 25) 51 = .ok (.iaload, 1) := by decide +kernel
theorem x25_51 {d : Nat} {L : Lc} {st : List Value} {a j : Nat} {h : Hp} (ht : (h.2.1 a).1 = 20) (hj : j < (h.2.1 a).2) (hb : j < 2147483648) : ex (d) 25 51 L (.int (nI j) :: .ref a :: st) h = ex d 25 52 L (h.1 a j :: st) h := (ex_of d25_51 (d) L (.int (nI j) :: .ref a :: st) h).trans (fin_iaload (Or.inl ht) hj hb)
theorem d25_52 : decode (mB 25) 52 = .ok (.if_icmp .eq 14, 3) := by decide +kernel
theorem x25_52 {d : Nat} {L : Lc} {st : List Value} {x y : Int32} {h : Hp} : ex (d) 25 52 L (.int y :: .int x :: st) h = if x = y then ex d 25 66 L st h else ex d 25 55 L st h := (ex_of d25_52 (d) L (.int y :: .int x :: st) h).trans (fin_brq (off := 14) (tgt := 66) rfl (by decide))
theorem d25_55 : decode (mB 25) 55 = .ok (.aload_n 0, 1) := by decide +kernel
theorem x25_55 {d : Nat} {l1 l2 l3 : Option Value} {st : List Value} {a : Nat} {h : Hp} : ex (d) 25 55 [some (.ref a), l1, l2, l3] st h = ex d 25 56 [some (.ref a), l1, l2, l3] (.ref a :: st) h := (ex_of d25_55 (d) [some (.ref a), l1, l2, l3] st h).trans (rfl)
theorem d25_56 : decode (mB 25) 56 = .ok (.getfield 44, 3) := by decide +kernel
theorem x25_56 {d : Nat} {L : Lc} {st : List Value} {a : Nat} {h : Hp} (ht : (h.2.1 a).1 = 5) : ex (d) 25 56 L (.ref a :: st) h = ex d 25 59 L (h.1 a 10 :: st) h := (ex_of d25_56 (d) L (.ref a :: st) h).trans (fin_get (mi := 25) f5_44 (tg1 ht rfl))
theorem d25_59 : decode (mB 25) 59 = .ok (.iload_n 1, 1) := by decide +kernel
theorem x25_59 {d : Nat} {l0 l2 l3 : Option Value} {st : List Value} {x : Int32} {h : Hp} : ex (d) 25 59 [l0, some (.int x), l2, l3] st h = ex d 25 60 [l0, some (.int x), l2, l3] (.int x :: st) h := (ex_of d25_59 (d) [l0, some (.int x), l2, l3] st h).trans (rfl)
theorem d25_60 : decode (mB 25) 60 = .ok (.aaload, 1) := by decide +kernel
theorem x25_60 {d : Nat} {L : Lc} {st : List Value} {a j : Nat} {h : Hp} (ht : 21 ≤ (h.2.1 a).1 ∧ (h.2.1 a).1 ≤ 26) (hj : j < (h.2.1 a).2) (hb : j < 2147483648) : ex (d) 25 60 L (.int (nI j) :: .ref a :: st) h = ex d 25 61 L (h.1 a j :: st) h := (ex_of d25_60 (d) L (.int (nI j) :: .ref a :: st) h).trans (fin_aaload ht hj hb)
theorem d25_61 : decode (mB 25) 61 = .ok (.iload_n 2, 1) := by decide +kernel
theorem x25_61 {d : Nat} {l0 l1 l3 : Option Value} {st : List Value} {x : Int32} {h : Hp} : ex (d) 25 61 [l0, l1, some (.int x), l3] st h = ex d 25 62 [l0, l1, some (.int x), l3] (.int x :: st) h := (ex_of d25_61 (d) [l0, l1, some (.int x), l3] st h).trans (rfl)
theorem d25_62 : decode (mB 25) 62 = .ok (.iaload, 1) := by decide +kernel
theorem x25_62 {d : Nat} {L : Lc} {st : List Value} {a j : Nat} {h : Hp} (ht : (h.2.1 a).1 = 20) (hj : j < (h.2.1 a).2) (hb : j < 2147483648) : ex (d) 25 62 L (.int (nI j) :: .ref a :: st) h = ex d 25 63 L (h.1 a j :: st) h := (ex_of d25_62 (d) L (.int (nI j) :: .ref a :: st) h).trans (fin_iaload (Or.inl ht) hj hb)
theorem d25_63 : decode (mB 25) 63 = .ok (.ifCond .lt 19, 3) := by decide +kernel
theorem x25_63 {d : Nat} {L : Lc} {st : List Value} {x : Int32} {h : Hp} : ex (d) 25 63 L (.int x :: st) h = if x < 0 then ex d 25 82 L st h else ex d 25 66 L st h := (ex_of d25_63 (d) L (.int x :: st) h).trans (fin_brq (off := 19) (tgt := 82) rfl (by decide))
theorem d25_66 : decode (mB 25) 66 = .ok (.aload_n 0, 1) := by decide +kernel
theorem x25_66 {d : Nat} {l1 l2 l3 : Option Value} {st : List Value} {a : Nat} {h : Hp} : ex (d) 25 66 [some (.ref a), l1, l2, l3] st h = ex d 25 67 [some (.ref a), l1, l2, l3] (.ref a :: st) h := (ex_of d25_66 (d) [some (.ref a), l1, l2, l3] st h).trans (rfl)
theorem d25_67 : decode (mB 25) 67 = .ok (.aload_n 0, 1) := by decide +kernel
theorem x25_67 {d : Nat} {l1 l2 l3 : Option Value} {st : List Value} {a : Nat} {h : Hp} : ex (d) 25 67 [some (.ref a), l1, l2, l3] st h = ex d 25 68 [some (.ref a), l1, l2, l3] (.ref a :: st) h := (ex_of d25_67 (d) [some (.ref a), l1, l2, l3] st h).trans (rfl)
theorem d25_68 : decode (mB 25) 68 = .ok (.getfield 47, 3) := by decide +kernel
theorem x25_68 {d : Nat} {L : Lc} {st : List Value} {a : Nat} {h : Hp} (ht : (h.2.1 a).1 = 5) : ex (d) 25 68 L (.ref a :: st) h = ex d 25 71 L (h.1 a 11 :: st) h := (ex_of d25_68 (d) L (.ref a :: st) h).trans (fin_get (mi := 25) f5_47 (tg1 ht rfl))
theorem d25_71 : decode (mB 25) 71 = .ok (.iload_n 1, 1) := by decide +kernel
theorem x25_71 {d : Nat} {l0 l2 l3 : Option Value} {st : List Value} {x : Int32} {h : Hp} : ex (d) 25 71 [l0, some (.int x), l2, l3] st h = ex d 25 72 [l0, some (.int x), l2, l3] (.int x :: st) h := (ex_of d25_71 (d) [l0, some (.int x), l2, l3] st h).trans (rfl)
theorem d25_72 : decode (mB 25) 72 = .ok (.iaload, 1) := by decide +kernel
theorem x25_72 {d : Nat} {L : Lc} {st : List Value} {a j : Nat} {h : Hp} (ht : (h.2.1 a).1 = 20) (hj : j < (h.2.1 a).2) (hb : j < 2147483648) : ex (d) 25 72 L (.int (nI j) :: .ref a :: st) h = ex d 25 73 L (h.1 a j :: st) h := (ex_of d25_72 (d) L (.int (nI j) :: .ref a :: st) h).trans (fin_iaload (Or.inl ht) hj hb)
theorem d25_73 : decode (mB 25) 73 = .ok (.aload_n 0, 1) := by decide +kernel
theorem x25_73 {d : Nat} {l1 l2 l3 : Option Value} {st : List Value} {a : Nat} {h : Hp} : ex (d) 25 73 [some (.ref a), l1, l2, l3] st h = ex d 25 74 [some (.ref a), l1, l2, l3] (.ref a :: st) h := (ex_of d25_73 (d) [some (.ref a), l1, l2, l3] st h).trans (rfl)
theorem d25_74 : decode (mB 25) 74 = .ok (.getfield 47, 3) := by decide +kernel
theorem x25_74 {d : Nat} {L : Lc} {st : List Value} {a : Nat} {h : Hp} (ht : (h.2.1 a).1 = 5) : ex (d) 25 74 L (.ref a :: st) h = ex d 25 77 L (h.1 a 11 :: st) h := (ex_of d25_74 (d) L (.ref a :: st) h).trans (fin_get (mi := 25) f5_47 (tg1 ht rfl))
theorem d25_77 : decode (mB 25) 77 = .ok (.iload_n 2, 1) := by decide +kernel
theorem x25_77 {d : Nat} {l0 l1 l3 : Option Value} {st : List Value} {x : Int32} {h : Hp} : ex (d) 25 77 [l0, l1, some (.int x), l3] st h = ex d 25 78 [l0, l1, some (.int x), l3] (.int x :: st) h := (ex_of d25_77 (d) [l0, l1, some (.int x), l3] st h).trans (rfl)
theorem d25_78 : decode (mB 25) 78 = .ok (.iaload, 1) := by decide +kernel
theorem x25_78 {d : Nat} {L : Lc} {st : List Value} {a j : Nat} {h : Hp} (ht : (h.2.1 a).1 = 20) (hj : j < (h.2.1 a).2) (hb : j < 2147483648) : ex (d) 25 78 L (.int (nI j) :: .ref a :: st) h = ex d 25 79 L (h.1 a j :: st) h := (ex_of d25_78 (d) L (.int (nI j) :: .ref a :: st) h).trans (fin_iaload (Or.inl ht) hj hb)
theorem d25_79 : decode (mB 25) 79 = .ok (.invokevirtual 136, 3) := by decide +kernel
theorem x25_79 {d : Nat} {L : Lc} {a : Nat} {v0 : Int32} {v1 : Int32} {h : Hp} (ht : (h.2.1 a).1 = 5) : ex (d + 1) 25 79 L (.int v1 :: .int v0 :: .ref a :: []) h = bnd (ex d 26 0 [some (.ref a), some (.int v0), some (.int v1), none] [] h) (fun v h' => ex (d + 1) 25 82 L (v.toList ++ []) h') := (ex_of d25_79 (d + 1) L (.int v1 :: .int v0 :: .ref a :: []) h).trans (fin_vi (mi := 25) i5_136 ht rfl rfl (by simp [cat1_i, cat1_r]) (by simp) (Nat.le_of_ble_eq_true rfl))
theorem d25_82 : decode (mB 25) 82 = .ok (.iinc 2 1, 3) := by decide +kernel
theorem x25_82 {d : Nat} {l0 l1 l3 : Option Value} {st : List Value} {x : Int32} {h : Hp} : ex (d) 25 82 [l0, l1, some (.int x), l3] st h = ex d 25 85 [l0, clr l1, some (.int (x + (nI 1))), l3] st h := (ex_of d25_82 (d) [l0, l1, some (.int x), l3] st h).trans (rfl)
theorem d25_85 : decode (mB 25) 85 = .ok (.goto (-50), 3) := by decide +kernel
theorem x25_85 {d : Nat} {L : Lc} {st : List Value} {h : Hp} : ex (d) 25 85 L st h = ex d 25 35 L st h := (ex_of d25_85 (d) L st h).trans (rfl)
theorem d25_88 : decode (mB 25) 88 = .ok (.iinc 1 1, 3) := by decide +kernel
theorem x25_88 {d : Nat} {l0 l2 l3 : Option Value} {st : List Value} {x : Int32} {h : Hp} : ex (d) 25 88 [l0, some (.int x), l2, l3] st h = ex d 25 91 [clr l0, some (.int (x + (nI 1))), l2, l3] st h := (ex_of d25_88 (d) [l0, some (.int x), l2, l3] st h).trans (rfl)
theorem d25_91 : decode (mB 25) 91 = .ok (.goto (-66), 3) := by decide +kernel
theorem x25_91 {d : Nat} {L : Lc} {st : List Value} {h : Hp} : ex (d) 25 91 L st h = ex d 25 25 L st h := (ex_of d25_91 (d) L st h).trans (rfl)
theorem d25_94 : decode (mB 25) 94 = .ok (.iconst 0, 1) := by decide +kernel
theorem x25_94 {d : Nat} {L : Lc} {st : List Value} {h : Hp} : ex (d) 25 94 L st h = ex d 25 95 L (.int (nI 0) :: st) h := (ex_of d25_94 (d) L st h).trans (rfl)
theorem d25_95 : decode (mB 25) 95 = .ok (.istore_n 1, 1) := by decide +kernel
theorem x25_95 {d : Nat} {l0 l1 l2 l3 : Option Value} {st : List Value} {x : Int32} {h : Hp} : ex (d) 25 95 [l0, l1, l2, l3] (.int x :: st) h = ex d 25 96 [clr l0, some (.int x), l2, l3] st h := (ex_of d25_95 (d) [l0, l1, l2, l3] (.int x :: st) h).trans (rfl)
theorem d25_96 : decode (mB 25) 96 = .ok (.iconst 0, 1) := by decide +kernel
theorem x25_96 {d : Nat} {L : Lc} {st : List Value} {h : Hp} : ex (d) 25 96 L st h = ex d 25 97 L (.int (nI 0) :: st) h := (ex_of d25_96 (d) L st h).trans (rfl)
theorem d25_97 : decode (mB 25) 97 = .ok (.istore_n 2, 1) := by decide +kernel
theorem x25_97 {d : Nat} {l0 l1 l2 l3 : Option Value} {st : List Value} {x : Int32} {h : Hp} : ex (d) 25 97 [l0, l1, l2, l3] (.int x :: st) h = ex d 25 98 [l0, clr l1, some (.int x), l3] st h := (ex_of d25_97 (d) [l0, l1, l2, l3] (.int x :: st) h).trans (rfl)
theorem d25_98 : decode (mB 25) 98 = .ok (.iload_n 2, 1) := by decide +kernel
theorem x25_98 {d : Nat} {l0 l1 l3 : Option Value} {st : List Value} {x : Int32} {h : Hp} : ex (d) 25 98 [l0, l1, some (.int x), l3] st h = ex d 25 99 [l0, l1, some (.int x), l3] (.int x :: st) h := (ex_of d25_98 (d) [l0, l1, some (.int x), l3] st h).trans (rfl)
theorem d25_99 : decode (mB 25) 99 = .ok (.aload_n 0, 1) := by decide +kernel
theorem x25_99 {d : Nat} {l1 l2 l3 : Option Value} {st : List Value} {a : Nat} {h : Hp} : ex (d) 25 99 [some (.ref a), l1, l2, l3] st h = ex d 25 100 [some (.ref a), l1, l2, l3] (.ref a :: st) h := (ex_of d25_99 (d) [some (.ref a), l1, l2, l3] st h).trans (rfl)
theorem d25_100 : decode (mB 25) 100 = .ok (.getfield 62, 3) := by decide +kernel
theorem x25_100 {d : Nat} {L : Lc} {st : List Value} {a : Nat} {h : Hp} (ht : (h.2.1 a).1 = 5) : ex (d) 25 100 L (.ref a :: st) h = ex d 25 103 L (h.1 a 2 :: st) h := (ex_of d25_100 (d) L (.ref a :: st) h).trans (fin_get (mi := 25) f5_62 (tg1 ht rfl))
theorem d25_103 : decode (mB 25) 103 = .ok (.if_icmp .ge 53, 3) := by decide +kernel
theorem x25_103 {d : Nat} {L : Lc} {st : List Value} {x y : Int32} {h : Hp} : ex (d) 25 103 L (.int y :: .int x :: st) h = if y ≤ x then ex d 25 156 L st h else ex d 25 106 L st h := (ex_of d25_103 (d) L (.int y :: .int x :: st) h).trans (fin_brq (off := 53) (tgt := 156) rfl (by decide))
theorem d25_106 : decode (mB 25) 106 = .ok (.iconst 0, 1) := by decide +kernel
theorem x25_106 {d : Nat} {L : Lc} {st : List Value} {h : Hp} : ex (d) 25 106 L st h = ex d 25 107 L (.int (nI 0) :: st) h := (ex_of d25_106 (d) L st h).trans (rfl)
theorem d25_107 : decode (mB 25) 107 = .ok (.istore_n 3, 1) := by decide +kernel
theorem x25_107 {d : Nat} {l0 l1 l2 l3 : Option Value} {st : List Value} {x : Int32} {h : Hp} : ex (d) 25 107 [l0, l1, l2, l3] (.int x :: st) h = ex d 25 108 [l0, l1, clr l2, some (.int x)] st h := (ex_of d25_107 (d) [l0, l1, l2, l3] (.int x :: st) h).trans (rfl)
theorem d25_108 : decode (mB 25) 108 = .ok (.iload_n 3, 1) := by decide +kernel
theorem x25_108 {d : Nat} {l0 l1 l2 : Option Value} {st : List Value} {x : Int32} {h : Hp} : ex (d) 25 108 [l0, l1, l2, some (.int x)] st h = ex d 25 109 [l0, l1, l2, some (.int x)] (.int x :: st) h := (ex_of d25_108 (d) [l0, l1, l2, some (.int x)] st h).trans (rfl)
theorem d25_109 : decode (mB 25) 109 = .ok (.aload_n 0, 1) := by decide +kernel
theorem x25_109 {d : Nat} {l1 l2 l3 : Option Value} {st : List Value} {a : Nat} {h : Hp} : ex (d) 25 109 [some (.ref a), l1, l2, l3] st h = ex d 25 110 [some (.ref a), l1, l2, l3] (.ref a :: st) h := (ex_of d25_109 (d) [some (.ref a), l1, l2, l3] st h).trans (rfl)
theorem d25_110 : decode (mB 25) 110 = .ok (.getfield 62, 3) := by decide +kernel
theorem x25_110 {d : Nat} {L : Lc} {st : List Value} {a : Nat} {h : Hp} (ht : (h.2.1 a).1 = 5) : ex (d) 25 110 L (.ref a :: st) h = ex d 25 113 L (h.1 a 2 :: st) h := (ex_of d25_110 (d) L (.ref a :: st) h).trans (fin_get (mi := 25) f5_62 (tg1 ht rfl))
theorem d25_113 : decode (mB 25) 113 = .ok (.if_icmp .ge 37, 3) := by decide +kernel
theorem x25_113 {d : Nat} {L : Lc} {st : List Value} {x y : Int32} {h : Hp} : ex (d) 25 113 L (.int y :: .int x :: st) h = if y ≤ x then ex d 25 150 L st h else ex d 25 116 L st h := (ex_of d25_113 (d) L (.int y :: .int x :: st) h).trans (fin_brq (off := 37) (tgt := 150) rfl (by decide))
theorem d25_116 : decode (mB 25) 116 = .ok (.aload_n 0, 1) := by decide +kernel
theorem x25_116 {d : Nat} {l1 l2 l3 : Option Value} {st : List Value} {a : Nat} {h : Hp} : ex (d) 25 116 [some (.ref a), l1, l2, l3] st h = ex d 25 117 [some (.ref a), l1, l2, l3] (.ref a :: st) h := (ex_of d25_116 (d) [some (.ref a), l1, l2, l3] st h).trans (rfl)
theorem d25_117 : decode (mB 25) 117 = .ok (.getfield 47, 3) := by decide +kernel
theorem x25_117 {d : Nat} {L : Lc} {st : List Value} {a : Nat} {h : Hp} (ht : (h.2.1 a).1 = 5) : ex (d) 25 117 L (.ref a :: st) h = ex d 25 120 L (h.1 a 11 :: st) h := (ex_of d25_117 (d) L (.ref a :: st) h).trans (fin_get (mi := 25) f5_47 (tg1 ht rfl))
theorem d25_120 : decode (mB 25) 120 = .ok (.iload_n 3, 1) := by decide +kernel
theorem x25_120 {d : Nat} {l0 l1 l2 : Option Value} {st : List Value} {x : Int32} {h : Hp} : ex (d) 25 120 [l0, l1, l2, some (.int x)] st h = ex d 25 121 [l0, l1, l2, some (.int x)] (.int x :: st) h := (ex_of d25_120 (d) [l0, l1, l2, some (.int x)] st h).trans (rfl)
theorem d25_121 : decode (mB 25) 121 = .ok (.iaload, 1) := by decide +kernel
theorem x25_121 {d : Nat} {L : Lc} {st : List Value} {a j : Nat} {h : Hp} (ht : (h.2.1 a).1 = 20) (hj : j < (h.2.1 a).2) (hb : j < 2147483648) : ex (d) 25 121 L (.int (nI j) :: .ref a :: st) h = ex d 25 122 L (h.1 a j :: st) h := (ex_of d25_121 (d) L (.int (nI j) :: .ref a :: st) h).trans (fin_iaload (Or.inl ht) hj hb)
theorem d25_122 : decode (mB 25) 122 = .ok (.iload_n 2, 1) := by decide +kernel
theorem x25_122 {d : Nat} {l0 l1 l3 : Option Value} {st : List Value} {x : Int32} {h : Hp} : ex (d) 25 122 [l0, l1, some (.int x), l3] st h = ex d 25 123 [l0, l1, some (.int x), l3] (.int x :: st) h := (ex_of d25_122 (d) [l0, l1, some (.int x), l3] st h).trans (rfl)
theorem d25_123 : decode (mB 25) 123 = .ok (.if_icmp .ne 21, 3) := by decide +kernel
theorem x25_123 {d : Nat} {L : Lc} {st : List Value} {x y : Int32} {h : Hp} : ex (d) 25 123 L (.int y :: .int x :: st) h = if ¬ x = y then ex d 25 144 L st h else ex d 25 126 L st h := (ex_of d25_123 (d) L (.int y :: .int x :: st) h).trans (fin_brq (off := 21) (tgt := 144) rfl (by decide))
theorem d25_126 : decode (mB 25) 126 = .ok (.iload_n 1, 1) := by decide +kernel
theorem x25_126 {d : Nat} {l0 l2 l3 : Option Value} {st : List Value} {x : Int32} {h : Hp} : ex (d) 25 126 [l0, some (.int x), l2, l3] st h = ex d 25 127 [l0, some (.int x), l2, l3] (.int x :: st) h := (ex_of d25_126 (d) [l0, some (.int x), l2, l3] st h).trans (rfl)
theorem d25_127 : decode (mB 25) 127 = .ok (.aload_n 0, 1) := by decide +kernel
theorem x25_127 {d : Nat} {l1 l2 l3 : Option Value} {st : List Value} {a : Nat} {h : Hp} : ex (d) 25 127 [some (.ref a), l1, l2, l3] st h = ex d 25 128 [some (.ref a), l1, l2, l3] (.ref a :: st) h := (ex_of d25_127 (d) [some (.ref a), l1, l2, l3] st h).trans (rfl)
theorem d25_128 : decode (mB 25) 128 = .ok (.getfield 62, 3) := by decide +kernel
theorem x25_128 {d : Nat} {L : Lc} {st : List Value} {a : Nat} {h : Hp} (ht : (h.2.1 a).1 = 5) : ex (d) 25 128 L (.ref a :: st) h = ex d 25 131 L (h.1 a 2 :: st) h := (ex_of d25_128 (d) L (.ref a :: st) h).trans (fin_get (mi := 25) f5_62 (tg1 ht rfl))
theorem d25_131 : decode (mB 25) 131 = .ok (.if_icmp .ge 13, 3) := by decide +kernel
theorem x25_131 {d : Nat} {L : Lc} {st : List Value} {x y : Int32} {h : Hp} : ex (d) 25 131 L (.int y :: .int x :: st) h = if y ≤ x then ex d 25 144 L st h else ex d 25 134 L st h := (ex_of d25_131 (d) L (.int y :: .int x :: st) h).trans (fin_brq (off := 13) (tgt := 144) rfl (by decide))
theorem d25_134 : decode (mB 25) 134 = .ok (.aload_n 0, 1) := by decide +kernel
theorem x25_134 {d : Nat} {l1 l2 l3 : Option Value} {st : List Value} {a : Nat} {h : Hp} : ex (d) 25 134 [some (.ref a), l1, l2, l3] st h = ex d 25 135 [some (.ref a), l1, l2, l3] (.ref a :: st) h := (ex_of d25_134 (d) [some (.ref a), l1, l2, l3] st h).trans (rfl)
theorem d25_135 : decode (mB 25) 135 = .ok (.getfield 50, 3) := by decide +kernel
theorem x25_135 {d : Nat} {L : Lc} {st : List Value} {a : Nat} {h : Hp} (ht : (h.2.1 a).1 = 5) : ex (d) 25 135 L (.ref a :: st) h = ex d 25 138 L (h.1 a 12 :: st) h := (ex_of d25_135 (d) L (.ref a :: st) h).trans (fin_get (mi := 25) f5_50 (tg1 ht rfl))
theorem d25_138 : decode (mB 25) 138 = .ok (.iload_n 1, 1) := by decide +kernel
theorem x25_138 {d : Nat} {l0 l2 l3 : Option Value} {st : List Value} {x : Int32} {h : Hp} : ex (d) 25 138 [l0, some (.int x), l2, l3] st h = ex d 25 139 [l0, some (.int x), l2, l3] (.int x :: st) h := (ex_of d25_138 (d) [l0, some (.int x), l2, l3] st h).trans (rfl)
theorem d25_139 : decode (mB 25) 139 = .ok (.iload_n 3, 1) := by decide +kernel
theorem x25_139 {d : Nat} {l0 l1 l2 : Option Value} {st : List Value} {x : Int32} {h : Hp} : ex (d) 25 139 [l0, l1, l2, some (.int x)] st h = ex d 25 140 [l0, l1, l2, some (.int x)] (.int x :: st) h := (ex_of d25_139 (d) [l0, l1, l2, some (.int x)] st h).trans (rfl)
theorem d25_140 : decode (mB 25) 140 = .ok (.iastore, 1) := by decide +kernel
theorem x25_140 {d : Nat} {L : Lc} {st : List Value} {a j : Nat} {x : Int32} {h : Hp} (ht : (h.2.1 a).1 = 20) (hj : j < (h.2.1 a).2) (hb : j < 2147483648) : ex (d) 25 140 L (.int x :: .int (nI j) :: .ref a :: st) h = ex d 25 141 L st (mup h.1 a j (.int x), h.2) := (ex_of d25_140 (d) L (.int x :: .int (nI j) :: .ref a :: st) h).trans (fin_iastore ht hj hb)
theorem d25_141 : decode (mB 25) 141 = .ok (.iinc 1 1, 3) := by decide +kernel
theorem x25_141 {d : Nat} {l0 l2 l3 : Option Value} {st : List Value} {x : Int32} {h : Hp} : ex (d) 25 141 [l0, some (.int x), l2, l3] st h = ex d 25 144 [clr l0, some (.int (x + (nI 1))), l2, l3] st h := (ex_of d25_141 (d) [l0, some (.int x), l2, l3] st h).trans (rfl)
theorem d25_144 : decode (mB 25) 144 = .ok (.iinc 3 1, 3) := by decide +kernel
theorem x25_144 {d : Nat} {l0 l1 l2 : Option Value} {st : List Value} {x : Int32} {h : Hp} : ex (d) 25 144 [l0, l1, l2, some (.int x)] st h = ex d 25 147 [l0, l1, clr l2, some (.int (x + (nI 1)))] st h := (ex_of d25_144 (d) [l0, l1, l2, some (.int x)] st h).trans (rfl)
theorem d25_147 : decode (mB 25) 147 = .ok (.goto (-39), 3) := by decide +kernel
theorem x25_147 {d : Nat} {L : Lc} {st : List Value} {h : Hp} : ex (d) 25 147 L st h = ex d 25 108 L st h := (ex_of d25_147 (d) L st h).trans (rfl)
theorem d25_150 : decode (mB 25) 150 = .ok (.iinc 2 1, 3) := by decide +kernel
theorem x25_150 {d : Nat} {l0 l1 l3 : Option Value} {st : List Value} {x : Int32} {h : Hp} : ex (d) 25 150 [l0, l1, some (.int x), l3] st h = ex d 25 153 [l0, clr l1, some (.int (x + (nI 1))), l3] st h := (ex_of d25_150 (d) [l0, l1, some (.int x), l3] st h).trans (rfl)
theorem d25_153 : decode (mB 25) 153 = .ok (.goto (-55), 3) := by decide +kernel
theorem x25_153 {d : Nat} {L : Lc} {st : List Value} {h : Hp} : ex (d) 25 153 L st h = ex d 25 98 L st h := (ex_of d25_153 (d) L st h).trans (rfl)
theorem d25_156 : decode (mB 25) 156 = .ok (.return_, 1) := by decide +kernel
theorem x25_156 {d : Nat} {L : Lc}  {h : Hp} : ex (d) 25 156 L [] h = some (none, h) := (ex_of d25_156 (d) L [] h).trans (rfl)
theorem d26_0 : decode (mB 26) 0 = .ok (.iconst 0, 1) := by decide +kernel
theorem x26_0 {d : Nat} {L : Lc} {st : List Value} {h : Hp} : ex (d) 26 0 L st h = ex d 26 1 L (.int (nI 0) :: st) h := (ex_of d26_0 (d) L st h).trans (rfl)
theorem d26_1 : decode (mB 26) 1 = .ok (.istore_n 3, 1) := by decide +kernel
theorem x26_1 {d : Nat} {l0 l1 l2 l3 : Option Value} {st : List Value} {x : Int32} {h : Hp} : ex (d) 26 1 [l0, l1, l2, l3] (.int x :: st) h = ex d 26 2 [l0, l1, clr l2, some (.int x)] st h := (ex_of d26_1 (d) [l0, l1, l2, l3] (.int x :: st) h).trans (rfl)
theorem d26_2 : decode (mB 26) 2 = .ok (.iload_n 3, 1) := by decide +kernel
theorem x26_2 {d : Nat} {l0 l1 l2 : Option Value} {st : List Value} {x : Int32} {h : Hp} : ex (d) 26 2 [l0, l1, l2, some (.int x)] st h = ex d 26 3 [l0, l1, l2, some (.int x)] (.int x :: st) h := (ex_of d26_2 (d) [l0, l1, l2, some (.int x)] st h).trans (rfl)
theorem d26_3 : decode (mB 26) 3 = .ok (.aload_n 0, 1) := by decide +kernel
theorem x26_3 {d : Nat} {l1 l2 l3 : Option Value} {st : List Value} {a : Nat} {h : Hp} : ex (d) 26 3 [some (.ref a), l1, l2, l3] st h = ex d 26 4 [some (.ref a), l1, l2, l3] (.ref a :: st) h := (ex_of d26_3 (d) [some (.ref a), l1, l2, l3] st h).trans (rfl)
theorem d26_4 : decode (mB 26) 4 = .ok (.getfield 62, 3) := by decide +kernel
theorem x26_4 {d : Nat} {L : Lc} {st : List Value} {a : Nat} {h : Hp} (ht : (h.2.1 a).1 = 5) : ex (d) 26 4 L (.ref a :: st) h = ex d 26 7 L (h.1 a 2 :: st) h := (ex_of d26_4 (d) L (.ref a :: st) h).trans (fin_get (mi := 26) f5_62 (tg1 ht rfl))
theorem d26_7 : decode (mB 26) 7 = .ok (.if_icmp .ge 26, 3) := by decide +kernel
theorem x26_7 {d : Nat} {L : Lc} {st : List Value} {x y : Int32} {h : Hp} : ex (d) 26 7 L (.int y :: .int x :: st) h = if y ≤ x then ex d 26 33 L st h else ex d 26 10 L st h := (ex_of d26_7 (d) L (.int y :: .int x :: st) h).trans (fin_brq (off := 26) (tgt := 33) rfl (by decide))
theorem d26_10 : decode (mB 26) 10 = .ok (.aload_n 0, 1) := by decide +kernel
theorem x26_10 {d : Nat} {l1 l2 l3 : Option Value} {st : List Value} {a : Nat} {h : Hp} : ex (d) 26 10 [some (.ref a), l1, l2, l3] st h = ex d 26 11 [some (.ref a), l1, l2, l3] (.ref a :: st) h := (ex_of d26_10 (d) [some (.ref a), l1, l2, l3] st h).trans (rfl)
theorem d26_11 : decode (mB 26) 11 = .ok (.getfield 47, 3) := by decide +kernel
theorem x26_11 {d : Nat} {L : Lc} {st : List Value} {a : Nat} {h : Hp} (ht : (h.2.1 a).1 = 5) : ex (d) 26 11 L (.ref a :: st) h = ex d 26 14 L (h.1 a 11 :: st) h := (ex_of d26_11 (d) L (.ref a :: st) h).trans (fin_get (mi := 26) f5_47 (tg1 ht rfl))
theorem d26_14 : decode (mB 26) 14 = .ok (.iload_n 3, 1) := by decide +kernel
theorem x26_14 {d : Nat} {l0 l1 l2 : Option Value} {st : List Value} {x : Int32} {h : Hp} : ex (d) 26 14 [l0, l1, l2, some (.int x)] st h = ex d 26 15 [l0, l1, l2, some (.int x)] (.int x :: st) h := (ex_of d26_14 (d) [l0, l1, l2, some (.int x)] st h).trans (rfl)
theorem d26_15 : decode (mB 26) 15 = .ok (.iaload, 1) := by decide +kernel
theorem x26_15 {d : Nat} {L : Lc} {st : List Value} {a j : Nat} {h : Hp} (ht : (h.2.1 a).1 = 20) (hj : j < (h.2.1 a).2) (hb : j < 2147483648) : ex (d) 26 15 L (.int (nI j) :: .ref a :: st) h = ex d 26 16 L (h.1 a j :: st) h := (ex_of d26_15 (d) L (.int (nI j) :: .ref a :: st) h).trans (fin_iaload (Or.inl ht) hj hb)
theorem d26_16 : decode (mB 26) 16 = .ok (.iload_n 1, 1) := by decide +kernel
theorem x26_16 {d : Nat} {l0 l2 l3 : Option Value} {st : List Value} {x : Int32} {h : Hp} : ex (d) 26 16 [l0, some (.int x), l2, l3] st h = ex d 26 17 [l0, some (.int x), l2, l3] (.int x :: st) h := (ex_of d26_16 (d) [l0, some (.int x), l2, l3] st h).trans (rfl)
theorem d26_17 : decode (mB 26) 17 = .ok (.if_icmp .ne 10, 3) := by decide +kernel
theorem x26_17 {d : Nat} {L : Lc} {st : List Value} {x y : Int32} {h : Hp} : ex (d) 26 17 L (.int y :: .int x :: st) h = if ¬ x = y then ex d 26 27 L st h else ex d 26 20 L st h := (ex_of d26_17 (d) L (.int y :: .int x :: st) h).trans (fin_brq (off := 10) (tgt := 27) rfl (by decide))
theorem d26_20 : decode (mB 26) 20 = .ok (.aload_n 0, 1) := by decide +kernel
theorem x26_20 {d : Nat} {l1 l2 l3 : Option Value} {st : List Value} {a : Nat} {h : Hp} : ex (d) 26 20 [some (.ref a), l1, l2, l3] st h = ex d 26 21 [some (.ref a), l1, l2, l3] (.ref a :: st) h := (ex_of d26_20 (d) [some (.ref a), l1, l2, l3] st h).trans (rfl)
theorem d26_21 : decode (mB 26) 21 = .ok (.getfield 47, 3) := by decide +kernel
theorem x26_21 {d : Nat} {L : Lc} {st : List Value} {a : Nat} {h : Hp} (ht : (h.2.1 a).1 = 5) : ex (d) 26 21 L (.ref a :: st) h = ex d 26 24 L (h.1 a 11 :: st) h := (ex_of d26_21 (d) L (.ref a :: st) h).trans (fin_get (mi := 26) f5_47 (tg1 ht rfl))
theorem d26_24 : decode (mB 26) 24 = .ok (.iload_n 3, 1) := by decide +kernel
theorem x26_24 {d : Nat} {l0 l1 l2 : Option Value} {st : List Value} {x : Int32} {h : Hp} : ex (d) 26 24 [l0, l1, l2, some (.int x)] st h = ex d 26 25 [l0, l1, l2, some (.int x)] (.int x :: st) h := (ex_of d26_24 (d) [l0, l1, l2, some (.int x)] st h).trans (rfl)
theorem d26_25 : decode (mB 26) 25 = .ok (.iload_n 2, 1) := by decide +kernel
theorem x26_25 {d : Nat} {l0 l1 l3 : Option Value} {st : List Value} {x : Int32} {h : Hp} : ex (d) 26 25 [l0, l1, some (.int x), l3] st h = ex d 26 26 [l0, l1, some (.int x), l3] (.int x :: st) h := (ex_of d26_25 (d) [l0, l1, some (.int x), l3] st h).trans (rfl)
theorem d26_26 : decode (mB 26) 26 = .ok (.iastore, 1) := by decide +kernel
theorem x26_26 {d : Nat} {L : Lc} {st : List Value} {a j : Nat} {x : Int32} {h : Hp} (ht : (h.2.1 a).1 = 20) (hj : j < (h.2.1 a).2) (hb : j < 2147483648) : ex (d) 26 26 L (.int x :: .int (nI j) :: .ref a :: st) h = ex d 26 27 L st (mup h.1 a j (.int x), h.2) := (ex_of d26_26 (d) L (.int x :: .int (nI j) :: .ref a :: st) h).trans (fin_iastore ht hj hb)
theorem d26_27 : decode (mB 26) 27 = .ok (.iinc 3 1, 3) := by decide +kernel
theorem x26_27 {d : Nat} {l0 l1 l2 : Option Value} {st : List Value} {x : Int32} {h : Hp} : ex (d) 26 27 [l0, l1, l2, some (.int x)] st h = ex d 26 30 [l0, l1, clr l2, some (.int (x + (nI 1)))] st h := (ex_of d26_27 (d) [l0, l1, l2, some (.int x)] st h).trans (rfl)
theorem d26_30 : decode (mB 26) 30 = .ok (.goto (-28), 3) := by decide +kernel
theorem x26_30 {d : Nat} {L : Lc} {st : List Value} {h : Hp} : ex (d) 26 30 L st h = ex d 26 2 L st h := (ex_of d26_30 (d) L st h).trans (rfl)
theorem d26_33 : decode (mB 26) 33 = .ok (.return_, 1) := by decide +kernel
theorem x26_33 {d : Nat} {L : Lc}  {h : Hp} : ex (d) 26 33 L [] h = some (none, h) := (ex_of d26_33 (d) L [] h).trans (rfl)
theorem d27_0 : decode (mB 27) 0 = .ok (.iload_n 2, 1) := by decide +kernel
theorem x27_0 {d : Nat} {l0 l1 l3 l4 l5 l6 l7 : Option Value} {st : List Value} {x : Int32} {h : Hp} : ex (d) 27 0 [l0, l1, some (.int x), l3, l4, l5, l6, l7] st h = ex d 27 1 [l0, l1, some (.int x), l3, l4, l5, l6, l7] (.int x :: st) h := (ex_of d27_0 (d) [l0, l1, some (.int x), l3, l4, l5, l6, l7] st h).trans (rfl)
theorem d27_1 : decode (mB 27) 1 = .ok (.aload_n 0, 1) := by decide +kernel
theorem x27_1 {d : Nat} {l1 l2 l3 l4 l5 l6 l7 : Option Value} {st : List Value} {a : Nat} {h : Hp} : ex (d) 27 1 [some (.ref a), l1, l2, l3, l4, l5, l6, l7] st h = ex d 27 2 [some (.ref a), l1, l2, l3, l4, l5, l6, l7] (.ref a :: st) h := (ex_of d27_1 (d) [some (.ref a), l1, l2, l3, l4, l5, l6, l7] st h).trans (rfl)
theorem d27_2 : decode (mB 27) 2 = .ok (.getfield 62, 3) := by decide +kernel
theorem x27_2 {d : Nat} {L : Lc} {st : List Value} {a : Nat} {h : Hp} (ht : (h.2.1 a).1 = 5) : ex (d) 27 2 L (.ref a :: st) h = ex d 27 5 L (h.1 a 2 :: st) h := (ex_of d27_2 (d) L (.ref a :: st) h).trans (fin_get (mi := 27) f5_62 (tg1 ht rfl))
theorem d27_5 : decode (mB 27) 5 = .ok (.if_icmp .lt 9, 3) := by decide +kernel
theorem x27_5 {d : Nat} {L : Lc} {st : List Value} {x y : Int32} {h : Hp} : ex (d) 27 5 L (.int y :: .int x :: st) h = if x < y then ex d 27 14 L st h else ex d 27 8 L st h := (ex_of d27_5 (d) L (.int y :: .int x :: st) h).trans (fin_brq (off := 9) (tgt := 14) rfl (by decide))
theorem d27_8 : decode (mB 27) 8 = .ok (.aload_n 0, 1) := by decide +kernel
theorem x27_8 {d : Nat} {l1 l2 l3 l4 l5 l6 l7 : Option Value} {st : List Value} {a : Nat} {h : Hp} : ex (d) 27 8 [some (.ref a), l1, l2, l3, l4, l5, l6, l7] st h = ex d 27 9 [some (.ref a), l1, l2, l3, l4, l5, l6, l7] (.ref a :: st) h := (ex_of d27_8 (d) [some (.ref a), l1, l2, l3, l4, l5, l6, l7] st h).trans (rfl)
theorem d27_9 : decode (mB 27) 9 = .ok (.iload_n 3, 1) := by decide +kernel
theorem x27_9 {d : Nat} {l0 l1 l2 l4 l5 l6 l7 : Option Value} {st : List Value} {x : Int32} {h : Hp} : ex (d) 27 9 [l0, l1, l2, some (.int x), l4, l5, l6, l7] st h = ex d 27 10 [l0, l1, l2, some (.int x), l4, l5, l6, l7] (.int x :: st) h := (ex_of d27_9 (d) [l0, l1, l2, some (.int x), l4, l5, l6, l7] st h).trans (rfl)
theorem d27_10 : decode (mB 27) 10 = .ok (.putfield 92, 3) := by decide +kernel
theorem x27_10 {d : Nat} {L : Lc} {st : List Value} {a : Nat} {x : Int32} {h : Hp} (ht : (h.2.1 a).1 = 5) : ex (d) 27 10 L (.int x :: .ref a :: st) h = ex d 27 13 L st (mup h.1 a 15 (.int x), h.2) := (ex_of d27_10 (d) L (.int x :: .ref a :: st) h).trans (fin_put (mi := 27) f5_92 ht rfl rfl (by decide +kernel))
theorem d27_13 : decode (mB 27) 13 = .ok (.return_, 1) := by decide +kernel
theorem x27_13 {d : Nat} {L : Lc}  {h : Hp} : ex (d) 27 13 L [] h = some (none, h) := (ex_of d27_13 (d) L [] h).trans (rfl)
theorem d27_14 : decode (mB 27) 14 = .ok (.aload_n 0, 1) := by decide +kernel
theorem x27_14 {d : Nat} {l1 l2 l3 l4 l5 l6 l7 : Option Value} {st : List Value} {a : Nat} {h : Hp} : ex (d) 27 14 [some (.ref a), l1, l2, l3, l4, l5, l6, l7] st h = ex d 27 15 [some (.ref a), l1, l2, l3, l4, l5, l6, l7] (.ref a :: st) h := (ex_of d27_14 (d) [some (.ref a), l1, l2, l3, l4, l5, l6, l7] st h).trans (rfl)
theorem d27_15 : decode (mB 27) 15 = .ok (.getfield 50, 3) := by decide +kernel
theorem x27_15 {d : Nat} {L : Lc} {st : List Value} {a : Nat} {h : Hp} (ht : (h.2.1 a).1 = 5) : ex (d) 27 15 L (.ref a :: st) h = ex d 27 18 L (h.1 a 12 :: st) h := (ex_of d27_15 (d) L (.ref a :: st) h).trans (fin_get (mi := 27) f5_50 (tg1 ht rfl))
theorem d27_18 : decode (mB 27) 18 = .ok (.iload_n 2, 1) := by decide +kernel
theorem x27_18 {d : Nat} {l0 l1 l3 l4 l5 l6 l7 : Option Value} {st : List Value} {x : Int32} {h : Hp} : ex (d) 27 18 [l0, l1, some (.int x), l3, l4, l5, l6, l7] st h = ex d 27 19 [l0, l1, some (.int x), l3, l4, l5, l6, l7] (.int x :: st) h := (ex_of d27_18 (d) [l0, l1, some (.int x), l3, l4, l5, l6, l7] st h).trans (rfl)
theorem d27_19 : decode (mB 27) 19 = .ok (.iaload, 1) := by decide +kernel
theorem x27_19 {d : Nat} {L : Lc} {st : List Value} {a j : Nat} {h : Hp} (ht : (h.2.1 a).1 = 20) (hj : j < (h.2.1 a).2) (hb : j < 2147483648) : ex (d) 27 19 L (.int (nI j) :: .ref a :: st) h = ex d 27 20 L (h.1 a j :: st) h := (ex_of d27_19 (d) L (.int (nI j) :: .ref a :: st) h).trans (fin_iaload (Or.inl ht) hj hb)
theorem d27_20 : decode (mB 27) 20 = .ok (.istore 4, 2) := by decide +kernel
theorem x27_20 {d : Nat} {l0 l1 l2 l3 l4 l5 l6 l7 : Option Value} {st : List Value} {x : Int32} {h : Hp} : ex (d) 27 20 [l0, l1, l2, l3, l4, l5, l6, l7] (.int x :: st) h = ex d 27 22 [l0, l1, l2, clr l3, some (.int x), l5, l6, l7] st h := (ex_of d27_20 (d) [l0, l1, l2, l3, l4, l5, l6, l7] (.int x :: st) h).trans (rfl)
theorem d27_22 : decode (mB 27) 22 = .ok (.iconst 0, 1) := by decide +kernel
theorem x27_22 {d : Nat} {L : Lc} {st : List Value} {h : Hp} : ex (d) 27 22 L st h = ex d 27 23 L (.int (nI 0) :: st) h := (ex_of d27_22 (d) L st h).trans (rfl)
theorem d27_23 : decode (mB 27) 23 = .ok (.istore 5, 2) := by decide +kernel
theorem x27_23 {d : Nat} {l0 l1 l2 l3 l4 l5 l6 l7 : Option Value} {st : List Value} {x : Int32} {h : Hp} : ex (d) 27 23 [l0, l1, l2, l3, l4, l5, l6, l7] (.int x :: st) h = ex d 27 25 [l0, l1, l2, l3, clr l4, some (.int x), l6, l7] st h := (ex_of d27_23 (d) [l0, l1, l2, l3, l4, l5, l6, l7] (.int x :: st) h).trans (rfl)
theorem d27_25 : decode (mB 27) 25 = .ok (.iload 5, 2) := by decide +kernel
theorem x27_25 {d : Nat} {l0 l1 l2 l3 l4 l6 l7 : Option Value} {st : List Value} {x : Int32} {h : Hp} : ex (d) 27 25 [l0, l1, l2, l3, l4, some (.int x), l6, l7] st h = ex d 27 27 [l0, l1, l2, l3, l4, some (.int x), l6, l7] (.int x :: st) h := (ex_of d27_25 (d) [l0, l1, l2, l3, l4, some (.int x), l6, l7] st h).trans (rfl)
theorem d27_27 : decode (mB 27) 27 = .ok (.aload_n 0, 1) := by decide +kernel
theorem x27_27 {d : Nat} {l1 l2 l3 l4 l5 l6 l7 : Option Value} {st : List Value} {a : Nat} {h : Hp} : ex (d) 27 27 [some (.ref a), l1, l2, l3, l4, l5, l6, l7] st h = ex d 27 28 [some (.ref a), l1, l2, l3, l4, l5, l6, l7] (.ref a :: st) h := (ex_of d27_27 (d) [some (.ref a), l1, l2, l3, l4, l5, l6, l7] st h).trans (rfl)
theorem d27_28 : decode (mB 27) 28 = .ok (.getfield 41, 3) := by decide +kernel
theorem x27_28 {d : Nat} {L : Lc} {st : List Value} {a : Nat} {h : Hp} (ht : (h.2.1 a).1 = 5) : ex (d) 27 28 L (.ref a :: st) h = ex d 27 31 L (h.1 a 9 :: st) h := (ex_of d27_28 (d) L (.ref a :: st) h).trans (fin_get (mi := 27) f5_41 (tg1 ht rfl))
theorem d27_31 : decode (mB 27) 31 = .ok (.iload 4, 2) := by decide +kernel
theorem x27_31 {d : Nat} {l0 l1 l2 l3 l5 l6 l7 : Option Value} {st : List Value} {x : Int32} {h : Hp} : ex (d) 27 31 [l0, l1, l2, l3, some (.int x), l5, l6, l7] st h = ex d 27 33 [l0, l1, l2, l3, some (.int x), l5, l6, l7] (.int x :: st) h := (ex_of d27_31 (d) [l0, l1, l2, l3, some (.int x), l5, l6, l7] st h).trans (rfl)
theorem d27_33 : decode (mB 27) 33 = .ok (.iaload, 1) := by decide +kernel
theorem x27_33 {d : Nat} {L : Lc} {st : List Value} {a j : Nat} {h : Hp} (ht : (h.2.1 a).1 = 20) (hj : j < (h.2.1 a).2) (hb : j < 2147483648) : ex (d) 27 33 L (.int (nI j) :: .ref a :: st) h = ex d 27 34 L (h.1 a j :: st) h := (ex_of d27_33 (d) L (.int (nI j) :: .ref a :: st) h).trans (fin_iaload (Or.inl ht) hj hb)
theorem d27_34 : decode (mB 27) 34 = .ok (.if_icmp .ge 83, 3) := by decide +kernel
theorem x27_34 {d : Nat} {L : Lc} {st : List Value} {x y : Int32} {h : Hp} : ex (d) 27 34 L (.int y :: .int x :: st) h = if y ≤ x then ex d 27 117 L st h else ex d 27 37 L st h := (ex_of d27_34 (d) L (.int y :: .int x :: st) h).trans (fin_brq (off := 83) (tgt := 117) rfl (by decide))
theorem d27_37 : decode (mB 27) 37 = .ok (.aload_n 0, 1) := by decide +kernel
theorem x27_37 {d : Nat} {l1 l2 l3 l4 l5 l6 l7 : Option Value} {st : List Value} {a : Nat} {h : Hp} : ex (d) 27 37 [some (.ref a), l1, l2, l3, l4, l5, l6, l7] st h = ex d 27 38 [some (.ref a), l1, l2, l3, l4, l5, l6, l7] (.ref a :: st) h := (ex_of d27_37 (d) [some (.ref a), l1, l2, l3, l4, l5, l6, l7] st h).trans (rfl)
theorem d27_38 : decode (mB 27) 38 = .ok (.getfield 38, 3) := by decide +kernel
theorem x27_38 {d : Nat} {L : Lc} {st : List Value} {a : Nat} {h : Hp} (ht : (h.2.1 a).1 = 5) : ex (d) 27 38 L (.ref a :: st) h = ex d 27 41 L (h.1 a 8 :: st) h := (ex_of d27_38 (d) L (.ref a :: st) h).trans (fin_get (mi := 27) f5_38 (tg1 ht rfl))
theorem d27_41 : decode (mB 27) 41 = .ok (.iload 4, 2) := by decide +kernel
theorem x27_41 {d : Nat} {l0 l1 l2 l3 l5 l6 l7 : Option Value} {st : List Value} {x : Int32} {h : Hp} : ex (d) 27 41 [l0, l1, l2, l3, some (.int x), l5, l6, l7] st h = ex d 27 43 [l0, l1, l2, l3, some (.int x), l5, l6, l7] (.int x :: st) h := (ex_of d27_41 (d) [l0, l1, l2, l3, some (.int x), l5, l6, l7] st h).trans (rfl)
theorem d27_43 : decode (mB 27) 43 = .ok (.aaload, 1) := by decide +kernel
theorem x27_43 {d : Nat} {L : Lc} {st : List Value} {a j : Nat} {h : Hp} (ht : 21 ≤ (h.2.1 a).1 ∧ (h.2.1 a).1 ≤ 26) (hj : j < (h.2.1 a).2) (hb : j < 2147483648) : ex (d) 27 43 L (.int (nI j) :: .ref a :: st) h = ex d 27 44 L (h.1 a j :: st) h := (ex_of d27_43 (d) L (.int (nI j) :: .ref a :: st) h).trans (fin_aaload ht hj hb)
theorem d27_44 : decode (mB 27) 44 = .ok (.iload 5, 2) := by decide +kernel
theorem x27_44 {d : Nat} {l0 l1 l2 l3 l4 l6 l7 : Option Value} {st : List Value} {x : Int32} {h : Hp} : ex (d) 27 44 [l0, l1, l2, l3, l4, some (.int x), l6, l7] st h = ex d 27 46 [l0, l1, l2, l3, l4, some (.int x), l6, l7] (.int x :: st) h := (ex_of d27_44 (d) [l0, l1, l2, l3, l4, some (.int x), l6, l7] st h).trans (rfl)
theorem d27_46 : decode (mB 27) 46 = .ok (.iaload, 1) := by decide +kernel
theorem x27_46 {d : Nat} {L : Lc} {st : List Value} {a j : Nat} {h : Hp} (ht : (h.2.1 a).1 = 20) (hj : j < (h.2.1 a).2) (hb : j < 2147483648) : ex (d) 27 46 L (.int (nI j) :: .ref a :: st) h = ex d 27 47 L (h.1 a j :: st) h := (ex_of d27_46 (d) L (.int (nI j) :: .ref a :: st) h).trans (fin_iaload (Or.inl ht) hj hb)
theorem d27_47 : decode (mB 27) 47 = .ok (.istore 6, 2) := by decide +kernel
theorem x27_47 {d : Nat} {l0 l1 l2 l3 l4 l5 l6 l7 : Option Value} {st : List Value} {x : Int32} {h : Hp} : ex (d) 27 47 [l0, l1, l2, l3, l4, l5, l6, l7] (.int x :: st) h = ex d 27 49 [l0, l1, l2, l3, l4, clr l5, some (.int x), l7] st h := (ex_of d27_47 (d) [l0, l1, l2, l3, l4, l5, l6, l7] (.int x :: st) h).trans (rfl)
theorem d27_49 : decode (mB 27) 49 = .ok (.iload_n 3, 1) := by decide +kernel
theorem x27_49 {d : Nat} {l0 l1 l2 l4 l5 l6 l7 : Option Value} {st : List Value} {x : Int32} {h : Hp} : ex (d) 27 49 [l0, l1, l2, some (.int x), l4, l5, l6, l7] st h = ex d 27 50 [l0, l1, l2, some (.int x), l4, l5, l6, l7] (.int x :: st) h := (ex_of d27_49 (d) [l0, l1, l2, some (.int x), l4, l5, l6, l7] st h).trans (rfl)
theorem d27_50 : decode (mB 27) 50 = .ok (.aload_n 0, 1) := by decide +kernel
theorem x27_50 {d : Nat} {l1 l2 l3 l4 l5 l6 l7 : Option Value} {st : List Value} {a : Nat} {h : Hp} : ex (d) 27 50 [some (.ref a), l1, l2, l3, l4, l5, l6, l7] st h = ex d 27 51 [some (.ref a), l1, l2, l3, l4, l5, l6, l7] (.ref a :: st) h := (ex_of d27_50 (d) [some (.ref a), l1, l2, l3, l4, l5, l6, l7] st h).trans (rfl)
theorem d27_51 : decode (mB 27) 51 = .ok (.getfield 35, 3) := by decide +kernel
theorem x27_51 {d : Nat} {L : Lc} {st : List Value} {a : Nat} {h : Hp} (ht : (h.2.1 a).1 = 5) : ex (d) 27 51 L (.ref a :: st) h = ex d 27 54 L (h.1 a 7 :: st) h := (ex_of d27_51 (d) L (.ref a :: st) h).trans (fin_get (mi := 27) f5_35 (tg1 ht rfl))
theorem d27_54 : decode (mB 27) 54 = .ok (.iload 4, 2) := by decide +kernel
theorem x27_54 {d : Nat} {l0 l1 l2 l3 l5 l6 l7 : Option Value} {st : List Value} {x : Int32} {h : Hp} : ex (d) 27 54 [l0, l1, l2, l3, some (.int x), l5, l6, l7] st h = ex d 27 56 [l0, l1, l2, l3, some (.int x), l5, l6, l7] (.int x :: st) h := (ex_of d27_54 (d) [l0, l1, l2, l3, some (.int x), l5, l6, l7] st h).trans (rfl)
theorem d27_56 : decode (mB 27) 56 = .ok (.aaload, 1) := by decide +kernel
theorem x27_56 {d : Nat} {L : Lc} {st : List Value} {a j : Nat} {h : Hp} (ht : 21 ≤ (h.2.1 a).1 ∧ (h.2.1 a).1 ≤ 26) (hj : j < (h.2.1 a).2) (hb : j < 2147483648) : ex (d) 27 56 L (.int (nI j) :: .ref a :: st) h = ex d 27 57 L (h.1 a j :: st) h := (ex_of d27_56 (d) L (.int (nI j) :: .ref a :: st) h).trans (fin_aaload ht hj hb)
theorem d27_57 : decode (mB 27) 57 = .ok (.iload 6, 2) := by decide +kernel
theorem x27_57 {d : Nat} {l0 l1 l2 l3 l4 l5 l7 : Option Value} {st : List Value} {x : Int32} {h : Hp} : ex (d) 27 57 [l0, l1, l2, l3, l4, l5, some (.int x), l7] st h = ex d 27 59 [l0, l1, l2, l3, l4, l5, some (.int x), l7] (.int x :: st) h := (ex_of d27_57 (d) [l0, l1, l2, l3, l4, l5, some (.int x), l7] st h).trans (rfl)
theorem d27_59 : decode (mB 27) 59 = .ok (.iaload, 1) := by decide +kernel
theorem x27_59 {d : Nat} {L : Lc} {st : List Value} {a j : Nat} {h : Hp} (ht : (h.2.1 a).1 = 20) (hj : j < (h.2.1 a).2) (hb : j < 2147483648) : ex (d) 27 59 L (.int (nI j) :: .ref a :: st) h = ex d 27 60 L (h.1 a j :: st) h := (ex_of d27_59 (d) L (.int (nI j) :: .ref a :: st) h).trans (fin_iaload (Or.inl ht) hj hb)
theorem d27_60 : decode (mB 27) 60 = .ok (.iadd, 1) := by decide +kernel
theorem x27_60 {d : Nat} {L : Lc} {st : List Value} {x y : Int32} {h : Hp} : ex (d) 27 60 L (.int y :: .int x :: st) h = ex d 27 61 L (.int (x + y) :: st) h := (ex_of d27_60 (d) L (.int y :: .int x :: st) h).trans (rfl)
theorem d27_61 : decode (mB 27) 61 = .ok (.istore 7, 2) := by decide +kernel
theorem x27_61 {d : Nat} {l0 l1 l2 l3 l4 l5 l6 l7 : Option Value} {st : List Value} {x : Int32} {h : Hp} : ex (d) 27 61 [l0, l1, l2, l3, l4, l5, l6, l7] (.int x :: st) h = ex d 27 63 [l0, l1, l2, l3, l4, l5, clr l6, some (.int x)] st h := (ex_of d27_61 (d) [l0, l1, l2, l3, l4, l5, l6, l7] (.int x :: st) h).trans (rfl)
theorem d27_63 : decode (mB 27) 63 = .ok (.iload 7, 2) := by decide +kernel
theorem x27_63 {d : Nat} {l0 l1 l2 l3 l4 l5 l6 : Option Value} {st : List Value} {x : Int32} {h : Hp} : ex (d) 27 63 [l0, l1, l2, l3, l4, l5, l6, some (.int x)] st h = ex d 27 65 [l0, l1, l2, l3, l4, l5, l6, some (.int x)] (.int x :: st) h := (ex_of d27_63 (d) [l0, l1, l2, l3, l4, l5, l6, some (.int x)] st h).trans (rfl)
theorem d27_65 : decode (mB 27) 65 = .ok (.aload_n 0, 1) := by decide +kernel
theorem x27_65 {d : Nat} {l1 l2 l3 l4 l5 l6 l7 : Option Value} {st : List Value} {a : Nat} {h : Hp} : ex (d) 27 65 [some (.ref a), l1, l2, l3, l4, l5, l6, l7] st h = ex d 27 66 [some (.ref a), l1, l2, l3, l4, l5, l6, l7] (.ref a :: st) h := (ex_of d27_65 (d) [some (.ref a), l1, l2, l3, l4, l5, l6, l7] st h).trans (rfl)
theorem d27_66 : decode (mB 27) 66 = .ok (.getfield 53, 3) := by decide +kernel
theorem x27_66 {d : Nat} {L : Lc} {st : List Value} {a : Nat} {h : Hp} (ht : (h.2.1 a).1 = 5) : ex (d) 27 66 L (.ref a :: st) h = ex d 27 69 L (h.1 a 13 :: st) h := (ex_of d27_66 (d) L (.ref a :: st) h).trans (fin_get (mi := 27) f5_53 (tg1 ht rfl))
theorem d27_69 : decode (mB 27) 69 = .ok (.iload_n 2, 1) := by decide +kernel
theorem x27_69 {d : Nat} {l0 l1 l3 l4 l5 l6 l7 : Option Value} {st : List Value} {x : Int32} {h : Hp} : ex (d) 27 69 [l0, l1, some (.int x), l3, l4, l5, l6, l7] st h = ex d 27 70 [l0, l1, some (.int x), l3, l4, l5, l6, l7] (.int x :: st) h := (ex_of d27_69 (d) [l0, l1, some (.int x), l3, l4, l5, l6, l7] st h).trans (rfl)
theorem d27_70 : decode (mB 27) 70 = .ok (.iconst 1, 1) := by decide +kernel
theorem x27_70 {d : Nat} {L : Lc} {st : List Value} {h : Hp} : ex (d) 27 70 L st h = ex d 27 71 L (.int (nI 1) :: st) h := (ex_of d27_70 (d) L st h).trans (rfl)
theorem d27_71 : decode (mB 27) 71 = .ok (.iadd, 1) := by decide +kernel
theorem x27_71 {d : Nat} {L : Lc} {st : List Value} {x y : Int32} {h : Hp} : ex (d) 27 71 L (.int y :: .int x :: st) h = ex d 27 72 L (.int (x + y) :: st) h := (ex_of d27_71 (d) L (.int y :: .int x :: st) h).trans (rfl)
theorem d27_72 : decode (mB 27) 72 = .ok (.iaload, 1) := by decide +kernel
theorem x27_72 {d : Nat} {L : Lc} {st : List Value} {a j : Nat} {h : Hp} (ht : (h.2.1 a).1 = 20) (hj : j < (h.2.1 a).2) (hb : j < 2147483648) : ex (d) 27 72 L (.int (nI j) :: .ref a :: st) h = ex d 27 73 L (h.1 a j :: st) h := (ex_of d27_72 (d) L (.int (nI j) :: .ref a :: st) h).trans (fin_iaload (Or.inl ht) hj hb)
theorem d27_73 : decode (mB 27) 73 = .ok (.iadd, 1) := by decide +kernel
theorem x27_73 {d : Nat} {L : Lc} {st : List Value} {x y : Int32} {h : Hp} : ex (d) 27 73 L (.int y :: .int x :: st) h = ex d 27 74 L (.int (x + y) :: st) h := (ex_of d27_73 (d) L (.int y :: .int x :: st) h).trans (rfl)
theorem d27_74 : decode (mB 27) 74 = .ok (.aload_n 0, 1) := by decide +kernel
theorem x27_74 {d : Nat} {l1 l2 l3 l4 l5 l6 l7 : Option Value} {st : List Value} {a : Nat} {h : Hp} : ex (d) 27 74 [some (.ref a), l1, l2, l3, l4, l5, l6, l7] st h = ex d 27 75 [some (.ref a), l1, l2, l3, l4, l5, l6, l7] (.ref a :: st) h := (ex_of d27_74 (d) [some (.ref a), l1, l2, l3, l4, l5, l6, l7] st h).trans (rfl)
theorem d27_75 : decode (mB 27) 75 = .ok (.getfield 92, 3) := by decide +kernel
theorem x27_75 {d : Nat} {L : Lc} {st : List Value} {a : Nat} {h : Hp} (ht : (h.2.1 a).1 = 5) : ex (d) 27 75 L (.ref a :: st) h = ex d 27 78 L (h.1 a 15 :: st) h := (ex_of d27_75 (d) L (.ref a :: st) h).trans (fin_get (mi := 27) f5_92 (tg1 ht rfl))
theorem d27_78 : decode (mB 27) 78 = .ok (.if_icmp .lt 4, 3) := by decide +kernel
theorem x27_78 {d : Nat} {L : Lc} {st : List Value} {x y : Int32} {h : Hp} : ex (d) 27 78 L (.int y :: .int x :: st) h = if x < y then ex d 27 82 L st h else ex d 27 81 L st h := (ex_of d27_78 (d) L (.int y :: .int x :: st) h).trans (fin_brq (off := 4) (tgt := 82) rfl (by decide))
theorem d27_81 : decode (mB 27) 81 = .ok (.return_, 1) := by decide +kernel
theorem x27_81 {d : Nat} {L : Lc}  {h : Hp} : ex (d) 27 81 L [] h = some (none, h) := (ex_of d27_81 (d) L [] h).trans (rfl)
theorem d27_82 : decode (mB 27) 82 = .ok (.aload_n 0, 1) := by decide +kernel
theorem x27_82 {d : Nat} {l1 l2 l3 l4 l5 l6 l7 : Option Value} {st : List Value} {a : Nat} {h : Hp} : ex (d) 27 82 [some (.ref a), l1, l2, l3, l4, l5, l6, l7] st h = ex d 27 83 [some (.ref a), l1, l2, l3, l4, l5, l6, l7] (.ref a :: st) h := (ex_of d27_82 (d) [some (.ref a), l1, l2, l3, l4, l5, l6, l7] st h).trans (rfl)
theorem d27_83 : decode (mB 27) 83 = .ok (.iload_n 1, 1) := by decide +kernel
theorem x27_83 {d : Nat} {l0 l2 l3 l4 l5 l6 l7 : Option Value} {st : List Value} {x : Int32} {h : Hp} : ex (d) 27 83 [l0, some (.int x), l2, l3, l4, l5, l6, l7] st h = ex d 27 84 [l0, some (.int x), l2, l3, l4, l5, l6, l7] (.int x :: st) h := (ex_of d27_83 (d) [l0, some (.int x), l2, l3, l4, l5, l6, l7] st h).trans (rfl)
theorem d27_84 : decode (mB 27) 84 = .ok (.iload_n 2, 1) := by decide +kernel
theorem x27_84 {d : Nat} {l0 l1 l3 l4 l5 l6 l7 : Option Value} {st : List Value} {x : Int32} {h : Hp} : ex (d) 27 84 [l0, l1, some (.int x), l3, l4, l5, l6, l7] st h = ex d 27 85 [l0, l1, some (.int x), l3, l4, l5, l6, l7] (.int x :: st) h := (ex_of d27_84 (d) [l0, l1, some (.int x), l3, l4, l5, l6, l7] st h).trans (rfl)
theorem d27_85 : decode (mB 27) 85 = .ok (.iload 6, 2) := by decide +kernel
theorem x27_85 {d : Nat} {l0 l1 l2 l3 l4 l5 l7 : Option Value} {st : List Value} {x : Int32} {h : Hp} : ex (d) 27 85 [l0, l1, l2, l3, l4, l5, some (.int x), l7] st h = ex d 27 87 [l0, l1, l2, l3, l4, l5, some (.int x), l7] (.int x :: st) h := (ex_of d27_85 (d) [l0, l1, l2, l3, l4, l5, some (.int x), l7] st h).trans (rfl)
theorem d27_87 : decode (mB 27) 87 = .ok (.invokevirtual 139, 3) := by decide +kernel
theorem x27_87 {d : Nat} {L : Lc} {a : Nat} {v0 : Int32} {v1 : Int32} {v2 : Int32} {h : Hp} (ht : (h.2.1 a).1 = 5) : ex (d + 1) 27 87 L (.int v2 :: .int v1 :: .int v0 :: .ref a :: []) h = bnd (ex d 29 0 [some (.ref a), some (.int v0), some (.int v1), some (.int v2), none] [] h) (fun v h' => ex (d + 1) 27 90 L (v.toList ++ []) h') := (ex_of d27_87 (d + 1) L (.int v2 :: .int v1 :: .int v0 :: .ref a :: []) h).trans (fin_vi (mi := 27) i5_139 ht rfl rfl (by simp [cat1_i, cat1_r]) (by simp) (Nat.le_of_ble_eq_true rfl))
theorem d27_90 : decode (mB 27) 90 = .ok (.ifCond .ne 21, 3) := by decide +kernel
theorem x27_90 {d : Nat} {L : Lc} {st : List Value} {x : Int32} {h : Hp} : ex (d) 27 90 L (.int x :: st) h = if ¬ x = 0 then ex d 27 111 L st h else ex d 27 93 L st h := (ex_of d27_90 (d) L (.int x :: st) h).trans (fin_brq (off := 21) (tgt := 111) rfl (by decide))
theorem d27_93 : decode (mB 27) 93 = .ok (.aload_n 0, 1) := by decide +kernel
theorem x27_93 {d : Nat} {l1 l2 l3 l4 l5 l6 l7 : Option Value} {st : List Value} {a : Nat} {h : Hp} : ex (d) 27 93 [some (.ref a), l1, l2, l3, l4, l5, l6, l7] st h = ex d 27 94 [some (.ref a), l1, l2, l3, l4, l5, l6, l7] (.ref a :: st) h := (ex_of d27_93 (d) [some (.ref a), l1, l2, l3, l4, l5, l6, l7] st h).trans (rfl)
theorem d27_94 : decode (mB 27) 94 = .ok (.getfield 56, 3) := by decide +kernel
theorem x27_94 {d : Nat} {L : Lc} {st : List Value} {a : Nat} {h : Hp} (ht : (h.2.1 a).1 = 5) : ex (d) 27 94 L (.ref a :: st) h = ex d 27 97 L (h.1 a 14 :: st) h := (ex_of d27_94 (d) L (.ref a :: st) h).trans (fin_get (mi := 27) f5_56 (tg1 ht rfl))
theorem d27_97 : decode (mB 27) 97 = .ok (.iload_n 2, 1) := by decide +kernel
theorem x27_97 {d : Nat} {l0 l1 l3 l4 l5 l6 l7 : Option Value} {st : List Value} {x : Int32} {h : Hp} : ex (d) 27 97 [l0, l1, some (.int x), l3, l4, l5, l6, l7] st h = ex d 27 98 [l0, l1, some (.int x), l3, l4, l5, l6, l7] (.int x :: st) h := (ex_of d27_97 (d) [l0, l1, some (.int x), l3, l4, l5, l6, l7] st h).trans (rfl)
theorem d27_98 : decode (mB 27) 98 = .ok (.iload 6, 2) := by decide +kernel
theorem x27_98 {d : Nat} {l0 l1 l2 l3 l4 l5 l7 : Option Value} {st : List Value} {x : Int32} {h : Hp} : ex (d) 27 98 [l0, l1, l2, l3, l4, l5, some (.int x), l7] st h = ex d 27 100 [l0, l1, l2, l3, l4, l5, some (.int x), l7] (.int x :: st) h := (ex_of d27_98 (d) [l0, l1, l2, l3, l4, l5, some (.int x), l7] st h).trans (rfl)
theorem d27_100 : decode (mB 27) 100 = .ok (.iastore, 1) := by decide +kernel
theorem x27_100 {d : Nat} {L : Lc} {st : List Value} {a j : Nat} {x : Int32} {h : Hp} (ht : (h.2.1 a).1 = 20) (hj : j < (h.2.1 a).2) (hb : j < 2147483648) : ex (d) 27 100 L (.int x :: .int (nI j) :: .ref a :: st) h = ex d 27 101 L st (mup h.1 a j (.int x), h.2) := (ex_of d27_100 (d) L (.int x :: .int (nI j) :: .ref a :: st) h).trans (fin_iastore ht hj hb)
theorem d27_101 : decode (mB 27) 101 = .ok (.aload_n 0, 1) := by decide +kernel
theorem x27_101 {d : Nat} {l1 l2 l3 l4 l5 l6 l7 : Option Value} {st : List Value} {a : Nat} {h : Hp} : ex (d) 27 101 [some (.ref a), l1, l2, l3, l4, l5, l6, l7] st h = ex d 27 102 [some (.ref a), l1, l2, l3, l4, l5, l6, l7] (.ref a :: st) h := (ex_of d27_101 (d) [some (.ref a), l1, l2, l3, l4, l5, l6, l7] st h).trans (rfl)
theorem d27_102 : decode (mB 27) 102 = .ok (.iload_n 1, 1) := by decide +kernel
theorem x27_102 {d : Nat} {l0 l2 l3 l4 l5 l6 l7 : Option Value} {st : List Value} {x : Int32} {h : Hp} : ex (d) 27 102 [l0, some (.int x), l2, l3, l4, l5, l6, l7] st h = ex d 27 103 [l0, some (.int x), l2, l3, l4, l5, l6, l7] (.int x :: st) h := (ex_of d27_102 (d) [l0, some (.int x), l2, l3, l4, l5, l6, l7] st h).trans (rfl)
theorem d27_103 : decode (mB 27) 103 = .ok (.iload_n 2, 1) := by decide +kernel
theorem x27_103 {d : Nat} {l0 l1 l3 l4 l5 l6 l7 : Option Value} {st : List Value} {x : Int32} {h : Hp} : ex (d) 27 103 [l0, l1, some (.int x), l3, l4, l5, l6, l7] st h = ex d 27 104 [l0, l1, some (.int x), l3, l4, l5, l6, l7] (.int x :: st) h := (ex_of d27_103 (d) [l0, l1, some (.int x), l3, l4, l5, l6, l7] st h).trans (rfl)
theorem d27_104 : decode (mB 27) 104 = .ok (.iconst 1, 1) := by decide +kernel
theorem x27_104 {d : Nat} {L : Lc} {st : List Value} {h : Hp} : ex (d) 27 104 L st h = ex d 27 105 L (.int (nI 1) :: st) h := (ex_of d27_104 (d) L st h).trans (rfl)
theorem d27_105 : decode (mB 27) 105 = .ok (.iadd, 1) := by decide +kernel
theorem x27_105 {d : Nat} {L : Lc} {st : List Value} {x y : Int32} {h : Hp} : ex (d) 27 105 L (.int y :: .int x :: st) h = ex d 27 106 L (.int (x + y) :: st) h := (ex_of d27_105 (d) L (.int y :: .int x :: st) h).trans (rfl)
theorem d27_106 : decode (mB 27) 106 = .ok (.iload 7, 2) := by decide +kernel
theorem x27_106 {d : Nat} {l0 l1 l2 l3 l4 l5 l6 : Option Value} {st : List Value} {x : Int32} {h : Hp} : ex (d) 27 106 [l0, l1, l2, l3, l4, l5, l6, some (.int x)] st h = ex d 27 108 [l0, l1, l2, l3, l4, l5, l6, some (.int x)] (.int x :: st) h := (ex_of d27_106 (d) [l0, l1, l2, l3, l4, l5, l6, some (.int x)] st h).trans (rfl)
theorem d27_108 : decode (mB 27) 108 = .ok (.invokevirtual 95, 3) := by decide +kernel
theorem x27_108 {d : Nat} {L : Lc} {a : Nat} {v0 : Int32} {v1 : Int32} {v2 : Int32} {h : Hp} (ht : (h.2.1 a).1 = 5) : ex (d + 1) 27 108 L (.int v2 :: .int v1 :: .int v0 :: .ref a :: []) h = bnd (ex d 27 0 [some (.ref a), some (.int v0), some (.int v1), some (.int v2), none, none, none, none] [] h) (fun v h' => ex (d + 1) 27 111 L (v.toList ++ []) h') := (ex_of d27_108 (d + 1) L (.int v2 :: .int v1 :: .int v0 :: .ref a :: []) h).trans (fin_vi (mi := 27) i5_95 ht rfl rfl (by simp [cat1_i, cat1_r]) (by simp) (Nat.le_of_ble_eq_true rfl))
theorem d27_111 : decode (mB 27) 111 = .ok (.iinc 5 1, 3) := by decide +kernel
theorem x27_111 {d : Nat} {l0 l1 l2 l3 l4 l6 l7 : Option Value} {st : List Value} {x : Int32} {h : Hp} : ex (d) 27 111 [l0, l1, l2, l3, l4, some (.int x), l6, l7] st h = ex d 27 114 [l0, l1, l2, l3, clr l4, some (.int (x + (nI 1))), l6, l7] st h := (ex_of d27_111 (d) [l0, l1, l2, l3, l4, some (.int x), l6, l7] st h).trans (rfl)
theorem d27_114 : decode (mB 27) 114 = .ok (.goto (-89), 3) := by decide +kernel
theorem x27_114 {d : Nat} {L : Lc} {st : List Value} {h : Hp} : ex (d) 27 114 L st h = ex d 27 25 L st h := (ex_of d27_114 (d) L st h).trans (rfl)
theorem d27_117 : decode (mB 27) 117 = .ok (.return_, 1) := by decide +kernel
theorem x27_117 {d : Nat} {L : Lc}  {h : Hp} : ex (d) 27 117 L [] h = some (none, h) := (ex_of d27_117 (d) L [] h).trans (rfl)
theorem d28_0 : decode (mB 28) 0 = .ok (.iload_n 1, 1) := by decide +kernel
theorem x28_0 {d : Nat} {l0 l2 l3 l4 l5 : Option Value} {st : List Value} {x : Int32} {h : Hp} : ex (d) 28 0 [l0, some (.int x), l2, l3, l4, l5] st h = ex d 28 1 [l0, some (.int x), l2, l3, l4, l5] (.int x :: st) h := (ex_of d28_0 (d) [l0, some (.int x), l2, l3, l4, l5] st h).trans (rfl)
theorem d28_1 : decode (mB 28) 1 = .ok (.aload_n 0, 1) := by decide +kernel
theorem x28_1 {d : Nat} {l1 l2 l3 l4 l5 : Option Value} {st : List Value} {a : Nat} {h : Hp} : ex (d) 28 1 [some (.ref a), l1, l2, l3, l4, l5] st h = ex d 28 2 [some (.ref a), l1, l2, l3, l4, l5] (.ref a :: st) h := (ex_of d28_1 (d) [some (.ref a), l1, l2, l3, l4, l5] st h).trans (rfl)
theorem d28_2 : decode (mB 28) 2 = .ok (.getfield 62, 3) := by decide +kernel
theorem x28_2 {d : Nat} {L : Lc} {st : List Value} {a : Nat} {h : Hp} (ht : (h.2.1 a).1 = 5) : ex (d) 28 2 L (.ref a :: st) h = ex d 28 5 L (h.1 a 2 :: st) h := (ex_of d28_2 (d) L (.ref a :: st) h).trans (fin_get (mi := 28) f5_62 (tg1 ht rfl))
theorem d28_5 : decode (mB 28) 5 = .ok (.if_icmp .lt 5, 3) := by decide +kernel
theorem x28_5 {d : Nat} {L : Lc} {st : List Value} {x y : Int32} {h : Hp} : ex (d) 28 5 L (.int y :: .int x :: st) h = if x < y then ex d 28 10 L st h else ex d 28 8 L st h := (ex_of d28_5 (d) L (.int y :: .int x :: st) h).trans (fin_brq (off := 5) (tgt := 10) rfl (by decide))
theorem d28_8 : decode (mB 28) 8 = .ok (.iconst 1, 1) := by decide +kernel
theorem x28_8 {d : Nat} {L : Lc} {st : List Value} {h : Hp} : ex (d) 28 8 L st h = ex d 28 9 L (.int (nI 1) :: st) h := (ex_of d28_8 (d) L st h).trans (rfl)
theorem d28_9 : decode (mB 28) 9 = .ok (.ireturn, 1) := by decide +kernel
theorem x28_9 {d : Nat} {L : Lc} {x : Int32} {h : Hp} (hx : x = 0 ∨ x = 1) : ex (d) 28 9 L [.int x] h = some (some (.int x), h) := (ex_of d28_9 (d) L [.int x] h).trans (fin_retb rfl hx)
theorem d28_10 : decode (mB 28) 10 = .ok (.aload_n 0, 1) := by decide +kernel
theorem x28_10 {d : Nat} {l1 l2 l3 l4 l5 : Option Value} {st : List Value} {a : Nat} {h : Hp} : ex (d) 28 10 [some (.ref a), l1, l2, l3, l4, l5] st h = ex d 28 11 [some (.ref a), l1, l2, l3, l4, l5] (.ref a :: st) h := (ex_of d28_10 (d) [some (.ref a), l1, l2, l3, l4, l5] st h).trans (rfl)
theorem d28_11 : decode (mB 28) 11 = .ok (.getfield 50, 3) := by decide +kernel
theorem x28_11 {d : Nat} {L : Lc} {st : List Value} {a : Nat} {h : Hp} (ht : (h.2.1 a).1 = 5) : ex (d) 28 11 L (.ref a :: st) h = ex d 28 14 L (h.1 a 12 :: st) h := (ex_of d28_11 (d) L (.ref a :: st) h).trans (fin_get (mi := 28) f5_50 (tg1 ht rfl))
theorem d28_14 : decode (mB 28) 14 = .ok (.iload_n 1, 1) := by decide +kernel
theorem x28_14 {d : Nat} {l0 l2 l3 l4 l5 : Option Value} {st : List Value} {x : Int32} {h : Hp} : ex (d) 28 14 [l0, some (.int x), l2, l3, l4, l5] st h = ex d 28 15 [l0, some (.int x), l2, l3, l4, l5] (.int x :: st) h := (ex_of d28_14 (d) [l0, some (.int x), l2, l3, l4, l5] st h).trans (rfl)
theorem d28_15 : decode (mB 28) 15 = .ok (.iaload, 1) := by decide +kernel
theorem x28_15 {d : Nat} {L : Lc} {st : List Value} {a j : Nat} {h : Hp} (ht : (h.2.1 a).1 = 20) (hj : j < (h.2.1 a).2) (hb : j < 2147483648) : ex (d) 28 15 L (.int (nI j) :: .ref a :: st) h = ex d 28 16 L (h.1 a j :: st) h := (ex_of d28_15 (d) L (.int (nI j) :: .ref a :: st) h).trans (fin_iaload (Or.inl ht) hj hb)
theorem d28_16 : decode (mB 28) 16 = .ok (.istore_n 3, 1) := by decide +kernel
theorem x28_16 {d : Nat} {l0 l1 l2 l3 l4 l5 : Option Value} {st : List Value} {x : Int32} {h : Hp} : ex (d) 28 16 [l0, l1, l2, l3, l4, l5] (.int x :: st) h = ex d 28 17 [l0, l1, clr l2, some (.int x), l4, l5] st h := (ex_of d28_16 (d) [l0, l1, l2, l3, l4, l5] (.int x :: st) h).trans (rfl)
theorem d28_17 : decode (mB 28) 17 = .ok (.iconst 0, 1) := by decide +kernel
theorem x28_17 {d : Nat} {L : Lc} {st : List Value} {h : Hp} : ex (d) 28 17 L st h = ex d 28 18 L (.int (nI 0) :: st) h := (ex_of d28_17 (d) L st h).trans (rfl)
theorem d28_18 : decode (mB 28) 18 = .ok (.istore 4, 2) := by decide +kernel
theorem x28_18 {d : Nat} {l0 l1 l2 l3 l4 l5 : Option Value} {st : List Value} {x : Int32} {h : Hp} : ex (d) 28 18 [l0, l1, l2, l3, l4, l5] (.int x :: st) h = ex d 28 20 [l0, l1, l2, clr l3, some (.int x), l5] st h := (ex_of d28_18 (d) [l0, l1, l2, l3, l4, l5] (.int x :: st) h).trans (rfl)
theorem d28_20 : decode (mB 28) 20 = .ok (.iload 4, 2) := by decide +kernel
theorem x28_20 {d : Nat} {l0 l1 l2 l3 l5 : Option Value} {st : List Value} {x : Int32} {h : Hp} : ex (d) 28 20 [l0, l1, l2, l3, some (.int x), l5] st h = ex d 28 22 [l0, l1, l2, l3, some (.int x), l5] (.int x :: st) h := (ex_of d28_20 (d) [l0, l1, l2, l3, some (.int x), l5] st h).trans (rfl)
theorem d28_22 : decode (mB 28) 22 = .ok (.aload_n 0, 1) := by decide +kernel
theorem x28_22 {d : Nat} {l1 l2 l3 l4 l5 : Option Value} {st : List Value} {a : Nat} {h : Hp} : ex (d) 28 22 [some (.ref a), l1, l2, l3, l4, l5] st h = ex d 28 23 [some (.ref a), l1, l2, l3, l4, l5] (.ref a :: st) h := (ex_of d28_22 (d) [some (.ref a), l1, l2, l3, l4, l5] st h).trans (rfl)
theorem d28_23 : decode (mB 28) 23 = .ok (.getfield 66, 3) := by decide +kernel
theorem x28_23 {d : Nat} {L : Lc} {st : List Value} {a : Nat} {h : Hp} (ht : (h.2.1 a).1 = 5) : ex (d) 28 23 L (.ref a :: st) h = ex d 28 26 L (h.1 a 5 :: st) h := (ex_of d28_23 (d) L (.ref a :: st) h).trans (fin_get (mi := 28) f5_66 (tg1 ht rfl))
theorem d28_26 : decode (mB 28) 26 = .ok (.if_icmp .ge 80, 3) := by decide +kernel
theorem x28_26 {d : Nat} {L : Lc} {st : List Value} {x y : Int32} {h : Hp} : ex (d) 28 26 L (.int y :: .int x :: st) h = if y ≤ x then ex d 28 106 L st h else ex d 28 29 L st h := (ex_of d28_26 (d) L (.int y :: .int x :: st) h).trans (fin_brq (off := 80) (tgt := 106) rfl (by decide))
theorem d28_29 : decode (mB 28) 29 = .ok (.iload_n 2, 1) := by decide +kernel
theorem x28_29 {d : Nat} {l0 l1 l3 l4 l5 : Option Value} {st : List Value} {x : Int32} {h : Hp} : ex (d) 28 29 [l0, l1, some (.int x), l3, l4, l5] st h = ex d 28 30 [l0, l1, some (.int x), l3, l4, l5] (.int x :: st) h := (ex_of d28_29 (d) [l0, l1, some (.int x), l3, l4, l5] st h).trans (rfl)
theorem d28_30 : decode (mB 28) 30 = .ok (.aload_n 0, 1) := by decide +kernel
theorem x28_30 {d : Nat} {l1 l2 l3 l4 l5 : Option Value} {st : List Value} {a : Nat} {h : Hp} : ex (d) 28 30 [some (.ref a), l1, l2, l3, l4, l5] st h = ex d 28 31 [some (.ref a), l1, l2, l3, l4, l5] (.ref a :: st) h := (ex_of d28_30 (d) [some (.ref a), l1, l2, l3, l4, l5] st h).trans (rfl)
theorem d28_31 : decode (mB 28) 31 = .ok (.getfield 35, 3) := by decide +kernel
theorem x28_31 {d : Nat} {L : Lc} {st : List Value} {a : Nat} {h : Hp} (ht : (h.2.1 a).1 = 5) : ex (d) 28 31 L (.ref a :: st) h = ex d 28 34 L (h.1 a 7 :: st) h := (ex_of d28_31 (d) L (.ref a :: st) h).trans (fin_get (mi := 28) f5_35 (tg1 ht rfl))
theorem d28_34 : decode (mB 28) 34 = .ok (.iload_n 3, 1) := by decide +kernel
theorem x28_34 {d : Nat} {l0 l1 l2 l4 l5 : Option Value} {st : List Value} {x : Int32} {h : Hp} : ex (d) 28 34 [l0, l1, l2, some (.int x), l4, l5] st h = ex d 28 35 [l0, l1, l2, some (.int x), l4, l5] (.int x :: st) h := (ex_of d28_34 (d) [l0, l1, l2, some (.int x), l4, l5] st h).trans (rfl)
theorem d28_35 : decode (mB 28) 35 = .ok (.aaload, 1) := by decide +kernel
theorem x28_35 {d : Nat} {L : Lc} {st : List Value} {a j : Nat} {h : Hp} (ht : 21 ≤ (h.2.1 a).1 ∧ (h.2.1 a).1 ≤ 26) (hj : j < (h.2.1 a).2) (hb : j < 2147483648) : ex (d) 28 35 L (.int (nI j) :: .ref a :: st) h = ex d 28 36 L (h.1 a j :: st) h := (ex_of d28_35 (d) L (.int (nI j) :: .ref a :: st) h).trans (fin_aaload ht hj hb)
theorem d28_36 : decode (mB 28) 36 = .ok (.iload 4, 2) := by decide +kernel
theorem x28_36 {d : Nat} {l0 l1 l2 l3 l5 : Option Value} {st : List Value} {x : Int32} {h : Hp} : ex (d) 28 36 [l0, l1, l2, l3, some (.int x), l5] st h = ex d 28 38 [l0, l1, l2, l3, some (.int x), l5] (.int x :: st) h := (ex_of d28_36 (d) [l0, l1, l2, l3, some (.int x), l5] st h).trans (rfl)
theorem d28_38 : decode (mB 28) 38 = .ok (.iaload, 1) := by decide +kernel
theorem x28_38 {d : Nat} {L : Lc} {st : List Value} {a j : Nat} {h : Hp} (ht : (h.2.1 a).1 = 20) (hj : j < (h.2.1 a).2) (hb : j < 2147483648) : ex (d) 28 38 L (.int (nI j) :: .ref a :: st) h = ex d 28 39 L (h.1 a j :: st) h := (ex_of d28_38 (d) L (.int (nI j) :: .ref a :: st) h).trans (fin_iaload (Or.inl ht) hj hb)
theorem d28_39 : decode (mB 28) 39 = .ok (.isub, 1) := by decide +kernel
theorem x28_39 {d : Nat} {L : Lc} {st : List Value} {x y : Int32} {h : Hp} : ex (d) 28 39 L (.int y :: .int x :: st) h = ex d 28 40 L (.int (x - y) :: st) h := (ex_of d28_39 (d) L (.int y :: .int x :: st) h).trans (rfl)
theorem d28_40 : decode (mB 28) 40 = .ok (.istore 5, 2) := by decide +kernel
theorem x28_40 {d : Nat} {l0 l1 l2 l3 l4 l5 : Option Value} {st : List Value} {x : Int32} {h : Hp} : ex (d) 28 40 [l0, l1, l2, l3, l4, l5] (.int x :: st) h = ex d 28 42 [l0, l1, l2, l3, clr l4, some (.int x)] st h := (ex_of d28_40 (d) [l0, l1, l2, l3, l4, l5] (.int x :: st) h).trans (rfl)
theorem d28_42 : decode (mB 28) 42 = .ok (.aload_n 0, 1) := by decide +kernel
theorem x28_42 {d : Nat} {l1 l2 l3 l4 l5 : Option Value} {st : List Value} {a : Nat} {h : Hp} : ex (d) 28 42 [some (.ref a), l1, l2, l3, l4, l5] st h = ex d 28 43 [some (.ref a), l1, l2, l3, l4, l5] (.ref a :: st) h := (ex_of d28_42 (d) [some (.ref a), l1, l2, l3, l4, l5] st h).trans (rfl)
theorem d28_43 : decode (mB 28) 43 = .ok (.getfield 35, 3) := by decide +kernel
theorem x28_43 {d : Nat} {L : Lc} {st : List Value} {a : Nat} {h : Hp} (ht : (h.2.1 a).1 = 5) : ex (d) 28 43 L (.ref a :: st) h = ex d 28 46 L (h.1 a 7 :: st) h := (ex_of d28_43 (d) L (.ref a :: st) h).trans (fin_get (mi := 28) f5_35 (tg1 ht rfl))
theorem d28_46 : decode (mB 28) 46 = .ok (.iload_n 3, 1) := by decide +kernel
theorem x28_46 {d : Nat} {l0 l1 l2 l4 l5 : Option Value} {st : List Value} {x : Int32} {h : Hp} : ex (d) 28 46 [l0, l1, l2, some (.int x), l4, l5] st h = ex d 28 47 [l0, l1, l2, some (.int x), l4, l5] (.int x :: st) h := (ex_of d28_46 (d) [l0, l1, l2, some (.int x), l4, l5] st h).trans (rfl)
theorem d28_47 : decode (mB 28) 47 = .ok (.aaload, 1) := by decide +kernel
theorem x28_47 {d : Nat} {L : Lc} {st : List Value} {a j : Nat} {h : Hp} (ht : 21 ≤ (h.2.1 a).1 ∧ (h.2.1 a).1 ≤ 26) (hj : j < (h.2.1 a).2) (hb : j < 2147483648) : ex (d) 28 47 L (.int (nI j) :: .ref a :: st) h = ex d 28 48 L (h.1 a j :: st) h := (ex_of d28_47 (d) L (.int (nI j) :: .ref a :: st) h).trans (fin_aaload ht hj hb)
theorem d28_48 : decode (mB 28) 48 = .ok (.iload 4, 2) := by decide +kernel
theorem x28_48 {d : Nat} {l0 l1 l2 l3 l5 : Option Value} {st : List Value} {x : Int32} {h : Hp} : ex (d) 28 48 [l0, l1, l2, l3, some (.int x), l5] st h = ex d 28 50 [l0, l1, l2, l3, some (.int x), l5] (.int x :: st) h := (ex_of d28_48 (d) [l0, l1, l2, l3, some (.int x), l5] st h).trans (rfl)
theorem d28_50 : decode (mB 28) 50 = .ok (.iaload, 1) := by decide +kernel
theorem x28_50 {d : Nat} {L : Lc} {st : List Value} {a j : Nat} {h : Hp} (ht : (h.2.1 a).1 = 20) (hj : j < (h.2.1 a).2) (hb : j < 2147483648) : ex (d) 28 50 L (.int (nI j) :: .ref a :: st) h = ex d 28 51 L (h.1 a j :: st) h := (ex_of d28_50 (d) L (.int (nI j) :: .ref a :: st) h).trans (fin_iaload (Or.inl ht) hj hb)
theorem d28_51 : decode (mB 28) 51 = .ok (.ifCond .lt 49, 3) := by decide +kernel
theorem x28_51 {d : Nat} {L : Lc} {st : List Value} {x : Int32} {h : Hp} : ex (d) 28 51 L (.int x :: st) h = if x < 0 then ex d 28 100 L st h else ex d 28 54 L st h := (ex_of d28_51 (d) L (.int x :: st) h).trans (fin_brq (off := 49) (tgt := 100) rfl (by decide))
theorem d28_54 : decode (mB 28) 54 = .ok (.iload 5, 2) := by decide +kernel
theorem x28_54 {d : Nat} {l0 l1 l2 l3 l4 : Option Value} {st : List Value} {x : Int32} {h : Hp} : ex (d) 28 54 [l0, l1, l2, l3, l4, some (.int x)] st h = ex d 28 56 [l0, l1, l2, l3, l4, some (.int x)] (.int x :: st) h := (ex_of d28_54 (d) [l0, l1, l2, l3, l4, some (.int x)] st h).trans (rfl)
theorem d28_56 : decode (mB 28) 56 = .ok (.aload_n 0, 1) := by decide +kernel
theorem x28_56 {d : Nat} {l1 l2 l3 l4 l5 : Option Value} {st : List Value} {a : Nat} {h : Hp} : ex (d) 28 56 [some (.ref a), l1, l2, l3, l4, l5] st h = ex d 28 57 [some (.ref a), l1, l2, l3, l4, l5] (.ref a :: st) h := (ex_of d28_56 (d) [some (.ref a), l1, l2, l3, l4, l5] st h).trans (rfl)
theorem d28_57 : decode (mB 28) 57 = .ok (.getfield 53, 3) := by decide +kernel
theorem x28_57 {d : Nat} {L : Lc} {st : List Value} {a : Nat} {h : Hp} (ht : (h.2.1 a).1 = 5) : ex (d) 28 57 L (.ref a :: st) h = ex d 28 60 L (h.1 a 13 :: st) h := (ex_of d28_57 (d) L (.ref a :: st) h).trans (fin_get (mi := 28) f5_53 (tg1 ht rfl))
theorem d28_60 : decode (mB 28) 60 = .ok (.iload_n 1, 1) := by decide +kernel
theorem x28_60 {d : Nat} {l0 l2 l3 l4 l5 : Option Value} {st : List Value} {x : Int32} {h : Hp} : ex (d) 28 60 [l0, some (.int x), l2, l3, l4, l5] st h = ex d 28 61 [l0, some (.int x), l2, l3, l4, l5] (.int x :: st) h := (ex_of d28_60 (d) [l0, some (.int x), l2, l3, l4, l5] st h).trans (rfl)
theorem d28_61 : decode (mB 28) 61 = .ok (.iconst 1, 1) := by decide +kernel
theorem x28_61 {d : Nat} {L : Lc} {st : List Value} {h : Hp} : ex (d) 28 61 L st h = ex d 28 62 L (.int (nI 1) :: st) h := (ex_of d28_61 (d) L st h).trans (rfl)
theorem d28_62 : decode (mB 28) 62 = .ok (.iadd, 1) := by decide +kernel
theorem x28_62 {d : Nat} {L : Lc} {st : List Value} {x y : Int32} {h : Hp} : ex (d) 28 62 L (.int y :: .int x :: st) h = ex d 28 63 L (.int (x + y) :: st) h := (ex_of d28_62 (d) L (.int y :: .int x :: st) h).trans (rfl)
theorem d28_63 : decode (mB 28) 63 = .ok (.iaload, 1) := by decide +kernel
theorem x28_63 {d : Nat} {L : Lc} {st : List Value} {a j : Nat} {h : Hp} (ht : (h.2.1 a).1 = 20) (hj : j < (h.2.1 a).2) (hb : j < 2147483648) : ex (d) 28 63 L (.int (nI j) :: .ref a :: st) h = ex d 28 64 L (h.1 a j :: st) h := (ex_of d28_63 (d) L (.int (nI j) :: .ref a :: st) h).trans (fin_iaload (Or.inl ht) hj hb)
theorem d28_64 : decode (mB 28) 64 = .ok (.if_icmp .lt 36, 3) := by decide +kernel
theorem x28_64 {d : Nat} {L : Lc} {st : List Value} {x y : Int32} {h : Hp} : ex (d) 28 64 L (.int y :: .int x :: st) h = if x < y then ex d 28 100 L st h else ex d 28 67 L st h := (ex_of d28_64 (d) L (.int y :: .int x :: st) h).trans (fin_brq (off := 36) (tgt := 100) rfl (by decide))
theorem d28_67 : decode (mB 28) 67 = .ok (.aload_n 0, 1) := by decide +kernel
theorem x28_67 {d : Nat} {l1 l2 l3 l4 l5 : Option Value} {st : List Value} {a : Nat} {h : Hp} : ex (d) 28 67 [some (.ref a), l1, l2, l3, l4, l5] st h = ex d 28 68 [some (.ref a), l1, l2, l3, l4, l5] (.ref a :: st) h := (ex_of d28_67 (d) [some (.ref a), l1, l2, l3, l4, l5] st h).trans (rfl)
theorem d28_68 : decode (mB 28) 68 = .ok (.iconst 0, 1) := by decide +kernel
theorem x28_68 {d : Nat} {L : Lc} {st : List Value} {h : Hp} : ex (d) 28 68 L st h = ex d 28 69 L (.int (nI 0) :: st) h := (ex_of d28_68 (d) L st h).trans (rfl)
theorem d28_69 : decode (mB 28) 69 = .ok (.iload_n 1, 1) := by decide +kernel
theorem x28_69 {d : Nat} {l0 l2 l3 l4 l5 : Option Value} {st : List Value} {x : Int32} {h : Hp} : ex (d) 28 69 [l0, some (.int x), l2, l3, l4, l5] st h = ex d 28 70 [l0, some (.int x), l2, l3, l4, l5] (.int x :: st) h := (ex_of d28_69 (d) [l0, some (.int x), l2, l3, l4, l5] st h).trans (rfl)
theorem d28_70 : decode (mB 28) 70 = .ok (.iload 4, 2) := by decide +kernel
theorem x28_70 {d : Nat} {l0 l1 l2 l3 l5 : Option Value} {st : List Value} {x : Int32} {h : Hp} : ex (d) 28 70 [l0, l1, l2, l3, some (.int x), l5] st h = ex d 28 72 [l0, l1, l2, l3, some (.int x), l5] (.int x :: st) h := (ex_of d28_70 (d) [l0, l1, l2, l3, some (.int x), l5] st h).trans (rfl)
theorem d28_72 : decode (mB 28) 72 = .ok (.invokevirtual 139, 3) := by decide +kernel
theorem x28_72 {d : Nat} {L : Lc} {a : Nat} {v0 : Int32} {v1 : Int32} {v2 : Int32} {h : Hp} (ht : (h.2.1 a).1 = 5) : ex (d + 1) 28 72 L (.int v2 :: .int v1 :: .int v0 :: .ref a :: []) h = bnd (ex d 29 0 [some (.ref a), some (.int v0), some (.int v1), some (.int v2), none] [] h) (fun v h' => ex (d + 1) 28 75 L (v.toList ++ []) h') := (ex_of d28_72 (d + 1) L (.int v2 :: .int v1 :: .int v0 :: .ref a :: []) h).trans (fin_vi (mi := 28) i5_139 ht rfl rfl (by simp [cat1_i, cat1_r]) (by simp) (Nat.le_of_ble_eq_true rfl))
theorem d28_75 : decode (mB 28) 75 = .ok (.ifCond .ne 25, 3) := by decide +kernel
theorem x28_75 {d : Nat} {L : Lc} {st : List Value} {x : Int32} {h : Hp} : ex (d) 28 75 L (.int x :: st) h = if ¬ x = 0 then ex d 28 100 L st h else ex d 28 78 L st h := (ex_of d28_75 (d) L (.int x :: st) h).trans (fin_brq (off := 25) (tgt := 100) rfl (by decide))
theorem d28_78 : decode (mB 28) 78 = .ok (.aload_n 0, 1) := by decide +kernel
theorem x28_78 {d : Nat} {l1 l2 l3 l4 l5 : Option Value} {st : List Value} {a : Nat} {h : Hp} : ex (d) 28 78 [some (.ref a), l1, l2, l3, l4, l5] st h = ex d 28 79 [some (.ref a), l1, l2, l3, l4, l5] (.ref a :: st) h := (ex_of d28_78 (d) [some (.ref a), l1, l2, l3, l4, l5] st h).trans (rfl)
theorem d28_79 : decode (mB 28) 79 = .ok (.getfield 56, 3) := by decide +kernel
theorem x28_79 {d : Nat} {L : Lc} {st : List Value} {a : Nat} {h : Hp} (ht : (h.2.1 a).1 = 5) : ex (d) 28 79 L (.ref a :: st) h = ex d 28 82 L (h.1 a 14 :: st) h := (ex_of d28_79 (d) L (.ref a :: st) h).trans (fin_get (mi := 28) f5_56 (tg1 ht rfl))
theorem d28_82 : decode (mB 28) 82 = .ok (.iload_n 1, 1) := by decide +kernel
theorem x28_82 {d : Nat} {l0 l2 l3 l4 l5 : Option Value} {st : List Value} {x : Int32} {h : Hp} : ex (d) 28 82 [l0, some (.int x), l2, l3, l4, l5] st h = ex d 28 83 [l0, some (.int x), l2, l3, l4, l5] (.int x :: st) h := (ex_of d28_82 (d) [l0, some (.int x), l2, l3, l4, l5] st h).trans (rfl)
theorem d28_83 : decode (mB 28) 83 = .ok (.iload 4, 2) := by decide +kernel
theorem x28_83 {d : Nat} {l0 l1 l2 l3 l5 : Option Value} {st : List Value} {x : Int32} {h : Hp} : ex (d) 28 83 [l0, l1, l2, l3, some (.int x), l5] st h = ex d 28 85 [l0, l1, l2, l3, some (.int x), l5] (.int x :: st) h := (ex_of d28_83 (d) [l0, l1, l2, l3, some (.int x), l5] st h).trans (rfl)
theorem d28_85 : decode (mB 28) 85 = .ok (.iastore, 1) := by decide +kernel
theorem x28_85 {d : Nat} {L : Lc} {st : List Value} {a j : Nat} {x : Int32} {h : Hp} (ht : (h.2.1 a).1 = 20) (hj : j < (h.2.1 a).2) (hb : j < 2147483648) : ex (d) 28 85 L (.int x :: .int (nI j) :: .ref a :: st) h = ex d 28 86 L st (mup h.1 a j (.int x), h.2) := (ex_of d28_85 (d) L (.int x :: .int (nI j) :: .ref a :: st) h).trans (fin_iastore ht hj hb)
theorem d28_86 : decode (mB 28) 86 = .ok (.aload_n 0, 1) := by decide +kernel
theorem x28_86 {d : Nat} {l1 l2 l3 l4 l5 : Option Value} {st : List Value} {a : Nat} {h : Hp} : ex (d) 28 86 [some (.ref a), l1, l2, l3, l4, l5] st h = ex d 28 87 [some (.ref a), l1, l2, l3, l4, l5] (.ref a :: st) h := (ex_of d28_86 (d) [some (.ref a), l1, l2, l3, l4, l5] st h).trans (rfl)
theorem d28_87 : decode (mB 28) 87 = .ok (.iload_n 1, 1) := by decide +kernel
theorem x28_87 {d : Nat} {l0 l2 l3 l4 l5 : Option Value} {st : List Value} {x : Int32} {h : Hp} : ex (d) 28 87 [l0, some (.int x), l2, l3, l4, l5] st h = ex d 28 88 [l0, some (.int x), l2, l3, l4, l5] (.int x :: st) h := (ex_of d28_87 (d) [l0, some (.int x), l2, l3, l4, l5] st h).trans (rfl)
theorem d28_88 : decode (mB 28) 88 = .ok (.iconst 1, 1) := by decide +kernel
theorem x28_88 {d : Nat} {L : Lc} {st : List Value} {h : Hp} : ex (d) 28 88 L st h = ex d 28 89 L (.int (nI 1) :: st) h := (ex_of d28_88 (d) L st h).trans (rfl)
theorem d28_89 : decode (mB 28) 89 = .ok (.iadd, 1) := by decide +kernel
theorem x28_89 {d : Nat} {L : Lc} {st : List Value} {x y : Int32} {h : Hp} : ex (d) 28 89 L (.int y :: .int x :: st) h = ex d 28 90 L (.int (x + y) :: st) h := (ex_of d28_89 (d) L (.int y :: .int x :: st) h).trans (rfl)
theorem d28_90 : decode (mB 28) 90 = .ok (.iload 5, 2) := by decide +kernel
theorem x28_90 {d : Nat} {l0 l1 l2 l3 l4 : Option Value} {st : List Value} {x : Int32} {h : Hp} : ex (d) 28 90 [l0, l1, l2, l3, l4, some (.int x)] st h = ex d 28 92 [l0, l1, l2, l3, l4, some (.int x)] (.int x :: st) h := (ex_of d28_90 (d) [l0, l1, l2, l3, l4, some (.int x)] st h).trans (rfl)
theorem d28_92 : decode (mB 28) 92 = .ok (.invokevirtual 102, 3) := by decide +kernel
theorem x28_92 {d : Nat} {L : Lc} {a : Nat} {v0 : Int32} {v1 : Int32} {h : Hp} (ht : (h.2.1 a).1 = 5) : ex (d + 1) 28 92 L (.int v1 :: .int v0 :: .ref a :: []) h = bnd (ex d 28 0 [some (.ref a), some (.int v0), some (.int v1), none, none, none] [] h) (fun v h' => ex (d + 1) 28 95 L (v.toList ++ []) h') := (ex_of d28_92 (d + 1) L (.int v1 :: .int v0 :: .ref a :: []) h).trans (fin_vi (mi := 28) i5_102 ht rfl rfl (by simp [cat1_i, cat1_r]) (by simp) (Nat.le_of_ble_eq_true rfl))
theorem d28_95 : decode (mB 28) 95 = .ok (.ifCond .eq 5, 3) := by decide +kernel
theorem x28_95 {d : Nat} {L : Lc} {st : List Value} {x : Int32} {h : Hp} : ex (d) 28 95 L (.int x :: st) h = if x = 0 then ex d 28 100 L st h else ex d 28 98 L st h := (ex_of d28_95 (d) L (.int x :: st) h).trans (fin_brq (off := 5) (tgt := 100) rfl (by decide))
theorem d28_98 : decode (mB 28) 98 = .ok (.iconst 1, 1) := by decide +kernel
theorem x28_98 {d : Nat} {L : Lc} {st : List Value} {h : Hp} : ex (d) 28 98 L st h = ex d 28 99 L (.int (nI 1) :: st) h := (ex_of d28_98 (d) L st h).trans (rfl)
theorem d28_99 : decode (mB 28) 99 = .ok (.ireturn, 1) := by decide +kernel
theorem x28_99 {d : Nat} {L : Lc} {x : Int32} {h : Hp} (hx : x = 0 ∨ x = 1) : ex (d) 28 99 L [.int x] h = some (some (.int x), h) := (ex_of d28_99 (d) L [.int x] h).trans (fin_retb rfl hx)
theorem d28_100 : decode (mB 28) 100 = .ok (.iinc 4 1, 3) := by decide +kernel
theorem x28_100 {d : Nat} {l0 l1 l2 l3 l5 : Option Value} {st : List Value} {x : Int32} {h : Hp} : ex (d) 28 100 [l0, l1, l2, l3, some (.int x), l5] st h = ex d 28 103 [l0, l1, l2, clr l3, some (.int (x + (nI 1))), l5] st h := (ex_of d28_100 (d) [l0, l1, l2, l3, some (.int x), l5] st h).trans (rfl)
theorem d28_103 : decode (mB 28) 103 = .ok (.goto (-83), 3) := by decide +kernel
theorem x28_103 {d : Nat} {L : Lc} {st : List Value} {h : Hp} : ex (d) 28 103 L st h = ex d 28 20 L st h := (ex_of d28_103 (d) L st h).trans (rfl)
theorem d28_106 : decode (mB 28) 106 = .ok (.iconst 0, 1) := by decide +kernel
theorem x28_106 {d : Nat} {L : Lc} {st : List Value} {h : Hp} : ex (d) 28 106 L st h = ex d 28 107 L (.int (nI 0) :: st) h := (ex_of d28_106 (d) L st h).trans (rfl)
theorem d28_107 : decode (mB 28) 107 = .ok (.ireturn, 1) := by decide +kernel
theorem x28_107 {d : Nat} {L : Lc} {x : Int32} {h : Hp} (hx : x = 0 ∨ x = 1) : ex (d) 28 107 L [.int x] h = some (some (.int x), h) := (ex_of d28_107 (d) L [.int x] h).trans (fin_retb rfl hx)
theorem d29_0 : decode (mB 29) 0 = .ok (.iload_n 1, 1) := by decide +kernel
theorem x29_0 {d : Nat} {l0 l2 l3 l4 : Option Value} {st : List Value} {x : Int32} {h : Hp} : ex (d) 29 0 [l0, some (.int x), l2, l3, l4] st h = ex d 29 1 [l0, some (.int x), l2, l3, l4] (.int x :: st) h := (ex_of d29_0 (d) [l0, some (.int x), l2, l3, l4] st h).trans (rfl)
theorem d29_1 : decode (mB 29) 1 = .ok (.istore 4, 2) := by decide +kernel
theorem x29_1 {d : Nat} {l0 l1 l2 l3 l4 : Option Value} {st : List Value} {x : Int32} {h : Hp} : ex (d) 29 1 [l0, l1, l2, l3, l4] (.int x :: st) h = ex d 29 3 [l0, l1, l2, clr l3, some (.int x)] st h := (ex_of d29_1 (d) [l0, l1, l2, l3, l4] (.int x :: st) h).trans (rfl)
theorem d29_3 : decode (mB 29) 3 = .ok (.iload 4, 2) := by decide +kernel
theorem x29_3 {d : Nat} {l0 l1 l2 l3 : Option Value} {st : List Value} {x : Int32} {h : Hp} : ex (d) 29 3 [l0, l1, l2, l3, some (.int x)] st h = ex d 29 5 [l0, l1, l2, l3, some (.int x)] (.int x :: st) h := (ex_of d29_3 (d) [l0, l1, l2, l3, some (.int x)] st h).trans (rfl)
theorem d29_5 : decode (mB 29) 5 = .ok (.iload_n 2, 1) := by decide +kernel
theorem x29_5 {d : Nat} {l0 l1 l3 l4 : Option Value} {st : List Value} {x : Int32} {h : Hp} : ex (d) 29 5 [l0, l1, some (.int x), l3, l4] st h = ex d 29 6 [l0, l1, some (.int x), l3, l4] (.int x :: st) h := (ex_of d29_5 (d) [l0, l1, some (.int x), l3, l4] st h).trans (rfl)
theorem d29_6 : decode (mB 29) 6 = .ok (.if_icmp .ge 39, 3) := by decide +kernel
theorem x29_6 {d : Nat} {L : Lc} {st : List Value} {x y : Int32} {h : Hp} : ex (d) 29 6 L (.int y :: .int x :: st) h = if y ≤ x then ex d 29 45 L st h else ex d 29 9 L st h := (ex_of d29_6 (d) L (.int y :: .int x :: st) h).trans (fin_brq (off := 39) (tgt := 45) rfl (by decide))
theorem d29_9 : decode (mB 29) 9 = .ok (.aload_n 0, 1) := by decide +kernel
theorem x29_9 {d : Nat} {l1 l2 l3 l4 : Option Value} {st : List Value} {a : Nat} {h : Hp} : ex (d) 29 9 [some (.ref a), l1, l2, l3, l4] st h = ex d 29 10 [some (.ref a), l1, l2, l3, l4] (.ref a :: st) h := (ex_of d29_9 (d) [some (.ref a), l1, l2, l3, l4] st h).trans (rfl)
theorem d29_10 : decode (mB 29) 10 = .ok (.aload_n 0, 1) := by decide +kernel
theorem x29_10 {d : Nat} {l1 l2 l3 l4 : Option Value} {st : List Value} {a : Nat} {h : Hp} : ex (d) 29 10 [some (.ref a), l1, l2, l3, l4] st h = ex d 29 11 [some (.ref a), l1, l2, l3, l4] (.ref a :: st) h := (ex_of d29_10 (d) [some (.ref a), l1, l2, l3, l4] st h).trans (rfl)
theorem d29_11 : decode (mB 29) 11 = .ok (.getfield 50, 3) := by decide +kernel
theorem x29_11 {d : Nat} {L : Lc} {st : List Value} {a : Nat} {h : Hp} (ht : (h.2.1 a).1 = 5) : ex (d) 29 11 L (.ref a :: st) h = ex d 29 14 L (h.1 a 12 :: st) h := (ex_of d29_11 (d) L (.ref a :: st) h).trans (fin_get (mi := 29) f5_50 (tg1 ht rfl))
theorem d29_14 : decode (mB 29) 14 = .ok (.iload_n 2, 1) := by decide +kernel
theorem x29_14 {d : Nat} {l0 l1 l3 l4 : Option Value} {st : List Value} {x : Int32} {h : Hp} : ex (d) 29 14 [l0, l1, some (.int x), l3, l4] st h = ex d 29 15 [l0, l1, some (.int x), l3, l4] (.int x :: st) h := (ex_of d29_14 (d) [l0, l1, some (.int x), l3, l4] st h).trans (rfl)
theorem d29_15 : decode (mB 29) 15 = .ok (.iaload, 1) := by decide +kernel
theorem x29_15 {d : Nat} {L : Lc} {st : List Value} {a j : Nat} {h : Hp} (ht : (h.2.1 a).1 = 20) (hj : j < (h.2.1 a).2) (hb : j < 2147483648) : ex (d) 29 15 L (.int (nI j) :: .ref a :: st) h = ex d 29 16 L (h.1 a j :: st) h := (ex_of d29_15 (d) L (.int (nI j) :: .ref a :: st) h).trans (fin_iaload (Or.inl ht) hj hb)
theorem d29_16 : decode (mB 29) 16 = .ok (.iload_n 3, 1) := by decide +kernel
theorem x29_16 {d : Nat} {l0 l1 l2 l4 : Option Value} {st : List Value} {x : Int32} {h : Hp} : ex (d) 29 16 [l0, l1, l2, some (.int x), l4] st h = ex d 29 17 [l0, l1, l2, some (.int x), l4] (.int x :: st) h := (ex_of d29_16 (d) [l0, l1, l2, some (.int x), l4] st h).trans (rfl)
theorem d29_17 : decode (mB 29) 17 = .ok (.aload_n 0, 1) := by decide +kernel
theorem x29_17 {d : Nat} {l1 l2 l3 l4 : Option Value} {st : List Value} {a : Nat} {h : Hp} : ex (d) 29 17 [some (.ref a), l1, l2, l3, l4] st h = ex d 29 18 [some (.ref a), l1, l2, l3, l4] (.ref a :: st) h := (ex_of d29_17 (d) [some (.ref a), l1, l2, l3, l4] st h).trans (rfl)
theorem d29_18 : decode (mB 29) 18 = .ok (.getfield 50, 3) := by decide +kernel
theorem x29_18 {d : Nat} {L : Lc} {st : List Value} {a : Nat} {h : Hp} (ht : (h.2.1 a).1 = 5) : ex (d) 29 18 L (.ref a :: st) h = ex d 29 21 L (h.1 a 12 :: st) h := (ex_of d29_18 (d) L (.ref a :: st) h).trans (fin_get (mi := 29) f5_50 (tg1 ht rfl))
theorem d29_21 : decode (mB 29) 21 = .ok (.iload 4, 2) := by decide +kernel
theorem x29_21 {d : Nat} {l0 l1 l2 l3 : Option Value} {st : List Value} {x : Int32} {h : Hp} : ex (d) 29 21 [l0, l1, l2, l3, some (.int x)] st h = ex d 29 23 [l0, l1, l2, l3, some (.int x)] (.int x :: st) h := (ex_of d29_21 (d) [l0, l1, l2, l3, some (.int x)] st h).trans (rfl)
theorem d29_23 : decode (mB 29) 23 = .ok (.iaload, 1) := by decide +kernel
theorem x29_23 {d : Nat} {L : Lc} {st : List Value} {a j : Nat} {h : Hp} (ht : (h.2.1 a).1 = 20) (hj : j < (h.2.1 a).2) (hb : j < 2147483648) : ex (d) 29 23 L (.int (nI j) :: .ref a :: st) h = ex d 29 24 L (h.1 a j :: st) h := (ex_of d29_23 (d) L (.int (nI j) :: .ref a :: st) h).trans (fin_iaload (Or.inl ht) hj hb)
theorem d29_24 : decode (mB 29) 24 = .ok (.aload_n 0, 1) := by decide +kernel
theorem x29_24 {d : Nat} {l1 l2 l3 l4 : Option Value} {st : List Value} {a : Nat} {h : Hp} : ex (d) 29 24 [some (.ref a), l1, l2, l3, l4] st h = ex d 29 25 [some (.ref a), l1, l2, l3, l4] (.ref a :: st) h := (ex_of d29_24 (d) [some (.ref a), l1, l2, l3, l4] st h).trans (rfl)
theorem d29_25 : decode (mB 29) 25 = .ok (.getfield 56, 3) := by decide +kernel
theorem x29_25 {d : Nat} {L : Lc} {st : List Value} {a : Nat} {h : Hp} (ht : (h.2.1 a).1 = 5) : ex (d) 29 25 L (.ref a :: st) h = ex d 29 28 L (h.1 a 14 :: st) h := (ex_of d29_25 (d) L (.ref a :: st) h).trans (fin_get (mi := 29) f5_56 (tg1 ht rfl))
theorem d29_28 : decode (mB 29) 28 = .ok (.iload 4, 2) := by decide +kernel
theorem x29_28 {d : Nat} {l0 l1 l2 l3 : Option Value} {st : List Value} {x : Int32} {h : Hp} : ex (d) 29 28 [l0, l1, l2, l3, some (.int x)] st h = ex d 29 30 [l0, l1, l2, l3, some (.int x)] (.int x :: st) h := (ex_of d29_28 (d) [l0, l1, l2, l3, some (.int x)] st h).trans (rfl)
theorem d29_30 : decode (mB 29) 30 = .ok (.iaload, 1) := by decide +kernel
theorem x29_30 {d : Nat} {L : Lc} {st : List Value} {a j : Nat} {h : Hp} (ht : (h.2.1 a).1 = 20) (hj : j < (h.2.1 a).2) (hb : j < 2147483648) : ex (d) 29 30 L (.int (nI j) :: .ref a :: st) h = ex d 29 31 L (h.1 a j :: st) h := (ex_of d29_30 (d) L (.int (nI j) :: .ref a :: st) h).trans (fin_iaload (Or.inl ht) hj hb)
theorem d29_31 : decode (mB 29) 31 = .ok (.invokevirtual 143, 3) := by decide +kernel
theorem x29_31 {d : Nat} {L : Lc} {a : Nat} {v0 : Int32} {v1 : Int32} {v2 : Int32} {v3 : Int32} {h : Hp} (ht : (h.2.1 a).1 = 5) : ex (d + 1) 29 31 L (.int v3 :: .int v2 :: .int v1 :: .int v0 :: .ref a :: []) h = bnd (ex d 30 0 [some (.ref a), some (.int v0), some (.int v1), some (.int v2), some (.int v3), none] [] h) (fun v h' => ex (d + 1) 29 34 L (v.toList ++ []) h') := (ex_of d29_31 (d + 1) L (.int v3 :: .int v2 :: .int v1 :: .int v0 :: .ref a :: []) h).trans (fin_vi (mi := 29) i5_143 ht rfl rfl (by simp [cat1_i, cat1_r]) (by simp) (Nat.le_of_ble_eq_true rfl))
theorem d29_34 : decode (mB 29) 34 = .ok (.ifCond .eq 5, 3) := by decide +kernel
theorem x29_34 {d : Nat} {L : Lc} {st : List Value} {x : Int32} {h : Hp} : ex (d) 29 34 L (.int x :: st) h = if x = 0 then ex d 29 39 L st h else ex d 29 37 L st h := (ex_of d29_34 (d) L (.int x :: st) h).trans (fin_brq (off := 5) (tgt := 39) rfl (by decide))
theorem d29_37 : decode (mB 29) 37 = .ok (.iconst 1, 1) := by decide +kernel
theorem x29_37 {d : Nat} {L : Lc} {st : List Value} {h : Hp} : ex (d) 29 37 L st h = ex d 29 38 L (.int (nI 1) :: st) h := (ex_of d29_37 (d) L st h).trans (rfl)
theorem d29_38 : decode (mB 29) 38 = .ok (.ireturn, 1) := by decide +kernel
theorem x29_38 {d : Nat} {L : Lc} {x : Int32} {h : Hp} (hx : x = 0 ∨ x = 1) : ex (d) 29 38 L [.int x] h = some (some (.int x), h) := (ex_of d29_38 (d) L [.int x] h).trans (fin_retb rfl hx)
theorem d29_39 : decode (mB 29) 39 = .ok (.iinc 4 1, 3) := by decide +kernel
theorem x29_39 {d : Nat} {l0 l1 l2 l3 : Option Value} {st : List Value} {x : Int32} {h : Hp} : ex (d) 29 39 [l0, l1, l2, l3, some (.int x)] st h = ex d 29 42 [l0, l1, l2, clr l3, some (.int (x + (nI 1)))] st h := (ex_of d29_39 (d) [l0, l1, l2, l3, some (.int x)] st h).trans (rfl)
theorem d29_42 : decode (mB 29) 42 = .ok (.goto (-39), 3) := by decide +kernel
theorem x29_42 {d : Nat} {L : Lc} {st : List Value} {h : Hp} : ex (d) 29 42 L st h = ex d 29 3 L st h := (ex_of d29_42 (d) L st h).trans (rfl)
theorem d29_45 : decode (mB 29) 45 = .ok (.iconst 0, 1) := by decide +kernel
theorem x29_45 {d : Nat} {L : Lc} {st : List Value} {h : Hp} : ex (d) 29 45 L st h = ex d 29 46 L (.int (nI 0) :: st) h := (ex_of d29_45 (d) L st h).trans (rfl)
theorem d29_46 : decode (mB 29) 46 = .ok (.ireturn, 1) := by decide +kernel
theorem x29_46 {d : Nat} {L : Lc} {x : Int32} {h : Hp} (hx : x = 0 ∨ x = 1) : ex (d) 29 46 L [.int x] h = some (some (.int x), h) := (ex_of d29_46 (d) L [.int x] h).trans (fin_retb rfl hx)
theorem d30_0 : decode (mB 30) 0 = .ok (.aload_n 0, 1) := by decide +kernel
theorem x30_0 {d : Nat} {l1 l2 l3 l4 l5 : Option Value} {st : List Value} {a : Nat} {h : Hp} : ex (d) 30 0 [some (.ref a), l1, l2, l3, l4, l5] st h = ex d 30 1 [some (.ref a), l1, l2, l3, l4, l5] (.ref a :: st) h := (ex_of d30_0 (d) [some (.ref a), l1, l2, l3, l4, l5] st h).trans (rfl)
theorem d30_1 : decode (mB 30) 1 = .ok (.getfield 17, 3) := by decide +kernel
theorem x30_1 {d : Nat} {L : Lc} {st : List Value} {a : Nat} {h : Hp} (ht : (h.2.1 a).1 = 5) : ex (d) 30 1 L (.ref a :: st) h = ex d 30 4 L (h.1 a 1 :: st) h := (ex_of d30_1 (d) L (.ref a :: st) h).trans (fin_get (mi := 30) f5_17 (tg1 ht rfl))
theorem d30_4 : decode (mB 30) 4 = .ok (.iload_n 1, 1) := by decide +kernel
theorem x30_4 {d : Nat} {l0 l2 l3 l4 l5 : Option Value} {st : List Value} {x : Int32} {h : Hp} : ex (d) 30 4 [l0, some (.int x), l2, l3, l4, l5] st h = ex d 30 5 [l0, some (.int x), l2, l3, l4, l5] (.int x :: st) h := (ex_of d30_4 (d) [l0, some (.int x), l2, l3, l4, l5] st h).trans (rfl)
theorem d30_5 : decode (mB 30) 5 = .ok (.iaload, 1) := by decide +kernel
theorem x30_5 {d : Nat} {L : Lc} {st : List Value} {a j : Nat} {h : Hp} (ht : (h.2.1 a).1 = 20) (hj : j < (h.2.1 a).2) (hb : j < 2147483648) : ex (d) 30 5 L (.int (nI j) :: .ref a :: st) h = ex d 30 6 L (h.1 a j :: st) h := (ex_of d30_5 (d) L (.int (nI j) :: .ref a :: st) h).trans (fin_iaload (Or.inl ht) hj hb)
theorem d30_6 : decode (mB 30) 6 = .ok (.aload_n 0, 1) := by decide +kernel
theorem x30_6 {d : Nat} {l1 l2 l3 l4 l5 : Option Value} {st : List Value} {a : Nat} {h : Hp} : ex (d) 30 6 [some (.ref a), l1, l2, l3, l4, l5] st h = ex d 30 7 [some (.ref a), l1, l2, l3, l4, l5] (.ref a :: st) h := (ex_of d30_6 (d) [some (.ref a), l1, l2, l3, l4, l5] st h).trans (rfl)
theorem d30_7 : decode (mB 30) 7 = .ok (.getfield 17, 3) := by decide +kernel
theorem x30_7 {d : Nat} {L : Lc} {st : List Value} {a : Nat} {h : Hp} (ht : (h.2.1 a).1 = 5) : ex (d) 30 7 L (.ref a :: st) h = ex d 30 10 L (h.1 a 1 :: st) h := (ex_of d30_7 (d) L (.ref a :: st) h).trans (fin_get (mi := 30) f5_17 (tg1 ht rfl))
theorem d30_10 : decode (mB 30) 10 = .ok (.iload_n 3, 1) := by decide +kernel
theorem x30_10 {d : Nat} {l0 l1 l2 l4 l5 : Option Value} {st : List Value} {x : Int32} {h : Hp} : ex (d) 30 10 [l0, l1, l2, some (.int x), l4, l5] st h = ex d 30 11 [l0, l1, l2, some (.int x), l4, l5] (.int x :: st) h := (ex_of d30_10 (d) [l0, l1, l2, some (.int x), l4, l5] st h).trans (rfl)
theorem d30_11 : decode (mB 30) 11 = .ok (.iaload, 1) := by decide +kernel
theorem x30_11 {d : Nat} {L : Lc} {st : List Value} {a j : Nat} {h : Hp} (ht : (h.2.1 a).1 = 20) (hj : j < (h.2.1 a).2) (hb : j < 2147483648) : ex (d) 30 11 L (.int (nI j) :: .ref a :: st) h = ex d 30 12 L (h.1 a j :: st) h := (ex_of d30_11 (d) L (.int (nI j) :: .ref a :: st) h).trans (fin_iaload (Or.inl ht) hj hb)
theorem d30_12 : decode (mB 30) 12 = .ok (.if_icmp .ne 15, 3) := by decide +kernel
theorem x30_12 {d : Nat} {L : Lc} {st : List Value} {x y : Int32} {h : Hp} : ex (d) 30 12 L (.int y :: .int x :: st) h = if ¬ x = y then ex d 30 27 L st h else ex d 30 15 L st h := (ex_of d30_12 (d) L (.int y :: .int x :: st) h).trans (fin_brq (off := 15) (tgt := 27) rfl (by decide))
theorem d30_15 : decode (mB 30) 15 = .ok (.iload_n 2, 1) := by decide +kernel
theorem x30_15 {d : Nat} {l0 l1 l3 l4 l5 : Option Value} {st : List Value} {x : Int32} {h : Hp} : ex (d) 30 15 [l0, l1, some (.int x), l3, l4, l5] st h = ex d 30 16 [l0, l1, some (.int x), l3, l4, l5] (.int x :: st) h := (ex_of d30_15 (d) [l0, l1, some (.int x), l3, l4, l5] st h).trans (rfl)
theorem d30_16 : decode (mB 30) 16 = .ok (.iload 4, 2) := by decide +kernel
theorem x30_16 {d : Nat} {l0 l1 l2 l3 l5 : Option Value} {st : List Value} {x : Int32} {h : Hp} : ex (d) 30 16 [l0, l1, l2, l3, some (.int x), l5] st h = ex d 30 18 [l0, l1, l2, l3, some (.int x), l5] (.int x :: st) h := (ex_of d30_16 (d) [l0, l1, l2, l3, some (.int x), l5] st h).trans (rfl)
theorem d30_18 : decode (mB 30) 18 = .ok (.if_icmp .ne 7, 3) := by decide +kernel
theorem x30_18 {d : Nat} {L : Lc} {st : List Value} {x y : Int32} {h : Hp} : ex (d) 30 18 L (.int y :: .int x :: st) h = if ¬ x = y then ex d 30 25 L st h else ex d 30 21 L st h := (ex_of d30_18 (d) L (.int y :: .int x :: st) h).trans (fin_brq (off := 7) (tgt := 25) rfl (by decide))
theorem d30_21 : decode (mB 30) 21 = .ok (.iconst 1, 1) := by decide +kernel
theorem x30_21 {d : Nat} {L : Lc} {st : List Value} {h : Hp} : ex (d) 30 21 L st h = ex d 30 22 L (.int (nI 1) :: st) h := (ex_of d30_21 (d) L st h).trans (rfl)
theorem d30_22 : decode (mB 30) 22 = .ok (.goto 4, 3) := by decide +kernel
theorem x30_22 {d : Nat} {L : Lc} {st : List Value} {h : Hp} : ex (d) 30 22 L st h = ex d 30 26 L st h := (ex_of d30_22 (d) L st h).trans (rfl)
theorem d30_25 : decode (mB 30) 25 = .ok (.iconst 0, 1) := by decide +kernel
theorem x30_25 {d : Nat} {L : Lc} {st : List Value} {h : Hp} : ex (d) 30 25 L st h = ex d 30 26 L (.int (nI 0) :: st) h := (ex_of d30_25 (d) L st h).trans (rfl)
theorem d30_26 : decode (mB 30) 26 = .ok (.ireturn, 1) := by decide +kernel
theorem x30_26 {d : Nat} {L : Lc} {x : Int32} {h : Hp} (hx : x = 0 ∨ x = 1) : ex (d) 30 26 L [.int x] h = some (some (.int x), h) := (ex_of d30_26 (d) L [.int x] h).trans (fin_retb rfl hx)
theorem d30_27 : decode (mB 30) 27 = .ok (.aload_n 0, 1) := by decide +kernel
theorem x30_27 {d : Nat} {l1 l2 l3 l4 l5 : Option Value} {st : List Value} {a : Nat} {h : Hp} : ex (d) 30 27 [some (.ref a), l1, l2, l3, l4, l5] st h = ex d 30 28 [some (.ref a), l1, l2, l3, l4, l5] (.ref a :: st) h := (ex_of d30_27 (d) [some (.ref a), l1, l2, l3, l4, l5] st h).trans (rfl)
theorem d30_28 : decode (mB 30) 28 = .ok (.getfield 44, 3) := by decide +kernel
theorem x30_28 {d : Nat} {L : Lc} {st : List Value} {a : Nat} {h : Hp} (ht : (h.2.1 a).1 = 5) : ex (d) 30 28 L (.ref a :: st) h = ex d 30 31 L (h.1 a 10 :: st) h := (ex_of d30_28 (d) L (.ref a :: st) h).trans (fin_get (mi := 30) f5_44 (tg1 ht rfl))
theorem d30_31 : decode (mB 30) 31 = .ok (.iload_n 1, 1) := by decide +kernel
theorem x30_31 {d : Nat} {l0 l2 l3 l4 l5 : Option Value} {st : List Value} {x : Int32} {h : Hp} : ex (d) 30 31 [l0, some (.int x), l2, l3, l4, l5] st h = ex d 30 32 [l0, some (.int x), l2, l3, l4, l5] (.int x :: st) h := (ex_of d30_31 (d) [l0, some (.int x), l2, l3, l4, l5] st h).trans (rfl)
theorem d30_32 : decode (mB 30) 32 = .ok (.aaload, 1) := by decide +kernel
theorem x30_32 {d : Nat} {L : Lc} {st : List Value} {a j : Nat} {h : Hp} (ht : 21 ≤ (h.2.1 a).1 ∧ (h.2.1 a).1 ≤ 26) (hj : j < (h.2.1 a).2) (hb : j < 2147483648) : ex (d) 30 32 L (.int (nI j) :: .ref a :: st) h = ex d 30 33 L (h.1 a j :: st) h := (ex_of d30_32 (d) L (.int (nI j) :: .ref a :: st) h).trans (fin_aaload ht hj hb)
theorem d30_33 : decode (mB 30) 33 = .ok (.iload_n 3, 1) := by decide +kernel
theorem x30_33 {d : Nat} {l0 l1 l2 l4 l5 : Option Value} {st : List Value} {x : Int32} {h : Hp} : ex (d) 30 33 [l0, l1, l2, some (.int x), l4, l5] st h = ex d 30 34 [l0, l1, l2, some (.int x), l4, l5] (.int x :: st) h := (ex_of d30_33 (d) [l0, l1, l2, some (.int x), l4, l5] st h).trans (rfl)
theorem d30_34 : decode (mB 30) 34 = .ok (.iaload, 1) := by decide +kernel
theorem x30_34 {d : Nat} {L : Lc} {st : List Value} {a j : Nat} {h : Hp} (ht : (h.2.1 a).1 = 20) (hj : j < (h.2.1 a).2) (hb : j < 2147483648) : ex (d) 30 34 L (.int (nI j) :: .ref a :: st) h = ex d 30 35 L (h.1 a j :: st) h := (ex_of d30_34 (d) L (.int (nI j) :: .ref a :: st) h).trans (fin_iaload (Or.inl ht) hj hb)
theorem d30_35 : decode (mB 30) 35 = .ok (.istore 5, 2) := by decide +kernel
theorem x30_35 {d : Nat} {l0 l1 l2 l3 l4 l5 : Option Value} {st : List Value} {x : Int32} {h : Hp} : ex (d) 30 35 [l0, l1, l2, l3, l4, l5] (.int x :: st) h = ex d 30 37 [l0, l1, l2, l3, clr l4, some (.int x)] st h := (ex_of d30_35 (d) [l0, l1, l2, l3, l4, l5] (.int x :: st) h).trans (rfl)
theorem d30_37 : decode (mB 30) 37 = .ok (.iload 5, 2) := by decide +kernel
theorem x30_37 {d : Nat} {l0 l1 l2 l3 l4 : Option Value} {st : List Value} {x : Int32} {h : Hp} : ex (d) 30 37 [l0, l1, l2, l3, l4, some (.int x)] st h = ex d 30 39 [l0, l1, l2, l3, l4, some (.int x)] (.int x :: st) h := (ex_of d30_37 (d) [l0, l1, l2, l3, l4, some (.int x)] st h).trans (rfl)
theorem d30_39 : decode (mB 30) 39 = .ok (.ifCond .lt 9, 3) := by decide +kernel
theorem x30_39 {d : Nat} {L : Lc} {st : List Value} {x : Int32} {h : Hp} : ex (d) 30 39 L (.int x :: st) h = if x < 0 then ex d 30 48 L st h else ex d 30 42 L st h := (ex_of d30_39 (d) L (.int x :: st) h).trans (fin_brq (off := 9) (tgt := 48) rfl (by decide))
theorem d30_42 : decode (mB 30) 42 = .ok (.iload_n 2, 1) := by decide +kernel
theorem x30_42 {d : Nat} {l0 l1 l3 l4 l5 : Option Value} {st : List Value} {x : Int32} {h : Hp} : ex (d) 30 42 [l0, l1, some (.int x), l3, l4, l5] st h = ex d 30 43 [l0, l1, some (.int x), l3, l4, l5] (.int x :: st) h := (ex_of d30_42 (d) [l0, l1, some (.int x), l3, l4, l5] st h).trans (rfl)
theorem d30_43 : decode (mB 30) 43 = .ok (.iload 4, 2) := by decide +kernel
theorem x30_43 {d : Nat} {l0 l1 l2 l3 l5 : Option Value} {st : List Value} {x : Int32} {h : Hp} : ex (d) 30 43 [l0, l1, l2, l3, some (.int x), l5] st h = ex d 30 45 [l0, l1, l2, l3, some (.int x), l5] (.int x :: st) h := (ex_of d30_43 (d) [l0, l1, l2, l3, some (.int x), l5] st h).trans (rfl)
theorem d30_45 : decode (mB 30) 45 = .ok (.if_icmp .ne 5, 3) := by decide +kernel
theorem x30_45 {d : Nat} {L : Lc} {st : List Value} {x y : Int32} {h : Hp} : ex (d) 30 45 L (.int y :: .int x :: st) h = if ¬ x = y then ex d 30 50 L st h else ex d 30 48 L st h := (ex_of d30_45 (d) L (.int y :: .int x :: st) h).trans (fin_brq (off := 5) (tgt := 50) rfl (by decide))
theorem d30_48 : decode (mB 30) 48 = .ok (.iconst 0, 1) := by decide +kernel
theorem x30_48 {d : Nat} {L : Lc} {st : List Value} {h : Hp} : ex (d) 30 48 L st h = ex d 30 49 L (.int (nI 0) :: st) h := (ex_of d30_48 (d) L st h).trans (rfl)
theorem d30_49 : decode (mB 30) 49 = .ok (.ireturn, 1) := by decide +kernel
theorem x30_49 {d : Nat} {L : Lc} {x : Int32} {h : Hp} (hx : x = 0 ∨ x = 1) : ex (d) 30 49 L [.int x] h = some (some (.int x), h) := (ex_of d30_49 (d) L [.int x] h).trans (fin_retb rfl hx)
theorem d30_50 : decode (mB 30) 50 = .ok (.iload 5, 2) := by decide +kernel
theorem x30_50 {d : Nat} {l0 l1 l2 l3 l4 : Option Value} {st : List Value} {x : Int32} {h : Hp} : ex (d) 30 50 [l0, l1, l2, l3, l4, some (.int x)] st h = ex d 30 52 [l0, l1, l2, l3, l4, some (.int x)] (.int x :: st) h := (ex_of d30_50 (d) [l0, l1, l2, l3, l4, some (.int x)] st h).trans (rfl)
theorem d30_52 : decode (mB 30) 52 = .ok (.aload_n 0, 1) := by decide +kernel
theorem x30_52 {d : Nat} {l1 l2 l3 l4 l5 : Option Value} {st : List Value} {a : Nat} {h : Hp} : ex (d) 30 52 [some (.ref a), l1, l2, l3, l4, l5] st h = ex d 30 53 [some (.ref a), l1, l2, l3, l4, l5] (.ref a :: st) h := (ex_of d30_52 (d) [some (.ref a), l1, l2, l3, l4, l5] st h).trans (rfl)
theorem d30_53 : decode (mB 30) 53 = .ok (.getfield 30, 3) := by decide +kernel
theorem x30_53 {d : Nat} {L : Lc} {st : List Value} {a : Nat} {h : Hp} (ht : (h.2.1 a).1 = 5) : ex (d) 30 53 L (.ref a :: st) h = ex d 30 56 L (h.1 a 6 :: st) h := (ex_of d30_53 (d) L (.ref a :: st) h).trans (fin_get (mi := 30) f5_30 (tg1 ht rfl))
theorem d30_56 : decode (mB 30) 56 = .ok (.aload_n 0, 1) := by decide +kernel
theorem x30_56 {d : Nat} {l1 l2 l3 l4 l5 : Option Value} {st : List Value} {a : Nat} {h : Hp} : ex (d) 30 56 [some (.ref a), l1, l2, l3, l4, l5] st h = ex d 30 57 [some (.ref a), l1, l2, l3, l4, l5] (.ref a :: st) h := (ex_of d30_56 (d) [some (.ref a), l1, l2, l3, l4, l5] st h).trans (rfl)
theorem d30_57 : decode (mB 30) 57 = .ok (.getfield 17, 3) := by decide +kernel
theorem x30_57 {d : Nat} {L : Lc} {st : List Value} {a : Nat} {h : Hp} (ht : (h.2.1 a).1 = 5) : ex (d) 30 57 L (.ref a :: st) h = ex d 30 60 L (h.1 a 1 :: st) h := (ex_of d30_57 (d) L (.ref a :: st) h).trans (fin_get (mi := 30) f5_17 (tg1 ht rfl))
theorem d30_60 : decode (mB 30) 60 = .ok (.iload_n 1, 1) := by decide +kernel
theorem x30_60 {d : Nat} {l0 l2 l3 l4 l5 : Option Value} {st : List Value} {x : Int32} {h : Hp} : ex (d) 30 60 [l0, some (.int x), l2, l3, l4, l5] st h = ex d 30 61 [l0, some (.int x), l2, l3, l4, l5] (.int x :: st) h := (ex_of d30_60 (d) [l0, some (.int x), l2, l3, l4, l5] st h).trans (rfl)
theorem d30_61 : decode (mB 30) 61 = .ok (.iaload, 1) := by decide +kernel
theorem x30_61 {d : Nat} {L : Lc} {st : List Value} {a j : Nat} {h : Hp} (ht : (h.2.1 a).1 = 20) (hj : j < (h.2.1 a).2) (hb : j < 2147483648) : ex (d) 30 61 L (.int (nI j) :: .ref a :: st) h = ex d 30 62 L (h.1 a j :: st) h := (ex_of d30_61 (d) L (.int (nI j) :: .ref a :: st) h).trans (fin_iaload (Or.inl ht) hj hb)
theorem d30_62 : decode (mB 30) 62 = .ok (.aload_n 0, 1) := by decide +kernel
theorem x30_62 {d : Nat} {l1 l2 l3 l4 l5 : Option Value} {st : List Value} {a : Nat} {h : Hp} : ex (d) 30 62 [some (.ref a), l1, l2, l3, l4, l5] st h = ex d 30 63 [some (.ref a), l1, l2, l3, l4, l5] (.ref a :: st) h := (ex_of d30_62 (d) [some (.ref a), l1, l2, l3, l4, l5] st h).trans (rfl)
theorem d30_63 : decode (mB 30) 63 = .ok (.getfield 17, 3) := by decide +kernel
theorem x30_63 {d : Nat} {L : Lc} {st : List Value} {a : Nat} {h : Hp} (ht : (h.2.1 a).1 = 5) : ex (d) 30 63 L (.ref a :: st) h = ex d 30 66 L (h.1 a 1 :: st) h := (ex_of d30_63 (d) L (.ref a :: st) h).trans (fin_get (mi := 30) f5_17 (tg1 ht rfl))
theorem d30_66 : decode (mB 30) 66 = .ok (.iload_n 3, 1) := by decide +kernel
theorem x30_66 {d : Nat} {l0 l1 l2 l4 l5 : Option Value} {st : List Value} {x : Int32} {h : Hp} : ex (d) 30 66 [l0, l1, l2, some (.int x), l4, l5] st h = ex d 30 67 [l0, l1, l2, some (.int x), l4, l5] (.int x :: st) h := (ex_of d30_66 (d) [l0, l1, l2, some (.int x), l4, l5] st h).trans (rfl)
theorem d30_67 : decode (mB 30) 67 = .ok (.iaload, 1) := by decide +kernel
theorem x30_67 {d : Nat} {L : Lc} {st : List Value} {a j : Nat} {h : Hp} (ht : (h.2.1 a).1 = 20) (hj : j < (h.2.1 a).2) (hb : j < 2147483648) : ex (d) 30 67 L (.int (nI j) :: .ref a :: st) h = ex d 30 68 L (h.1 a j :: st) h := (ex_of d30_67 (d) L (.int (nI j) :: .ref a :: st) h).trans (fin_iaload (Or.inl ht) hj hb)
theorem d30_68 : decode (mB 30) 68 = .ok (.if_icmp .le 7, 3) := by decide +kernel
theorem x30_68 {d : Nat} {L : Lc} {st : List Value} {x y : Int32} {h : Hp} : ex (d) 30 68 L (.int y :: .int x :: st) h = if x ≤ y then ex d 30 75 L st h else ex d 30 71 L st h := (ex_of d30_68 (d) L (.int y :: .int x :: st) h).trans (fin_brq (off := 7) (tgt := 75) rfl (by decide))
theorem d30_71 : decode (mB 30) 71 = .ok (.iload_n 2, 1) := by decide +kernel
theorem x30_71 {d : Nat} {l0 l1 l3 l4 l5 : Option Value} {st : List Value} {x : Int32} {h : Hp} : ex (d) 30 71 [l0, l1, some (.int x), l3, l4, l5] st h = ex d 30 72 [l0, l1, some (.int x), l3, l4, l5] (.int x :: st) h := (ex_of d30_71 (d) [l0, l1, some (.int x), l3, l4, l5] st h).trans (rfl)
theorem d30_72 : decode (mB 30) 72 = .ok (.goto 5, 3) := by decide +kernel
theorem x30_72 {d : Nat} {L : Lc} {st : List Value} {h : Hp} : ex (d) 30 72 L st h = ex d 30 77 L st h := (ex_of d30_72 (d) L st h).trans (rfl)
theorem d30_75 : decode (mB 30) 75 = .ok (.iload 4, 2) := by decide +kernel
theorem x30_75 {d : Nat} {l0 l1 l2 l3 l5 : Option Value} {st : List Value} {x : Int32} {h : Hp} : ex (d) 30 75 [l0, l1, l2, l3, some (.int x), l5] st h = ex d 30 77 [l0, l1, l2, l3, some (.int x), l5] (.int x :: st) h := (ex_of d30_75 (d) [l0, l1, l2, l3, some (.int x), l5] st h).trans (rfl)
theorem d30_77 : decode (mB 30) 77 = .ok (.iaload, 1) := by decide +kernel
theorem x30_77 {d : Nat} {L : Lc} {st : List Value} {a j : Nat} {h : Hp} (ht : (h.2.1 a).1 = 20) (hj : j < (h.2.1 a).2) (hb : j < 2147483648) : ex (d) 30 77 L (.int (nI j) :: .ref a :: st) h = ex d 30 78 L (h.1 a j :: st) h := (ex_of d30_77 (d) L (.int (nI j) :: .ref a :: st) h).trans (fin_iaload (Or.inl ht) hj hb)
theorem d30_78 : decode (mB 30) 78 = .ok (.if_icmp .ge 7, 3) := by decide +kernel
theorem x30_78 {d : Nat} {L : Lc} {st : List Value} {x y : Int32} {h : Hp} : ex (d) 30 78 L (.int y :: .int x :: st) h = if y ≤ x then ex d 30 85 L st h else ex d 30 81 L st h := (ex_of d30_78 (d) L (.int y :: .int x :: st) h).trans (fin_brq (off := 7) (tgt := 85) rfl (by decide))
theorem d30_81 : decode (mB 30) 81 = .ok (.iconst 1, 1) := by decide +kernel
theorem x30_81 {d : Nat} {L : Lc} {st : List Value} {h : Hp} : ex (d) 30 81 L st h = ex d 30 82 L (.int (nI 1) :: st) h := (ex_of d30_81 (d) L st h).trans (rfl)
theorem d30_82 : decode (mB 30) 82 = .ok (.goto 4, 3) := by decide +kernel
theorem x30_82 {d : Nat} {L : Lc} {st : List Value} {h : Hp} : ex (d) 30 82 L st h = ex d 30 86 L st h := (ex_of d30_82 (d) L st h).trans (rfl)
theorem d30_85 : decode (mB 30) 85 = .ok (.iconst 0, 1) := by decide +kernel
theorem x30_85 {d : Nat} {L : Lc} {st : List Value} {h : Hp} : ex (d) 30 85 L st h = ex d 30 86 L (.int (nI 0) :: st) h := (ex_of d30_85 (d) L st h).trans (rfl)
theorem d30_86 : decode (mB 30) 86 = .ok (.ireturn, 1) := by decide +kernel
theorem x30_86 {d : Nat} {L : Lc} {x : Int32} {h : Hp} (hx : x = 0 ∨ x = 1) : ex (d) 30 86 L [.int x] h = some (some (.int x), h) := (ex_of d30_86 (d) L [.int x] h).trans (fin_retb rfl hx)
