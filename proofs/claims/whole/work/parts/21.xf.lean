/-! ===== x-rows, printed by wip/whole/gen/genx.py: X12_init, X12_fine, X12_bad, X12_isThing, X12_isIn, X12_isGarment, X12_isWear, X12_rowOf, X12_make, X12_rack, X12_wear, X12_set, X12_trunk, X12_row, X12_valueFault, X12_write, X12_value, X12_kind, X12 ===== -/
theorem d133_0 : decode (mB 133) 0 = .ok (.aload_n 0, 1) := by decide +kernel
theorem x133_0 {d : Nat} {st : List Value} {a : Nat} {h : Hp} : ex (d) 133 0 [some (.ref a)] st h = ex d 133 1 [some (.ref a)] (.ref a :: st) h := (ex_of d133_0 (d) [some (.ref a)] st h).trans (rfl)
theorem d133_1 : decode (mB 133) 1 = .ok (.invokespecial 1, 3) := by decide +kernel
theorem x133_1 {d : Nat} {L : Lc} {a : Nat} {h : Hp} : ex (d) 133 1 L (.ref a :: []) h = ex d 133 4 L [] h := (ex_of d133_1 (d) L (.ref a :: []) h).trans (rfl)
theorem d133_4 : decode (mB 133) 4 = .ok (.aload_n 0, 1) := by decide +kernel
theorem x133_4 {d : Nat} {st : List Value} {a : Nat} {h : Hp} : ex (d) 133 4 [some (.ref a)] st h = ex d 133 5 [some (.ref a)] (.ref a :: st) h := (ex_of d133_4 (d) [some (.ref a)] st h).trans (rfl)
theorem d133_5 : decode (mB 133) 5 = .ok (.sipush 200, 3) := by decide +kernel
theorem x133_5 {d : Nat} {L : Lc} {st : List Value} {h : Hp} : ex (d) 133 5 L st h = ex d 133 8 L (.int (nI 200) :: st) h := (ex_of d133_5 (d) L st h).trans (rfl)
theorem d133_8 : decode (mB 133) 8 = .ok (.newarray .int, 2) := by decide +kernel
theorem x133_8 {d : Nat} {L : Lc} {st : List Value} {n : Nat} {h : Hp} (hn : n ≤ 10000) : ex (d) 133 8 L (.int (nI n) :: st) h = ex d 133 10 L (.ref h.2.2.1 :: st) (mnw h.1 h.2.2.1 (fun _ => .int 0), mnw h.2.1 h.2.2.1 (20, n), h.2.2.1 + 1, h.2.2.2 + n) := (ex_of d133_8 (d) L (.int (nI n) :: st) h).trans (fin_nwa hn)
theorem d133_10 : decode (mB 133) 10 = .ok (.putfield 9, 3) := by decide +kernel
theorem x133_10 {d : Nat} {L : Lc} {st : List Value} {a b : Nat} {h : Hp} (ht : (h.2.1 a).1 = 11) : ex (d) 133 10 L (.ref b :: .ref a :: st) h = ex d 133 13 L st (mup h.1 a 2 (.ref b), h.2) := (ex_of d133_10 (d) L (.ref b :: .ref a :: st) h).trans (fin_put (mi := 133) f11_9 ht rfl rfl (by decide +kernel))
theorem x133_10n {d : Nat} {L : Lc} {st : List Value} {a : Nat} {h : Hp} (ht : (h.2.1 a).1 = 11) : ex (d) 133 10 L (.null :: .ref a :: st) h = ex d 133 13 L st (mup h.1 a 2 .null, h.2) := (ex_of d133_10 (d) L (.null :: .ref a :: st) h).trans (fin_put (mi := 133) f11_9 ht rfl rfl (by decide +kernel))
theorem x133_10q {d : Nat} {L : Lc} {st : List Value} {a : Nat} {b : Option Nat} {h : Hp} (ht : (h.2.1 a).1 = 11) : ex (d) 133 10 L (va_rf b :: .ref a :: st) h = ex d 133 13 L st (mup h.1 a 2 (va_rf b), h.2) := (ex_of d133_10 (d) L (va_rf b :: .ref a :: st) h).trans (by cases b <;> exact fin_put (mi := 133) f11_9 ht rfl rfl (by decide +kernel))
theorem d133_13 : decode (mB 133) 13 = .ok (.aload_n 0, 1) := by decide +kernel
theorem x133_13 {d : Nat} {st : List Value} {a : Nat} {h : Hp} : ex (d) 133 13 [some (.ref a)] st h = ex d 133 14 [some (.ref a)] (.ref a :: st) h := (ex_of d133_13 (d) [some (.ref a)] st h).trans (rfl)
theorem d133_14 : decode (mB 133) 14 = .ok (.sipush 200, 3) := by decide +kernel
theorem x133_14 {d : Nat} {L : Lc} {st : List Value} {h : Hp} : ex (d) 133 14 L st h = ex d 133 17 L (.int (nI 200) :: st) h := (ex_of d133_14 (d) L st h).trans (rfl)
theorem d133_17 : decode (mB 133) 17 = .ok (.newarray .int, 2) := by decide +kernel
theorem x133_17 {d : Nat} {L : Lc} {st : List Value} {n : Nat} {h : Hp} (hn : n ≤ 10000) : ex (d) 133 17 L (.int (nI n) :: st) h = ex d 133 19 L (.ref h.2.2.1 :: st) (mnw h.1 h.2.2.1 (fun _ => .int 0), mnw h.2.1 h.2.2.1 (20, n), h.2.2.1 + 1, h.2.2.2 + n) := (ex_of d133_17 (d) L (.int (nI n) :: st) h).trans (fin_nwa hn)
theorem d133_19 : decode (mB 133) 19 = .ok (.putfield 13, 3) := by decide +kernel
theorem x133_19 {d : Nat} {L : Lc} {st : List Value} {a b : Nat} {h : Hp} (ht : (h.2.1 a).1 = 11) : ex (d) 133 19 L (.ref b :: .ref a :: st) h = ex d 133 22 L st (mup h.1 a 3 (.ref b), h.2) := (ex_of d133_19 (d) L (.ref b :: .ref a :: st) h).trans (fin_put (mi := 133) f11_13 ht rfl rfl (by decide +kernel))
theorem x133_19n {d : Nat} {L : Lc} {st : List Value} {a : Nat} {h : Hp} (ht : (h.2.1 a).1 = 11) : ex (d) 133 19 L (.null :: .ref a :: st) h = ex d 133 22 L st (mup h.1 a 3 .null, h.2) := (ex_of d133_19 (d) L (.null :: .ref a :: st) h).trans (fin_put (mi := 133) f11_13 ht rfl rfl (by decide +kernel))
theorem x133_19q {d : Nat} {L : Lc} {st : List Value} {a : Nat} {b : Option Nat} {h : Hp} (ht : (h.2.1 a).1 = 11) : ex (d) 133 19 L (va_rf b :: .ref a :: st) h = ex d 133 22 L st (mup h.1 a 3 (va_rf b), h.2) := (ex_of d133_19 (d) L (va_rf b :: .ref a :: st) h).trans (by cases b <;> exact fin_put (mi := 133) f11_13 ht rfl rfl (by decide +kernel))
theorem d133_22 : decode (mB 133) 22 = .ok (.aload_n 0, 1) := by decide +kernel
theorem x133_22 {d : Nat} {st : List Value} {a : Nat} {h : Hp} : ex (d) 133 22 [some (.ref a)] st h = ex d 133 23 [some (.ref a)] (.ref a :: st) h := (ex_of d133_22 (d) [some (.ref a)] st h).trans (rfl)
theorem d133_23 : decode (mB 133) 23 = .ok (.sipush 200, 3) := by decide +kernel
theorem x133_23 {d : Nat} {L : Lc} {st : List Value} {h : Hp} : ex (d) 133 23 L st h = ex d 133 26 L (.int (nI 200) :: st) h := (ex_of d133_23 (d) L st h).trans (rfl)
theorem d133_26 : decode (mB 133) 26 = .ok (.newarray .int, 2) := by decide +kernel
theorem x133_26 {d : Nat} {L : Lc} {st : List Value} {n : Nat} {h : Hp} (hn : n ≤ 10000) : ex (d) 133 26 L (.int (nI n) :: st) h = ex d 133 28 L (.ref h.2.2.1 :: st) (mnw h.1 h.2.2.1 (fun _ => .int 0), mnw h.2.1 h.2.2.1 (20, n), h.2.2.1 + 1, h.2.2.2 + n) := (ex_of d133_26 (d) L (.int (nI n) :: st) h).trans (fin_nwa hn)
theorem d133_28 : decode (mB 133) 28 = .ok (.putfield 16, 3) := by decide +kernel
theorem x133_28 {d : Nat} {L : Lc} {st : List Value} {a b : Nat} {h : Hp} (ht : (h.2.1 a).1 = 11) : ex (d) 133 28 L (.ref b :: .ref a :: st) h = ex d 133 31 L st (mup h.1 a 4 (.ref b), h.2) := (ex_of d133_28 (d) L (.ref b :: .ref a :: st) h).trans (fin_put (mi := 133) f11_16 ht rfl rfl (by decide +kernel))
theorem x133_28n {d : Nat} {L : Lc} {st : List Value} {a : Nat} {h : Hp} (ht : (h.2.1 a).1 = 11) : ex (d) 133 28 L (.null :: .ref a :: st) h = ex d 133 31 L st (mup h.1 a 4 .null, h.2) := (ex_of d133_28 (d) L (.null :: .ref a :: st) h).trans (fin_put (mi := 133) f11_16 ht rfl rfl (by decide +kernel))
theorem x133_28q {d : Nat} {L : Lc} {st : List Value} {a : Nat} {b : Option Nat} {h : Hp} (ht : (h.2.1 a).1 = 11) : ex (d) 133 28 L (va_rf b :: .ref a :: st) h = ex d 133 31 L st (mup h.1 a 4 (va_rf b), h.2) := (ex_of d133_28 (d) L (va_rf b :: .ref a :: st) h).trans (by cases b <;> exact fin_put (mi := 133) f11_16 ht rfl rfl (by decide +kernel))
theorem d133_31 : decode (mB 133) 31 = .ok (.aload_n 0, 1) := by decide +kernel
theorem x133_31 {d : Nat} {st : List Value} {a : Nat} {h : Hp} : ex (d) 133 31 [some (.ref a)] st h = ex d 133 32 [some (.ref a)] (.ref a :: st) h := (ex_of d133_31 (d) [some (.ref a)] st h).trans (rfl)
theorem d133_32 : decode (mB 133) 32 = .ok (.sipush 200, 3) := by decide +kernel
theorem x133_32 {d : Nat} {L : Lc} {st : List Value} {h : Hp} : ex (d) 133 32 L st h = ex d 133 35 L (.int (nI 200) :: st) h := (ex_of d133_32 (d) L st h).trans (rfl)
theorem d133_35 : decode (mB 133) 35 = .ok (.newarray .int, 2) := by decide +kernel
theorem x133_35 {d : Nat} {L : Lc} {st : List Value} {n : Nat} {h : Hp} (hn : n ≤ 10000) : ex (d) 133 35 L (.int (nI n) :: st) h = ex d 133 37 L (.ref h.2.2.1 :: st) (mnw h.1 h.2.2.1 (fun _ => .int 0), mnw h.2.1 h.2.2.1 (20, n), h.2.2.1 + 1, h.2.2.2 + n) := (ex_of d133_35 (d) L (.int (nI n) :: st) h).trans (fin_nwa hn)
theorem d133_37 : decode (mB 133) 37 = .ok (.putfield 19, 3) := by decide +kernel
theorem x133_37 {d : Nat} {L : Lc} {st : List Value} {a b : Nat} {h : Hp} (ht : (h.2.1 a).1 = 11) : ex (d) 133 37 L (.ref b :: .ref a :: st) h = ex d 133 40 L st (mup h.1 a 5 (.ref b), h.2) := (ex_of d133_37 (d) L (.ref b :: .ref a :: st) h).trans (fin_put (mi := 133) f11_19 ht rfl rfl (by decide +kernel))
theorem x133_37n {d : Nat} {L : Lc} {st : List Value} {a : Nat} {h : Hp} (ht : (h.2.1 a).1 = 11) : ex (d) 133 37 L (.null :: .ref a :: st) h = ex d 133 40 L st (mup h.1 a 5 .null, h.2) := (ex_of d133_37 (d) L (.null :: .ref a :: st) h).trans (fin_put (mi := 133) f11_19 ht rfl rfl (by decide +kernel))
theorem x133_37q {d : Nat} {L : Lc} {st : List Value} {a : Nat} {b : Option Nat} {h : Hp} (ht : (h.2.1 a).1 = 11) : ex (d) 133 37 L (va_rf b :: .ref a :: st) h = ex d 133 40 L st (mup h.1 a 5 (va_rf b), h.2) := (ex_of d133_37 (d) L (va_rf b :: .ref a :: st) h).trans (by cases b <;> exact fin_put (mi := 133) f11_19 ht rfl rfl (by decide +kernel))
theorem d133_40 : decode (mB 133) 40 = .ok (.aload_n 0, 1) := by decide +kernel
theorem x133_40 {d : Nat} {st : List Value} {a : Nat} {h : Hp} : ex (d) 133 40 [some (.ref a)] st h = ex d 133 41 [some (.ref a)] (.ref a :: st) h := (ex_of d133_40 (d) [some (.ref a)] st h).trans (rfl)
theorem d133_41 : decode (mB 133) 41 = .ok (.sipush 212, 3) := by decide +kernel
theorem x133_41 {d : Nat} {L : Lc} {st : List Value} {h : Hp} : ex (d) 133 41 L st h = ex d 133 44 L (.int (nI 212) :: st) h := (ex_of d133_41 (d) L st h).trans (rfl)
theorem d133_44 : decode (mB 133) 44 = .ok (.newarray .int, 2) := by decide +kernel
theorem x133_44 {d : Nat} {L : Lc} {st : List Value} {n : Nat} {h : Hp} (hn : n ≤ 10000) : ex (d) 133 44 L (.int (nI n) :: st) h = ex d 133 46 L (.ref h.2.2.1 :: st) (mnw h.1 h.2.2.1 (fun _ => .int 0), mnw h.2.1 h.2.2.1 (20, n), h.2.2.1 + 1, h.2.2.2 + n) := (ex_of d133_44 (d) L (.int (nI n) :: st) h).trans (fin_nwa hn)
theorem d133_46 : decode (mB 133) 46 = .ok (.putfield 22, 3) := by decide +kernel
theorem x133_46 {d : Nat} {L : Lc} {st : List Value} {a b : Nat} {h : Hp} (ht : (h.2.1 a).1 = 11) : ex (d) 133 46 L (.ref b :: .ref a :: st) h = ex d 133 49 L st (mup h.1 a 6 (.ref b), h.2) := (ex_of d133_46 (d) L (.ref b :: .ref a :: st) h).trans (fin_put (mi := 133) f11_22 ht rfl rfl (by decide +kernel))
theorem x133_46n {d : Nat} {L : Lc} {st : List Value} {a : Nat} {h : Hp} (ht : (h.2.1 a).1 = 11) : ex (d) 133 46 L (.null :: .ref a :: st) h = ex d 133 49 L st (mup h.1 a 6 .null, h.2) := (ex_of d133_46 (d) L (.null :: .ref a :: st) h).trans (fin_put (mi := 133) f11_22 ht rfl rfl (by decide +kernel))
theorem x133_46q {d : Nat} {L : Lc} {st : List Value} {a : Nat} {b : Option Nat} {h : Hp} (ht : (h.2.1 a).1 = 11) : ex (d) 133 46 L (va_rf b :: .ref a :: st) h = ex d 133 49 L st (mup h.1 a 6 (va_rf b), h.2) := (ex_of d133_46 (d) L (va_rf b :: .ref a :: st) h).trans (by cases b <;> exact fin_put (mi := 133) f11_22 ht rfl rfl (by decide +kernel))
theorem d133_49 : decode (mB 133) 49 = .ok (.aload_n 0, 1) := by decide +kernel
theorem x133_49 {d : Nat} {st : List Value} {a : Nat} {h : Hp} : ex (d) 133 49 [some (.ref a)] st h = ex d 133 50 [some (.ref a)] (.ref a :: st) h := (ex_of d133_49 (d) [some (.ref a)] st h).trans (rfl)
theorem d133_50 : decode (mB 133) 50 = .ok (.sipush 8480, 3) := by decide +kernel
theorem x133_50 {d : Nat} {L : Lc} {st : List Value} {h : Hp} : ex (d) 133 50 L st h = ex d 133 53 L (.int (nI 8480) :: st) h := (ex_of d133_50 (d) L st h).trans (rfl)
theorem d133_53 : decode (mB 133) 53 = .ok (.newarray .int, 2) := by decide +kernel
theorem x133_53 {d : Nat} {L : Lc} {st : List Value} {n : Nat} {h : Hp} (hn : n ≤ 10000) : ex (d) 133 53 L (.int (nI n) :: st) h = ex d 133 55 L (.ref h.2.2.1 :: st) (mnw h.1 h.2.2.1 (fun _ => .int 0), mnw h.2.1 h.2.2.1 (20, n), h.2.2.1 + 1, h.2.2.2 + n) := (ex_of d133_53 (d) L (.int (nI n) :: st) h).trans (fin_nwa hn)
theorem d133_55 : decode (mB 133) 55 = .ok (.putfield 25, 3) := by decide +kernel
theorem x133_55 {d : Nat} {L : Lc} {st : List Value} {a b : Nat} {h : Hp} (ht : (h.2.1 a).1 = 11) : ex (d) 133 55 L (.ref b :: .ref a :: st) h = ex d 133 58 L st (mup h.1 a 7 (.ref b), h.2) := (ex_of d133_55 (d) L (.ref b :: .ref a :: st) h).trans (fin_put (mi := 133) f11_25 ht rfl rfl (by decide +kernel))
theorem x133_55n {d : Nat} {L : Lc} {st : List Value} {a : Nat} {h : Hp} (ht : (h.2.1 a).1 = 11) : ex (d) 133 55 L (.null :: .ref a :: st) h = ex d 133 58 L st (mup h.1 a 7 .null, h.2) := (ex_of d133_55 (d) L (.null :: .ref a :: st) h).trans (fin_put (mi := 133) f11_25 ht rfl rfl (by decide +kernel))
theorem x133_55q {d : Nat} {L : Lc} {st : List Value} {a : Nat} {b : Option Nat} {h : Hp} (ht : (h.2.1 a).1 = 11) : ex (d) 133 55 L (va_rf b :: .ref a :: st) h = ex d 133 58 L st (mup h.1 a 7 (va_rf b), h.2) := (ex_of d133_55 (d) L (va_rf b :: .ref a :: st) h).trans (by cases b <;> exact fin_put (mi := 133) f11_25 ht rfl rfl (by decide +kernel))
theorem d133_58 : decode (mB 133) 58 = .ok (.aload_n 0, 1) := by decide +kernel
theorem x133_58 {d : Nat} {st : List Value} {a : Nat} {h : Hp} : ex (d) 133 58 [some (.ref a)] st h = ex d 133 59 [some (.ref a)] (.ref a :: st) h := (ex_of d133_58 (d) [some (.ref a)] st h).trans (rfl)
theorem d133_59 : decode (mB 133) 59 = .ok (.sipush 1200, 3) := by decide +kernel
theorem x133_59 {d : Nat} {L : Lc} {st : List Value} {h : Hp} : ex (d) 133 59 L st h = ex d 133 62 L (.int (nI 1200) :: st) h := (ex_of d133_59 (d) L st h).trans (rfl)
theorem d133_62 : decode (mB 133) 62 = .ok (.newarray .int, 2) := by decide +kernel
theorem x133_62 {d : Nat} {L : Lc} {st : List Value} {n : Nat} {h : Hp} (hn : n ≤ 10000) : ex (d) 133 62 L (.int (nI n) :: st) h = ex d 133 64 L (.ref h.2.2.1 :: st) (mnw h.1 h.2.2.1 (fun _ => .int 0), mnw h.2.1 h.2.2.1 (20, n), h.2.2.1 + 1, h.2.2.2 + n) := (ex_of d133_62 (d) L (.int (nI n) :: st) h).trans (fin_nwa hn)
theorem d133_64 : decode (mB 133) 64 = .ok (.putfield 28, 3) := by decide +kernel
theorem x133_64 {d : Nat} {L : Lc} {st : List Value} {a b : Nat} {h : Hp} (ht : (h.2.1 a).1 = 11) : ex (d) 133 64 L (.ref b :: .ref a :: st) h = ex d 133 67 L st (mup h.1 a 9 (.ref b), h.2) := (ex_of d133_64 (d) L (.ref b :: .ref a :: st) h).trans (fin_put (mi := 133) f11_28 ht rfl rfl (by decide +kernel))
theorem x133_64n {d : Nat} {L : Lc} {st : List Value} {a : Nat} {h : Hp} (ht : (h.2.1 a).1 = 11) : ex (d) 133 64 L (.null :: .ref a :: st) h = ex d 133 67 L st (mup h.1 a 9 .null, h.2) := (ex_of d133_64 (d) L (.null :: .ref a :: st) h).trans (fin_put (mi := 133) f11_28 ht rfl rfl (by decide +kernel))
theorem x133_64q {d : Nat} {L : Lc} {st : List Value} {a : Nat} {b : Option Nat} {h : Hp} (ht : (h.2.1 a).1 = 11) : ex (d) 133 64 L (va_rf b :: .ref a :: st) h = ex d 133 67 L st (mup h.1 a 9 (va_rf b), h.2) := (ex_of d133_64 (d) L (va_rf b :: .ref a :: st) h).trans (by cases b <;> exact fin_put (mi := 133) f11_28 ht rfl rfl (by decide +kernel))
theorem d133_67 : decode (mB 133) 67 = .ok (.aload_n 0, 1) := by decide +kernel
theorem x133_67 {d : Nat} {st : List Value} {a : Nat} {h : Hp} : ex (d) 133 67 [some (.ref a)] st h = ex d 133 68 [some (.ref a)] (.ref a :: st) h := (ex_of d133_67 (d) [some (.ref a)] st h).trans (rfl)
theorem d133_68 : decode (mB 133) 68 = .ok (.sipush 1200, 3) := by decide +kernel
theorem x133_68 {d : Nat} {L : Lc} {st : List Value} {h : Hp} : ex (d) 133 68 L st h = ex d 133 71 L (.int (nI 1200) :: st) h := (ex_of d133_68 (d) L st h).trans (rfl)
theorem d133_71 : decode (mB 133) 71 = .ok (.newarray .int, 2) := by decide +kernel
theorem x133_71 {d : Nat} {L : Lc} {st : List Value} {n : Nat} {h : Hp} (hn : n ≤ 10000) : ex (d) 133 71 L (.int (nI n) :: st) h = ex d 133 73 L (.ref h.2.2.1 :: st) (mnw h.1 h.2.2.1 (fun _ => .int 0), mnw h.2.1 h.2.2.1 (20, n), h.2.2.1 + 1, h.2.2.2 + n) := (ex_of d133_71 (d) L (.int (nI n) :: st) h).trans (fin_nwa hn)
theorem d133_73 : decode (mB 133) 73 = .ok (.putfield 31, 3) := by decide +kernel
theorem x133_73 {d : Nat} {L : Lc} {st : List Value} {a b : Nat} {h : Hp} (ht : (h.2.1 a).1 = 11) : ex (d) 133 73 L (.ref b :: .ref a :: st) h = ex d 133 76 L st (mup h.1 a 10 (.ref b), h.2) := (ex_of d133_73 (d) L (.ref b :: .ref a :: st) h).trans (fin_put (mi := 133) f11_31 ht rfl rfl (by decide +kernel))
theorem x133_73n {d : Nat} {L : Lc} {st : List Value} {a : Nat} {h : Hp} (ht : (h.2.1 a).1 = 11) : ex (d) 133 73 L (.null :: .ref a :: st) h = ex d 133 76 L st (mup h.1 a 10 .null, h.2) := (ex_of d133_73 (d) L (.null :: .ref a :: st) h).trans (fin_put (mi := 133) f11_31 ht rfl rfl (by decide +kernel))
theorem x133_73q {d : Nat} {L : Lc} {st : List Value} {a : Nat} {b : Option Nat} {h : Hp} (ht : (h.2.1 a).1 = 11) : ex (d) 133 73 L (va_rf b :: .ref a :: st) h = ex d 133 76 L st (mup h.1 a 10 (va_rf b), h.2) := (ex_of d133_73 (d) L (va_rf b :: .ref a :: st) h).trans (by cases b <;> exact fin_put (mi := 133) f11_31 ht rfl rfl (by decide +kernel))
theorem d133_76 : decode (mB 133) 76 = .ok (.aload_n 0, 1) := by decide +kernel
theorem x133_76 {d : Nat} {st : List Value} {a : Nat} {h : Hp} : ex (d) 133 76 [some (.ref a)] st h = ex d 133 77 [some (.ref a)] (.ref a :: st) h := (ex_of d133_76 (d) [some (.ref a)] st h).trans (rfl)
theorem d133_77 : decode (mB 133) 77 = .ok (.sipush 1200, 3) := by decide +kernel
theorem x133_77 {d : Nat} {L : Lc} {st : List Value} {h : Hp} : ex (d) 133 77 L st h = ex d 133 80 L (.int (nI 1200) :: st) h := (ex_of d133_77 (d) L st h).trans (rfl)
theorem d133_80 : decode (mB 133) 80 = .ok (.newarray .int, 2) := by decide +kernel
theorem x133_80 {d : Nat} {L : Lc} {st : List Value} {n : Nat} {h : Hp} (hn : n ≤ 10000) : ex (d) 133 80 L (.int (nI n) :: st) h = ex d 133 82 L (.ref h.2.2.1 :: st) (mnw h.1 h.2.2.1 (fun _ => .int 0), mnw h.2.1 h.2.2.1 (20, n), h.2.2.1 + 1, h.2.2.2 + n) := (ex_of d133_80 (d) L (.int (nI n) :: st) h).trans (fin_nwa hn)
theorem d133_82 : decode (mB 133) 82 = .ok (.putfield 34, 3) := by decide +kernel
theorem x133_82 {d : Nat} {L : Lc} {st : List Value} {a b : Nat} {h : Hp} (ht : (h.2.1 a).1 = 11) : ex (d) 133 82 L (.ref b :: .ref a :: st) h = ex d 133 85 L st (mup h.1 a 11 (.ref b), h.2) := (ex_of d133_82 (d) L (.ref b :: .ref a :: st) h).trans (fin_put (mi := 133) f11_34 ht rfl rfl (by decide +kernel))
theorem x133_82n {d : Nat} {L : Lc} {st : List Value} {a : Nat} {h : Hp} (ht : (h.2.1 a).1 = 11) : ex (d) 133 82 L (.null :: .ref a :: st) h = ex d 133 85 L st (mup h.1 a 11 .null, h.2) := (ex_of d133_82 (d) L (.null :: .ref a :: st) h).trans (fin_put (mi := 133) f11_34 ht rfl rfl (by decide +kernel))
theorem x133_82q {d : Nat} {L : Lc} {st : List Value} {a : Nat} {b : Option Nat} {h : Hp} (ht : (h.2.1 a).1 = 11) : ex (d) 133 82 L (va_rf b :: .ref a :: st) h = ex d 133 85 L st (mup h.1 a 11 (va_rf b), h.2) := (ex_of d133_82 (d) L (va_rf b :: .ref a :: st) h).trans (by cases b <;> exact fin_put (mi := 133) f11_34 ht rfl rfl (by decide +kernel))
theorem d133_85 : decode (mB 133) 85 = .ok (.aload_n 0, 1) := by decide +kernel
theorem x133_85 {d : Nat} {st : List Value} {a : Nat} {h : Hp} : ex (d) 133 85 [some (.ref a)] st h = ex d 133 86 [some (.ref a)] (.ref a :: st) h := (ex_of d133_85 (d) [some (.ref a)] st h).trans (rfl)
theorem d133_86 : decode (mB 133) 86 = .ok (.sipush 8000, 3) := by decide +kernel
theorem x133_86 {d : Nat} {L : Lc} {st : List Value} {h : Hp} : ex (d) 133 86 L st h = ex d 133 89 L (.int (nI 8000) :: st) h := (ex_of d133_86 (d) L st h).trans (rfl)
theorem d133_89 : decode (mB 133) 89 = .ok (.newarray .int, 2) := by decide +kernel
theorem x133_89 {d : Nat} {L : Lc} {st : List Value} {n : Nat} {h : Hp} (hn : n ≤ 10000) : ex (d) 133 89 L (.int (nI n) :: st) h = ex d 133 91 L (.ref h.2.2.1 :: st) (mnw h.1 h.2.2.1 (fun _ => .int 0), mnw h.2.1 h.2.2.1 (20, n), h.2.2.1 + 1, h.2.2.2 + n) := (ex_of d133_89 (d) L (.int (nI n) :: st) h).trans (fin_nwa hn)
theorem d133_91 : decode (mB 133) 91 = .ok (.putfield 37, 3) := by decide +kernel
theorem x133_91 {d : Nat} {L : Lc} {st : List Value} {a b : Nat} {h : Hp} (ht : (h.2.1 a).1 = 11) : ex (d) 133 91 L (.ref b :: .ref a :: st) h = ex d 133 94 L st (mup h.1 a 12 (.ref b), h.2) := (ex_of d133_91 (d) L (.ref b :: .ref a :: st) h).trans (fin_put (mi := 133) f11_37 ht rfl rfl (by decide +kernel))
theorem x133_91n {d : Nat} {L : Lc} {st : List Value} {a : Nat} {h : Hp} (ht : (h.2.1 a).1 = 11) : ex (d) 133 91 L (.null :: .ref a :: st) h = ex d 133 94 L st (mup h.1 a 12 .null, h.2) := (ex_of d133_91 (d) L (.null :: .ref a :: st) h).trans (fin_put (mi := 133) f11_37 ht rfl rfl (by decide +kernel))
theorem x133_91q {d : Nat} {L : Lc} {st : List Value} {a : Nat} {b : Option Nat} {h : Hp} (ht : (h.2.1 a).1 = 11) : ex (d) 133 91 L (va_rf b :: .ref a :: st) h = ex d 133 94 L st (mup h.1 a 12 (va_rf b), h.2) := (ex_of d133_91 (d) L (va_rf b :: .ref a :: st) h).trans (by cases b <;> exact fin_put (mi := 133) f11_37 ht rfl rfl (by decide +kernel))
theorem d133_94 : decode (mB 133) 94 = .ok (.aload_n 0, 1) := by decide +kernel
theorem x133_94 {d : Nat} {st : List Value} {a : Nat} {h : Hp} : ex (d) 133 94 [some (.ref a)] st h = ex d 133 95 [some (.ref a)] (.ref a :: st) h := (ex_of d133_94 (d) [some (.ref a)] st h).trans (rfl)
theorem d133_95 : decode (mB 133) 95 = .ok (.sipush 200, 3) := by decide +kernel
theorem x133_95 {d : Nat} {L : Lc} {st : List Value} {h : Hp} : ex (d) 133 95 L st h = ex d 133 98 L (.int (nI 200) :: st) h := (ex_of d133_95 (d) L st h).trans (rfl)
theorem d133_98 : decode (mB 133) 98 = .ok (.newarray .int, 2) := by decide +kernel
theorem x133_98 {d : Nat} {L : Lc} {st : List Value} {n : Nat} {h : Hp} (hn : n ≤ 10000) : ex (d) 133 98 L (.int (nI n) :: st) h = ex d 133 100 L (.ref h.2.2.1 :: st) (mnw h.1 h.2.2.1 (fun _ => .int 0), mnw h.2.1 h.2.2.1 (20, n), h.2.2.1 + 1, h.2.2.2 + n) := (ex_of d133_98 (d) L (.int (nI n) :: st) h).trans (fin_nwa hn)
theorem d133_100 : decode (mB 133) 100 = .ok (.putfield 40, 3) := by decide +kernel
theorem x133_100 {d : Nat} {L : Lc} {st : List Value} {a b : Nat} {h : Hp} (ht : (h.2.1 a).1 = 11) : ex (d) 133 100 L (.ref b :: .ref a :: st) h = ex d 133 103 L st (mup h.1 a 13 (.ref b), h.2) := (ex_of d133_100 (d) L (.ref b :: .ref a :: st) h).trans (fin_put (mi := 133) f11_40 ht rfl rfl (by decide +kernel))
theorem x133_100n {d : Nat} {L : Lc} {st : List Value} {a : Nat} {h : Hp} (ht : (h.2.1 a).1 = 11) : ex (d) 133 100 L (.null :: .ref a :: st) h = ex d 133 103 L st (mup h.1 a 13 .null, h.2) := (ex_of d133_100 (d) L (.null :: .ref a :: st) h).trans (fin_put (mi := 133) f11_40 ht rfl rfl (by decide +kernel))
theorem x133_100q {d : Nat} {L : Lc} {st : List Value} {a : Nat} {b : Option Nat} {h : Hp} (ht : (h.2.1 a).1 = 11) : ex (d) 133 100 L (va_rf b :: .ref a :: st) h = ex d 133 103 L st (mup h.1 a 13 (va_rf b), h.2) := (ex_of d133_100 (d) L (va_rf b :: .ref a :: st) h).trans (by cases b <;> exact fin_put (mi := 133) f11_40 ht rfl rfl (by decide +kernel))
theorem d133_103 : decode (mB 133) 103 = .ok (.aload_n 0, 1) := by decide +kernel
theorem x133_103 {d : Nat} {st : List Value} {a : Nat} {h : Hp} : ex (d) 133 103 [some (.ref a)] st h = ex d 133 104 [some (.ref a)] (.ref a :: st) h := (ex_of d133_103 (d) [some (.ref a)] st h).trans (rfl)
theorem d133_104 : decode (mB 133) 104 = .ok (.bipush 60, 2) := by decide +kernel
theorem x133_104 {d : Nat} {L : Lc} {st : List Value} {h : Hp} : ex (d) 133 104 L st h = ex d 133 106 L (.int (nI 60) :: st) h := (ex_of d133_104 (d) L st h).trans (rfl)
theorem d133_106 : decode (mB 133) 106 = .ok (.newarray .int, 2) := by decide +kernel
theorem x133_106 {d : Nat} {L : Lc} {st : List Value} {n : Nat} {h : Hp} (hn : n ≤ 10000) : ex (d) 133 106 L (.int (nI n) :: st) h = ex d 133 108 L (.ref h.2.2.1 :: st) (mnw h.1 h.2.2.1 (fun _ => .int 0), mnw h.2.1 h.2.2.1 (20, n), h.2.2.1 + 1, h.2.2.2 + n) := (ex_of d133_106 (d) L (.int (nI n) :: st) h).trans (fin_nwa hn)
theorem d133_108 : decode (mB 133) 108 = .ok (.putfield 43, 3) := by decide +kernel
theorem x133_108 {d : Nat} {L : Lc} {st : List Value} {a b : Nat} {h : Hp} (ht : (h.2.1 a).1 = 11) : ex (d) 133 108 L (.ref b :: .ref a :: st) h = ex d 133 111 L st (mup h.1 a 16 (.ref b), h.2) := (ex_of d133_108 (d) L (.ref b :: .ref a :: st) h).trans (fin_put (mi := 133) f11_43 ht rfl rfl (by decide +kernel))
theorem x133_108n {d : Nat} {L : Lc} {st : List Value} {a : Nat} {h : Hp} (ht : (h.2.1 a).1 = 11) : ex (d) 133 108 L (.null :: .ref a :: st) h = ex d 133 111 L st (mup h.1 a 16 .null, h.2) := (ex_of d133_108 (d) L (.null :: .ref a :: st) h).trans (fin_put (mi := 133) f11_43 ht rfl rfl (by decide +kernel))
theorem x133_108q {d : Nat} {L : Lc} {st : List Value} {a : Nat} {b : Option Nat} {h : Hp} (ht : (h.2.1 a).1 = 11) : ex (d) 133 108 L (va_rf b :: .ref a :: st) h = ex d 133 111 L st (mup h.1 a 16 (va_rf b), h.2) := (ex_of d133_108 (d) L (va_rf b :: .ref a :: st) h).trans (by cases b <;> exact fin_put (mi := 133) f11_43 ht rfl rfl (by decide +kernel))
theorem d133_111 : decode (mB 133) 111 = .ok (.aload_n 0, 1) := by decide +kernel
theorem x133_111 {d : Nat} {st : List Value} {a : Nat} {h : Hp} : ex (d) 133 111 [some (.ref a)] st h = ex d 133 112 [some (.ref a)] (.ref a :: st) h := (ex_of d133_111 (d) [some (.ref a)] st h).trans (rfl)
theorem d133_112 : decode (mB 133) 112 = .ok (.sipush 240, 3) := by decide +kernel
theorem x133_112 {d : Nat} {L : Lc} {st : List Value} {h : Hp} : ex (d) 133 112 L st h = ex d 133 115 L (.int (nI 240) :: st) h := (ex_of d133_112 (d) L st h).trans (rfl)
theorem d133_115 : decode (mB 133) 115 = .ok (.newarray .int, 2) := by decide +kernel
theorem x133_115 {d : Nat} {L : Lc} {st : List Value} {n : Nat} {h : Hp} (hn : n ≤ 10000) : ex (d) 133 115 L (.int (nI n) :: st) h = ex d 133 117 L (.ref h.2.2.1 :: st) (mnw h.1 h.2.2.1 (fun _ => .int 0), mnw h.2.1 h.2.2.1 (20, n), h.2.2.1 + 1, h.2.2.2 + n) := (ex_of d133_115 (d) L (.int (nI n) :: st) h).trans (fin_nwa hn)
theorem d133_117 : decode (mB 133) 117 = .ok (.putfield 46, 3) := by decide +kernel
theorem x133_117 {d : Nat} {L : Lc} {st : List Value} {a b : Nat} {h : Hp} (ht : (h.2.1 a).1 = 11) : ex (d) 133 117 L (.ref b :: .ref a :: st) h = ex d 133 120 L st (mup h.1 a 20 (.ref b), h.2) := (ex_of d133_117 (d) L (.ref b :: .ref a :: st) h).trans (fin_put (mi := 133) f11_46 ht rfl rfl (by decide +kernel))
theorem x133_117n {d : Nat} {L : Lc} {st : List Value} {a : Nat} {h : Hp} (ht : (h.2.1 a).1 = 11) : ex (d) 133 117 L (.null :: .ref a :: st) h = ex d 133 120 L st (mup h.1 a 20 .null, h.2) := (ex_of d133_117 (d) L (.null :: .ref a :: st) h).trans (fin_put (mi := 133) f11_46 ht rfl rfl (by decide +kernel))
theorem x133_117q {d : Nat} {L : Lc} {st : List Value} {a : Nat} {b : Option Nat} {h : Hp} (ht : (h.2.1 a).1 = 11) : ex (d) 133 117 L (va_rf b :: .ref a :: st) h = ex d 133 120 L st (mup h.1 a 20 (va_rf b), h.2) := (ex_of d133_117 (d) L (va_rf b :: .ref a :: st) h).trans (by cases b <;> exact fin_put (mi := 133) f11_46 ht rfl rfl (by decide +kernel))
theorem d133_120 : decode (mB 133) 120 = .ok (.aload_n 0, 1) := by decide +kernel
theorem x133_120 {d : Nat} {st : List Value} {a : Nat} {h : Hp} : ex (d) 133 120 [some (.ref a)] st h = ex d 133 121 [some (.ref a)] (.ref a :: st) h := (ex_of d133_120 (d) [some (.ref a)] st h).trans (rfl)
theorem d133_121 : decode (mB 133) 121 = .ok (.bipush 7, 2) := by decide +kernel
theorem x133_121 {d : Nat} {L : Lc} {st : List Value} {h : Hp} : ex (d) 133 121 L st h = ex d 133 123 L (.int (nI 7) :: st) h := (ex_of d133_121 (d) L st h).trans (rfl)
theorem d133_123 : decode (mB 133) 123 = .ok (.newarray .int, 2) := by decide +kernel
theorem x133_123 {d : Nat} {L : Lc} {st : List Value} {n : Nat} {h : Hp} (hn : n ≤ 10000) : ex (d) 133 123 L (.int (nI n) :: st) h = ex d 133 125 L (.ref h.2.2.1 :: st) (mnw h.1 h.2.2.1 (fun _ => .int 0), mnw h.2.1 h.2.2.1 (20, n), h.2.2.1 + 1, h.2.2.2 + n) := (ex_of d133_123 (d) L (.int (nI n) :: st) h).trans (fin_nwa hn)
theorem d133_125 : decode (mB 133) 125 = .ok (.putfield 49, 3) := by decide +kernel
theorem x133_125 {d : Nat} {L : Lc} {st : List Value} {a b : Nat} {h : Hp} (ht : (h.2.1 a).1 = 11) : ex (d) 133 125 L (.ref b :: .ref a :: st) h = ex d 133 128 L st (mup h.1 a 22 (.ref b), h.2) := (ex_of d133_125 (d) L (.ref b :: .ref a :: st) h).trans (fin_put (mi := 133) f11_49 ht rfl rfl (by decide +kernel))
theorem x133_125n {d : Nat} {L : Lc} {st : List Value} {a : Nat} {h : Hp} (ht : (h.2.1 a).1 = 11) : ex (d) 133 125 L (.null :: .ref a :: st) h = ex d 133 128 L st (mup h.1 a 22 .null, h.2) := (ex_of d133_125 (d) L (.null :: .ref a :: st) h).trans (fin_put (mi := 133) f11_49 ht rfl rfl (by decide +kernel))
theorem x133_125q {d : Nat} {L : Lc} {st : List Value} {a : Nat} {b : Option Nat} {h : Hp} (ht : (h.2.1 a).1 = 11) : ex (d) 133 125 L (va_rf b :: .ref a :: st) h = ex d 133 128 L st (mup h.1 a 22 (va_rf b), h.2) := (ex_of d133_125 (d) L (va_rf b :: .ref a :: st) h).trans (by cases b <;> exact fin_put (mi := 133) f11_49 ht rfl rfl (by decide +kernel))
theorem d133_128 : decode (mB 133) 128 = .ok (.aload_n 0, 1) := by decide +kernel
theorem x133_128 {d : Nat} {st : List Value} {a : Nat} {h : Hp} : ex (d) 133 128 [some (.ref a)] st h = ex d 133 129 [some (.ref a)] (.ref a :: st) h := (ex_of d133_128 (d) [some (.ref a)] st h).trans (rfl)
theorem d133_129 : decode (mB 133) 129 = .ok (.bipush 7, 2) := by decide +kernel
theorem x133_129 {d : Nat} {L : Lc} {st : List Value} {h : Hp} : ex (d) 133 129 L st h = ex d 133 131 L (.int (nI 7) :: st) h := (ex_of d133_129 (d) L st h).trans (rfl)
theorem d133_131 : decode (mB 133) 131 = .ok (.newarray .int, 2) := by decide +kernel
theorem x133_131 {d : Nat} {L : Lc} {st : List Value} {n : Nat} {h : Hp} (hn : n ≤ 10000) : ex (d) 133 131 L (.int (nI n) :: st) h = ex d 133 133 L (.ref h.2.2.1 :: st) (mnw h.1 h.2.2.1 (fun _ => .int 0), mnw h.2.1 h.2.2.1 (20, n), h.2.2.1 + 1, h.2.2.2 + n) := (ex_of d133_131 (d) L (.int (nI n) :: st) h).trans (fin_nwa hn)
theorem d133_133 : decode (mB 133) 133 = .ok (.putfield 52, 3) := by decide +kernel
theorem x133_133 {d : Nat} {L : Lc} {st : List Value} {a b : Nat} {h : Hp} (ht : (h.2.1 a).1 = 11) : ex (d) 133 133 L (.ref b :: .ref a :: st) h = ex d 133 136 L st (mup h.1 a 23 (.ref b), h.2) := (ex_of d133_133 (d) L (.ref b :: .ref a :: st) h).trans (fin_put (mi := 133) f11_52 ht rfl rfl (by decide +kernel))
theorem x133_133n {d : Nat} {L : Lc} {st : List Value} {a : Nat} {h : Hp} (ht : (h.2.1 a).1 = 11) : ex (d) 133 133 L (.null :: .ref a :: st) h = ex d 133 136 L st (mup h.1 a 23 .null, h.2) := (ex_of d133_133 (d) L (.null :: .ref a :: st) h).trans (fin_put (mi := 133) f11_52 ht rfl rfl (by decide +kernel))
theorem x133_133q {d : Nat} {L : Lc} {st : List Value} {a : Nat} {b : Option Nat} {h : Hp} (ht : (h.2.1 a).1 = 11) : ex (d) 133 133 L (va_rf b :: .ref a :: st) h = ex d 133 136 L st (mup h.1 a 23 (va_rf b), h.2) := (ex_of d133_133 (d) L (va_rf b :: .ref a :: st) h).trans (by cases b <;> exact fin_put (mi := 133) f11_52 ht rfl rfl (by decide +kernel))
theorem d133_136 : decode (mB 133) 136 = .ok (.aload_n 0, 1) := by decide +kernel
theorem x133_136 {d : Nat} {st : List Value} {a : Nat} {h : Hp} : ex (d) 133 136 [some (.ref a)] st h = ex d 133 137 [some (.ref a)] (.ref a :: st) h := (ex_of d133_136 (d) [some (.ref a)] st h).trans (rfl)
theorem d133_137 : decode (mB 133) 137 = .ok (.bipush 10, 2) := by decide +kernel
theorem x133_137 {d : Nat} {L : Lc} {st : List Value} {h : Hp} : ex (d) 133 137 L st h = ex d 133 139 L (.int (nI 10) :: st) h := (ex_of d133_137 (d) L st h).trans (rfl)
theorem d133_139 : decode (mB 133) 139 = .ok (.newarray .int, 2) := by decide +kernel
theorem x133_139 {d : Nat} {L : Lc} {st : List Value} {n : Nat} {h : Hp} (hn : n ≤ 10000) : ex (d) 133 139 L (.int (nI n) :: st) h = ex d 133 141 L (.ref h.2.2.1 :: st) (mnw h.1 h.2.2.1 (fun _ => .int 0), mnw h.2.1 h.2.2.1 (20, n), h.2.2.1 + 1, h.2.2.2 + n) := (ex_of d133_139 (d) L (.int (nI n) :: st) h).trans (fin_nwa hn)
theorem d133_141 : decode (mB 133) 141 = .ok (.putfield 55, 3) := by decide +kernel
theorem x133_141 {d : Nat} {L : Lc} {st : List Value} {a b : Nat} {h : Hp} (ht : (h.2.1 a).1 = 11) : ex (d) 133 141 L (.ref b :: .ref a :: st) h = ex d 133 144 L st (mup h.1 a 24 (.ref b), h.2) := (ex_of d133_141 (d) L (.ref b :: .ref a :: st) h).trans (fin_put (mi := 133) f11_55 ht rfl rfl (by decide +kernel))
theorem x133_141n {d : Nat} {L : Lc} {st : List Value} {a : Nat} {h : Hp} (ht : (h.2.1 a).1 = 11) : ex (d) 133 141 L (.null :: .ref a :: st) h = ex d 133 144 L st (mup h.1 a 24 .null, h.2) := (ex_of d133_141 (d) L (.null :: .ref a :: st) h).trans (fin_put (mi := 133) f11_55 ht rfl rfl (by decide +kernel))
theorem x133_141q {d : Nat} {L : Lc} {st : List Value} {a : Nat} {b : Option Nat} {h : Hp} (ht : (h.2.1 a).1 = 11) : ex (d) 133 141 L (va_rf b :: .ref a :: st) h = ex d 133 144 L st (mup h.1 a 24 (va_rf b), h.2) := (ex_of d133_141 (d) L (va_rf b :: .ref a :: st) h).trans (by cases b <;> exact fin_put (mi := 133) f11_55 ht rfl rfl (by decide +kernel))
theorem d133_144 : decode (mB 133) 144 = .ok (.aload_n 0, 1) := by decide +kernel
theorem x133_144 {d : Nat} {st : List Value} {a : Nat} {h : Hp} : ex (d) 133 144 [some (.ref a)] st h = ex d 133 145 [some (.ref a)] (.ref a :: st) h := (ex_of d133_144 (d) [some (.ref a)] st h).trans (rfl)
theorem d133_145 : decode (mB 133) 145 = .ok (.bipush 8, 2) := by decide +kernel
theorem x133_145 {d : Nat} {L : Lc} {st : List Value} {h : Hp} : ex (d) 133 145 L st h = ex d 133 147 L (.int (nI 8) :: st) h := (ex_of d133_145 (d) L st h).trans (rfl)
theorem d133_147 : decode (mB 133) 147 = .ok (.newarray .int, 2) := by decide +kernel
theorem x133_147 {d : Nat} {L : Lc} {st : List Value} {n : Nat} {h : Hp} (hn : n ≤ 10000) : ex (d) 133 147 L (.int (nI n) :: st) h = ex d 133 149 L (.ref h.2.2.1 :: st) (mnw h.1 h.2.2.1 (fun _ => .int 0), mnw h.2.1 h.2.2.1 (20, n), h.2.2.1 + 1, h.2.2.2 + n) := (ex_of d133_147 (d) L (.int (nI n) :: st) h).trans (fin_nwa hn)
theorem d133_149 : decode (mB 133) 149 = .ok (.putfield 58, 3) := by decide +kernel
theorem x133_149 {d : Nat} {L : Lc} {st : List Value} {a b : Nat} {h : Hp} (ht : (h.2.1 a).1 = 11) : ex (d) 133 149 L (.ref b :: .ref a :: st) h = ex d 133 152 L st (mup h.1 a 26 (.ref b), h.2) := (ex_of d133_149 (d) L (.ref b :: .ref a :: st) h).trans (fin_put (mi := 133) f11_58 ht rfl rfl (by decide +kernel))
theorem x133_149n {d : Nat} {L : Lc} {st : List Value} {a : Nat} {h : Hp} (ht : (h.2.1 a).1 = 11) : ex (d) 133 149 L (.null :: .ref a :: st) h = ex d 133 152 L st (mup h.1 a 26 .null, h.2) := (ex_of d133_149 (d) L (.null :: .ref a :: st) h).trans (fin_put (mi := 133) f11_58 ht rfl rfl (by decide +kernel))
theorem x133_149q {d : Nat} {L : Lc} {st : List Value} {a : Nat} {b : Option Nat} {h : Hp} (ht : (h.2.1 a).1 = 11) : ex (d) 133 149 L (va_rf b :: .ref a :: st) h = ex d 133 152 L st (mup h.1 a 26 (va_rf b), h.2) := (ex_of d133_149 (d) L (va_rf b :: .ref a :: st) h).trans (by cases b <;> exact fin_put (mi := 133) f11_58 ht rfl rfl (by decide +kernel))
theorem d133_152 : decode (mB 133) 152 = .ok (.aload_n 0, 1) := by decide +kernel
theorem x133_152 {d : Nat} {st : List Value} {a : Nat} {h : Hp} : ex (d) 133 152 [some (.ref a)] st h = ex d 133 153 [some (.ref a)] (.ref a :: st) h := (ex_of d133_152 (d) [some (.ref a)] st h).trans (rfl)
theorem d133_153 : decode (mB 133) 153 = .ok (.bipush 56, 2) := by decide +kernel
theorem x133_153 {d : Nat} {L : Lc} {st : List Value} {h : Hp} : ex (d) 133 153 L st h = ex d 133 155 L (.int (nI 56) :: st) h := (ex_of d133_153 (d) L st h).trans (rfl)
theorem d133_155 : decode (mB 133) 155 = .ok (.newarray .int, 2) := by decide +kernel
theorem x133_155 {d : Nat} {L : Lc} {st : List Value} {n : Nat} {h : Hp} (hn : n ≤ 10000) : ex (d) 133 155 L (.int (nI n) :: st) h = ex d 133 157 L (.ref h.2.2.1 :: st) (mnw h.1 h.2.2.1 (fun _ => .int 0), mnw h.2.1 h.2.2.1 (20, n), h.2.2.1 + 1, h.2.2.2 + n) := (ex_of d133_155 (d) L (.int (nI n) :: st) h).trans (fin_nwa hn)
theorem d133_157 : decode (mB 133) 157 = .ok (.putfield 61, 3) := by decide +kernel
theorem x133_157 {d : Nat} {L : Lc} {st : List Value} {a b : Nat} {h : Hp} (ht : (h.2.1 a).1 = 11) : ex (d) 133 157 L (.ref b :: .ref a :: st) h = ex d 133 160 L st (mup h.1 a 27 (.ref b), h.2) := (ex_of d133_157 (d) L (.ref b :: .ref a :: st) h).trans (fin_put (mi := 133) f11_61 ht rfl rfl (by decide +kernel))
theorem x133_157n {d : Nat} {L : Lc} {st : List Value} {a : Nat} {h : Hp} (ht : (h.2.1 a).1 = 11) : ex (d) 133 157 L (.null :: .ref a :: st) h = ex d 133 160 L st (mup h.1 a 27 .null, h.2) := (ex_of d133_157 (d) L (.null :: .ref a :: st) h).trans (fin_put (mi := 133) f11_61 ht rfl rfl (by decide +kernel))
theorem x133_157q {d : Nat} {L : Lc} {st : List Value} {a : Nat} {b : Option Nat} {h : Hp} (ht : (h.2.1 a).1 = 11) : ex (d) 133 157 L (va_rf b :: .ref a :: st) h = ex d 133 160 L st (mup h.1 a 27 (va_rf b), h.2) := (ex_of d133_157 (d) L (va_rf b :: .ref a :: st) h).trans (by cases b <;> exact fin_put (mi := 133) f11_61 ht rfl rfl (by decide +kernel))
theorem d133_160 : decode (mB 133) 160 = .ok (.aload_n 0, 1) := by decide +kernel
theorem x133_160 {d : Nat} {st : List Value} {a : Nat} {h : Hp} : ex (d) 133 160 [some (.ref a)] st h = ex d 133 161 [some (.ref a)] (.ref a :: st) h := (ex_of d133_160 (d) [some (.ref a)] st h).trans (rfl)
theorem d133_161 : decode (mB 133) 161 = .ok (.bipush 7, 2) := by decide +kernel
theorem x133_161 {d : Nat} {L : Lc} {st : List Value} {h : Hp} : ex (d) 133 161 L st h = ex d 133 163 L (.int (nI 7) :: st) h := (ex_of d133_161 (d) L st h).trans (rfl)
theorem d133_163 : decode (mB 133) 163 = .ok (.newarray .int, 2) := by decide +kernel
theorem x133_163 {d : Nat} {L : Lc} {st : List Value} {n : Nat} {h : Hp} (hn : n ≤ 10000) : ex (d) 133 163 L (.int (nI n) :: st) h = ex d 133 165 L (.ref h.2.2.1 :: st) (mnw h.1 h.2.2.1 (fun _ => .int 0), mnw h.2.1 h.2.2.1 (20, n), h.2.2.1 + 1, h.2.2.2 + n) := (ex_of d133_163 (d) L (.int (nI n) :: st) h).trans (fin_nwa hn)
theorem d133_165 : decode (mB 133) 165 = .ok (.putfield 64, 3) := by decide +kernel
theorem x133_165 {d : Nat} {L : Lc} {st : List Value} {a b : Nat} {h : Hp} (ht : (h.2.1 a).1 = 11) : ex (d) 133 165 L (.ref b :: .ref a :: st) h = ex d 133 168 L st (mup h.1 a 28 (.ref b), h.2) := (ex_of d133_165 (d) L (.ref b :: .ref a :: st) h).trans (fin_put (mi := 133) f11_64 ht rfl rfl (by decide +kernel))
theorem x133_165n {d : Nat} {L : Lc} {st : List Value} {a : Nat} {h : Hp} (ht : (h.2.1 a).1 = 11) : ex (d) 133 165 L (.null :: .ref a :: st) h = ex d 133 168 L st (mup h.1 a 28 .null, h.2) := (ex_of d133_165 (d) L (.null :: .ref a :: st) h).trans (fin_put (mi := 133) f11_64 ht rfl rfl (by decide +kernel))
theorem x133_165q {d : Nat} {L : Lc} {st : List Value} {a : Nat} {b : Option Nat} {h : Hp} (ht : (h.2.1 a).1 = 11) : ex (d) 133 165 L (va_rf b :: .ref a :: st) h = ex d 133 168 L st (mup h.1 a 28 (va_rf b), h.2) := (ex_of d133_165 (d) L (va_rf b :: .ref a :: st) h).trans (by cases b <;> exact fin_put (mi := 133) f11_64 ht rfl rfl (by decide +kernel))
theorem d133_168 : decode (mB 133) 168 = .ok (.aload_n 0, 1) := by decide +kernel
theorem x133_168 {d : Nat} {st : List Value} {a : Nat} {h : Hp} : ex (d) 133 168 [some (.ref a)] st h = ex d 133 169 [some (.ref a)] (.ref a :: st) h := (ex_of d133_168 (d) [some (.ref a)] st h).trans (rfl)
theorem d133_169 : decode (mB 133) 169 = .ok (.bipush 7, 2) := by decide +kernel
theorem x133_169 {d : Nat} {L : Lc} {st : List Value} {h : Hp} : ex (d) 133 169 L st h = ex d 133 171 L (.int (nI 7) :: st) h := (ex_of d133_169 (d) L st h).trans (rfl)
theorem d133_171 : decode (mB 133) 171 = .ok (.newarray .int, 2) := by decide +kernel
theorem x133_171 {d : Nat} {L : Lc} {st : List Value} {n : Nat} {h : Hp} (hn : n ≤ 10000) : ex (d) 133 171 L (.int (nI n) :: st) h = ex d 133 173 L (.ref h.2.2.1 :: st) (mnw h.1 h.2.2.1 (fun _ => .int 0), mnw h.2.1 h.2.2.1 (20, n), h.2.2.1 + 1, h.2.2.2 + n) := (ex_of d133_171 (d) L (.int (nI n) :: st) h).trans (fin_nwa hn)
theorem d133_173 : decode (mB 133) 173 = .ok (.putfield 67, 3) := by decide +kernel
theorem x133_173 {d : Nat} {L : Lc} {st : List Value} {a b : Nat} {h : Hp} (ht : (h.2.1 a).1 = 11) : ex (d) 133 173 L (.ref b :: .ref a :: st) h = ex d 133 176 L st (mup h.1 a 29 (.ref b), h.2) := (ex_of d133_173 (d) L (.ref b :: .ref a :: st) h).trans (fin_put (mi := 133) f11_67 ht rfl rfl (by decide +kernel))
theorem x133_173n {d : Nat} {L : Lc} {st : List Value} {a : Nat} {h : Hp} (ht : (h.2.1 a).1 = 11) : ex (d) 133 173 L (.null :: .ref a :: st) h = ex d 133 176 L st (mup h.1 a 29 .null, h.2) := (ex_of d133_173 (d) L (.null :: .ref a :: st) h).trans (fin_put (mi := 133) f11_67 ht rfl rfl (by decide +kernel))
theorem x133_173q {d : Nat} {L : Lc} {st : List Value} {a : Nat} {b : Option Nat} {h : Hp} (ht : (h.2.1 a).1 = 11) : ex (d) 133 173 L (va_rf b :: .ref a :: st) h = ex d 133 176 L st (mup h.1 a 29 (va_rf b), h.2) := (ex_of d133_173 (d) L (va_rf b :: .ref a :: st) h).trans (by cases b <;> exact fin_put (mi := 133) f11_67 ht rfl rfl (by decide +kernel))
theorem d133_176 : decode (mB 133) 176 = .ok (.aload_n 0, 1) := by decide +kernel
theorem x133_176 {d : Nat} {st : List Value} {a : Nat} {h : Hp} : ex (d) 133 176 [some (.ref a)] st h = ex d 133 177 [some (.ref a)] (.ref a :: st) h := (ex_of d133_176 (d) [some (.ref a)] st h).trans (rfl)
theorem d133_177 : decode (mB 133) 177 = .ok (.bipush 8, 2) := by decide +kernel
theorem x133_177 {d : Nat} {L : Lc} {st : List Value} {h : Hp} : ex (d) 133 177 L st h = ex d 133 179 L (.int (nI 8) :: st) h := (ex_of d133_177 (d) L st h).trans (rfl)
theorem d133_179 : decode (mB 133) 179 = .ok (.newarray .int, 2) := by decide +kernel
theorem x133_179 {d : Nat} {L : Lc} {st : List Value} {n : Nat} {h : Hp} (hn : n ≤ 10000) : ex (d) 133 179 L (.int (nI n) :: st) h = ex d 133 181 L (.ref h.2.2.1 :: st) (mnw h.1 h.2.2.1 (fun _ => .int 0), mnw h.2.1 h.2.2.1 (20, n), h.2.2.1 + 1, h.2.2.2 + n) := (ex_of d133_179 (d) L (.int (nI n) :: st) h).trans (fin_nwa hn)
theorem d133_181 : decode (mB 133) 181 = .ok (.putfield 70, 3) := by decide +kernel
theorem x133_181 {d : Nat} {L : Lc} {st : List Value} {a b : Nat} {h : Hp} (ht : (h.2.1 a).1 = 11) : ex (d) 133 181 L (.ref b :: .ref a :: st) h = ex d 133 184 L st (mup h.1 a 31 (.ref b), h.2) := (ex_of d133_181 (d) L (.ref b :: .ref a :: st) h).trans (fin_put (mi := 133) f11_70 ht rfl rfl (by decide +kernel))
theorem x133_181n {d : Nat} {L : Lc} {st : List Value} {a : Nat} {h : Hp} (ht : (h.2.1 a).1 = 11) : ex (d) 133 181 L (.null :: .ref a :: st) h = ex d 133 184 L st (mup h.1 a 31 .null, h.2) := (ex_of d133_181 (d) L (.null :: .ref a :: st) h).trans (fin_put (mi := 133) f11_70 ht rfl rfl (by decide +kernel))
theorem x133_181q {d : Nat} {L : Lc} {st : List Value} {a : Nat} {b : Option Nat} {h : Hp} (ht : (h.2.1 a).1 = 11) : ex (d) 133 181 L (va_rf b :: .ref a :: st) h = ex d 133 184 L st (mup h.1 a 31 (va_rf b), h.2) := (ex_of d133_181 (d) L (va_rf b :: .ref a :: st) h).trans (by cases b <;> exact fin_put (mi := 133) f11_70 ht rfl rfl (by decide +kernel))
theorem d133_184 : decode (mB 133) 184 = .ok (.aload_n 0, 1) := by decide +kernel
theorem x133_184 {d : Nat} {st : List Value} {a : Nat} {h : Hp} : ex (d) 133 184 [some (.ref a)] st h = ex d 133 185 [some (.ref a)] (.ref a :: st) h := (ex_of d133_184 (d) [some (.ref a)] st h).trans (rfl)
theorem d133_185 : decode (mB 133) 185 = .ok (.bipush 7, 2) := by decide +kernel
theorem x133_185 {d : Nat} {L : Lc} {st : List Value} {h : Hp} : ex (d) 133 185 L st h = ex d 133 187 L (.int (nI 7) :: st) h := (ex_of d133_185 (d) L st h).trans (rfl)
theorem d133_187 : decode (mB 133) 187 = .ok (.newarray .int, 2) := by decide +kernel
theorem x133_187 {d : Nat} {L : Lc} {st : List Value} {n : Nat} {h : Hp} (hn : n ≤ 10000) : ex (d) 133 187 L (.int (nI n) :: st) h = ex d 133 189 L (.ref h.2.2.1 :: st) (mnw h.1 h.2.2.1 (fun _ => .int 0), mnw h.2.1 h.2.2.1 (20, n), h.2.2.1 + 1, h.2.2.2 + n) := (ex_of d133_187 (d) L (.int (nI n) :: st) h).trans (fin_nwa hn)
theorem d133_189 : decode (mB 133) 189 = .ok (.putfield 73, 3) := by decide +kernel
theorem x133_189 {d : Nat} {L : Lc} {st : List Value} {a b : Nat} {h : Hp} (ht : (h.2.1 a).1 = 11) : ex (d) 133 189 L (.ref b :: .ref a :: st) h = ex d 133 192 L st (mup h.1 a 33 (.ref b), h.2) := (ex_of d133_189 (d) L (.ref b :: .ref a :: st) h).trans (fin_put (mi := 133) f11_73 ht rfl rfl (by decide +kernel))
theorem x133_189n {d : Nat} {L : Lc} {st : List Value} {a : Nat} {h : Hp} (ht : (h.2.1 a).1 = 11) : ex (d) 133 189 L (.null :: .ref a :: st) h = ex d 133 192 L st (mup h.1 a 33 .null, h.2) := (ex_of d133_189 (d) L (.null :: .ref a :: st) h).trans (fin_put (mi := 133) f11_73 ht rfl rfl (by decide +kernel))
theorem x133_189q {d : Nat} {L : Lc} {st : List Value} {a : Nat} {b : Option Nat} {h : Hp} (ht : (h.2.1 a).1 = 11) : ex (d) 133 189 L (va_rf b :: .ref a :: st) h = ex d 133 192 L st (mup h.1 a 33 (va_rf b), h.2) := (ex_of d133_189 (d) L (va_rf b :: .ref a :: st) h).trans (by cases b <;> exact fin_put (mi := 133) f11_73 ht rfl rfl (by decide +kernel))
theorem d133_192 : decode (mB 133) 192 = .ok (.aload_n 0, 1) := by decide +kernel
theorem x133_192 {d : Nat} {st : List Value} {a : Nat} {h : Hp} : ex (d) 133 192 [some (.ref a)] st h = ex d 133 193 [some (.ref a)] (.ref a :: st) h := (ex_of d133_192 (d) [some (.ref a)] st h).trans (rfl)
theorem d133_193 : decode (mB 133) 193 = .ok (.sipush 300, 3) := by decide +kernel
theorem x133_193 {d : Nat} {L : Lc} {st : List Value} {h : Hp} : ex (d) 133 193 L st h = ex d 133 196 L (.int (nI 300) :: st) h := (ex_of d133_193 (d) L st h).trans (rfl)
theorem d133_196 : decode (mB 133) 196 = .ok (.newarray .int, 2) := by decide +kernel
theorem x133_196 {d : Nat} {L : Lc} {st : List Value} {n : Nat} {h : Hp} (hn : n ≤ 10000) : ex (d) 133 196 L (.int (nI n) :: st) h = ex d 133 198 L (.ref h.2.2.1 :: st) (mnw h.1 h.2.2.1 (fun _ => .int 0), mnw h.2.1 h.2.2.1 (20, n), h.2.2.1 + 1, h.2.2.2 + n) := (ex_of d133_196 (d) L (.int (nI n) :: st) h).trans (fin_nwa hn)
theorem d133_198 : decode (mB 133) 198 = .ok (.putfield 76, 3) := by decide +kernel
theorem x133_198 {d : Nat} {L : Lc} {st : List Value} {a b : Nat} {h : Hp} (ht : (h.2.1 a).1 = 11) : ex (d) 133 198 L (.ref b :: .ref a :: st) h = ex d 133 201 L st (mup h.1 a 36 (.ref b), h.2) := (ex_of d133_198 (d) L (.ref b :: .ref a :: st) h).trans (fin_put (mi := 133) f11_76 ht rfl rfl (by decide +kernel))
theorem x133_198n {d : Nat} {L : Lc} {st : List Value} {a : Nat} {h : Hp} (ht : (h.2.1 a).1 = 11) : ex (d) 133 198 L (.null :: .ref a :: st) h = ex d 133 201 L st (mup h.1 a 36 .null, h.2) := (ex_of d133_198 (d) L (.null :: .ref a :: st) h).trans (fin_put (mi := 133) f11_76 ht rfl rfl (by decide +kernel))
theorem x133_198q {d : Nat} {L : Lc} {st : List Value} {a : Nat} {b : Option Nat} {h : Hp} (ht : (h.2.1 a).1 = 11) : ex (d) 133 198 L (va_rf b :: .ref a :: st) h = ex d 133 201 L st (mup h.1 a 36 (va_rf b), h.2) := (ex_of d133_198 (d) L (va_rf b :: .ref a :: st) h).trans (by cases b <;> exact fin_put (mi := 133) f11_76 ht rfl rfl (by decide +kernel))
theorem d133_201 : decode (mB 133) 201 = .ok (.aload_n 0, 1) := by decide +kernel
theorem x133_201 {d : Nat} {st : List Value} {a : Nat} {h : Hp} : ex (d) 133 201 [some (.ref a)] st h = ex d 133 202 [some (.ref a)] (.ref a :: st) h := (ex_of d133_201 (d) [some (.ref a)] st h).trans (rfl)
theorem d133_202 : decode (mB 133) 202 = .ok (.sipush 300, 3) := by decide +kernel
theorem x133_202 {d : Nat} {L : Lc} {st : List Value} {h : Hp} : ex (d) 133 202 L st h = ex d 133 205 L (.int (nI 300) :: st) h := (ex_of d133_202 (d) L st h).trans (rfl)
theorem d133_205 : decode (mB 133) 205 = .ok (.newarray .int, 2) := by decide +kernel
theorem x133_205 {d : Nat} {L : Lc} {st : List Value} {n : Nat} {h : Hp} (hn : n ≤ 10000) : ex (d) 133 205 L (.int (nI n) :: st) h = ex d 133 207 L (.ref h.2.2.1 :: st) (mnw h.1 h.2.2.1 (fun _ => .int 0), mnw h.2.1 h.2.2.1 (20, n), h.2.2.1 + 1, h.2.2.2 + n) := (ex_of d133_205 (d) L (.int (nI n) :: st) h).trans (fin_nwa hn)
theorem d133_207 : decode (mB 133) 207 = .ok (.putfield 79, 3) := by decide +kernel
theorem x133_207 {d : Nat} {L : Lc} {st : List Value} {a b : Nat} {h : Hp} (ht : (h.2.1 a).1 = 11) : ex (d) 133 207 L (.ref b :: .ref a :: st) h = ex d 133 210 L st (mup h.1 a 37 (.ref b), h.2) := (ex_of d133_207 (d) L (.ref b :: .ref a :: st) h).trans (fin_put (mi := 133) f11_79 ht rfl rfl (by decide +kernel))
theorem x133_207n {d : Nat} {L : Lc} {st : List Value} {a : Nat} {h : Hp} (ht : (h.2.1 a).1 = 11) : ex (d) 133 207 L (.null :: .ref a :: st) h = ex d 133 210 L st (mup h.1 a 37 .null, h.2) := (ex_of d133_207 (d) L (.null :: .ref a :: st) h).trans (fin_put (mi := 133) f11_79 ht rfl rfl (by decide +kernel))
theorem x133_207q {d : Nat} {L : Lc} {st : List Value} {a : Nat} {b : Option Nat} {h : Hp} (ht : (h.2.1 a).1 = 11) : ex (d) 133 207 L (va_rf b :: .ref a :: st) h = ex d 133 210 L st (mup h.1 a 37 (va_rf b), h.2) := (ex_of d133_207 (d) L (va_rf b :: .ref a :: st) h).trans (by cases b <;> exact fin_put (mi := 133) f11_79 ht rfl rfl (by decide +kernel))
theorem d133_210 : decode (mB 133) 210 = .ok (.aload_n 0, 1) := by decide +kernel
theorem x133_210 {d : Nat} {st : List Value} {a : Nat} {h : Hp} : ex (d) 133 210 [some (.ref a)] st h = ex d 133 211 [some (.ref a)] (.ref a :: st) h := (ex_of d133_210 (d) [some (.ref a)] st h).trans (rfl)
theorem d133_211 : decode (mB 133) 211 = .ok (.sipush 300, 3) := by decide +kernel
theorem x133_211 {d : Nat} {L : Lc} {st : List Value} {h : Hp} : ex (d) 133 211 L st h = ex d 133 214 L (.int (nI 300) :: st) h := (ex_of d133_211 (d) L st h).trans (rfl)
theorem d133_214 : decode (mB 133) 214 = .ok (.newarray .int, 2) := by decide +kernel
theorem x133_214 {d : Nat} {L : Lc} {st : List Value} {n : Nat} {h : Hp} (hn : n ≤ 10000) : ex (d) 133 214 L (.int (nI n) :: st) h = ex d 133 216 L (.ref h.2.2.1 :: st) (mnw h.1 h.2.2.1 (fun _ => .int 0), mnw h.2.1 h.2.2.1 (20, n), h.2.2.1 + 1, h.2.2.2 + n) := (ex_of d133_214 (d) L (.int (nI n) :: st) h).trans (fin_nwa hn)
theorem d133_216 : decode (mB 133) 216 = .ok (.putfield 82, 3) := by decide +kernel
theorem x133_216 {d : Nat} {L : Lc} {st : List Value} {a b : Nat} {h : Hp} (ht : (h.2.1 a).1 = 11) : ex (d) 133 216 L (.ref b :: .ref a :: st) h = ex d 133 219 L st (mup h.1 a 38 (.ref b), h.2) := (ex_of d133_216 (d) L (.ref b :: .ref a :: st) h).trans (fin_put (mi := 133) f11_82 ht rfl rfl (by decide +kernel))
theorem x133_216n {d : Nat} {L : Lc} {st : List Value} {a : Nat} {h : Hp} (ht : (h.2.1 a).1 = 11) : ex (d) 133 216 L (.null :: .ref a :: st) h = ex d 133 219 L st (mup h.1 a 38 .null, h.2) := (ex_of d133_216 (d) L (.null :: .ref a :: st) h).trans (fin_put (mi := 133) f11_82 ht rfl rfl (by decide +kernel))
theorem x133_216q {d : Nat} {L : Lc} {st : List Value} {a : Nat} {b : Option Nat} {h : Hp} (ht : (h.2.1 a).1 = 11) : ex (d) 133 216 L (va_rf b :: .ref a :: st) h = ex d 133 219 L st (mup h.1 a 38 (va_rf b), h.2) := (ex_of d133_216 (d) L (va_rf b :: .ref a :: st) h).trans (by cases b <;> exact fin_put (mi := 133) f11_82 ht rfl rfl (by decide +kernel))
theorem d133_219 : decode (mB 133) 219 = .ok (.aload_n 0, 1) := by decide +kernel
theorem x133_219 {d : Nat} {st : List Value} {a : Nat} {h : Hp} : ex (d) 133 219 [some (.ref a)] st h = ex d 133 220 [some (.ref a)] (.ref a :: st) h := (ex_of d133_219 (d) [some (.ref a)] st h).trans (rfl)
theorem d133_220 : decode (mB 133) 220 = .ok (.sipush 201, 3) := by decide +kernel
theorem x133_220 {d : Nat} {L : Lc} {st : List Value} {h : Hp} : ex (d) 133 220 L st h = ex d 133 223 L (.int (nI 201) :: st) h := (ex_of d133_220 (d) L st h).trans (rfl)
theorem d133_223 : decode (mB 133) 223 = .ok (.newarray .int, 2) := by decide +kernel
theorem x133_223 {d : Nat} {L : Lc} {st : List Value} {n : Nat} {h : Hp} (hn : n ≤ 10000) : ex (d) 133 223 L (.int (nI n) :: st) h = ex d 133 225 L (.ref h.2.2.1 :: st) (mnw h.1 h.2.2.1 (fun _ => .int 0), mnw h.2.1 h.2.2.1 (20, n), h.2.2.1 + 1, h.2.2.2 + n) := (ex_of d133_223 (d) L (.int (nI n) :: st) h).trans (fin_nwa hn)
theorem d133_225 : decode (mB 133) 225 = .ok (.putfield 85, 3) := by decide +kernel
theorem x133_225 {d : Nat} {L : Lc} {st : List Value} {a b : Nat} {h : Hp} (ht : (h.2.1 a).1 = 11) : ex (d) 133 225 L (.ref b :: .ref a :: st) h = ex d 133 228 L st (mup h.1 a 39 (.ref b), h.2) := (ex_of d133_225 (d) L (.ref b :: .ref a :: st) h).trans (fin_put (mi := 133) f11_85 ht rfl rfl (by decide +kernel))
theorem x133_225n {d : Nat} {L : Lc} {st : List Value} {a : Nat} {h : Hp} (ht : (h.2.1 a).1 = 11) : ex (d) 133 225 L (.null :: .ref a :: st) h = ex d 133 228 L st (mup h.1 a 39 .null, h.2) := (ex_of d133_225 (d) L (.null :: .ref a :: st) h).trans (fin_put (mi := 133) f11_85 ht rfl rfl (by decide +kernel))
theorem x133_225q {d : Nat} {L : Lc} {st : List Value} {a : Nat} {b : Option Nat} {h : Hp} (ht : (h.2.1 a).1 = 11) : ex (d) 133 225 L (va_rf b :: .ref a :: st) h = ex d 133 228 L st (mup h.1 a 39 (va_rf b), h.2) := (ex_of d133_225 (d) L (va_rf b :: .ref a :: st) h).trans (by cases b <;> exact fin_put (mi := 133) f11_85 ht rfl rfl (by decide +kernel))
theorem d133_228 : decode (mB 133) 228 = .ok (.aload_n 0, 1) := by decide +kernel
theorem x133_228 {d : Nat} {st : List Value} {a : Nat} {h : Hp} : ex (d) 133 228 [some (.ref a)] st h = ex d 133 229 [some (.ref a)] (.ref a :: st) h := (ex_of d133_228 (d) [some (.ref a)] st h).trans (rfl)
theorem d133_229 : decode (mB 133) 229 = .ok (.sipush 201, 3) := by decide +kernel
theorem x133_229 {d : Nat} {L : Lc} {st : List Value} {h : Hp} : ex (d) 133 229 L st h = ex d 133 232 L (.int (nI 201) :: st) h := (ex_of d133_229 (d) L st h).trans (rfl)
theorem d133_232 : decode (mB 133) 232 = .ok (.newarray .int, 2) := by decide +kernel
theorem x133_232 {d : Nat} {L : Lc} {st : List Value} {n : Nat} {h : Hp} (hn : n ≤ 10000) : ex (d) 133 232 L (.int (nI n) :: st) h = ex d 133 234 L (.ref h.2.2.1 :: st) (mnw h.1 h.2.2.1 (fun _ => .int 0), mnw h.2.1 h.2.2.1 (20, n), h.2.2.1 + 1, h.2.2.2 + n) := (ex_of d133_232 (d) L (.int (nI n) :: st) h).trans (fin_nwa hn)
theorem d133_234 : decode (mB 133) 234 = .ok (.putfield 88, 3) := by decide +kernel
theorem x133_234 {d : Nat} {L : Lc} {st : List Value} {a b : Nat} {h : Hp} (ht : (h.2.1 a).1 = 11) : ex (d) 133 234 L (.ref b :: .ref a :: st) h = ex d 133 237 L st (mup h.1 a 40 (.ref b), h.2) := (ex_of d133_234 (d) L (.ref b :: .ref a :: st) h).trans (fin_put (mi := 133) f11_88 ht rfl rfl (by decide +kernel))
theorem x133_234n {d : Nat} {L : Lc} {st : List Value} {a : Nat} {h : Hp} (ht : (h.2.1 a).1 = 11) : ex (d) 133 234 L (.null :: .ref a :: st) h = ex d 133 237 L st (mup h.1 a 40 .null, h.2) := (ex_of d133_234 (d) L (.null :: .ref a :: st) h).trans (fin_put (mi := 133) f11_88 ht rfl rfl (by decide +kernel))
theorem x133_234q {d : Nat} {L : Lc} {st : List Value} {a : Nat} {b : Option Nat} {h : Hp} (ht : (h.2.1 a).1 = 11) : ex (d) 133 234 L (va_rf b :: .ref a :: st) h = ex d 133 237 L st (mup h.1 a 40 (va_rf b), h.2) := (ex_of d133_234 (d) L (va_rf b :: .ref a :: st) h).trans (by cases b <;> exact fin_put (mi := 133) f11_88 ht rfl rfl (by decide +kernel))
theorem d133_237 : decode (mB 133) 237 = .ok (.return_, 1) := by decide +kernel
theorem x133_237 {d : Nat} {L : Lc}  {h : Hp} : ex (d) 133 237 L [] h = some (none, h) := (ex_of d133_237 (d) L [] h).trans (rfl)
theorem d134_0 : decode (mB 134) 0 = .ok (.aload_n 0, 1) := by decide +kernel
theorem x134_0 {d : Nat} {l1 : Option Value} {st : List Value} {a : Nat} {h : Hp} : ex (d) 134 0 [some (.ref a), l1] st h = ex d 134 1 [some (.ref a), l1] (.ref a :: st) h := (ex_of d134_0 (d) [some (.ref a), l1] st h).trans (rfl)
theorem d134_1 : decode (mB 134) 1 = .ok (.iconst 0, 1) := by decide +kernel
theorem x134_1 {d : Nat} {L : Lc} {st : List Value} {h : Hp} : ex (d) 134 1 L st h = ex d 134 2 L (.int (nI 0) :: st) h := (ex_of d134_1 (d) L st h).trans (rfl)
theorem d134_2 : decode (mB 134) 2 = .ok (.putfield 91, 3) := by decide +kernel
theorem x134_2 {d : Nat} {L : Lc} {st : List Value} {a : Nat} {x : Int32} {h : Hp} (ht : (h.2.1 a).1 = 11) : ex (d) 134 2 L (.int x :: .ref a :: st) h = ex d 134 5 L st (mup h.1 a 0 (.int x), h.2) := (ex_of d134_2 (d) L (.int x :: .ref a :: st) h).trans (fin_put (mi := 134) f11_91 ht rfl rfl (by decide +kernel))
theorem d134_5 : decode (mB 134) 5 = .ok (.iload_n 1, 1) := by decide +kernel
theorem x134_5 {d : Nat} {l0 : Option Value} {st : List Value} {x : Int32} {h : Hp} : ex (d) 134 5 [l0, some (.int x)] st h = ex d 134 6 [l0, some (.int x)] (.int x :: st) h := (ex_of d134_5 (d) [l0, some (.int x)] st h).trans (rfl)
theorem d134_6 : decode (mB 134) 6 = .ok (.ireturn, 1) := by decide +kernel
theorem x134_6 {d : Nat} {L : Lc} {x : Int32} {h : Hp} : ex (d) 134 6 L [.int x] h = some (some (.int x), h) := (ex_of d134_6 (d) L [.int x] h).trans (rfl)
theorem d135_0 : decode (mB 135) 0 = .ok (.aload_n 0, 1) := by decide +kernel
theorem x135_0 {d : Nat} {l1 : Option Value} {st : List Value} {a : Nat} {h : Hp} : ex (d) 135 0 [some (.ref a), l1] st h = ex d 135 1 [some (.ref a), l1] (.ref a :: st) h := (ex_of d135_0 (d) [some (.ref a), l1] st h).trans (rfl)
theorem d135_1 : decode (mB 135) 1 = .ok (.iload_n 1, 1) := by decide +kernel
theorem x135_1 {d : Nat} {l0 : Option Value} {st : List Value} {x : Int32} {h : Hp} : ex (d) 135 1 [l0, some (.int x)] st h = ex d 135 2 [l0, some (.int x)] (.int x :: st) h := (ex_of d135_1 (d) [l0, some (.int x)] st h).trans (rfl)
theorem d135_2 : decode (mB 135) 2 = .ok (.putfield 91, 3) := by decide +kernel
theorem x135_2 {d : Nat} {L : Lc} {st : List Value} {a : Nat} {x : Int32} {h : Hp} (ht : (h.2.1 a).1 = 11) : ex (d) 135 2 L (.int x :: .ref a :: st) h = ex d 135 5 L st (mup h.1 a 0 (.int x), h.2) := (ex_of d135_2 (d) L (.int x :: .ref a :: st) h).trans (fin_put (mi := 135) f11_91 ht rfl rfl (by decide +kernel))
theorem d135_5 : decode (mB 135) 5 = .ok (.iconst (-1), 1) := by decide +kernel
theorem x135_5 {d : Nat} {L : Lc} {st : List Value} {h : Hp} : ex (d) 135 5 L st h = ex d 135 6 L (.int (-1) :: st) h := (ex_of d135_5 (d) L st h).trans (rfl)
theorem d135_6 : decode (mB 135) 6 = .ok (.ireturn, 1) := by decide +kernel
theorem x135_6 {d : Nat} {L : Lc} {x : Int32} {h : Hp} : ex (d) 135 6 L [.int x] h = some (some (.int x), h) := (ex_of d135_6 (d) L [.int x] h).trans (rfl)
theorem d136_0 : decode (mB 136) 0 = .ok (.iload_n 1, 1) := by decide +kernel
theorem x136_0 {d : Nat} {l0 : Option Value} {st : List Value} {x : Int32} {h : Hp} : ex (d) 136 0 [l0, some (.int x)] st h = ex d 136 1 [l0, some (.int x)] (.int x :: st) h := (ex_of d136_0 (d) [l0, some (.int x)] st h).trans (rfl)
theorem d136_1 : decode (mB 136) 1 = .ok (.ifCond .lt 15, 3) := by decide +kernel
theorem x136_1 {d : Nat} {L : Lc} {st : List Value} {x : Int32} {h : Hp} : ex (d) 136 1 L (.int x :: st) h = if x < 0 then ex d 136 16 L st h else ex d 136 4 L st h := (ex_of d136_1 (d) L (.int x :: st) h).trans (fin_brq (off := 15) (tgt := 16) rfl (by decide))
theorem d136_4 : decode (mB 136) 4 = .ok (.iload_n 1, 1) := by decide +kernel
theorem x136_4 {d : Nat} {l0 : Option Value} {st : List Value} {x : Int32} {h : Hp} : ex (d) 136 4 [l0, some (.int x)] st h = ex d 136 5 [l0, some (.int x)] (.int x :: st) h := (ex_of d136_4 (d) [l0, some (.int x)] st h).trans (rfl)
theorem d136_5 : decode (mB 136) 5 = .ok (.aload_n 0, 1) := by decide +kernel
theorem x136_5 {d : Nat} {l1 : Option Value} {st : List Value} {a : Nat} {h : Hp} : ex (d) 136 5 [some (.ref a), l1] st h = ex d 136 6 [some (.ref a), l1] (.ref a :: st) h := (ex_of d136_5 (d) [some (.ref a), l1] st h).trans (rfl)
theorem d136_6 : decode (mB 136) 6 = .ok (.getfield 95, 3) := by decide +kernel
theorem x136_6 {d : Nat} {L : Lc} {st : List Value} {a : Nat} {h : Hp} (ht : (h.2.1 a).1 = 11) : ex (d) 136 6 L (.ref a :: st) h = ex d 136 9 L (h.1 a 1 :: st) h := (ex_of d136_6 (d) L (.ref a :: st) h).trans (fin_get (mi := 136) f11_95 (tg1 ht rfl))
theorem d136_9 : decode (mB 136) 9 = .ok (.if_icmp .ge 7, 3) := by decide +kernel
theorem x136_9 {d : Nat} {L : Lc} {st : List Value} {x y : Int32} {h : Hp} : ex (d) 136 9 L (.int y :: .int x :: st) h = if y ≤ x then ex d 136 16 L st h else ex d 136 12 L st h := (ex_of d136_9 (d) L (.int y :: .int x :: st) h).trans (fin_brq (off := 7) (tgt := 16) rfl (by decide))
theorem d136_12 : decode (mB 136) 12 = .ok (.iconst 1, 1) := by decide +kernel
theorem x136_12 {d : Nat} {L : Lc} {st : List Value} {h : Hp} : ex (d) 136 12 L st h = ex d 136 13 L (.int (nI 1) :: st) h := (ex_of d136_12 (d) L st h).trans (rfl)
theorem d136_13 : decode (mB 136) 13 = .ok (.goto 4, 3) := by decide +kernel
theorem x136_13 {d : Nat} {L : Lc} {st : List Value} {h : Hp} : ex (d) 136 13 L st h = ex d 136 17 L st h := (ex_of d136_13 (d) L st h).trans (rfl)
theorem d136_16 : decode (mB 136) 16 = .ok (.iconst 0, 1) := by decide +kernel
theorem x136_16 {d : Nat} {L : Lc} {st : List Value} {h : Hp} : ex (d) 136 16 L st h = ex d 136 17 L (.int (nI 0) :: st) h := (ex_of d136_16 (d) L st h).trans (rfl)
theorem d136_17 : decode (mB 136) 17 = .ok (.ireturn, 1) := by decide +kernel
theorem x136_17 {d : Nat} {L : Lc} {x : Int32} {h : Hp} (hx : x = 0 ∨ x = 1) : ex (d) 136 17 L [.int x] h = some (some (.int x), h) := (ex_of d136_17 (d) L [.int x] h).trans (fin_retb rfl hx)
theorem d137_0 : decode (mB 137) 0 = .ok (.iload_n 0, 1) := by decide +kernel
theorem x137_0 {d : Nat} {l1 l2 : Option Value} {st : List Value} {x : Int32} {h : Hp} : ex (d) 137 0 [some (.int x), l1, l2] st h = ex d 137 1 [some (.int x), l1, l2] (.int x :: st) h := (ex_of d137_0 (d) [some (.int x), l1, l2] st h).trans (rfl)
theorem d137_1 : decode (mB 137) 1 = .ok (.iload_n 1, 1) := by decide +kernel
theorem x137_1 {d : Nat} {l0 l2 : Option Value} {st : List Value} {x : Int32} {h : Hp} : ex (d) 137 1 [l0, some (.int x), l2] st h = ex d 137 2 [l0, some (.int x), l2] (.int x :: st) h := (ex_of d137_1 (d) [l0, some (.int x), l2] st h).trans (rfl)
theorem d137_2 : decode (mB 137) 2 = .ok (.if_icmp .lt 12, 3) := by decide +kernel
theorem x137_2 {d : Nat} {L : Lc} {st : List Value} {x y : Int32} {h : Hp} : ex (d) 137 2 L (.int y :: .int x :: st) h = if x < y then ex d 137 14 L st h else ex d 137 5 L st h := (ex_of d137_2 (d) L (.int y :: .int x :: st) h).trans (fin_brq (off := 12) (tgt := 14) rfl (by decide))
theorem d137_5 : decode (mB 137) 5 = .ok (.iload_n 0, 1) := by decide +kernel
theorem x137_5 {d : Nat} {l1 l2 : Option Value} {st : List Value} {x : Int32} {h : Hp} : ex (d) 137 5 [some (.int x), l1, l2] st h = ex d 137 6 [some (.int x), l1, l2] (.int x :: st) h := (ex_of d137_5 (d) [some (.int x), l1, l2] st h).trans (rfl)
theorem d137_6 : decode (mB 137) 6 = .ok (.iload_n 2, 1) := by decide +kernel
theorem x137_6 {d : Nat} {l0 l1 : Option Value} {st : List Value} {x : Int32} {h : Hp} : ex (d) 137 6 [l0, l1, some (.int x)] st h = ex d 137 7 [l0, l1, some (.int x)] (.int x :: st) h := (ex_of d137_6 (d) [l0, l1, some (.int x)] st h).trans (rfl)
theorem d137_7 : decode (mB 137) 7 = .ok (.if_icmp .gt 7, 3) := by decide +kernel
theorem x137_7 {d : Nat} {L : Lc} {st : List Value} {x y : Int32} {h : Hp} : ex (d) 137 7 L (.int y :: .int x :: st) h = if y < x then ex d 137 14 L st h else ex d 137 10 L st h := (ex_of d137_7 (d) L (.int y :: .int x :: st) h).trans (fin_brq (off := 7) (tgt := 14) rfl (by decide))
theorem d137_10 : decode (mB 137) 10 = .ok (.iconst 1, 1) := by decide +kernel
theorem x137_10 {d : Nat} {L : Lc} {st : List Value} {h : Hp} : ex (d) 137 10 L st h = ex d 137 11 L (.int (nI 1) :: st) h := (ex_of d137_10 (d) L st h).trans (rfl)
theorem d137_11 : decode (mB 137) 11 = .ok (.goto 4, 3) := by decide +kernel
theorem x137_11 {d : Nat} {L : Lc} {st : List Value} {h : Hp} : ex (d) 137 11 L st h = ex d 137 15 L st h := (ex_of d137_11 (d) L st h).trans (rfl)
theorem d137_14 : decode (mB 137) 14 = .ok (.iconst 0, 1) := by decide +kernel
theorem x137_14 {d : Nat} {L : Lc} {st : List Value} {h : Hp} : ex (d) 137 14 L st h = ex d 137 15 L (.int (nI 0) :: st) h := (ex_of d137_14 (d) L st h).trans (rfl)
theorem d137_15 : decode (mB 137) 15 = .ok (.ireturn, 1) := by decide +kernel
theorem x137_15 {d : Nat} {L : Lc} {x : Int32} {h : Hp} (hx : x = 0 ∨ x = 1) : ex (d) 137 15 L [.int x] h = some (some (.int x), h) := (ex_of d137_15 (d) L [.int x] h).trans (fin_retb rfl hx)
theorem d138_0 : decode (mB 138) 0 = .ok (.aload_n 0, 1) := by decide +kernel
theorem x138_0 {d : Nat} {l1 : Option Value} {st : List Value} {a : Nat} {h : Hp} : ex (d) 138 0 [some (.ref a), l1] st h = ex d 138 1 [some (.ref a), l1] (.ref a :: st) h := (ex_of d138_0 (d) [some (.ref a), l1] st h).trans (rfl)
theorem d138_1 : decode (mB 138) 1 = .ok (.getfield 9, 3) := by decide +kernel
theorem x138_1 {d : Nat} {L : Lc} {st : List Value} {a : Nat} {h : Hp} (ht : (h.2.1 a).1 = 11) : ex (d) 138 1 L (.ref a :: st) h = ex d 138 4 L (h.1 a 2 :: st) h := (ex_of d138_1 (d) L (.ref a :: st) h).trans (fin_get (mi := 138) f11_9 (tg1 ht rfl))
theorem d138_4 : decode (mB 138) 4 = .ok (.iload_n 1, 1) := by decide +kernel
theorem x138_4 {d : Nat} {l0 : Option Value} {st : List Value} {x : Int32} {h : Hp} : ex (d) 138 4 [l0, some (.int x)] st h = ex d 138 5 [l0, some (.int x)] (.int x :: st) h := (ex_of d138_4 (d) [l0, some (.int x)] st h).trans (rfl)
theorem d138_5 : decode (mB 138) 5 = .ok (.iaload, 1) := by decide +kernel
theorem x138_5 {d : Nat} {L : Lc} {st : List Value} {a j : Nat} {h : Hp} (ht : (h.2.1 a).1 = 20) (hj : j < (h.2.1 a).2) (hb : j < 2147483648) : ex (d) 138 5 L (.int (nI j) :: .ref a :: st) h = ex d 138 6 L (h.1 a j :: st) h := (ex_of d138_5 (d) L (.int (nI j) :: .ref a :: st) h).trans (fin_iaload (Or.inl ht) hj hb)
theorem d138_6 : decode (mB 138) 6 = .ok (.iconst 3, 1) := by decide +kernel
theorem x138_6 {d : Nat} {L : Lc} {st : List Value} {h : Hp} : ex (d) 138 6 L st h = ex d 138 7 L (.int (nI 3) :: st) h := (ex_of d138_6 (d) L st h).trans (rfl)
theorem d138_7 : decode (mB 138) 7 = .ok (.if_icmp .gt 7, 3) := by decide +kernel
theorem x138_7 {d : Nat} {L : Lc} {st : List Value} {x y : Int32} {h : Hp} : ex (d) 138 7 L (.int y :: .int x :: st) h = if y < x then ex d 138 14 L st h else ex d 138 10 L st h := (ex_of d138_7 (d) L (.int y :: .int x :: st) h).trans (fin_brq (off := 7) (tgt := 14) rfl (by decide))
theorem d138_10 : decode (mB 138) 10 = .ok (.iconst 1, 1) := by decide +kernel
theorem x138_10 {d : Nat} {L : Lc} {st : List Value} {h : Hp} : ex (d) 138 10 L st h = ex d 138 11 L (.int (nI 1) :: st) h := (ex_of d138_10 (d) L st h).trans (rfl)
theorem d138_11 : decode (mB 138) 11 = .ok (.goto 4, 3) := by decide +kernel
theorem x138_11 {d : Nat} {L : Lc} {st : List Value} {h : Hp} : ex (d) 138 11 L st h = ex d 138 15 L st h := (ex_of d138_11 (d) L st h).trans (rfl)
theorem d138_14 : decode (mB 138) 14 = .ok (.iconst 0, 1) := by decide +kernel
theorem x138_14 {d : Nat} {L : Lc} {st : List Value} {h : Hp} : ex (d) 138 14 L st h = ex d 138 15 L (.int (nI 0) :: st) h := (ex_of d138_14 (d) L st h).trans (rfl)
theorem d138_15 : decode (mB 138) 15 = .ok (.ireturn, 1) := by decide +kernel
theorem x138_15 {d : Nat} {L : Lc} {x : Int32} {h : Hp} (hx : x = 0 ∨ x = 1) : ex (d) 138 15 L [.int x] h = some (some (.int x), h) := (ex_of d138_15 (d) L [.int x] h).trans (fin_retb rfl hx)
theorem d139_0 : decode (mB 139) 0 = .ok (.aload_n 0, 1) := by decide +kernel
theorem x139_0 {d : Nat} {l1 : Option Value} {st : List Value} {a : Nat} {h : Hp} : ex (d) 139 0 [some (.ref a), l1] st h = ex d 139 1 [some (.ref a), l1] (.ref a :: st) h := (ex_of d139_0 (d) [some (.ref a), l1] st h).trans (rfl)
theorem d139_1 : decode (mB 139) 1 = .ok (.getfield 9, 3) := by decide +kernel
theorem x139_1 {d : Nat} {L : Lc} {st : List Value} {a : Nat} {h : Hp} (ht : (h.2.1 a).1 = 11) : ex (d) 139 1 L (.ref a :: st) h = ex d 139 4 L (h.1 a 2 :: st) h := (ex_of d139_1 (d) L (.ref a :: st) h).trans (fin_get (mi := 139) f11_9 (tg1 ht rfl))
theorem d139_4 : decode (mB 139) 4 = .ok (.iload_n 1, 1) := by decide +kernel
theorem x139_4 {d : Nat} {l0 : Option Value} {st : List Value} {x : Int32} {h : Hp} : ex (d) 139 4 [l0, some (.int x)] st h = ex d 139 5 [l0, some (.int x)] (.int x :: st) h := (ex_of d139_4 (d) [l0, some (.int x)] st h).trans (rfl)
theorem d139_5 : decode (mB 139) 5 = .ok (.iaload, 1) := by decide +kernel
theorem x139_5 {d : Nat} {L : Lc} {st : List Value} {a j : Nat} {h : Hp} (ht : (h.2.1 a).1 = 20) (hj : j < (h.2.1 a).2) (hb : j < 2147483648) : ex (d) 139 5 L (.int (nI j) :: .ref a :: st) h = ex d 139 6 L (h.1 a j :: st) h := (ex_of d139_5 (d) L (.int (nI j) :: .ref a :: st) h).trans (fin_iaload (Or.inl ht) hj hb)
theorem d139_6 : decode (mB 139) 6 = .ok (.iconst 4, 1) := by decide +kernel
theorem x139_6 {d : Nat} {L : Lc} {st : List Value} {h : Hp} : ex (d) 139 6 L st h = ex d 139 7 L (.int (nI 4) :: st) h := (ex_of d139_6 (d) L st h).trans (rfl)
theorem d139_7 : decode (mB 139) 7 = .ok (.if_icmp .gt 7, 3) := by decide +kernel
theorem x139_7 {d : Nat} {L : Lc} {st : List Value} {x y : Int32} {h : Hp} : ex (d) 139 7 L (.int y :: .int x :: st) h = if y < x then ex d 139 14 L st h else ex d 139 10 L st h := (ex_of d139_7 (d) L (.int y :: .int x :: st) h).trans (fin_brq (off := 7) (tgt := 14) rfl (by decide))
theorem d139_10 : decode (mB 139) 10 = .ok (.iconst 1, 1) := by decide +kernel
theorem x139_10 {d : Nat} {L : Lc} {st : List Value} {h : Hp} : ex (d) 139 10 L st h = ex d 139 11 L (.int (nI 1) :: st) h := (ex_of d139_10 (d) L st h).trans (rfl)
theorem d139_11 : decode (mB 139) 11 = .ok (.goto 4, 3) := by decide +kernel
theorem x139_11 {d : Nat} {L : Lc} {st : List Value} {h : Hp} : ex (d) 139 11 L st h = ex d 139 15 L st h := (ex_of d139_11 (d) L st h).trans (rfl)
theorem d139_14 : decode (mB 139) 14 = .ok (.iconst 0, 1) := by decide +kernel
theorem x139_14 {d : Nat} {L : Lc} {st : List Value} {h : Hp} : ex (d) 139 14 L st h = ex d 139 15 L (.int (nI 0) :: st) h := (ex_of d139_14 (d) L st h).trans (rfl)
theorem d139_15 : decode (mB 139) 15 = .ok (.ireturn, 1) := by decide +kernel
theorem x139_15 {d : Nat} {L : Lc} {x : Int32} {h : Hp} (hx : x = 0 ∨ x = 1) : ex (d) 139 15 L [.int x] h = some (some (.int x), h) := (ex_of d139_15 (d) L [.int x] h).trans (fin_retb rfl hx)
theorem d140_0 : decode (mB 140) 0 = .ok (.iload_n 1, 1) := by decide +kernel
theorem x140_0 {d : Nat} {l0 l2 : Option Value} {st : List Value} {x : Int32} {h : Hp} : ex (d) 140 0 [l0, some (.int x), l2] st h = ex d 140 1 [l0, some (.int x), l2] (.int x :: st) h := (ex_of d140_0 (d) [l0, some (.int x), l2] st h).trans (rfl)
theorem d140_1 : decode (mB 140) 1 = .ok (.iconst 0, 1) := by decide +kernel
theorem x140_1 {d : Nat} {L : Lc} {st : List Value} {h : Hp} : ex (d) 140 1 L st h = ex d 140 2 L (.int (nI 0) :: st) h := (ex_of d140_1 (d) L st h).trans (rfl)
theorem d140_2 : decode (mB 140) 2 = .ok (.aload_n 0, 1) := by decide +kernel
theorem x140_2 {d : Nat} {l1 l2 : Option Value} {st : List Value} {a : Nat} {h : Hp} : ex (d) 140 2 [some (.ref a), l1, l2] st h = ex d 140 3 [some (.ref a), l1, l2] (.ref a :: st) h := (ex_of d140_2 (d) [some (.ref a), l1, l2] st h).trans (rfl)
theorem d140_3 : decode (mB 140) 3 = .ok (.getfield 98, 3) := by decide +kernel
theorem x140_3 {d : Nat} {L : Lc} {st : List Value} {a : Nat} {h : Hp} (ht : (h.2.1 a).1 = 11) : ex (d) 140 3 L (.ref a :: st) h = ex d 140 6 L (h.1 a 8 :: st) h := (ex_of d140_3 (d) L (.ref a :: st) h).trans (fin_get (mi := 140) f11_98 (tg1 ht rfl))
theorem d140_6 : decode (mB 140) 6 = .ok (.iconst 1, 1) := by decide +kernel
theorem x140_6 {d : Nat} {L : Lc} {st : List Value} {h : Hp} : ex (d) 140 6 L st h = ex d 140 7 L (.int (nI 1) :: st) h := (ex_of d140_6 (d) L st h).trans (rfl)
theorem d140_7 : decode (mB 140) 7 = .ok (.isub, 1) := by decide +kernel
theorem x140_7 {d : Nat} {L : Lc} {st : List Value} {x y : Int32} {h : Hp} : ex (d) 140 7 L (.int y :: .int x :: st) h = ex d 140 8 L (.int (x - y) :: st) h := (ex_of d140_7 (d) L (.int y :: .int x :: st) h).trans (rfl)
theorem d140_8 : decode (mB 140) 8 = .ok (.invokestatic 101, 3) := by decide +kernel
theorem x140_8 {d : Nat} {L : Lc}  {v0 : Int32} {v1 : Int32} {v2 : Int32} {h : Hp} : ex (d + 1) 140 8 L (.int v2 :: .int v1 :: .int v0 :: []) h = bnd (ex d 137 0 [some (.int v0), some (.int v1), some (.int v2)] [] h) (fun v h' => ex (d + 1) 140 11 L (v.toList ++ []) h') := (ex_of d140_8 (d + 1) L (.int v2 :: .int v1 :: .int v0 :: []) h).trans (fin_st (mi := 140) i11_101 (Or.inl rfl) (by simp) (by simp [cat1_i, cat1_r]) (by simp) (Nat.le_of_ble_eq_true rfl))
theorem d140_11 : decode (mB 140) 11 = .ok (.ifCond .eq 9, 3) := by decide +kernel
theorem x140_11 {d : Nat} {L : Lc} {st : List Value} {x : Int32} {h : Hp} : ex (d) 140 11 L (.int x :: st) h = if x = 0 then ex d 140 20 L st h else ex d 140 14 L st h := (ex_of d140_11 (d) L (.int x :: st) h).trans (fin_brq (off := 9) (tgt := 20) rfl (by decide))
theorem d140_14 : decode (mB 140) 14 = .ok (.sipush 200, 3) := by decide +kernel
theorem x140_14 {d : Nat} {L : Lc} {st : List Value} {h : Hp} : ex (d) 140 14 L st h = ex d 140 17 L (.int (nI 200) :: st) h := (ex_of d140_14 (d) L st h).trans (rfl)
theorem d140_17 : decode (mB 140) 17 = .ok (.iload_n 1, 1) := by decide +kernel
theorem x140_17 {d : Nat} {l0 l2 : Option Value} {st : List Value} {x : Int32} {h : Hp} : ex (d) 140 17 [l0, some (.int x), l2] st h = ex d 140 18 [l0, some (.int x), l2] (.int x :: st) h := (ex_of d140_17 (d) [l0, some (.int x), l2] st h).trans (rfl)
theorem d140_18 : decode (mB 140) 18 = .ok (.iadd, 1) := by decide +kernel
theorem x140_18 {d : Nat} {L : Lc} {st : List Value} {x y : Int32} {h : Hp} : ex (d) 140 18 L (.int y :: .int x :: st) h = ex d 140 19 L (.int (x + y) :: st) h := (ex_of d140_18 (d) L (.int y :: .int x :: st) h).trans (rfl)
theorem d140_19 : decode (mB 140) 19 = .ok (.ireturn, 1) := by decide +kernel
theorem x140_19 {d : Nat} {L : Lc} {x : Int32} {h : Hp} : ex (d) 140 19 L [.int x] h = some (some (.int x), h) := (ex_of d140_19 (d) L [.int x] h).trans (rfl)
theorem d140_20 : decode (mB 140) 20 = .ok (.iload_n 1, 1) := by decide +kernel
theorem x140_20 {d : Nat} {l0 l2 : Option Value} {st : List Value} {x : Int32} {h : Hp} : ex (d) 140 20 [l0, some (.int x), l2] st h = ex d 140 21 [l0, some (.int x), l2] (.int x :: st) h := (ex_of d140_20 (d) [l0, some (.int x), l2] st h).trans (rfl)
theorem d140_21 : decode (mB 140) 21 = .ok (.sipush 1000, 3) := by decide +kernel
theorem x140_21 {d : Nat} {L : Lc} {st : List Value} {h : Hp} : ex (d) 140 21 L st h = ex d 140 24 L (.int (nI 1000) :: st) h := (ex_of d140_21 (d) L st h).trans (rfl)
theorem d140_24 : decode (mB 140) 24 = .ok (.isub, 1) := by decide +kernel
theorem x140_24 {d : Nat} {L : Lc} {st : List Value} {x y : Int32} {h : Hp} : ex (d) 140 24 L (.int y :: .int x :: st) h = ex d 140 25 L (.int (x - y) :: st) h := (ex_of d140_24 (d) L (.int y :: .int x :: st) h).trans (rfl)
theorem d140_25 : decode (mB 140) 25 = .ok (.istore_n 2, 1) := by decide +kernel
theorem x140_25 {d : Nat} {l0 l1 l2 : Option Value} {st : List Value} {x : Int32} {h : Hp} : ex (d) 140 25 [l0, l1, l2] (.int x :: st) h = ex d 140 26 [l0, clr l1, some (.int x)] st h := (ex_of d140_25 (d) [l0, l1, l2] (.int x :: st) h).trans (rfl)
theorem d140_26 : decode (mB 140) 26 = .ok (.iload_n 1, 1) := by decide +kernel
theorem x140_26 {d : Nat} {l0 l2 : Option Value} {st : List Value} {x : Int32} {h : Hp} : ex (d) 140 26 [l0, some (.int x), l2] st h = ex d 140 27 [l0, some (.int x), l2] (.int x :: st) h := (ex_of d140_26 (d) [l0, some (.int x), l2] st h).trans (rfl)
theorem d140_27 : decode (mB 140) 27 = .ok (.sipush 1000, 3) := by decide +kernel
theorem x140_27 {d : Nat} {L : Lc} {st : List Value} {h : Hp} : ex (d) 140 27 L st h = ex d 140 30 L (.int (nI 1000) :: st) h := (ex_of d140_27 (d) L st h).trans (rfl)
theorem d140_30 : decode (mB 140) 30 = .ok (.if_icmp .lt 35, 3) := by decide +kernel
theorem x140_30 {d : Nat} {L : Lc} {st : List Value} {x y : Int32} {h : Hp} : ex (d) 140 30 L (.int y :: .int x :: st) h = if x < y then ex d 140 65 L st h else ex d 140 33 L st h := (ex_of d140_30 (d) L (.int y :: .int x :: st) h).trans (fin_brq (off := 35) (tgt := 65) rfl (by decide))
theorem d140_33 : decode (mB 140) 33 = .ok (.aload_n 0, 1) := by decide +kernel
theorem x140_33 {d : Nat} {l1 l2 : Option Value} {st : List Value} {a : Nat} {h : Hp} : ex (d) 140 33 [some (.ref a), l1, l2] st h = ex d 140 34 [some (.ref a), l1, l2] (.ref a :: st) h := (ex_of d140_33 (d) [some (.ref a), l1, l2] st h).trans (rfl)
theorem d140_34 : decode (mB 140) 34 = .ok (.iload_n 2, 1) := by decide +kernel
theorem x140_34 {d : Nat} {l0 l1 : Option Value} {st : List Value} {x : Int32} {h : Hp} : ex (d) 140 34 [l0, l1, some (.int x)] st h = ex d 140 35 [l0, l1, some (.int x)] (.int x :: st) h := (ex_of d140_34 (d) [l0, l1, some (.int x)] st h).trans (rfl)
theorem d140_35 : decode (mB 140) 35 = .ok (.invokevirtual 105, 3) := by decide +kernel
theorem x140_35 {d : Nat} {L : Lc} {a : Nat} {v0 : Int32} {h : Hp} (ht : (h.2.1 a).1 = 11) : ex (d + 1) 140 35 L (.int v0 :: .ref a :: []) h = bnd (ex d 136 0 [some (.ref a), some (.int v0)] [] h) (fun v h' => ex (d + 1) 140 38 L (v.toList ++ []) h') := (ex_of d140_35 (d + 1) L (.int v0 :: .ref a :: []) h).trans (fin_vi (mi := 140) i11_105 ht rfl rfl (by simp [cat1_i, cat1_r]) (by simp) (Nat.le_of_ble_eq_true rfl))
theorem d140_38 : decode (mB 140) 38 = .ok (.ifCond .eq 27, 3) := by decide +kernel
theorem x140_38 {d : Nat} {L : Lc} {st : List Value} {x : Int32} {h : Hp} : ex (d) 140 38 L (.int x :: st) h = if x = 0 then ex d 140 65 L st h else ex d 140 41 L st h := (ex_of d140_38 (d) L (.int x :: st) h).trans (fin_brq (off := 27) (tgt := 65) rfl (by decide))
theorem d140_41 : decode (mB 140) 41 = .ok (.aload_n 0, 1) := by decide +kernel
theorem x140_41 {d : Nat} {l1 l2 : Option Value} {st : List Value} {a : Nat} {h : Hp} : ex (d) 140 41 [some (.ref a), l1, l2] st h = ex d 140 42 [some (.ref a), l1, l2] (.ref a :: st) h := (ex_of d140_41 (d) [some (.ref a), l1, l2] st h).trans (rfl)
theorem d140_42 : decode (mB 140) 42 = .ok (.getfield 9, 3) := by decide +kernel
theorem x140_42 {d : Nat} {L : Lc} {st : List Value} {a : Nat} {h : Hp} (ht : (h.2.1 a).1 = 11) : ex (d) 140 42 L (.ref a :: st) h = ex d 140 45 L (h.1 a 2 :: st) h := (ex_of d140_42 (d) L (.ref a :: st) h).trans (fin_get (mi := 140) f11_9 (tg1 ht rfl))
theorem d140_45 : decode (mB 140) 45 = .ok (.iload_n 2, 1) := by decide +kernel
theorem x140_45 {d : Nat} {l0 l1 : Option Value} {st : List Value} {x : Int32} {h : Hp} : ex (d) 140 45 [l0, l1, some (.int x)] st h = ex d 140 46 [l0, l1, some (.int x)] (.int x :: st) h := (ex_of d140_45 (d) [l0, l1, some (.int x)] st h).trans (rfl)
theorem d140_46 : decode (mB 140) 46 = .ok (.iaload, 1) := by decide +kernel
theorem x140_46 {d : Nat} {L : Lc} {st : List Value} {a j : Nat} {h : Hp} (ht : (h.2.1 a).1 = 20) (hj : j < (h.2.1 a).2) (hb : j < 2147483648) : ex (d) 140 46 L (.int (nI j) :: .ref a :: st) h = ex d 140 47 L (h.1 a j :: st) h := (ex_of d140_46 (d) L (.int (nI j) :: .ref a :: st) h).trans (fin_iaload (Or.inl ht) hj hb)
theorem d140_47 : decode (mB 140) 47 = .ok (.iconst 4, 1) := by decide +kernel
theorem x140_47 {d : Nat} {L : Lc} {st : List Value} {h : Hp} : ex (d) 140 47 L st h = ex d 140 48 L (.int (nI 4) :: st) h := (ex_of d140_47 (d) L st h).trans (rfl)
theorem d140_48 : decode (mB 140) 48 = .ok (.if_icmp .eq 13, 3) := by decide +kernel
theorem x140_48 {d : Nat} {L : Lc} {st : List Value} {x y : Int32} {h : Hp} : ex (d) 140 48 L (.int y :: .int x :: st) h = if x = y then ex d 140 61 L st h else ex d 140 51 L st h := (ex_of d140_48 (d) L (.int y :: .int x :: st) h).trans (fin_brq (off := 13) (tgt := 61) rfl (by decide))
theorem d140_51 : decode (mB 140) 51 = .ok (.aload_n 0, 1) := by decide +kernel
theorem x140_51 {d : Nat} {l1 l2 : Option Value} {st : List Value} {a : Nat} {h : Hp} : ex (d) 140 51 [some (.ref a), l1, l2] st h = ex d 140 52 [some (.ref a), l1, l2] (.ref a :: st) h := (ex_of d140_51 (d) [some (.ref a), l1, l2] st h).trans (rfl)
theorem d140_52 : decode (mB 140) 52 = .ok (.getfield 9, 3) := by decide +kernel
theorem x140_52 {d : Nat} {L : Lc} {st : List Value} {a : Nat} {h : Hp} (ht : (h.2.1 a).1 = 11) : ex (d) 140 52 L (.ref a :: st) h = ex d 140 55 L (h.1 a 2 :: st) h := (ex_of d140_52 (d) L (.ref a :: st) h).trans (fin_get (mi := 140) f11_9 (tg1 ht rfl))
theorem d140_55 : decode (mB 140) 55 = .ok (.iload_n 2, 1) := by decide +kernel
theorem x140_55 {d : Nat} {l0 l1 : Option Value} {st : List Value} {x : Int32} {h : Hp} : ex (d) 140 55 [l0, l1, some (.int x)] st h = ex d 140 56 [l0, l1, some (.int x)] (.int x :: st) h := (ex_of d140_55 (d) [l0, l1, some (.int x)] st h).trans (rfl)
theorem d140_56 : decode (mB 140) 56 = .ok (.iaload, 1) := by decide +kernel
theorem x140_56 {d : Nat} {L : Lc} {st : List Value} {a j : Nat} {h : Hp} (ht : (h.2.1 a).1 = 20) (hj : j < (h.2.1 a).2) (hb : j < 2147483648) : ex (d) 140 56 L (.int (nI j) :: .ref a :: st) h = ex d 140 57 L (h.1 a j :: st) h := (ex_of d140_56 (d) L (.int (nI j) :: .ref a :: st) h).trans (fin_iaload (Or.inl ht) hj hb)
theorem d140_57 : decode (mB 140) 57 = .ok (.iconst 5, 1) := by decide +kernel
theorem x140_57 {d : Nat} {L : Lc} {st : List Value} {h : Hp} : ex (d) 140 57 L st h = ex d 140 58 L (.int (nI 5) :: st) h := (ex_of d140_57 (d) L st h).trans (rfl)
theorem d140_58 : decode (mB 140) 58 = .ok (.if_icmp .ne 7, 3) := by decide +kernel
theorem x140_58 {d : Nat} {L : Lc} {st : List Value} {x y : Int32} {h : Hp} : ex (d) 140 58 L (.int y :: .int x :: st) h = if ¬ x = y then ex d 140 65 L st h else ex d 140 61 L st h := (ex_of d140_58 (d) L (.int y :: .int x :: st) h).trans (fin_brq (off := 7) (tgt := 65) rfl (by decide))
theorem d140_61 : decode (mB 140) 61 = .ok (.iload_n 2, 1) := by decide +kernel
theorem x140_61 {d : Nat} {l0 l1 : Option Value} {st : List Value} {x : Int32} {h : Hp} : ex (d) 140 61 [l0, l1, some (.int x)] st h = ex d 140 62 [l0, l1, some (.int x)] (.int x :: st) h := (ex_of d140_61 (d) [l0, l1, some (.int x)] st h).trans (rfl)
theorem d140_62 : decode (mB 140) 62 = .ok (.goto 4, 3) := by decide +kernel
theorem x140_62 {d : Nat} {L : Lc} {st : List Value} {h : Hp} : ex (d) 140 62 L st h = ex d 140 66 L st h := (ex_of d140_62 (d) L st h).trans (rfl)
theorem d140_65 : decode (mB 140) 65 = .ok (.iconst (-1), 1) := by decide +kernel
theorem x140_65 {d : Nat} {L : Lc} {st : List Value} {h : Hp} : ex (d) 140 65 L st h = ex d 140 66 L (.int (-1) :: st) h := (ex_of d140_65 (d) L st h).trans (rfl)
theorem d140_66 : decode (mB 140) 66 = .ok (.ireturn, 1) := by decide +kernel
theorem x140_66 {d : Nat} {L : Lc} {x : Int32} {h : Hp} : ex (d) 140 66 L [.int x] h = some (some (.int x), h) := (ex_of d140_66 (d) L [.int x] h).trans (rfl)
theorem d141_0 : decode (mB 141) 0 = .ok (.aload_n 0, 1) := by decide +kernel
theorem x141_0 {d : Nat} {l1 l2 l3 l4 l5 : Option Value} {st : List Value} {a : Nat} {h : Hp} : ex (d) 141 0 [some (.ref a), l1, l2, l3, l4, l5] st h = ex d 141 1 [some (.ref a), l1, l2, l3, l4, l5] (.ref a :: st) h := (ex_of d141_0 (d) [some (.ref a), l1, l2, l3, l4, l5] st h).trans (rfl)
theorem d141_1 : decode (mB 141) 1 = .ok (.getfield 95, 3) := by decide +kernel
theorem x141_1 {d : Nat} {L : Lc} {st : List Value} {a : Nat} {h : Hp} (ht : (h.2.1 a).1 = 11) : ex (d) 141 1 L (.ref a :: st) h = ex d 141 4 L (h.1 a 1 :: st) h := (ex_of d141_1 (d) L (.ref a :: st) h).trans (fin_get (mi := 141) f11_95 (tg1 ht rfl))
theorem d141_4 : decode (mB 141) 4 = .ok (.sipush 200, 3) := by decide +kernel
theorem x141_4 {d : Nat} {L : Lc} {st : List Value} {h : Hp} : ex (d) 141 4 L st h = ex d 141 7 L (.int (nI 200) :: st) h := (ex_of d141_4 (d) L st h).trans (rfl)
theorem d141_7 : decode (mB 141) 7 = .ok (.if_icmp .ne 10, 3) := by decide +kernel
theorem x141_7 {d : Nat} {L : Lc} {st : List Value} {x y : Int32} {h : Hp} : ex (d) 141 7 L (.int y :: .int x :: st) h = if ¬ x = y then ex d 141 17 L st h else ex d 141 10 L st h := (ex_of d141_7 (d) L (.int y :: .int x :: st) h).trans (fin_brq (off := 10) (tgt := 17) rfl (by decide))
theorem d141_10 : decode (mB 141) 10 = .ok (.aload_n 0, 1) := by decide +kernel
theorem x141_10 {d : Nat} {l1 l2 l3 l4 l5 : Option Value} {st : List Value} {a : Nat} {h : Hp} : ex (d) 141 10 [some (.ref a), l1, l2, l3, l4, l5] st h = ex d 141 11 [some (.ref a), l1, l2, l3, l4, l5] (.ref a :: st) h := (ex_of d141_10 (d) [some (.ref a), l1, l2, l3, l4, l5] st h).trans (rfl)
theorem d141_11 : decode (mB 141) 11 = .ok (.bipush 6, 2) := by decide +kernel
theorem x141_11 {d : Nat} {L : Lc} {st : List Value} {h : Hp} : ex (d) 141 11 L st h = ex d 141 13 L (.int (nI 6) :: st) h := (ex_of d141_11 (d) L st h).trans (rfl)
theorem d141_13 : decode (mB 141) 13 = .ok (.invokevirtual 109, 3) := by decide +kernel
theorem x141_13 {d : Nat} {L : Lc} {a : Nat} {v0 : Int32} {h : Hp} (ht : (h.2.1 a).1 = 11) : ex (d + 1) 141 13 L (.int v0 :: .ref a :: []) h = bnd (ex d 135 0 [some (.ref a), some (.int v0)] [] h) (fun v h' => ex (d + 1) 141 16 L (v.toList ++ []) h') := (ex_of d141_13 (d + 1) L (.int v0 :: .ref a :: []) h).trans (fin_vi (mi := 141) i11_109 ht rfl rfl (by simp [cat1_i, cat1_r]) (by simp) (Nat.le_of_ble_eq_true rfl))
theorem d141_16 : decode (mB 141) 16 = .ok (.ireturn, 1) := by decide +kernel
theorem x141_16 {d : Nat} {L : Lc} {x : Int32} {h : Hp} : ex (d) 141 16 L [.int x] h = some (some (.int x), h) := (ex_of d141_16 (d) L [.int x] h).trans (rfl)
theorem d141_17 : decode (mB 141) 17 = .ok (.aload_n 0, 1) := by decide +kernel
theorem x141_17 {d : Nat} {l1 l2 l3 l4 l5 : Option Value} {st : List Value} {a : Nat} {h : Hp} : ex (d) 141 17 [some (.ref a), l1, l2, l3, l4, l5] st h = ex d 141 18 [some (.ref a), l1, l2, l3, l4, l5] (.ref a :: st) h := (ex_of d141_17 (d) [some (.ref a), l1, l2, l3, l4, l5] st h).trans (rfl)
theorem d141_18 : decode (mB 141) 18 = .ok (.getfield 95, 3) := by decide +kernel
theorem x141_18 {d : Nat} {L : Lc} {st : List Value} {a : Nat} {h : Hp} (ht : (h.2.1 a).1 = 11) : ex (d) 141 18 L (.ref a :: st) h = ex d 141 21 L (h.1 a 1 :: st) h := (ex_of d141_18 (d) L (.ref a :: st) h).trans (fin_get (mi := 141) f11_95 (tg1 ht rfl))
theorem d141_21 : decode (mB 141) 21 = .ok (.istore 4, 2) := by decide +kernel
theorem x141_21 {d : Nat} {l0 l1 l2 l3 l4 l5 : Option Value} {st : List Value} {x : Int32} {h : Hp} : ex (d) 141 21 [l0, l1, l2, l3, l4, l5] (.int x :: st) h = ex d 141 23 [l0, l1, l2, clr l3, some (.int x), l5] st h := (ex_of d141_21 (d) [l0, l1, l2, l3, l4, l5] (.int x :: st) h).trans (rfl)
theorem d141_23 : decode (mB 141) 23 = .ok (.aload_n 0, 1) := by decide +kernel
theorem x141_23 {d : Nat} {l1 l2 l3 l4 l5 : Option Value} {st : List Value} {a : Nat} {h : Hp} : ex (d) 141 23 [some (.ref a), l1, l2, l3, l4, l5] st h = ex d 141 24 [some (.ref a), l1, l2, l3, l4, l5] (.ref a :: st) h := (ex_of d141_23 (d) [some (.ref a), l1, l2, l3, l4, l5] st h).trans (rfl)
theorem d141_24 : decode (mB 141) 24 = .ok (.dup, 1) := by decide +kernel
theorem x141_24 {d : Nat} {L : Lc} {st : List Value} {a : Nat} {h : Hp} : ex (d) 141 24 L (.ref a :: st) h = ex d 141 25 L (.ref a :: .ref a :: st) h := (ex_of d141_24 (d) L (.ref a :: st) h).trans (rfl)
theorem x141_24i {d : Nat} {L : Lc} {st : List Value} {x : Int32} {h : Hp} : ex (d) 141 24 L (.int x :: st) h = ex d 141 25 L (.int x :: .int x :: st) h := (ex_of d141_24 (d) L (.int x :: st) h).trans (rfl)
theorem d141_25 : decode (mB 141) 25 = .ok (.getfield 95, 3) := by decide +kernel
theorem x141_25 {d : Nat} {L : Lc} {st : List Value} {a : Nat} {h : Hp} (ht : (h.2.1 a).1 = 11) : ex (d) 141 25 L (.ref a :: st) h = ex d 141 28 L (h.1 a 1 :: st) h := (ex_of d141_25 (d) L (.ref a :: st) h).trans (fin_get (mi := 141) f11_95 (tg1 ht rfl))
theorem d141_28 : decode (mB 141) 28 = .ok (.iconst 1, 1) := by decide +kernel
theorem x141_28 {d : Nat} {L : Lc} {st : List Value} {h : Hp} : ex (d) 141 28 L st h = ex d 141 29 L (.int (nI 1) :: st) h := (ex_of d141_28 (d) L st h).trans (rfl)
theorem d141_29 : decode (mB 141) 29 = .ok (.iadd, 1) := by decide +kernel
theorem x141_29 {d : Nat} {L : Lc} {st : List Value} {x y : Int32} {h : Hp} : ex (d) 141 29 L (.int y :: .int x :: st) h = ex d 141 30 L (.int (x + y) :: st) h := (ex_of d141_29 (d) L (.int y :: .int x :: st) h).trans (rfl)
theorem d141_30 : decode (mB 141) 30 = .ok (.putfield 95, 3) := by decide +kernel
theorem x141_30 {d : Nat} {L : Lc} {st : List Value} {a : Nat} {x : Int32} {h : Hp} (ht : (h.2.1 a).1 = 11) : ex (d) 141 30 L (.int x :: .ref a :: st) h = ex d 141 33 L st (mup h.1 a 1 (.int x), h.2) := (ex_of d141_30 (d) L (.int x :: .ref a :: st) h).trans (fin_put (mi := 141) f11_95 ht rfl rfl (by decide +kernel))
theorem d141_33 : decode (mB 141) 33 = .ok (.aload_n 0, 1) := by decide +kernel
theorem x141_33 {d : Nat} {l1 l2 l3 l4 l5 : Option Value} {st : List Value} {a : Nat} {h : Hp} : ex (d) 141 33 [some (.ref a), l1, l2, l3, l4, l5] st h = ex d 141 34 [some (.ref a), l1, l2, l3, l4, l5] (.ref a :: st) h := (ex_of d141_33 (d) [some (.ref a), l1, l2, l3, l4, l5] st h).trans (rfl)
theorem d141_34 : decode (mB 141) 34 = .ok (.getfield 9, 3) := by decide +kernel
theorem x141_34 {d : Nat} {L : Lc} {st : List Value} {a : Nat} {h : Hp} (ht : (h.2.1 a).1 = 11) : ex (d) 141 34 L (.ref a :: st) h = ex d 141 37 L (h.1 a 2 :: st) h := (ex_of d141_34 (d) L (.ref a :: st) h).trans (fin_get (mi := 141) f11_9 (tg1 ht rfl))
theorem d141_37 : decode (mB 141) 37 = .ok (.iload 4, 2) := by decide +kernel
theorem x141_37 {d : Nat} {l0 l1 l2 l3 l5 : Option Value} {st : List Value} {x : Int32} {h : Hp} : ex (d) 141 37 [l0, l1, l2, l3, some (.int x), l5] st h = ex d 141 39 [l0, l1, l2, l3, some (.int x), l5] (.int x :: st) h := (ex_of d141_37 (d) [l0, l1, l2, l3, some (.int x), l5] st h).trans (rfl)
theorem d141_39 : decode (mB 141) 39 = .ok (.iload_n 1, 1) := by decide +kernel
theorem x141_39 {d : Nat} {l0 l2 l3 l4 l5 : Option Value} {st : List Value} {x : Int32} {h : Hp} : ex (d) 141 39 [l0, some (.int x), l2, l3, l4, l5] st h = ex d 141 40 [l0, some (.int x), l2, l3, l4, l5] (.int x :: st) h := (ex_of d141_39 (d) [l0, some (.int x), l2, l3, l4, l5] st h).trans (rfl)
theorem d141_40 : decode (mB 141) 40 = .ok (.iastore, 1) := by decide +kernel
theorem x141_40 {d : Nat} {L : Lc} {st : List Value} {a j : Nat} {x : Int32} {h : Hp} (ht : (h.2.1 a).1 = 20) (hj : j < (h.2.1 a).2) (hb : j < 2147483648) : ex (d) 141 40 L (.int x :: .int (nI j) :: .ref a :: st) h = ex d 141 41 L st (mup h.1 a j (.int x), h.2) := (ex_of d141_40 (d) L (.int x :: .int (nI j) :: .ref a :: st) h).trans (fin_iastore ht hj hb)
theorem d141_41 : decode (mB 141) 41 = .ok (.aload_n 0, 1) := by decide +kernel
theorem x141_41 {d : Nat} {l1 l2 l3 l4 l5 : Option Value} {st : List Value} {a : Nat} {h : Hp} : ex (d) 141 41 [some (.ref a), l1, l2, l3, l4, l5] st h = ex d 141 42 [some (.ref a), l1, l2, l3, l4, l5] (.ref a :: st) h := (ex_of d141_41 (d) [some (.ref a), l1, l2, l3, l4, l5] st h).trans (rfl)
theorem d141_42 : decode (mB 141) 42 = .ok (.getfield 13, 3) := by decide +kernel
theorem x141_42 {d : Nat} {L : Lc} {st : List Value} {a : Nat} {h : Hp} (ht : (h.2.1 a).1 = 11) : ex (d) 141 42 L (.ref a :: st) h = ex d 141 45 L (h.1 a 3 :: st) h := (ex_of d141_42 (d) L (.ref a :: st) h).trans (fin_get (mi := 141) f11_13 (tg1 ht rfl))
theorem d141_45 : decode (mB 141) 45 = .ok (.iload 4, 2) := by decide +kernel
theorem x141_45 {d : Nat} {l0 l1 l2 l3 l5 : Option Value} {st : List Value} {x : Int32} {h : Hp} : ex (d) 141 45 [l0, l1, l2, l3, some (.int x), l5] st h = ex d 141 47 [l0, l1, l2, l3, some (.int x), l5] (.int x :: st) h := (ex_of d141_45 (d) [l0, l1, l2, l3, some (.int x), l5] st h).trans (rfl)
theorem d141_47 : decode (mB 141) 47 = .ok (.iconst 0, 1) := by decide +kernel
theorem x141_47 {d : Nat} {L : Lc} {st : List Value} {h : Hp} : ex (d) 141 47 L st h = ex d 141 48 L (.int (nI 0) :: st) h := (ex_of d141_47 (d) L st h).trans (rfl)
theorem d141_48 : decode (mB 141) 48 = .ok (.iastore, 1) := by decide +kernel
theorem x141_48 {d : Nat} {L : Lc} {st : List Value} {a j : Nat} {x : Int32} {h : Hp} (ht : (h.2.1 a).1 = 20) (hj : j < (h.2.1 a).2) (hb : j < 2147483648) : ex (d) 141 48 L (.int x :: .int (nI j) :: .ref a :: st) h = ex d 141 49 L st (mup h.1 a j (.int x), h.2) := (ex_of d141_48 (d) L (.int x :: .int (nI j) :: .ref a :: st) h).trans (fin_iastore ht hj hb)
theorem d141_49 : decode (mB 141) 49 = .ok (.aload_n 0, 1) := by decide +kernel
theorem x141_49 {d : Nat} {l1 l2 l3 l4 l5 : Option Value} {st : List Value} {a : Nat} {h : Hp} : ex (d) 141 49 [some (.ref a), l1, l2, l3, l4, l5] st h = ex d 141 50 [some (.ref a), l1, l2, l3, l4, l5] (.ref a :: st) h := (ex_of d141_49 (d) [some (.ref a), l1, l2, l3, l4, l5] st h).trans (rfl)
theorem d141_50 : decode (mB 141) 50 = .ok (.getfield 16, 3) := by decide +kernel
theorem x141_50 {d : Nat} {L : Lc} {st : List Value} {a : Nat} {h : Hp} (ht : (h.2.1 a).1 = 11) : ex (d) 141 50 L (.ref a :: st) h = ex d 141 53 L (h.1 a 4 :: st) h := (ex_of d141_50 (d) L (.ref a :: st) h).trans (fin_get (mi := 141) f11_16 (tg1 ht rfl))
theorem d141_53 : decode (mB 141) 53 = .ok (.iload 4, 2) := by decide +kernel
theorem x141_53 {d : Nat} {l0 l1 l2 l3 l5 : Option Value} {st : List Value} {x : Int32} {h : Hp} : ex (d) 141 53 [l0, l1, l2, l3, some (.int x), l5] st h = ex d 141 55 [l0, l1, l2, l3, some (.int x), l5] (.int x :: st) h := (ex_of d141_53 (d) [l0, l1, l2, l3, some (.int x), l5] st h).trans (rfl)
theorem d141_55 : decode (mB 141) 55 = .ok (.iconst (-1), 1) := by decide +kernel
theorem x141_55 {d : Nat} {L : Lc} {st : List Value} {h : Hp} : ex (d) 141 55 L st h = ex d 141 56 L (.int (-1) :: st) h := (ex_of d141_55 (d) L st h).trans (rfl)
theorem d141_56 : decode (mB 141) 56 = .ok (.iastore, 1) := by decide +kernel
theorem x141_56 {d : Nat} {L : Lc} {st : List Value} {a j : Nat} {x : Int32} {h : Hp} (ht : (h.2.1 a).1 = 20) (hj : j < (h.2.1 a).2) (hb : j < 2147483648) : ex (d) 141 56 L (.int x :: .int (nI j) :: .ref a :: st) h = ex d 141 57 L st (mup h.1 a j (.int x), h.2) := (ex_of d141_56 (d) L (.int x :: .int (nI j) :: .ref a :: st) h).trans (fin_iastore ht hj hb)
theorem d141_57 : decode (mB 141) 57 = .ok (.aload_n 0, 1) := by decide +kernel
theorem x141_57 {d : Nat} {l1 l2 l3 l4 l5 : Option Value} {st : List Value} {a : Nat} {h : Hp} : ex (d) 141 57 [some (.ref a), l1, l2, l3, l4, l5] st h = ex d 141 58 [some (.ref a), l1, l2, l3, l4, l5] (.ref a :: st) h := (ex_of d141_57 (d) [some (.ref a), l1, l2, l3, l4, l5] st h).trans (rfl)
theorem d141_58 : decode (mB 141) 58 = .ok (.getfield 22, 3) := by decide +kernel
theorem x141_58 {d : Nat} {L : Lc} {st : List Value} {a : Nat} {h : Hp} (ht : (h.2.1 a).1 = 11) : ex (d) 141 58 L (.ref a :: st) h = ex d 141 61 L (h.1 a 6 :: st) h := (ex_of d141_58 (d) L (.ref a :: st) h).trans (fin_get (mi := 141) f11_22 (tg1 ht rfl))
theorem d141_61 : decode (mB 141) 61 = .ok (.iload 4, 2) := by decide +kernel
theorem x141_61 {d : Nat} {l0 l1 l2 l3 l5 : Option Value} {st : List Value} {x : Int32} {h : Hp} : ex (d) 141 61 [l0, l1, l2, l3, some (.int x), l5] st h = ex d 141 63 [l0, l1, l2, l3, some (.int x), l5] (.int x :: st) h := (ex_of d141_61 (d) [l0, l1, l2, l3, some (.int x), l5] st h).trans (rfl)
theorem d141_63 : decode (mB 141) 63 = .ok (.iload_n 2, 1) := by decide +kernel
theorem x141_63 {d : Nat} {l0 l1 l3 l4 l5 : Option Value} {st : List Value} {x : Int32} {h : Hp} : ex (d) 141 63 [l0, l1, some (.int x), l3, l4, l5] st h = ex d 141 64 [l0, l1, some (.int x), l3, l4, l5] (.int x :: st) h := (ex_of d141_63 (d) [l0, l1, some (.int x), l3, l4, l5] st h).trans (rfl)
theorem d141_64 : decode (mB 141) 64 = .ok (.iastore, 1) := by decide +kernel
theorem x141_64 {d : Nat} {L : Lc} {st : List Value} {a j : Nat} {x : Int32} {h : Hp} (ht : (h.2.1 a).1 = 20) (hj : j < (h.2.1 a).2) (hb : j < 2147483648) : ex (d) 141 64 L (.int x :: .int (nI j) :: .ref a :: st) h = ex d 141 65 L st (mup h.1 a j (.int x), h.2) := (ex_of d141_64 (d) L (.int x :: .int (nI j) :: .ref a :: st) h).trans (fin_iastore ht hj hb)
theorem d141_65 : decode (mB 141) 65 = .ok (.aload_n 0, 1) := by decide +kernel
theorem x141_65 {d : Nat} {l1 l2 l3 l4 l5 : Option Value} {st : List Value} {a : Nat} {h : Hp} : ex (d) 141 65 [some (.ref a), l1, l2, l3, l4, l5] st h = ex d 141 66 [some (.ref a), l1, l2, l3, l4, l5] (.ref a :: st) h := (ex_of d141_65 (d) [some (.ref a), l1, l2, l3, l4, l5] st h).trans (rfl)
theorem d141_66 : decode (mB 141) 66 = .ok (.getfield 40, 3) := by decide +kernel
theorem x141_66 {d : Nat} {L : Lc} {st : List Value} {a : Nat} {h : Hp} (ht : (h.2.1 a).1 = 11) : ex (d) 141 66 L (.ref a :: st) h = ex d 141 69 L (h.1 a 13 :: st) h := (ex_of d141_66 (d) L (.ref a :: st) h).trans (fin_get (mi := 141) f11_40 (tg1 ht rfl))
theorem d141_69 : decode (mB 141) 69 = .ok (.iload 4, 2) := by decide +kernel
theorem x141_69 {d : Nat} {l0 l1 l2 l3 l5 : Option Value} {st : List Value} {x : Int32} {h : Hp} : ex (d) 141 69 [l0, l1, l2, l3, some (.int x), l5] st h = ex d 141 71 [l0, l1, l2, l3, some (.int x), l5] (.int x :: st) h := (ex_of d141_69 (d) [l0, l1, l2, l3, some (.int x), l5] st h).trans (rfl)
theorem d141_71 : decode (mB 141) 71 = .ok (.iload_n 3, 1) := by decide +kernel
theorem x141_71 {d : Nat} {l0 l1 l2 l4 l5 : Option Value} {st : List Value} {x : Int32} {h : Hp} : ex (d) 141 71 [l0, l1, l2, some (.int x), l4, l5] st h = ex d 141 72 [l0, l1, l2, some (.int x), l4, l5] (.int x :: st) h := (ex_of d141_71 (d) [l0, l1, l2, some (.int x), l4, l5] st h).trans (rfl)
theorem d141_72 : decode (mB 141) 72 = .ok (.iastore, 1) := by decide +kernel
theorem x141_72 {d : Nat} {L : Lc} {st : List Value} {a j : Nat} {x : Int32} {h : Hp} (ht : (h.2.1 a).1 = 20) (hj : j < (h.2.1 a).2) (hb : j < 2147483648) : ex (d) 141 72 L (.int x :: .int (nI j) :: .ref a :: st) h = ex d 141 73 L st (mup h.1 a j (.int x), h.2) := (ex_of d141_72 (d) L (.int x :: .int (nI j) :: .ref a :: st) h).trans (fin_iastore ht hj hb)
theorem d141_73 : decode (mB 141) 73 = .ok (.iconst 0, 1) := by decide +kernel
theorem x141_73 {d : Nat} {L : Lc} {st : List Value} {h : Hp} : ex (d) 141 73 L st h = ex d 141 74 L (.int (nI 0) :: st) h := (ex_of d141_73 (d) L st h).trans (rfl)
theorem d141_74 : decode (mB 141) 74 = .ok (.istore 5, 2) := by decide +kernel
theorem x141_74 {d : Nat} {l0 l1 l2 l3 l4 l5 : Option Value} {st : List Value} {x : Int32} {h : Hp} : ex (d) 141 74 [l0, l1, l2, l3, l4, l5] (.int x :: st) h = ex d 141 76 [l0, l1, l2, l3, clr l4, some (.int x)] st h := (ex_of d141_74 (d) [l0, l1, l2, l3, l4, l5] (.int x :: st) h).trans (rfl)
theorem d141_76 : decode (mB 141) 76 = .ok (.iload 5, 2) := by decide +kernel
theorem x141_76 {d : Nat} {l0 l1 l2 l3 l4 : Option Value} {st : List Value} {x : Int32} {h : Hp} : ex (d) 141 76 [l0, l1, l2, l3, l4, some (.int x)] st h = ex d 141 78 [l0, l1, l2, l3, l4, some (.int x)] (.int x :: st) h := (ex_of d141_76 (d) [l0, l1, l2, l3, l4, some (.int x)] st h).trans (rfl)
theorem d141_78 : decode (mB 141) 78 = .ok (.iload_n 2, 1) := by decide +kernel
theorem x141_78 {d : Nat} {l0 l1 l3 l4 l5 : Option Value} {st : List Value} {x : Int32} {h : Hp} : ex (d) 141 78 [l0, l1, some (.int x), l3, l4, l5] st h = ex d 141 79 [l0, l1, some (.int x), l3, l4, l5] (.int x :: st) h := (ex_of d141_78 (d) [l0, l1, some (.int x), l3, l4, l5] st h).trans (rfl)
theorem d141_79 : decode (mB 141) 79 = .ok (.if_icmp .ge 23, 3) := by decide +kernel
theorem x141_79 {d : Nat} {L : Lc} {st : List Value} {x y : Int32} {h : Hp} : ex (d) 141 79 L (.int y :: .int x :: st) h = if y ≤ x then ex d 141 102 L st h else ex d 141 82 L st h := (ex_of d141_79 (d) L (.int y :: .int x :: st) h).trans (fin_brq (off := 23) (tgt := 102) rfl (by decide))
theorem d141_82 : decode (mB 141) 82 = .ok (.aload_n 0, 1) := by decide +kernel
theorem x141_82 {d : Nat} {l1 l2 l3 l4 l5 : Option Value} {st : List Value} {a : Nat} {h : Hp} : ex (d) 141 82 [some (.ref a), l1, l2, l3, l4, l5] st h = ex d 141 83 [some (.ref a), l1, l2, l3, l4, l5] (.ref a :: st) h := (ex_of d141_82 (d) [some (.ref a), l1, l2, l3, l4, l5] st h).trans (rfl)
theorem d141_83 : decode (mB 141) 83 = .ok (.getfield 25, 3) := by decide +kernel
theorem x141_83 {d : Nat} {L : Lc} {st : List Value} {a : Nat} {h : Hp} (ht : (h.2.1 a).1 = 11) : ex (d) 141 83 L (.ref a :: st) h = ex d 141 86 L (h.1 a 7 :: st) h := (ex_of d141_83 (d) L (.ref a :: st) h).trans (fin_get (mi := 141) f11_25 (tg1 ht rfl))
theorem d141_86 : decode (mB 141) 86 = .ok (.bipush 40, 2) := by decide +kernel
theorem x141_86 {d : Nat} {L : Lc} {st : List Value} {h : Hp} : ex (d) 141 86 L st h = ex d 141 88 L (.int (nI 40) :: st) h := (ex_of d141_86 (d) L st h).trans (rfl)
theorem d141_88 : decode (mB 141) 88 = .ok (.iload 4, 2) := by decide +kernel
theorem x141_88 {d : Nat} {l0 l1 l2 l3 l5 : Option Value} {st : List Value} {x : Int32} {h : Hp} : ex (d) 141 88 [l0, l1, l2, l3, some (.int x), l5] st h = ex d 141 90 [l0, l1, l2, l3, some (.int x), l5] (.int x :: st) h := (ex_of d141_88 (d) [l0, l1, l2, l3, some (.int x), l5] st h).trans (rfl)
theorem d141_90 : decode (mB 141) 90 = .ok (.imul, 1) := by decide +kernel
theorem x141_90 {d : Nat} {L : Lc} {st : List Value} {x y : Int32} {h : Hp} : ex (d) 141 90 L (.int y :: .int x :: st) h = ex d 141 91 L (.int (x * y) :: st) h := (ex_of d141_90 (d) L (.int y :: .int x :: st) h).trans (rfl)
theorem d141_91 : decode (mB 141) 91 = .ok (.iload 5, 2) := by decide +kernel
theorem x141_91 {d : Nat} {l0 l1 l2 l3 l4 : Option Value} {st : List Value} {x : Int32} {h : Hp} : ex (d) 141 91 [l0, l1, l2, l3, l4, some (.int x)] st h = ex d 141 93 [l0, l1, l2, l3, l4, some (.int x)] (.int x :: st) h := (ex_of d141_91 (d) [l0, l1, l2, l3, l4, some (.int x)] st h).trans (rfl)
theorem d141_93 : decode (mB 141) 93 = .ok (.iadd, 1) := by decide +kernel
theorem x141_93 {d : Nat} {L : Lc} {st : List Value} {x y : Int32} {h : Hp} : ex (d) 141 93 L (.int y :: .int x :: st) h = ex d 141 94 L (.int (x + y) :: st) h := (ex_of d141_93 (d) L (.int y :: .int x :: st) h).trans (rfl)
theorem d141_94 : decode (mB 141) 94 = .ok (.iconst (-1), 1) := by decide +kernel
theorem x141_94 {d : Nat} {L : Lc} {st : List Value} {h : Hp} : ex (d) 141 94 L st h = ex d 141 95 L (.int (-1) :: st) h := (ex_of d141_94 (d) L st h).trans (rfl)
theorem d141_95 : decode (mB 141) 95 = .ok (.iastore, 1) := by decide +kernel
theorem x141_95 {d : Nat} {L : Lc} {st : List Value} {a j : Nat} {x : Int32} {h : Hp} (ht : (h.2.1 a).1 = 20) (hj : j < (h.2.1 a).2) (hb : j < 2147483648) : ex (d) 141 95 L (.int x :: .int (nI j) :: .ref a :: st) h = ex d 141 96 L st (mup h.1 a j (.int x), h.2) := (ex_of d141_95 (d) L (.int x :: .int (nI j) :: .ref a :: st) h).trans (fin_iastore ht hj hb)
theorem d141_96 : decode (mB 141) 96 = .ok (.iinc 5 1, 3) := by decide +kernel
theorem x141_96 {d : Nat} {l0 l1 l2 l3 l4 : Option Value} {st : List Value} {x : Int32} {h : Hp} : ex (d) 141 96 [l0, l1, l2, l3, l4, some (.int x)] st h = ex d 141 99 [l0, l1, l2, l3, clr l4, some (.int (x + (nI 1)))] st h := (ex_of d141_96 (d) [l0, l1, l2, l3, l4, some (.int x)] st h).trans (rfl)
theorem d141_99 : decode (mB 141) 99 = .ok (.goto (-23), 3) := by decide +kernel
theorem x141_99 {d : Nat} {L : Lc} {st : List Value} {h : Hp} : ex (d) 141 99 L st h = ex d 141 76 L st h := (ex_of d141_99 (d) L st h).trans (rfl)
theorem d141_102 : decode (mB 141) 102 = .ok (.aload_n 0, 1) := by decide +kernel
theorem x141_102 {d : Nat} {l1 l2 l3 l4 l5 : Option Value} {st : List Value} {a : Nat} {h : Hp} : ex (d) 141 102 [some (.ref a), l1, l2, l3, l4, l5] st h = ex d 141 103 [some (.ref a), l1, l2, l3, l4, l5] (.ref a :: st) h := (ex_of d141_102 (d) [some (.ref a), l1, l2, l3, l4, l5] st h).trans (rfl)
theorem d141_103 : decode (mB 141) 103 = .ok (.iload 4, 2) := by decide +kernel
theorem x141_103 {d : Nat} {l0 l1 l2 l3 l5 : Option Value} {st : List Value} {x : Int32} {h : Hp} : ex (d) 141 103 [l0, l1, l2, l3, some (.int x), l5] st h = ex d 141 105 [l0, l1, l2, l3, some (.int x), l5] (.int x :: st) h := (ex_of d141_103 (d) [l0, l1, l2, l3, some (.int x), l5] st h).trans (rfl)
theorem d141_105 : decode (mB 141) 105 = .ok (.invokevirtual 113, 3) := by decide +kernel
theorem x141_105 {d : Nat} {L : Lc} {a : Nat} {v0 : Int32} {h : Hp} (ht : (h.2.1 a).1 = 11) : ex (d + 1) 141 105 L (.int v0 :: .ref a :: []) h = bnd (ex d 134 0 [some (.ref a), some (.int v0)] [] h) (fun v h' => ex (d + 1) 141 108 L (v.toList ++ []) h') := (ex_of d141_105 (d + 1) L (.int v0 :: .ref a :: []) h).trans (fin_vi (mi := 141) i11_113 ht rfl rfl (by simp [cat1_i, cat1_r]) (by simp) (Nat.le_of_ble_eq_true rfl))
theorem d141_108 : decode (mB 141) 108 = .ok (.ireturn, 1) := by decide +kernel
theorem x141_108 {d : Nat} {L : Lc} {x : Int32} {h : Hp} : ex (d) 141 108 L [.int x] h = some (some (.int x), h) := (ex_of d141_108 (d) L [.int x] h).trans (rfl)
theorem d142_0 : decode (mB 142) 0 = .ok (.iload_n 1, 1) := by decide +kernel
theorem x142_0 {d : Nat} {l0 l2 l3 : Option Value} {st : List Value} {x : Int32} {h : Hp} : ex (d) 142 0 [l0, some (.int x), l2, l3] st h = ex d 142 1 [l0, some (.int x), l2, l3] (.int x :: st) h := (ex_of d142_0 (d) [l0, some (.int x), l2, l3] st h).trans (rfl)
theorem d142_1 : decode (mB 142) 1 = .ok (.iconst 1, 1) := by decide +kernel
theorem x142_1 {d : Nat} {L : Lc} {st : List Value} {h : Hp} : ex (d) 142 1 L st h = ex d 142 2 L (.int (nI 1) :: st) h := (ex_of d142_1 (d) L st h).trans (rfl)
theorem d142_2 : decode (mB 142) 2 = .ok (.bipush 40, 2) := by decide +kernel
theorem x142_2 {d : Nat} {L : Lc} {st : List Value} {h : Hp} : ex (d) 142 2 L st h = ex d 142 4 L (.int (nI 40) :: st) h := (ex_of d142_2 (d) L st h).trans (rfl)
theorem d142_4 : decode (mB 142) 4 = .ok (.invokestatic 101, 3) := by decide +kernel
theorem x142_4 {d : Nat} {L : Lc}  {v0 : Int32} {v1 : Int32} {v2 : Int32} {h : Hp} : ex (d + 1) 142 4 L (.int v2 :: .int v1 :: .int v0 :: []) h = bnd (ex d 137 0 [some (.int v0), some (.int v1), some (.int v2)] [] h) (fun v h' => ex (d + 1) 142 7 L (v.toList ++ []) h') := (ex_of d142_4 (d + 1) L (.int v2 :: .int v1 :: .int v0 :: []) h).trans (fin_st (mi := 142) i11_101 (Or.inl rfl) (by simp) (by simp [cat1_i, cat1_r]) (by simp) (Nat.le_of_ble_eq_true rfl))
theorem d142_7 : decode (mB 142) 7 = .ok (.ifCond .eq 12, 3) := by decide +kernel
theorem x142_7 {d : Nat} {L : Lc} {st : List Value} {x : Int32} {h : Hp} : ex (d) 142 7 L (.int x :: st) h = if x = 0 then ex d 142 19 L st h else ex d 142 10 L st h := (ex_of d142_7 (d) L (.int x :: st) h).trans (fin_brq (off := 12) (tgt := 19) rfl (by decide))
theorem d142_10 : decode (mB 142) 10 = .ok (.aload_n 0, 1) := by decide +kernel
theorem x142_10 {d : Nat} {l1 l2 l3 : Option Value} {st : List Value} {a : Nat} {h : Hp} : ex (d) 142 10 [some (.ref a), l1, l2, l3] st h = ex d 142 11 [some (.ref a), l1, l2, l3] (.ref a :: st) h := (ex_of d142_10 (d) [some (.ref a), l1, l2, l3] st h).trans (rfl)
theorem d142_11 : decode (mB 142) 11 = .ok (.getfield 98, 3) := by decide +kernel
theorem x142_11 {d : Nat} {L : Lc} {st : List Value} {a : Nat} {h : Hp} (ht : (h.2.1 a).1 = 11) : ex (d) 142 11 L (.ref a :: st) h = ex d 142 14 L (h.1 a 8 :: st) h := (ex_of d142_11 (d) L (.ref a :: st) h).trans (fin_get (mi := 142) f11_98 (tg1 ht rfl))
theorem d142_14 : decode (mB 142) 14 = .ok (.bipush 12, 2) := by decide +kernel
theorem x142_14 {d : Nat} {L : Lc} {st : List Value} {h : Hp} : ex (d) 142 14 L st h = ex d 142 16 L (.int (nI 12) :: st) h := (ex_of d142_14 (d) L st h).trans (rfl)
theorem d142_16 : decode (mB 142) 16 = .ok (.if_icmp .ne 10, 3) := by decide +kernel
theorem x142_16 {d : Nat} {L : Lc} {st : List Value} {x y : Int32} {h : Hp} : ex (d) 142 16 L (.int y :: .int x :: st) h = if ¬ x = y then ex d 142 26 L st h else ex d 142 19 L st h := (ex_of d142_16 (d) L (.int y :: .int x :: st) h).trans (fin_brq (off := 10) (tgt := 26) rfl (by decide))
theorem d142_19 : decode (mB 142) 19 = .ok (.aload_n 0, 1) := by decide +kernel
theorem x142_19 {d : Nat} {l1 l2 l3 : Option Value} {st : List Value} {a : Nat} {h : Hp} : ex (d) 142 19 [some (.ref a), l1, l2, l3] st h = ex d 142 20 [some (.ref a), l1, l2, l3] (.ref a :: st) h := (ex_of d142_19 (d) [some (.ref a), l1, l2, l3] st h).trans (rfl)
theorem d142_20 : decode (mB 142) 20 = .ok (.bipush 6, 2) := by decide +kernel
theorem x142_20 {d : Nat} {L : Lc} {st : List Value} {h : Hp} : ex (d) 142 20 L st h = ex d 142 22 L (.int (nI 6) :: st) h := (ex_of d142_20 (d) L st h).trans (rfl)
theorem d142_22 : decode (mB 142) 22 = .ok (.invokevirtual 109, 3) := by decide +kernel
theorem x142_22 {d : Nat} {L : Lc} {a : Nat} {v0 : Int32} {h : Hp} (ht : (h.2.1 a).1 = 11) : ex (d + 1) 142 22 L (.int v0 :: .ref a :: []) h = bnd (ex d 135 0 [some (.ref a), some (.int v0)] [] h) (fun v h' => ex (d + 1) 142 25 L (v.toList ++ []) h') := (ex_of d142_22 (d + 1) L (.int v0 :: .ref a :: []) h).trans (fin_vi (mi := 142) i11_109 ht rfl rfl (by simp [cat1_i, cat1_r]) (by simp) (Nat.le_of_ble_eq_true rfl))
theorem d142_25 : decode (mB 142) 25 = .ok (.ireturn, 1) := by decide +kernel
theorem x142_25 {d : Nat} {L : Lc} {x : Int32} {h : Hp} : ex (d) 142 25 L [.int x] h = some (some (.int x), h) := (ex_of d142_25 (d) L [.int x] h).trans (rfl)
theorem d142_26 : decode (mB 142) 26 = .ok (.sipush 200, 3) := by decide +kernel
theorem x142_26 {d : Nat} {L : Lc} {st : List Value} {h : Hp} : ex (d) 142 26 L st h = ex d 142 29 L (.int (nI 200) :: st) h := (ex_of d142_26 (d) L st h).trans (rfl)
theorem d142_29 : decode (mB 142) 29 = .ok (.aload_n 0, 1) := by decide +kernel
theorem x142_29 {d : Nat} {l1 l2 l3 : Option Value} {st : List Value} {a : Nat} {h : Hp} : ex (d) 142 29 [some (.ref a), l1, l2, l3] st h = ex d 142 30 [some (.ref a), l1, l2, l3] (.ref a :: st) h := (ex_of d142_29 (d) [some (.ref a), l1, l2, l3] st h).trans (rfl)
theorem d142_30 : decode (mB 142) 30 = .ok (.getfield 98, 3) := by decide +kernel
theorem x142_30 {d : Nat} {L : Lc} {st : List Value} {a : Nat} {h : Hp} (ht : (h.2.1 a).1 = 11) : ex (d) 142 30 L (.ref a :: st) h = ex d 142 33 L (h.1 a 8 :: st) h := (ex_of d142_30 (d) L (.ref a :: st) h).trans (fin_get (mi := 142) f11_98 (tg1 ht rfl))
theorem d142_33 : decode (mB 142) 33 = .ok (.iadd, 1) := by decide +kernel
theorem x142_33 {d : Nat} {L : Lc} {st : List Value} {x y : Int32} {h : Hp} : ex (d) 142 33 L (.int y :: .int x :: st) h = ex d 142 34 L (.int (x + y) :: st) h := (ex_of d142_33 (d) L (.int y :: .int x :: st) h).trans (rfl)
theorem d142_34 : decode (mB 142) 34 = .ok (.istore_n 2, 1) := by decide +kernel
theorem x142_34 {d : Nat} {l0 l1 l2 l3 : Option Value} {st : List Value} {x : Int32} {h : Hp} : ex (d) 142 34 [l0, l1, l2, l3] (.int x :: st) h = ex d 142 35 [l0, clr l1, some (.int x), l3] st h := (ex_of d142_34 (d) [l0, l1, l2, l3] (.int x :: st) h).trans (rfl)
theorem d142_35 : decode (mB 142) 35 = .ok (.aload_n 0, 1) := by decide +kernel
theorem x142_35 {d : Nat} {l1 l2 l3 : Option Value} {st : List Value} {a : Nat} {h : Hp} : ex (d) 142 35 [some (.ref a), l1, l2, l3] st h = ex d 142 36 [some (.ref a), l1, l2, l3] (.ref a :: st) h := (ex_of d142_35 (d) [some (.ref a), l1, l2, l3] st h).trans (rfl)
theorem d142_36 : decode (mB 142) 36 = .ok (.getfield 22, 3) := by decide +kernel
theorem x142_36 {d : Nat} {L : Lc} {st : List Value} {a : Nat} {h : Hp} (ht : (h.2.1 a).1 = 11) : ex (d) 142 36 L (.ref a :: st) h = ex d 142 39 L (h.1 a 6 :: st) h := (ex_of d142_36 (d) L (.ref a :: st) h).trans (fin_get (mi := 142) f11_22 (tg1 ht rfl))
theorem d142_39 : decode (mB 142) 39 = .ok (.iload_n 2, 1) := by decide +kernel
theorem x142_39 {d : Nat} {l0 l1 l3 : Option Value} {st : List Value} {x : Int32} {h : Hp} : ex (d) 142 39 [l0, l1, some (.int x), l3] st h = ex d 142 40 [l0, l1, some (.int x), l3] (.int x :: st) h := (ex_of d142_39 (d) [l0, l1, some (.int x), l3] st h).trans (rfl)
theorem d142_40 : decode (mB 142) 40 = .ok (.iload_n 1, 1) := by decide +kernel
theorem x142_40 {d : Nat} {l0 l2 l3 : Option Value} {st : List Value} {x : Int32} {h : Hp} : ex (d) 142 40 [l0, some (.int x), l2, l3] st h = ex d 142 41 [l0, some (.int x), l2, l3] (.int x :: st) h := (ex_of d142_40 (d) [l0, some (.int x), l2, l3] st h).trans (rfl)
theorem d142_41 : decode (mB 142) 41 = .ok (.iastore, 1) := by decide +kernel
theorem x142_41 {d : Nat} {L : Lc} {st : List Value} {a j : Nat} {x : Int32} {h : Hp} (ht : (h.2.1 a).1 = 20) (hj : j < (h.2.1 a).2) (hb : j < 2147483648) : ex (d) 142 41 L (.int x :: .int (nI j) :: .ref a :: st) h = ex d 142 42 L st (mup h.1 a j (.int x), h.2) := (ex_of d142_41 (d) L (.int x :: .int (nI j) :: .ref a :: st) h).trans (fin_iastore ht hj hb)
theorem d142_42 : decode (mB 142) 42 = .ok (.iconst 0, 1) := by decide +kernel
theorem x142_42 {d : Nat} {L : Lc} {st : List Value} {h : Hp} : ex (d) 142 42 L st h = ex d 142 43 L (.int (nI 0) :: st) h := (ex_of d142_42 (d) L st h).trans (rfl)
theorem d142_43 : decode (mB 142) 43 = .ok (.istore_n 3, 1) := by decide +kernel
theorem x142_43 {d : Nat} {l0 l1 l2 l3 : Option Value} {st : List Value} {x : Int32} {h : Hp} : ex (d) 142 43 [l0, l1, l2, l3] (.int x :: st) h = ex d 142 44 [l0, l1, clr l2, some (.int x)] st h := (ex_of d142_43 (d) [l0, l1, l2, l3] (.int x :: st) h).trans (rfl)
theorem d142_44 : decode (mB 142) 44 = .ok (.iload_n 3, 1) := by decide +kernel
theorem x142_44 {d : Nat} {l0 l1 l2 : Option Value} {st : List Value} {x : Int32} {h : Hp} : ex (d) 142 44 [l0, l1, l2, some (.int x)] st h = ex d 142 45 [l0, l1, l2, some (.int x)] (.int x :: st) h := (ex_of d142_44 (d) [l0, l1, l2, some (.int x)] st h).trans (rfl)
theorem d142_45 : decode (mB 142) 45 = .ok (.iload_n 1, 1) := by decide +kernel
theorem x142_45 {d : Nat} {l0 l2 l3 : Option Value} {st : List Value} {x : Int32} {h : Hp} : ex (d) 142 45 [l0, some (.int x), l2, l3] st h = ex d 142 46 [l0, some (.int x), l2, l3] (.int x :: st) h := (ex_of d142_45 (d) [l0, some (.int x), l2, l3] st h).trans (rfl)
theorem d142_46 : decode (mB 142) 46 = .ok (.if_icmp .ge 21, 3) := by decide +kernel
theorem x142_46 {d : Nat} {L : Lc} {st : List Value} {x y : Int32} {h : Hp} : ex (d) 142 46 L (.int y :: .int x :: st) h = if y ≤ x then ex d 142 67 L st h else ex d 142 49 L st h := (ex_of d142_46 (d) L (.int y :: .int x :: st) h).trans (fin_brq (off := 21) (tgt := 67) rfl (by decide))
theorem d142_49 : decode (mB 142) 49 = .ok (.aload_n 0, 1) := by decide +kernel
theorem x142_49 {d : Nat} {l1 l2 l3 : Option Value} {st : List Value} {a : Nat} {h : Hp} : ex (d) 142 49 [some (.ref a), l1, l2, l3] st h = ex d 142 50 [some (.ref a), l1, l2, l3] (.ref a :: st) h := (ex_of d142_49 (d) [some (.ref a), l1, l2, l3] st h).trans (rfl)
theorem d142_50 : decode (mB 142) 50 = .ok (.getfield 25, 3) := by decide +kernel
theorem x142_50 {d : Nat} {L : Lc} {st : List Value} {a : Nat} {h : Hp} (ht : (h.2.1 a).1 = 11) : ex (d) 142 50 L (.ref a :: st) h = ex d 142 53 L (h.1 a 7 :: st) h := (ex_of d142_50 (d) L (.ref a :: st) h).trans (fin_get (mi := 142) f11_25 (tg1 ht rfl))
theorem d142_53 : decode (mB 142) 53 = .ok (.bipush 40, 2) := by decide +kernel
theorem x142_53 {d : Nat} {L : Lc} {st : List Value} {h : Hp} : ex (d) 142 53 L st h = ex d 142 55 L (.int (nI 40) :: st) h := (ex_of d142_53 (d) L st h).trans (rfl)
theorem d142_55 : decode (mB 142) 55 = .ok (.iload_n 2, 1) := by decide +kernel
theorem x142_55 {d : Nat} {l0 l1 l3 : Option Value} {st : List Value} {x : Int32} {h : Hp} : ex (d) 142 55 [l0, l1, some (.int x), l3] st h = ex d 142 56 [l0, l1, some (.int x), l3] (.int x :: st) h := (ex_of d142_55 (d) [l0, l1, some (.int x), l3] st h).trans (rfl)
theorem d142_56 : decode (mB 142) 56 = .ok (.imul, 1) := by decide +kernel
theorem x142_56 {d : Nat} {L : Lc} {st : List Value} {x y : Int32} {h : Hp} : ex (d) 142 56 L (.int y :: .int x :: st) h = ex d 142 57 L (.int (x * y) :: st) h := (ex_of d142_56 (d) L (.int y :: .int x :: st) h).trans (rfl)
theorem d142_57 : decode (mB 142) 57 = .ok (.iload_n 3, 1) := by decide +kernel
theorem x142_57 {d : Nat} {l0 l1 l2 : Option Value} {st : List Value} {x : Int32} {h : Hp} : ex (d) 142 57 [l0, l1, l2, some (.int x)] st h = ex d 142 58 [l0, l1, l2, some (.int x)] (.int x :: st) h := (ex_of d142_57 (d) [l0, l1, l2, some (.int x)] st h).trans (rfl)
theorem d142_58 : decode (mB 142) 58 = .ok (.iadd, 1) := by decide +kernel
theorem x142_58 {d : Nat} {L : Lc} {st : List Value} {x y : Int32} {h : Hp} : ex (d) 142 58 L (.int y :: .int x :: st) h = ex d 142 59 L (.int (x + y) :: st) h := (ex_of d142_58 (d) L (.int y :: .int x :: st) h).trans (rfl)
theorem d142_59 : decode (mB 142) 59 = .ok (.iconst (-1), 1) := by decide +kernel
theorem x142_59 {d : Nat} {L : Lc} {st : List Value} {h : Hp} : ex (d) 142 59 L st h = ex d 142 60 L (.int (-1) :: st) h := (ex_of d142_59 (d) L st h).trans (rfl)
theorem d142_60 : decode (mB 142) 60 = .ok (.iastore, 1) := by decide +kernel
theorem x142_60 {d : Nat} {L : Lc} {st : List Value} {a j : Nat} {x : Int32} {h : Hp} (ht : (h.2.1 a).1 = 20) (hj : j < (h.2.1 a).2) (hb : j < 2147483648) : ex (d) 142 60 L (.int x :: .int (nI j) :: .ref a :: st) h = ex d 142 61 L st (mup h.1 a j (.int x), h.2) := (ex_of d142_60 (d) L (.int x :: .int (nI j) :: .ref a :: st) h).trans (fin_iastore ht hj hb)
theorem d142_61 : decode (mB 142) 61 = .ok (.iinc 3 1, 3) := by decide +kernel
theorem x142_61 {d : Nat} {l0 l1 l2 : Option Value} {st : List Value} {x : Int32} {h : Hp} : ex (d) 142 61 [l0, l1, l2, some (.int x)] st h = ex d 142 64 [l0, l1, clr l2, some (.int (x + (nI 1)))] st h := (ex_of d142_61 (d) [l0, l1, l2, some (.int x)] st h).trans (rfl)
theorem d142_64 : decode (mB 142) 64 = .ok (.goto (-20), 3) := by decide +kernel
theorem x142_64 {d : Nat} {L : Lc} {st : List Value} {h : Hp} : ex (d) 142 64 L st h = ex d 142 44 L st h := (ex_of d142_64 (d) L st h).trans (rfl)
theorem d142_67 : decode (mB 142) 67 = .ok (.aload_n 0, 1) := by decide +kernel
theorem x142_67 {d : Nat} {l1 l2 l3 : Option Value} {st : List Value} {a : Nat} {h : Hp} : ex (d) 142 67 [some (.ref a), l1, l2, l3] st h = ex d 142 68 [some (.ref a), l1, l2, l3] (.ref a :: st) h := (ex_of d142_67 (d) [some (.ref a), l1, l2, l3] st h).trans (rfl)
theorem d142_68 : decode (mB 142) 68 = .ok (.dup, 1) := by decide +kernel
theorem x142_68 {d : Nat} {L : Lc} {st : List Value} {a : Nat} {h : Hp} : ex (d) 142 68 L (.ref a :: st) h = ex d 142 69 L (.ref a :: .ref a :: st) h := (ex_of d142_68 (d) L (.ref a :: st) h).trans (rfl)
theorem x142_68i {d : Nat} {L : Lc} {st : List Value} {x : Int32} {h : Hp} : ex (d) 142 68 L (.int x :: st) h = ex d 142 69 L (.int x :: .int x :: st) h := (ex_of d142_68 (d) L (.int x :: st) h).trans (rfl)
theorem d142_69 : decode (mB 142) 69 = .ok (.getfield 98, 3) := by decide +kernel
theorem x142_69 {d : Nat} {L : Lc} {st : List Value} {a : Nat} {h : Hp} (ht : (h.2.1 a).1 = 11) : ex (d) 142 69 L (.ref a :: st) h = ex d 142 72 L (h.1 a 8 :: st) h := (ex_of d142_69 (d) L (.ref a :: st) h).trans (fin_get (mi := 142) f11_98 (tg1 ht rfl))
theorem d142_72 : decode (mB 142) 72 = .ok (.iconst 1, 1) := by decide +kernel
theorem x142_72 {d : Nat} {L : Lc} {st : List Value} {h : Hp} : ex (d) 142 72 L st h = ex d 142 73 L (.int (nI 1) :: st) h := (ex_of d142_72 (d) L st h).trans (rfl)
theorem d142_73 : decode (mB 142) 73 = .ok (.iadd, 1) := by decide +kernel
theorem x142_73 {d : Nat} {L : Lc} {st : List Value} {x y : Int32} {h : Hp} : ex (d) 142 73 L (.int y :: .int x :: st) h = ex d 142 74 L (.int (x + y) :: st) h := (ex_of d142_73 (d) L (.int y :: .int x :: st) h).trans (rfl)
theorem d142_74 : decode (mB 142) 74 = .ok (.putfield 98, 3) := by decide +kernel
theorem x142_74 {d : Nat} {L : Lc} {st : List Value} {a : Nat} {x : Int32} {h : Hp} (ht : (h.2.1 a).1 = 11) : ex (d) 142 74 L (.int x :: .ref a :: st) h = ex d 142 77 L st (mup h.1 a 8 (.int x), h.2) := (ex_of d142_74 (d) L (.int x :: .ref a :: st) h).trans (fin_put (mi := 142) f11_98 ht rfl rfl (by decide +kernel))
theorem d142_77 : decode (mB 142) 77 = .ok (.aload_n 0, 1) := by decide +kernel
theorem x142_77 {d : Nat} {l1 l2 l3 : Option Value} {st : List Value} {a : Nat} {h : Hp} : ex (d) 142 77 [some (.ref a), l1, l2, l3] st h = ex d 142 78 [some (.ref a), l1, l2, l3] (.ref a :: st) h := (ex_of d142_77 (d) [some (.ref a), l1, l2, l3] st h).trans (rfl)
theorem d142_78 : decode (mB 142) 78 = .ok (.aload_n 0, 1) := by decide +kernel
theorem x142_78 {d : Nat} {l1 l2 l3 : Option Value} {st : List Value} {a : Nat} {h : Hp} : ex (d) 142 78 [some (.ref a), l1, l2, l3] st h = ex d 142 79 [some (.ref a), l1, l2, l3] (.ref a :: st) h := (ex_of d142_78 (d) [some (.ref a), l1, l2, l3] st h).trans (rfl)
theorem d142_79 : decode (mB 142) 79 = .ok (.getfield 98, 3) := by decide +kernel
theorem x142_79 {d : Nat} {L : Lc} {st : List Value} {a : Nat} {h : Hp} (ht : (h.2.1 a).1 = 11) : ex (d) 142 79 L (.ref a :: st) h = ex d 142 82 L (h.1 a 8 :: st) h := (ex_of d142_79 (d) L (.ref a :: st) h).trans (fin_get (mi := 142) f11_98 (tg1 ht rfl))
theorem d142_82 : decode (mB 142) 82 = .ok (.iconst 1, 1) := by decide +kernel
theorem x142_82 {d : Nat} {L : Lc} {st : List Value} {h : Hp} : ex (d) 142 82 L st h = ex d 142 83 L (.int (nI 1) :: st) h := (ex_of d142_82 (d) L st h).trans (rfl)
theorem d142_83 : decode (mB 142) 83 = .ok (.isub, 1) := by decide +kernel
theorem x142_83 {d : Nat} {L : Lc} {st : List Value} {x y : Int32} {h : Hp} : ex (d) 142 83 L (.int y :: .int x :: st) h = ex d 142 84 L (.int (x - y) :: st) h := (ex_of d142_83 (d) L (.int y :: .int x :: st) h).trans (rfl)
theorem d142_84 : decode (mB 142) 84 = .ok (.invokevirtual 113, 3) := by decide +kernel
theorem x142_84 {d : Nat} {L : Lc} {a : Nat} {v0 : Int32} {h : Hp} (ht : (h.2.1 a).1 = 11) : ex (d + 1) 142 84 L (.int v0 :: .ref a :: []) h = bnd (ex d 134 0 [some (.ref a), some (.int v0)] [] h) (fun v h' => ex (d + 1) 142 87 L (v.toList ++ []) h') := (ex_of d142_84 (d + 1) L (.int v0 :: .ref a :: []) h).trans (fin_vi (mi := 142) i11_113 ht rfl rfl (by simp [cat1_i, cat1_r]) (by simp) (Nat.le_of_ble_eq_true rfl))
theorem d142_87 : decode (mB 142) 87 = .ok (.ireturn, 1) := by decide +kernel
theorem x142_87 {d : Nat} {L : Lc} {x : Int32} {h : Hp} : ex (d) 142 87 L [.int x] h = some (some (.int x), h) := (ex_of d142_87 (d) L [.int x] h).trans (rfl)
theorem d143_0 : decode (mB 143) 0 = .ok (.iload_n 1, 1) := by decide +kernel
theorem x143_0 {d : Nat} {l0 : Option Value} {st : List Value} {x : Int32} {h : Hp} : ex (d) 143 0 [l0, some (.int x)] st h = ex d 143 1 [l0, some (.int x)] (.int x :: st) h := (ex_of d143_0 (d) [l0, some (.int x)] st h).trans (rfl)
theorem d143_1 : decode (mB 143) 1 = .ok (.iconst 0, 1) := by decide +kernel
theorem x143_1 {d : Nat} {L : Lc} {st : List Value} {h : Hp} : ex (d) 143 1 L st h = ex d 143 2 L (.int (nI 0) :: st) h := (ex_of d143_1 (d) L st h).trans (rfl)
theorem d143_2 : decode (mB 143) 2 = .ok (.iconst 3, 1) := by decide +kernel
theorem x143_2 {d : Nat} {L : Lc} {st : List Value} {h : Hp} : ex (d) 143 2 L st h = ex d 143 3 L (.int (nI 3) :: st) h := (ex_of d143_2 (d) L st h).trans (rfl)
theorem d143_3 : decode (mB 143) 3 = .ok (.invokestatic 101, 3) := by decide +kernel
theorem x143_3 {d : Nat} {L : Lc}  {v0 : Int32} {v1 : Int32} {v2 : Int32} {h : Hp} : ex (d + 1) 143 3 L (.int v2 :: .int v1 :: .int v0 :: []) h = bnd (ex d 137 0 [some (.int v0), some (.int v1), some (.int v2)] [] h) (fun v h' => ex (d + 1) 143 6 L (v.toList ++ []) h') := (ex_of d143_3 (d + 1) L (.int v2 :: .int v1 :: .int v0 :: []) h).trans (fin_st (mi := 143) i11_101 (Or.inl rfl) (by simp) (by simp [cat1_i, cat1_r]) (by simp) (Nat.le_of_ble_eq_true rfl))
theorem d143_6 : decode (mB 143) 6 = .ok (.ifCond .eq 13, 3) := by decide +kernel
theorem x143_6 {d : Nat} {L : Lc} {st : List Value} {x : Int32} {h : Hp} : ex (d) 143 6 L (.int x :: st) h = if x = 0 then ex d 143 19 L st h else ex d 143 9 L st h := (ex_of d143_6 (d) L (.int x :: st) h).trans (fin_brq (off := 13) (tgt := 19) rfl (by decide))
theorem d143_9 : decode (mB 143) 9 = .ok (.aload_n 0, 1) := by decide +kernel
theorem x143_9 {d : Nat} {l1 : Option Value} {st : List Value} {a : Nat} {h : Hp} : ex (d) 143 9 [some (.ref a), l1] st h = ex d 143 10 [some (.ref a), l1] (.ref a :: st) h := (ex_of d143_9 (d) [some (.ref a), l1] st h).trans (rfl)
theorem d143_10 : decode (mB 143) 10 = .ok (.iload_n 1, 1) := by decide +kernel
theorem x143_10 {d : Nat} {l0 : Option Value} {st : List Value} {x : Int32} {h : Hp} : ex (d) 143 10 [l0, some (.int x)] st h = ex d 143 11 [l0, some (.int x)] (.int x :: st) h := (ex_of d143_10 (d) [l0, some (.int x)] st h).trans (rfl)
theorem d143_11 : decode (mB 143) 11 = .ok (.iconst 0, 1) := by decide +kernel
theorem x143_11 {d : Nat} {L : Lc} {st : List Value} {h : Hp} : ex (d) 143 11 L st h = ex d 143 12 L (.int (nI 0) :: st) h := (ex_of d143_11 (d) L st h).trans (rfl)
theorem d143_12 : decode (mB 143) 12 = .ok (.iconst 0, 1) := by decide +kernel
theorem x143_12 {d : Nat} {L : Lc} {st : List Value} {h : Hp} : ex (d) 143 12 L st h = ex d 143 13 L (.int (nI 0) :: st) h := (ex_of d143_12 (d) L st h).trans (rfl)
theorem d143_13 : decode (mB 143) 13 = .ok (.invokevirtual 116, 3) := by decide +kernel
theorem x143_13 {d : Nat} {L : Lc} {a : Nat} {v0 : Int32} {v1 : Int32} {v2 : Int32} {h : Hp} (ht : (h.2.1 a).1 = 11) : ex (d + 1) 143 13 L (.int v2 :: .int v1 :: .int v0 :: .ref a :: []) h = bnd (ex d 141 0 [some (.ref a), some (.int v0), some (.int v1), some (.int v2), none, none] [] h) (fun v h' => ex (d + 1) 143 16 L (v.toList ++ []) h') := (ex_of d143_13 (d + 1) L (.int v2 :: .int v1 :: .int v0 :: .ref a :: []) h).trans (fin_vi (mi := 143) i11_116 ht rfl rfl (by simp [cat1_i, cat1_r]) (by simp) (Nat.le_of_ble_eq_true rfl))
theorem d143_16 : decode (mB 143) 16 = .ok (.goto 9, 3) := by decide +kernel
theorem x143_16 {d : Nat} {L : Lc} {st : List Value} {h : Hp} : ex (d) 143 16 L st h = ex d 143 25 L st h := (ex_of d143_16 (d) L st h).trans (rfl)
theorem d143_19 : decode (mB 143) 19 = .ok (.aload_n 0, 1) := by decide +kernel
theorem x143_19 {d : Nat} {l1 : Option Value} {st : List Value} {a : Nat} {h : Hp} : ex (d) 143 19 [some (.ref a), l1] st h = ex d 143 20 [some (.ref a), l1] (.ref a :: st) h := (ex_of d143_19 (d) [some (.ref a), l1] st h).trans (rfl)
theorem d143_20 : decode (mB 143) 20 = .ok (.bipush 6, 2) := by decide +kernel
theorem x143_20 {d : Nat} {L : Lc} {st : List Value} {h : Hp} : ex (d) 143 20 L st h = ex d 143 22 L (.int (nI 6) :: st) h := (ex_of d143_20 (d) L st h).trans (rfl)
theorem d143_22 : decode (mB 143) 22 = .ok (.invokevirtual 109, 3) := by decide +kernel
theorem x143_22 {d : Nat} {L : Lc} {a : Nat} {v0 : Int32} {h : Hp} (ht : (h.2.1 a).1 = 11) : ex (d + 1) 143 22 L (.int v0 :: .ref a :: []) h = bnd (ex d 135 0 [some (.ref a), some (.int v0)] [] h) (fun v h' => ex (d + 1) 143 25 L (v.toList ++ []) h') := (ex_of d143_22 (d + 1) L (.int v0 :: .ref a :: []) h).trans (fin_vi (mi := 143) i11_109 ht rfl rfl (by simp [cat1_i, cat1_r]) (by simp) (Nat.le_of_ble_eq_true rfl))
theorem d143_25 : decode (mB 143) 25 = .ok (.ireturn, 1) := by decide +kernel
theorem x143_25 {d : Nat} {L : Lc} {x : Int32} {h : Hp} : ex (d) 143 25 L [.int x] h = some (some (.int x), h) := (ex_of d143_25 (d) L [.int x] h).trans (rfl)
theorem d144_0 : decode (mB 144) 0 = .ok (.aload_n 0, 1) := by decide +kernel
theorem x144_0 {d : Nat} {st : List Value} {a : Nat} {h : Hp} : ex (d) 144 0 [some (.ref a)] st h = ex d 144 1 [some (.ref a)] (.ref a :: st) h := (ex_of d144_0 (d) [some (.ref a)] st h).trans (rfl)
theorem d144_1 : decode (mB 144) 1 = .ok (.iconst 4, 1) := by decide +kernel
theorem x144_1 {d : Nat} {L : Lc} {st : List Value} {h : Hp} : ex (d) 144 1 L st h = ex d 144 2 L (.int (nI 4) :: st) h := (ex_of d144_1 (d) L st h).trans (rfl)
theorem d144_2 : decode (mB 144) 2 = .ok (.bipush 6, 2) := by decide +kernel
theorem x144_2 {d : Nat} {L : Lc} {st : List Value} {h : Hp} : ex (d) 144 2 L st h = ex d 144 4 L (.int (nI 6) :: st) h := (ex_of d144_2 (d) L st h).trans (rfl)
theorem d144_4 : decode (mB 144) 4 = .ok (.iconst 0, 1) := by decide +kernel
theorem x144_4 {d : Nat} {L : Lc} {st : List Value} {h : Hp} : ex (d) 144 4 L st h = ex d 144 5 L (.int (nI 0) :: st) h := (ex_of d144_4 (d) L st h).trans (rfl)
theorem d144_5 : decode (mB 144) 5 = .ok (.invokevirtual 116, 3) := by decide +kernel
theorem x144_5 {d : Nat} {L : Lc} {a : Nat} {v0 : Int32} {v1 : Int32} {v2 : Int32} {h : Hp} (ht : (h.2.1 a).1 = 11) : ex (d + 1) 144 5 L (.int v2 :: .int v1 :: .int v0 :: .ref a :: []) h = bnd (ex d 141 0 [some (.ref a), some (.int v0), some (.int v1), some (.int v2), none, none] [] h) (fun v h' => ex (d + 1) 144 8 L (v.toList ++ []) h') := (ex_of d144_5 (d + 1) L (.int v2 :: .int v1 :: .int v0 :: .ref a :: []) h).trans (fin_vi (mi := 144) i11_116 ht rfl rfl (by simp [cat1_i, cat1_r]) (by simp) (Nat.le_of_ble_eq_true rfl))
theorem d144_8 : decode (mB 144) 8 = .ok (.ireturn, 1) := by decide +kernel
theorem x144_8 {d : Nat} {L : Lc} {x : Int32} {h : Hp} : ex (d) 144 8 L [.int x] h = some (some (.int x), h) := (ex_of d144_8 (d) L [.int x] h).trans (rfl)
theorem d145_0 : decode (mB 145) 0 = .ok (.iload_n 1, 1) := by decide +kernel
theorem x145_0 {d : Nat} {l0 : Option Value} {st : List Value} {x : Int32} {h : Hp} : ex (d) 145 0 [l0, some (.int x)] st h = ex d 145 1 [l0, some (.int x)] (.int x :: st) h := (ex_of d145_0 (d) [l0, some (.int x)] st h).trans (rfl)
theorem d145_1 : decode (mB 145) 1 = .ok (.iconst 1, 1) := by decide +kernel
theorem x145_1 {d : Nat} {L : Lc} {st : List Value} {h : Hp} : ex (d) 145 1 L st h = ex d 145 2 L (.int (nI 1) :: st) h := (ex_of d145_1 (d) L st h).trans (rfl)
theorem d145_2 : decode (mB 145) 2 = .ok (.bipush 20, 2) := by decide +kernel
theorem x145_2 {d : Nat} {L : Lc} {st : List Value} {h : Hp} : ex (d) 145 2 L st h = ex d 145 4 L (.int (nI 20) :: st) h := (ex_of d145_2 (d) L st h).trans (rfl)
theorem d145_4 : decode (mB 145) 4 = .ok (.invokestatic 101, 3) := by decide +kernel
theorem x145_4 {d : Nat} {L : Lc}  {v0 : Int32} {v1 : Int32} {v2 : Int32} {h : Hp} : ex (d + 1) 145 4 L (.int v2 :: .int v1 :: .int v0 :: []) h = bnd (ex d 137 0 [some (.int v0), some (.int v1), some (.int v2)] [] h) (fun v h' => ex (d + 1) 145 7 L (v.toList ++ []) h') := (ex_of d145_4 (d + 1) L (.int v2 :: .int v1 :: .int v0 :: []) h).trans (fin_st (mi := 145) i11_101 (Or.inl rfl) (by simp) (by simp [cat1_i, cat1_r]) (by simp) (Nat.le_of_ble_eq_true rfl))
theorem d145_7 : decode (mB 145) 7 = .ok (.ifCond .eq 13, 3) := by decide +kernel
theorem x145_7 {d : Nat} {L : Lc} {st : List Value} {x : Int32} {h : Hp} : ex (d) 145 7 L (.int x :: st) h = if x = 0 then ex d 145 20 L st h else ex d 145 10 L st h := (ex_of d145_7 (d) L (.int x :: st) h).trans (fin_brq (off := 13) (tgt := 20) rfl (by decide))
theorem d145_10 : decode (mB 145) 10 = .ok (.aload_n 0, 1) := by decide +kernel
theorem x145_10 {d : Nat} {l1 : Option Value} {st : List Value} {a : Nat} {h : Hp} : ex (d) 145 10 [some (.ref a), l1] st h = ex d 145 11 [some (.ref a), l1] (.ref a :: st) h := (ex_of d145_10 (d) [some (.ref a), l1] st h).trans (rfl)
theorem d145_11 : decode (mB 145) 11 = .ok (.iconst 5, 1) := by decide +kernel
theorem x145_11 {d : Nat} {L : Lc} {st : List Value} {h : Hp} : ex (d) 145 11 L st h = ex d 145 12 L (.int (nI 5) :: st) h := (ex_of d145_11 (d) L st h).trans (rfl)
theorem d145_12 : decode (mB 145) 12 = .ok (.iload_n 1, 1) := by decide +kernel
theorem x145_12 {d : Nat} {l0 : Option Value} {st : List Value} {x : Int32} {h : Hp} : ex (d) 145 12 [l0, some (.int x)] st h = ex d 145 13 [l0, some (.int x)] (.int x :: st) h := (ex_of d145_12 (d) [l0, some (.int x)] st h).trans (rfl)
theorem d145_13 : decode (mB 145) 13 = .ok (.iconst 0, 1) := by decide +kernel
theorem x145_13 {d : Nat} {L : Lc} {st : List Value} {h : Hp} : ex (d) 145 13 L st h = ex d 145 14 L (.int (nI 0) :: st) h := (ex_of d145_13 (d) L st h).trans (rfl)
theorem d145_14 : decode (mB 145) 14 = .ok (.invokevirtual 116, 3) := by decide +kernel
theorem x145_14 {d : Nat} {L : Lc} {a : Nat} {v0 : Int32} {v1 : Int32} {v2 : Int32} {h : Hp} (ht : (h.2.1 a).1 = 11) : ex (d + 1) 145 14 L (.int v2 :: .int v1 :: .int v0 :: .ref a :: []) h = bnd (ex d 141 0 [some (.ref a), some (.int v0), some (.int v1), some (.int v2), none, none] [] h) (fun v h' => ex (d + 1) 145 17 L (v.toList ++ []) h') := (ex_of d145_14 (d + 1) L (.int v2 :: .int v1 :: .int v0 :: .ref a :: []) h).trans (fin_vi (mi := 145) i11_116 ht rfl rfl (by simp [cat1_i, cat1_r]) (by simp) (Nat.le_of_ble_eq_true rfl))
theorem d145_17 : decode (mB 145) 17 = .ok (.goto 9, 3) := by decide +kernel
theorem x145_17 {d : Nat} {L : Lc} {st : List Value} {h : Hp} : ex (d) 145 17 L st h = ex d 145 26 L st h := (ex_of d145_17 (d) L st h).trans (rfl)
theorem d145_20 : decode (mB 145) 20 = .ok (.aload_n 0, 1) := by decide +kernel
theorem x145_20 {d : Nat} {l1 : Option Value} {st : List Value} {a : Nat} {h : Hp} : ex (d) 145 20 [some (.ref a), l1] st h = ex d 145 21 [some (.ref a), l1] (.ref a :: st) h := (ex_of d145_20 (d) [some (.ref a), l1] st h).trans (rfl)
theorem d145_21 : decode (mB 145) 21 = .ok (.bipush 6, 2) := by decide +kernel
theorem x145_21 {d : Nat} {L : Lc} {st : List Value} {h : Hp} : ex (d) 145 21 L st h = ex d 145 23 L (.int (nI 6) :: st) h := (ex_of d145_21 (d) L st h).trans (rfl)
theorem d145_23 : decode (mB 145) 23 = .ok (.invokevirtual 109, 3) := by decide +kernel
theorem x145_23 {d : Nat} {L : Lc} {a : Nat} {v0 : Int32} {h : Hp} (ht : (h.2.1 a).1 = 11) : ex (d + 1) 145 23 L (.int v0 :: .ref a :: []) h = bnd (ex d 135 0 [some (.ref a), some (.int v0)] [] h) (fun v h' => ex (d + 1) 145 26 L (v.toList ++ []) h') := (ex_of d145_23 (d + 1) L (.int v0 :: .ref a :: []) h).trans (fin_vi (mi := 145) i11_109 ht rfl rfl (by simp [cat1_i, cat1_r]) (by simp) (Nat.le_of_ble_eq_true rfl))
theorem d145_26 : decode (mB 145) 26 = .ok (.ireturn, 1) := by decide +kernel
theorem x145_26 {d : Nat} {L : Lc} {x : Int32} {h : Hp} : ex (d) 145 26 L [.int x] h = some (some (.int x), h) := (ex_of d145_26 (d) L [.int x] h).trans (rfl)
theorem d146_0 : decode (mB 146) 0 = .ok (.iload_n 1, 1) := by decide +kernel
theorem x146_0 {d : Nat} {l0 l2 : Option Value} {st : List Value} {x : Int32} {h : Hp} : ex (d) 146 0 [l0, some (.int x), l2] st h = ex d 146 1 [l0, some (.int x), l2] (.int x :: st) h := (ex_of d146_0 (d) [l0, some (.int x), l2] st h).trans (rfl)
theorem d146_1 : decode (mB 146) 1 = .ok (.bipush 6, 2) := by decide +kernel
theorem x146_1 {d : Nat} {L : Lc} {st : List Value} {h : Hp} : ex (d) 146 1 L st h = ex d 146 3 L (.int (nI 6) :: st) h := (ex_of d146_1 (d) L st h).trans (rfl)
theorem d146_3 : decode (mB 146) 3 = .ok (.bipush 8, 2) := by decide +kernel
theorem x146_3 {d : Nat} {L : Lc} {st : List Value} {h : Hp} : ex (d) 146 3 L st h = ex d 146 5 L (.int (nI 8) :: st) h := (ex_of d146_3 (d) L st h).trans (rfl)
theorem d146_5 : decode (mB 146) 5 = .ok (.invokestatic 101, 3) := by decide +kernel
theorem x146_5 {d : Nat} {L : Lc}  {v0 : Int32} {v1 : Int32} {v2 : Int32} {h : Hp} : ex (d + 1) 146 5 L (.int v2 :: .int v1 :: .int v0 :: []) h = bnd (ex d 137 0 [some (.int v0), some (.int v1), some (.int v2)] [] h) (fun v h' => ex (d + 1) 146 8 L (v.toList ++ []) h') := (ex_of d146_5 (d + 1) L (.int v2 :: .int v1 :: .int v0 :: []) h).trans (fin_st (mi := 146) i11_101 (Or.inl rfl) (by simp) (by simp [cat1_i, cat1_r]) (by simp) (Nat.le_of_ble_eq_true rfl))
theorem d146_8 : decode (mB 146) 8 = .ok (.ifCond .eq 23, 3) := by decide +kernel
theorem x146_8 {d : Nat} {L : Lc} {st : List Value} {x : Int32} {h : Hp} : ex (d) 146 8 L (.int x :: st) h = if x = 0 then ex d 146 31 L st h else ex d 146 11 L st h := (ex_of d146_8 (d) L (.int x :: st) h).trans (fin_brq (off := 23) (tgt := 31) rfl (by decide))
theorem d146_11 : decode (mB 146) 11 = .ok (.iload_n 2, 1) := by decide +kernel
theorem x146_11 {d : Nat} {l0 l1 : Option Value} {st : List Value} {x : Int32} {h : Hp} : ex (d) 146 11 [l0, l1, some (.int x)] st h = ex d 146 12 [l0, l1, some (.int x)] (.int x :: st) h := (ex_of d146_11 (d) [l0, l1, some (.int x)] st h).trans (rfl)
theorem d146_12 : decode (mB 146) 12 = .ok (.iconst 0, 1) := by decide +kernel
theorem x146_12 {d : Nat} {L : Lc} {st : List Value} {h : Hp} : ex (d) 146 12 L st h = ex d 146 13 L (.int (nI 0) :: st) h := (ex_of d146_12 (d) L st h).trans (rfl)
theorem d146_13 : decode (mB 146) 13 = .ok (.bipush 40, 2) := by decide +kernel
theorem x146_13 {d : Nat} {L : Lc} {st : List Value} {h : Hp} : ex (d) 146 13 L st h = ex d 146 15 L (.int (nI 40) :: st) h := (ex_of d146_13 (d) L st h).trans (rfl)
theorem d146_15 : decode (mB 146) 15 = .ok (.invokestatic 101, 3) := by decide +kernel
theorem x146_15 {d : Nat} {L : Lc}  {v0 : Int32} {v1 : Int32} {v2 : Int32} {h : Hp} : ex (d + 1) 146 15 L (.int v2 :: .int v1 :: .int v0 :: []) h = bnd (ex d 137 0 [some (.int v0), some (.int v1), some (.int v2)] [] h) (fun v h' => ex (d + 1) 146 18 L (v.toList ++ []) h') := (ex_of d146_15 (d + 1) L (.int v2 :: .int v1 :: .int v0 :: []) h).trans (fin_st (mi := 146) i11_101 (Or.inl rfl) (by simp) (by simp [cat1_i, cat1_r]) (by simp) (Nat.le_of_ble_eq_true rfl))
theorem d146_18 : decode (mB 146) 18 = .ok (.ifCond .eq 13, 3) := by decide +kernel
theorem x146_18 {d : Nat} {L : Lc} {st : List Value} {x : Int32} {h : Hp} : ex (d) 146 18 L (.int x :: st) h = if x = 0 then ex d 146 31 L st h else ex d 146 21 L st h := (ex_of d146_18 (d) L (.int x :: st) h).trans (fin_brq (off := 13) (tgt := 31) rfl (by decide))
theorem d146_21 : decode (mB 146) 21 = .ok (.aload_n 0, 1) := by decide +kernel
theorem x146_21 {d : Nat} {l1 l2 : Option Value} {st : List Value} {a : Nat} {h : Hp} : ex (d) 146 21 [some (.ref a), l1, l2] st h = ex d 146 22 [some (.ref a), l1, l2] (.ref a :: st) h := (ex_of d146_21 (d) [some (.ref a), l1, l2] st h).trans (rfl)
theorem d146_22 : decode (mB 146) 22 = .ok (.iload_n 1, 1) := by decide +kernel
theorem x146_22 {d : Nat} {l0 l2 : Option Value} {st : List Value} {x : Int32} {h : Hp} : ex (d) 146 22 [l0, some (.int x), l2] st h = ex d 146 23 [l0, some (.int x), l2] (.int x :: st) h := (ex_of d146_22 (d) [l0, some (.int x), l2] st h).trans (rfl)
theorem d146_23 : decode (mB 146) 23 = .ok (.iconst 0, 1) := by decide +kernel
theorem x146_23 {d : Nat} {L : Lc} {st : List Value} {h : Hp} : ex (d) 146 23 L st h = ex d 146 24 L (.int (nI 0) :: st) h := (ex_of d146_23 (d) L st h).trans (rfl)
theorem d146_24 : decode (mB 146) 24 = .ok (.iload_n 2, 1) := by decide +kernel
theorem x146_24 {d : Nat} {l0 l1 : Option Value} {st : List Value} {x : Int32} {h : Hp} : ex (d) 146 24 [l0, l1, some (.int x)] st h = ex d 146 25 [l0, l1, some (.int x)] (.int x :: st) h := (ex_of d146_24 (d) [l0, l1, some (.int x)] st h).trans (rfl)
theorem d146_25 : decode (mB 146) 25 = .ok (.invokevirtual 116, 3) := by decide +kernel
theorem x146_25 {d : Nat} {L : Lc} {a : Nat} {v0 : Int32} {v1 : Int32} {v2 : Int32} {h : Hp} (ht : (h.2.1 a).1 = 11) : ex (d + 1) 146 25 L (.int v2 :: .int v1 :: .int v0 :: .ref a :: []) h = bnd (ex d 141 0 [some (.ref a), some (.int v0), some (.int v1), some (.int v2), none, none] [] h) (fun v h' => ex (d + 1) 146 28 L (v.toList ++ []) h') := (ex_of d146_25 (d + 1) L (.int v2 :: .int v1 :: .int v0 :: .ref a :: []) h).trans (fin_vi (mi := 146) i11_116 ht rfl rfl (by simp [cat1_i, cat1_r]) (by simp) (Nat.le_of_ble_eq_true rfl))
theorem d146_28 : decode (mB 146) 28 = .ok (.goto 9, 3) := by decide +kernel
theorem x146_28 {d : Nat} {L : Lc} {st : List Value} {h : Hp} : ex (d) 146 28 L st h = ex d 146 37 L st h := (ex_of d146_28 (d) L st h).trans (rfl)
theorem d146_31 : decode (mB 146) 31 = .ok (.aload_n 0, 1) := by decide +kernel
theorem x146_31 {d : Nat} {l1 l2 : Option Value} {st : List Value} {a : Nat} {h : Hp} : ex (d) 146 31 [some (.ref a), l1, l2] st h = ex d 146 32 [some (.ref a), l1, l2] (.ref a :: st) h := (ex_of d146_31 (d) [some (.ref a), l1, l2] st h).trans (rfl)
theorem d146_32 : decode (mB 146) 32 = .ok (.bipush 6, 2) := by decide +kernel
theorem x146_32 {d : Nat} {L : Lc} {st : List Value} {h : Hp} : ex (d) 146 32 L st h = ex d 146 34 L (.int (nI 6) :: st) h := (ex_of d146_32 (d) L st h).trans (rfl)
theorem d146_34 : decode (mB 146) 34 = .ok (.invokevirtual 109, 3) := by decide +kernel
theorem x146_34 {d : Nat} {L : Lc} {a : Nat} {v0 : Int32} {h : Hp} (ht : (h.2.1 a).1 = 11) : ex (d + 1) 146 34 L (.int v0 :: .ref a :: []) h = bnd (ex d 135 0 [some (.ref a), some (.int v0)] [] h) (fun v h' => ex (d + 1) 146 37 L (v.toList ++ []) h') := (ex_of d146_34 (d + 1) L (.int v0 :: .ref a :: []) h).trans (fin_vi (mi := 146) i11_109 ht rfl rfl (by simp [cat1_i, cat1_r]) (by simp) (Nat.le_of_ble_eq_true rfl))
theorem d146_37 : decode (mB 146) 37 = .ok (.ireturn, 1) := by decide +kernel
theorem x146_37 {d : Nat} {L : Lc} {x : Int32} {h : Hp} : ex (d) 146 37 L [.int x] h = some (some (.int x), h) := (ex_of d146_37 (d) L [.int x] h).trans (rfl)
theorem d147_0 : decode (mB 147) 0 = .ok (.aload_n 0, 1) := by decide +kernel
theorem x147_0 {d : Nat} {l1 l2 : Option Value} {st : List Value} {a : Nat} {h : Hp} : ex (d) 147 0 [some (.ref a), l1, l2] st h = ex d 147 1 [some (.ref a), l1, l2] (.ref a :: st) h := (ex_of d147_0 (d) [some (.ref a), l1, l2] st h).trans (rfl)
theorem d147_1 : decode (mB 147) 1 = .ok (.iload_n 1, 1) := by decide +kernel
theorem x147_1 {d : Nat} {l0 l2 : Option Value} {st : List Value} {x : Int32} {h : Hp} : ex (d) 147 1 [l0, some (.int x), l2] st h = ex d 147 2 [l0, some (.int x), l2] (.int x :: st) h := (ex_of d147_1 (d) [l0, some (.int x), l2] st h).trans (rfl)
theorem d147_2 : decode (mB 147) 2 = .ok (.invokevirtual 105, 3) := by decide +kernel
theorem x147_2 {d : Nat} {L : Lc} {a : Nat} {v0 : Int32} {h : Hp} (ht : (h.2.1 a).1 = 11) : ex (d + 1) 147 2 L (.int v0 :: .ref a :: []) h = bnd (ex d 136 0 [some (.ref a), some (.int v0)] [] h) (fun v h' => ex (d + 1) 147 5 L (v.toList ++ []) h') := (ex_of d147_2 (d + 1) L (.int v0 :: .ref a :: []) h).trans (fin_vi (mi := 147) i11_105 ht rfl rfl (by simp [cat1_i, cat1_r]) (by simp) (Nat.le_of_ble_eq_true rfl))
theorem d147_5 : decode (mB 147) 5 = .ok (.ifCond .ne 8, 3) := by decide +kernel
theorem x147_5 {d : Nat} {L : Lc} {st : List Value} {x : Int32} {h : Hp} : ex (d) 147 5 L (.int x :: st) h = if ¬ x = 0 then ex d 147 13 L st h else ex d 147 8 L st h := (ex_of d147_5 (d) L (.int x :: st) h).trans (fin_brq (off := 8) (tgt := 13) rfl (by decide))
theorem d147_8 : decode (mB 147) 8 = .ok (.bipush 10, 2) := by decide +kernel
theorem x147_8 {d : Nat} {L : Lc} {st : List Value} {h : Hp} : ex (d) 147 8 L st h = ex d 147 10 L (.int (nI 10) :: st) h := (ex_of d147_8 (d) L st h).trans (rfl)
theorem d147_10 : decode (mB 147) 10 = .ok (.goto 39, 3) := by decide +kernel
theorem x147_10 {d : Nat} {L : Lc} {st : List Value} {h : Hp} : ex (d) 147 10 L st h = ex d 147 49 L st h := (ex_of d147_10 (d) L st h).trans (rfl)
theorem d147_13 : decode (mB 147) 13 = .ok (.aload_n 0, 1) := by decide +kernel
theorem x147_13 {d : Nat} {l1 l2 : Option Value} {st : List Value} {a : Nat} {h : Hp} : ex (d) 147 13 [some (.ref a), l1, l2] st h = ex d 147 14 [some (.ref a), l1, l2] (.ref a :: st) h := (ex_of d147_13 (d) [some (.ref a), l1, l2] st h).trans (rfl)
theorem d147_14 : decode (mB 147) 14 = .ok (.getfield 9, 3) := by decide +kernel
theorem x147_14 {d : Nat} {L : Lc} {st : List Value} {a : Nat} {h : Hp} (ht : (h.2.1 a).1 = 11) : ex (d) 147 14 L (.ref a :: st) h = ex d 147 17 L (h.1 a 2 :: st) h := (ex_of d147_14 (d) L (.ref a :: st) h).trans (fin_get (mi := 147) f11_9 (tg1 ht rfl))
theorem d147_17 : decode (mB 147) 17 = .ok (.iload_n 1, 1) := by decide +kernel
theorem x147_17 {d : Nat} {l0 l2 : Option Value} {st : List Value} {x : Int32} {h : Hp} : ex (d) 147 17 [l0, some (.int x), l2] st h = ex d 147 18 [l0, some (.int x), l2] (.int x :: st) h := (ex_of d147_17 (d) [l0, some (.int x), l2] st h).trans (rfl)
theorem d147_18 : decode (mB 147) 18 = .ok (.iaload, 1) := by decide +kernel
theorem x147_18 {d : Nat} {L : Lc} {st : List Value} {a j : Nat} {h : Hp} (ht : (h.2.1 a).1 = 20) (hj : j < (h.2.1 a).2) (hb : j < 2147483648) : ex (d) 147 18 L (.int (nI j) :: .ref a :: st) h = ex d 147 19 L (h.1 a j :: st) h := (ex_of d147_18 (d) L (.int (nI j) :: .ref a :: st) h).trans (fin_iaload (Or.inl ht) hj hb)
theorem d147_19 : decode (mB 147) 19 = .ok (.bipush 6, 2) := by decide +kernel
theorem x147_19 {d : Nat} {L : Lc} {st : List Value} {h : Hp} : ex (d) 147 19 L st h = ex d 147 21 L (.int (nI 6) :: st) h := (ex_of d147_19 (d) L st h).trans (rfl)
theorem d147_21 : decode (mB 147) 21 = .ok (.if_icmp .ge 7, 3) := by decide +kernel
theorem x147_21 {d : Nat} {L : Lc} {st : List Value} {x y : Int32} {h : Hp} : ex (d) 147 21 L (.int y :: .int x :: st) h = if y ≤ x then ex d 147 28 L st h else ex d 147 24 L st h := (ex_of d147_21 (d) L (.int y :: .int x :: st) h).trans (fin_brq (off := 7) (tgt := 28) rfl (by decide))
theorem d147_24 : decode (mB 147) 24 = .ok (.iconst 4, 1) := by decide +kernel
theorem x147_24 {d : Nat} {L : Lc} {st : List Value} {h : Hp} : ex (d) 147 24 L st h = ex d 147 25 L (.int (nI 4) :: st) h := (ex_of d147_24 (d) L st h).trans (rfl)
theorem d147_25 : decode (mB 147) 25 = .ok (.goto 24, 3) := by decide +kernel
theorem x147_25 {d : Nat} {L : Lc} {st : List Value} {h : Hp} : ex (d) 147 25 L st h = ex d 147 49 L st h := (ex_of d147_25 (d) L st h).trans (rfl)
theorem d147_28 : decode (mB 147) 28 = .ok (.iload_n 2, 1) := by decide +kernel
theorem x147_28 {d : Nat} {l0 l1 : Option Value} {st : List Value} {x : Int32} {h : Hp} : ex (d) 147 28 [l0, l1, some (.int x)] st h = ex d 147 29 [l0, l1, some (.int x)] (.int x :: st) h := (ex_of d147_28 (d) [l0, l1, some (.int x)] st h).trans (rfl)
theorem d147_29 : decode (mB 147) 29 = .ok (.iconst 0, 1) := by decide +kernel
theorem x147_29 {d : Nat} {L : Lc} {st : List Value} {h : Hp} : ex (d) 147 29 L st h = ex d 147 30 L (.int (nI 0) :: st) h := (ex_of d147_29 (d) L st h).trans (rfl)
theorem d147_30 : decode (mB 147) 30 = .ok (.aload_n 0, 1) := by decide +kernel
theorem x147_30 {d : Nat} {l1 l2 : Option Value} {st : List Value} {a : Nat} {h : Hp} : ex (d) 147 30 [some (.ref a), l1, l2] st h = ex d 147 31 [some (.ref a), l1, l2] (.ref a :: st) h := (ex_of d147_30 (d) [some (.ref a), l1, l2] st h).trans (rfl)
theorem d147_31 : decode (mB 147) 31 = .ok (.getfield 40, 3) := by decide +kernel
theorem x147_31 {d : Nat} {L : Lc} {st : List Value} {a : Nat} {h : Hp} (ht : (h.2.1 a).1 = 11) : ex (d) 147 31 L (.ref a :: st) h = ex d 147 34 L (h.1 a 13 :: st) h := (ex_of d147_31 (d) L (.ref a :: st) h).trans (fin_get (mi := 147) f11_40 (tg1 ht rfl))
theorem d147_34 : decode (mB 147) 34 = .ok (.iload_n 1, 1) := by decide +kernel
theorem x147_34 {d : Nat} {l0 l2 : Option Value} {st : List Value} {x : Int32} {h : Hp} : ex (d) 147 34 [l0, some (.int x), l2] st h = ex d 147 35 [l0, some (.int x), l2] (.int x :: st) h := (ex_of d147_34 (d) [l0, some (.int x), l2] st h).trans (rfl)
theorem d147_35 : decode (mB 147) 35 = .ok (.iaload, 1) := by decide +kernel
theorem x147_35 {d : Nat} {L : Lc} {st : List Value} {a j : Nat} {h : Hp} (ht : (h.2.1 a).1 = 20) (hj : j < (h.2.1 a).2) (hb : j < 2147483648) : ex (d) 147 35 L (.int (nI j) :: .ref a :: st) h = ex d 147 36 L (h.1 a j :: st) h := (ex_of d147_35 (d) L (.int (nI j) :: .ref a :: st) h).trans (fin_iaload (Or.inl ht) hj hb)
theorem d147_36 : decode (mB 147) 36 = .ok (.iconst 1, 1) := by decide +kernel
theorem x147_36 {d : Nat} {L : Lc} {st : List Value} {h : Hp} : ex (d) 147 36 L st h = ex d 147 37 L (.int (nI 1) :: st) h := (ex_of d147_36 (d) L st h).trans (rfl)
theorem d147_37 : decode (mB 147) 37 = .ok (.isub, 1) := by decide +kernel
theorem x147_37 {d : Nat} {L : Lc} {st : List Value} {x y : Int32} {h : Hp} : ex (d) 147 37 L (.int y :: .int x :: st) h = ex d 147 38 L (.int (x - y) :: st) h := (ex_of d147_37 (d) L (.int y :: .int x :: st) h).trans (rfl)
theorem d147_38 : decode (mB 147) 38 = .ok (.invokestatic 101, 3) := by decide +kernel
theorem x147_38 {d : Nat} {L : Lc}  {v0 : Int32} {v1 : Int32} {v2 : Int32} {h : Hp} : ex (d + 1) 147 38 L (.int v2 :: .int v1 :: .int v0 :: []) h = bnd (ex d 137 0 [some (.int v0), some (.int v1), some (.int v2)] [] h) (fun v h' => ex (d + 1) 147 41 L (v.toList ++ []) h') := (ex_of d147_38 (d + 1) L (.int v2 :: .int v1 :: .int v0 :: []) h).trans (fin_st (mi := 147) i11_101 (Or.inl rfl) (by simp) (by simp [cat1_i, cat1_r]) (by simp) (Nat.le_of_ble_eq_true rfl))
theorem d147_41 : decode (mB 147) 41 = .ok (.ifCond .ne 7, 3) := by decide +kernel
theorem x147_41 {d : Nat} {L : Lc} {st : List Value} {x : Int32} {h : Hp} : ex (d) 147 41 L (.int x :: st) h = if ¬ x = 0 then ex d 147 48 L st h else ex d 147 44 L st h := (ex_of d147_41 (d) L (.int x :: st) h).trans (fin_brq (off := 7) (tgt := 48) rfl (by decide))
theorem d147_44 : decode (mB 147) 44 = .ok (.iconst 2, 1) := by decide +kernel
theorem x147_44 {d : Nat} {L : Lc} {st : List Value} {h : Hp} : ex (d) 147 44 L st h = ex d 147 45 L (.int (nI 2) :: st) h := (ex_of d147_44 (d) L st h).trans (rfl)
theorem d147_45 : decode (mB 147) 45 = .ok (.goto 4, 3) := by decide +kernel
theorem x147_45 {d : Nat} {L : Lc} {st : List Value} {h : Hp} : ex (d) 147 45 L st h = ex d 147 49 L st h := (ex_of d147_45 (d) L st h).trans (rfl)
theorem d147_48 : decode (mB 147) 48 = .ok (.iconst 0, 1) := by decide +kernel
theorem x147_48 {d : Nat} {L : Lc} {st : List Value} {h : Hp} : ex (d) 147 48 L st h = ex d 147 49 L (.int (nI 0) :: st) h := (ex_of d147_48 (d) L st h).trans (rfl)
theorem d147_49 : decode (mB 147) 49 = .ok (.ireturn, 1) := by decide +kernel
theorem x147_49 {d : Nat} {L : Lc} {x : Int32} {h : Hp} : ex (d) 147 49 L [.int x] h = some (some (.int x), h) := (ex_of d147_49 (d) L [.int x] h).trans (rfl)
theorem d148_0 : decode (mB 148) 0 = .ok (.aload_n 0, 1) := by decide +kernel
theorem x148_0 {d : Nat} {l1 l2 l3 l4 : Option Value} {st : List Value} {a : Nat} {h : Hp} : ex (d) 148 0 [some (.ref a), l1, l2, l3, l4] st h = ex d 148 1 [some (.ref a), l1, l2, l3, l4] (.ref a :: st) h := (ex_of d148_0 (d) [some (.ref a), l1, l2, l3, l4] st h).trans (rfl)
theorem d148_1 : decode (mB 148) 1 = .ok (.iload_n 1, 1) := by decide +kernel
theorem x148_1 {d : Nat} {l0 l2 l3 l4 : Option Value} {st : List Value} {x : Int32} {h : Hp} : ex (d) 148 1 [l0, some (.int x), l2, l3, l4] st h = ex d 148 2 [l0, some (.int x), l2, l3, l4] (.int x :: st) h := (ex_of d148_1 (d) [l0, some (.int x), l2, l3, l4] st h).trans (rfl)
theorem d148_2 : decode (mB 148) 2 = .ok (.iload_n 2, 1) := by decide +kernel
theorem x148_2 {d : Nat} {l0 l1 l3 l4 : Option Value} {st : List Value} {x : Int32} {h : Hp} : ex (d) 148 2 [l0, l1, some (.int x), l3, l4] st h = ex d 148 3 [l0, l1, some (.int x), l3, l4] (.int x :: st) h := (ex_of d148_2 (d) [l0, l1, some (.int x), l3, l4] st h).trans (rfl)
theorem d148_3 : decode (mB 148) 3 = .ok (.invokevirtual 120, 3) := by decide +kernel
theorem x148_3 {d : Nat} {L : Lc} {a : Nat} {v0 : Int32} {v1 : Int32} {h : Hp} (ht : (h.2.1 a).1 = 11) : ex (d + 1) 148 3 L (.int v1 :: .int v0 :: .ref a :: []) h = bnd (ex d 147 0 [some (.ref a), some (.int v0), some (.int v1)] [] h) (fun v h' => ex (d + 1) 148 6 L (v.toList ++ []) h') := (ex_of d148_3 (d + 1) L (.int v1 :: .int v0 :: .ref a :: []) h).trans (fin_vi (mi := 148) i11_120 ht rfl rfl (by simp [cat1_i, cat1_r]) (by simp) (Nat.le_of_ble_eq_true rfl))
theorem d148_6 : decode (mB 148) 6 = .ok (.istore 4, 2) := by decide +kernel
theorem x148_6 {d : Nat} {l0 l1 l2 l3 l4 : Option Value} {st : List Value} {x : Int32} {h : Hp} : ex (d) 148 6 [l0, l1, l2, l3, l4] (.int x :: st) h = ex d 148 8 [l0, l1, l2, clr l3, some (.int x)] st h := (ex_of d148_6 (d) [l0, l1, l2, l3, l4] (.int x :: st) h).trans (rfl)
theorem d148_8 : decode (mB 148) 8 = .ok (.iload 4, 2) := by decide +kernel
theorem x148_8 {d : Nat} {l0 l1 l2 l3 : Option Value} {st : List Value} {x : Int32} {h : Hp} : ex (d) 148 8 [l0, l1, l2, l3, some (.int x)] st h = ex d 148 10 [l0, l1, l2, l3, some (.int x)] (.int x :: st) h := (ex_of d148_8 (d) [l0, l1, l2, l3, some (.int x)] st h).trans (rfl)
theorem d148_10 : decode (mB 148) 10 = .ok (.ifCond .le 10, 3) := by decide +kernel
theorem x148_10 {d : Nat} {L : Lc} {st : List Value} {x : Int32} {h : Hp} : ex (d) 148 10 L (.int x :: st) h = if x ≤ 0 then ex d 148 20 L st h else ex d 148 13 L st h := (ex_of d148_10 (d) L (.int x :: st) h).trans (fin_brq (off := 10) (tgt := 20) rfl (by decide))
theorem d148_13 : decode (mB 148) 13 = .ok (.aload_n 0, 1) := by decide +kernel
theorem x148_13 {d : Nat} {l1 l2 l3 l4 : Option Value} {st : List Value} {a : Nat} {h : Hp} : ex (d) 148 13 [some (.ref a), l1, l2, l3, l4] st h = ex d 148 14 [some (.ref a), l1, l2, l3, l4] (.ref a :: st) h := (ex_of d148_13 (d) [some (.ref a), l1, l2, l3, l4] st h).trans (rfl)
theorem d148_14 : decode (mB 148) 14 = .ok (.iload 4, 2) := by decide +kernel
theorem x148_14 {d : Nat} {l0 l1 l2 l3 : Option Value} {st : List Value} {x : Int32} {h : Hp} : ex (d) 148 14 [l0, l1, l2, l3, some (.int x)] st h = ex d 148 16 [l0, l1, l2, l3, some (.int x)] (.int x :: st) h := (ex_of d148_14 (d) [l0, l1, l2, l3, some (.int x)] st h).trans (rfl)
theorem d148_16 : decode (mB 148) 16 = .ok (.invokevirtual 109, 3) := by decide +kernel
theorem x148_16 {d : Nat} {L : Lc} {a : Nat} {v0 : Int32} {h : Hp} (ht : (h.2.1 a).1 = 11) : ex (d + 1) 148 16 L (.int v0 :: .ref a :: []) h = bnd (ex d 135 0 [some (.ref a), some (.int v0)] [] h) (fun v h' => ex (d + 1) 148 19 L (v.toList ++ []) h') := (ex_of d148_16 (d + 1) L (.int v0 :: .ref a :: []) h).trans (fin_vi (mi := 148) i11_109 ht rfl rfl (by simp [cat1_i, cat1_r]) (by simp) (Nat.le_of_ble_eq_true rfl))
theorem d148_19 : decode (mB 148) 19 = .ok (.ireturn, 1) := by decide +kernel
theorem x148_19 {d : Nat} {L : Lc} {x : Int32} {h : Hp} : ex (d) 148 19 L [.int x] h = some (some (.int x), h) := (ex_of d148_19 (d) L [.int x] h).trans (rfl)
theorem d148_20 : decode (mB 148) 20 = .ok (.aload_n 0, 1) := by decide +kernel
theorem x148_20 {d : Nat} {l1 l2 l3 l4 : Option Value} {st : List Value} {a : Nat} {h : Hp} : ex (d) 148 20 [some (.ref a), l1, l2, l3, l4] st h = ex d 148 21 [some (.ref a), l1, l2, l3, l4] (.ref a :: st) h := (ex_of d148_20 (d) [some (.ref a), l1, l2, l3, l4] st h).trans (rfl)
theorem d148_21 : decode (mB 148) 21 = .ok (.getfield 9, 3) := by decide +kernel
theorem x148_21 {d : Nat} {L : Lc} {st : List Value} {a : Nat} {h : Hp} (ht : (h.2.1 a).1 = 11) : ex (d) 148 21 L (.ref a :: st) h = ex d 148 24 L (h.1 a 2 :: st) h := (ex_of d148_21 (d) L (.ref a :: st) h).trans (fin_get (mi := 148) f11_9 (tg1 ht rfl))
theorem d148_24 : decode (mB 148) 24 = .ok (.iload_n 1, 1) := by decide +kernel
theorem x148_24 {d : Nat} {l0 l2 l3 l4 : Option Value} {st : List Value} {x : Int32} {h : Hp} : ex (d) 148 24 [l0, some (.int x), l2, l3, l4] st h = ex d 148 25 [l0, some (.int x), l2, l3, l4] (.int x :: st) h := (ex_of d148_24 (d) [l0, some (.int x), l2, l3, l4] st h).trans (rfl)
theorem d148_25 : decode (mB 148) 25 = .ok (.iaload, 1) := by decide +kernel
theorem x148_25 {d : Nat} {L : Lc} {st : List Value} {a j : Nat} {h : Hp} (ht : (h.2.1 a).1 = 20) (hj : j < (h.2.1 a).2) (hb : j < 2147483648) : ex (d) 148 25 L (.int (nI j) :: .ref a :: st) h = ex d 148 26 L (h.1 a j :: st) h := (ex_of d148_25 (d) L (.int (nI j) :: .ref a :: st) h).trans (fin_iaload (Or.inl ht) hj hb)
theorem d148_26 : decode (mB 148) 26 = .ok (.bipush 7, 2) := by decide +kernel
theorem x148_26 {d : Nat} {L : Lc} {st : List Value} {h : Hp} : ex (d) 148 26 L st h = ex d 148 28 L (.int (nI 7) :: st) h := (ex_of d148_26 (d) L st h).trans (rfl)
theorem d148_28 : decode (mB 148) 28 = .ok (.if_icmp .ne 22, 3) := by decide +kernel
theorem x148_28 {d : Nat} {L : Lc} {st : List Value} {x y : Int32} {h : Hp} : ex (d) 148 28 L (.int y :: .int x :: st) h = if ¬ x = y then ex d 148 50 L st h else ex d 148 31 L st h := (ex_of d148_28 (d) L (.int y :: .int x :: st) h).trans (fin_brq (off := 22) (tgt := 50) rfl (by decide))
theorem d148_31 : decode (mB 148) 31 = .ok (.iload_n 3, 1) := by decide +kernel
theorem x148_31 {d : Nat} {l0 l1 l2 l4 : Option Value} {st : List Value} {x : Int32} {h : Hp} : ex (d) 148 31 [l0, l1, l2, some (.int x), l4] st h = ex d 148 32 [l0, l1, l2, some (.int x), l4] (.int x :: st) h := (ex_of d148_31 (d) [l0, l1, l2, some (.int x), l4] st h).trans (rfl)
theorem d148_32 : decode (mB 148) 32 = .ok (.bipush (-2), 2) := by decide +kernel
theorem x148_32 {d : Nat} {L : Lc} {st : List Value} {h : Hp} : ex (d) 148 32 L st h = ex d 148 34 L (.int (-2) :: st) h := (ex_of d148_32 (d) L st h).trans (rfl)
theorem d148_34 : decode (mB 148) 34 = .ok (.sipush 3000, 3) := by decide +kernel
theorem x148_34 {d : Nat} {L : Lc} {st : List Value} {h : Hp} : ex (d) 148 34 L st h = ex d 148 37 L (.int (nI 3000) :: st) h := (ex_of d148_34 (d) L st h).trans (rfl)
theorem d148_37 : decode (mB 148) 37 = .ok (.invokestatic 101, 3) := by decide +kernel
theorem x148_37 {d : Nat} {L : Lc}  {v0 : Int32} {v1 : Int32} {v2 : Int32} {h : Hp} : ex (d + 1) 148 37 L (.int v2 :: .int v1 :: .int v0 :: []) h = bnd (ex d 137 0 [some (.int v0), some (.int v1), some (.int v2)] [] h) (fun v h' => ex (d + 1) 148 40 L (v.toList ++ []) h') := (ex_of d148_37 (d + 1) L (.int v2 :: .int v1 :: .int v0 :: []) h).trans (fin_st (mi := 148) i11_101 (Or.inl rfl) (by simp) (by simp [cat1_i, cat1_r]) (by simp) (Nat.le_of_ble_eq_true rfl))
theorem d148_40 : decode (mB 148) 40 = .ok (.ifCond .ne 10, 3) := by decide +kernel
theorem x148_40 {d : Nat} {L : Lc} {st : List Value} {x : Int32} {h : Hp} : ex (d) 148 40 L (.int x :: st) h = if ¬ x = 0 then ex d 148 50 L st h else ex d 148 43 L st h := (ex_of d148_40 (d) L (.int x :: st) h).trans (fin_brq (off := 10) (tgt := 50) rfl (by decide))
theorem d148_43 : decode (mB 148) 43 = .ok (.aload_n 0, 1) := by decide +kernel
theorem x148_43 {d : Nat} {l1 l2 l3 l4 : Option Value} {st : List Value} {a : Nat} {h : Hp} : ex (d) 148 43 [some (.ref a), l1, l2, l3, l4] st h = ex d 148 44 [some (.ref a), l1, l2, l3, l4] (.ref a :: st) h := (ex_of d148_43 (d) [some (.ref a), l1, l2, l3, l4] st h).trans (rfl)
theorem d148_44 : decode (mB 148) 44 = .ok (.bipush 6, 2) := by decide +kernel
theorem x148_44 {d : Nat} {L : Lc} {st : List Value} {h : Hp} : ex (d) 148 44 L st h = ex d 148 46 L (.int (nI 6) :: st) h := (ex_of d148_44 (d) L st h).trans (rfl)
theorem d148_46 : decode (mB 148) 46 = .ok (.invokevirtual 109, 3) := by decide +kernel
theorem x148_46 {d : Nat} {L : Lc} {a : Nat} {v0 : Int32} {h : Hp} (ht : (h.2.1 a).1 = 11) : ex (d + 1) 148 46 L (.int v0 :: .ref a :: []) h = bnd (ex d 135 0 [some (.ref a), some (.int v0)] [] h) (fun v h' => ex (d + 1) 148 49 L (v.toList ++ []) h') := (ex_of d148_46 (d + 1) L (.int v0 :: .ref a :: []) h).trans (fin_vi (mi := 148) i11_109 ht rfl rfl (by simp [cat1_i, cat1_r]) (by simp) (Nat.le_of_ble_eq_true rfl))
theorem d148_49 : decode (mB 148) 49 = .ok (.ireturn, 1) := by decide +kernel
theorem x148_49 {d : Nat} {L : Lc} {x : Int32} {h : Hp} : ex (d) 148 49 L [.int x] h = some (some (.int x), h) := (ex_of d148_49 (d) L [.int x] h).trans (rfl)
theorem d148_50 : decode (mB 148) 50 = .ok (.aload_n 0, 1) := by decide +kernel
theorem x148_50 {d : Nat} {l1 l2 l3 l4 : Option Value} {st : List Value} {a : Nat} {h : Hp} : ex (d) 148 50 [some (.ref a), l1, l2, l3, l4] st h = ex d 148 51 [some (.ref a), l1, l2, l3, l4] (.ref a :: st) h := (ex_of d148_50 (d) [some (.ref a), l1, l2, l3, l4] st h).trans (rfl)
theorem d148_51 : decode (mB 148) 51 = .ok (.getfield 37, 3) := by decide +kernel
theorem x148_51 {d : Nat} {L : Lc} {st : List Value} {a : Nat} {h : Hp} (ht : (h.2.1 a).1 = 11) : ex (d) 148 51 L (.ref a :: st) h = ex d 148 54 L (h.1 a 12 :: st) h := (ex_of d148_51 (d) L (.ref a :: st) h).trans (fin_get (mi := 148) f11_37 (tg1 ht rfl))
theorem d148_54 : decode (mB 148) 54 = .ok (.bipush 40, 2) := by decide +kernel
theorem x148_54 {d : Nat} {L : Lc} {st : List Value} {h : Hp} : ex (d) 148 54 L st h = ex d 148 56 L (.int (nI 40) :: st) h := (ex_of d148_54 (d) L st h).trans (rfl)
theorem d148_56 : decode (mB 148) 56 = .ok (.iload_n 1, 1) := by decide +kernel
theorem x148_56 {d : Nat} {l0 l2 l3 l4 : Option Value} {st : List Value} {x : Int32} {h : Hp} : ex (d) 148 56 [l0, some (.int x), l2, l3, l4] st h = ex d 148 57 [l0, some (.int x), l2, l3, l4] (.int x :: st) h := (ex_of d148_56 (d) [l0, some (.int x), l2, l3, l4] st h).trans (rfl)
theorem d148_57 : decode (mB 148) 57 = .ok (.imul, 1) := by decide +kernel
theorem x148_57 {d : Nat} {L : Lc} {st : List Value} {x y : Int32} {h : Hp} : ex (d) 148 57 L (.int y :: .int x :: st) h = ex d 148 58 L (.int (x * y) :: st) h := (ex_of d148_57 (d) L (.int y :: .int x :: st) h).trans (rfl)
theorem d148_58 : decode (mB 148) 58 = .ok (.iload_n 2, 1) := by decide +kernel
theorem x148_58 {d : Nat} {l0 l1 l3 l4 : Option Value} {st : List Value} {x : Int32} {h : Hp} : ex (d) 148 58 [l0, l1, some (.int x), l3, l4] st h = ex d 148 59 [l0, l1, some (.int x), l3, l4] (.int x :: st) h := (ex_of d148_58 (d) [l0, l1, some (.int x), l3, l4] st h).trans (rfl)
theorem d148_59 : decode (mB 148) 59 = .ok (.iadd, 1) := by decide +kernel
theorem x148_59 {d : Nat} {L : Lc} {st : List Value} {x y : Int32} {h : Hp} : ex (d) 148 59 L (.int y :: .int x :: st) h = ex d 148 60 L (.int (x + y) :: st) h := (ex_of d148_59 (d) L (.int y :: .int x :: st) h).trans (rfl)
theorem d148_60 : decode (mB 148) 60 = .ok (.aload_n 0, 1) := by decide +kernel
theorem x148_60 {d : Nat} {l1 l2 l3 l4 : Option Value} {st : List Value} {a : Nat} {h : Hp} : ex (d) 148 60 [some (.ref a), l1, l2, l3, l4] st h = ex d 148 61 [some (.ref a), l1, l2, l3, l4] (.ref a :: st) h := (ex_of d148_60 (d) [some (.ref a), l1, l2, l3, l4] st h).trans (rfl)
theorem d148_61 : decode (mB 148) 61 = .ok (.getfield 9, 3) := by decide +kernel
theorem x148_61 {d : Nat} {L : Lc} {st : List Value} {a : Nat} {h : Hp} (ht : (h.2.1 a).1 = 11) : ex (d) 148 61 L (.ref a :: st) h = ex d 148 64 L (h.1 a 2 :: st) h := (ex_of d148_61 (d) L (.ref a :: st) h).trans (fin_get (mi := 148) f11_9 (tg1 ht rfl))
theorem d148_64 : decode (mB 148) 64 = .ok (.iload_n 1, 1) := by decide +kernel
theorem x148_64 {d : Nat} {l0 l2 l3 l4 : Option Value} {st : List Value} {x : Int32} {h : Hp} : ex (d) 148 64 [l0, some (.int x), l2, l3, l4] st h = ex d 148 65 [l0, some (.int x), l2, l3, l4] (.int x :: st) h := (ex_of d148_64 (d) [l0, some (.int x), l2, l3, l4] st h).trans (rfl)
theorem d148_65 : decode (mB 148) 65 = .ok (.iaload, 1) := by decide +kernel
theorem x148_65 {d : Nat} {L : Lc} {st : List Value} {a j : Nat} {h : Hp} (ht : (h.2.1 a).1 = 20) (hj : j < (h.2.1 a).2) (hb : j < 2147483648) : ex (d) 148 65 L (.int (nI j) :: .ref a :: st) h = ex d 148 66 L (h.1 a j :: st) h := (ex_of d148_65 (d) L (.int (nI j) :: .ref a :: st) h).trans (fin_iaload (Or.inl ht) hj hb)
theorem d148_66 : decode (mB 148) 66 = .ok (.bipush 6, 2) := by decide +kernel
theorem x148_66 {d : Nat} {L : Lc} {st : List Value} {h : Hp} : ex (d) 148 66 L st h = ex d 148 68 L (.int (nI 6) :: st) h := (ex_of d148_66 (d) L st h).trans (rfl)
theorem d148_68 : decode (mB 148) 68 = .ok (.if_icmp .ne 11, 3) := by decide +kernel
theorem x148_68 {d : Nat} {L : Lc} {st : List Value} {x y : Int32} {h : Hp} : ex (d) 148 68 L (.int y :: .int x :: st) h = if ¬ x = y then ex d 148 79 L st h else ex d 148 71 L st h := (ex_of d148_68 (d) L (.int y :: .int x :: st) h).trans (fin_brq (off := 11) (tgt := 79) rfl (by decide))
theorem d148_71 : decode (mB 148) 71 = .ok (.iload_n 3, 1) := by decide +kernel
theorem x148_71 {d : Nat} {l0 l1 l2 l4 : Option Value} {st : List Value} {x : Int32} {h : Hp} : ex (d) 148 71 [l0, l1, l2, some (.int x), l4] st h = ex d 148 72 [l0, l1, l2, some (.int x), l4] (.int x :: st) h := (ex_of d148_71 (d) [l0, l1, l2, some (.int x), l4] st h).trans (rfl)
theorem d148_72 : decode (mB 148) 72 = .ok (.sipush 255, 3) := by decide +kernel
theorem x148_72 {d : Nat} {L : Lc} {st : List Value} {h : Hp} : ex (d) 148 72 L st h = ex d 148 75 L (.int (nI 255) :: st) h := (ex_of d148_72 (d) L st h).trans (rfl)
theorem d148_75 : decode (mB 148) 75 = .ok (.iand, 1) := by decide +kernel
theorem x148_75 {d : Nat} {L : Lc} {st : List Value} {x y : Int32} {h : Hp} : ex (d) 148 75 L (.int y :: .int x :: st) h = ex d 148 76 L (.int (x &&& y) :: st) h := (ex_of d148_75 (d) L (.int y :: .int x :: st) h).trans (rfl)
theorem d148_76 : decode (mB 148) 76 = .ok (.goto 22, 3) := by decide +kernel
theorem x148_76 {d : Nat} {L : Lc} {st : List Value} {h : Hp} : ex (d) 148 76 L st h = ex d 148 98 L st h := (ex_of d148_76 (d) L st h).trans (rfl)
theorem d148_79 : decode (mB 148) 79 = .ok (.aload_n 0, 1) := by decide +kernel
theorem x148_79 {d : Nat} {l1 l2 l3 l4 : Option Value} {st : List Value} {a : Nat} {h : Hp} : ex (d) 148 79 [some (.ref a), l1, l2, l3, l4] st h = ex d 148 80 [some (.ref a), l1, l2, l3, l4] (.ref a :: st) h := (ex_of d148_79 (d) [some (.ref a), l1, l2, l3, l4] st h).trans (rfl)
theorem d148_80 : decode (mB 148) 80 = .ok (.getfield 9, 3) := by decide +kernel
theorem x148_80 {d : Nat} {L : Lc} {st : List Value} {a : Nat} {h : Hp} (ht : (h.2.1 a).1 = 11) : ex (d) 148 80 L (.ref a :: st) h = ex d 148 83 L (h.1 a 2 :: st) h := (ex_of d148_80 (d) L (.ref a :: st) h).trans (fin_get (mi := 148) f11_9 (tg1 ht rfl))
theorem d148_83 : decode (mB 148) 83 = .ok (.iload_n 1, 1) := by decide +kernel
theorem x148_83 {d : Nat} {l0 l2 l3 l4 : Option Value} {st : List Value} {x : Int32} {h : Hp} : ex (d) 148 83 [l0, some (.int x), l2, l3, l4] st h = ex d 148 84 [l0, some (.int x), l2, l3, l4] (.int x :: st) h := (ex_of d148_83 (d) [l0, some (.int x), l2, l3, l4] st h).trans (rfl)
theorem d148_84 : decode (mB 148) 84 = .ok (.iaload, 1) := by decide +kernel
theorem x148_84 {d : Nat} {L : Lc} {st : List Value} {a j : Nat} {h : Hp} (ht : (h.2.1 a).1 = 20) (hj : j < (h.2.1 a).2) (hb : j < 2147483648) : ex (d) 148 84 L (.int (nI j) :: .ref a :: st) h = ex d 148 85 L (h.1 a j :: st) h := (ex_of d148_84 (d) L (.int (nI j) :: .ref a :: st) h).trans (fin_iaload (Or.inl ht) hj hb)
theorem d148_85 : decode (mB 148) 85 = .ok (.bipush 8, 2) := by decide +kernel
theorem x148_85 {d : Nat} {L : Lc} {st : List Value} {h : Hp} : ex (d) 148 85 L st h = ex d 148 87 L (.int (nI 8) :: st) h := (ex_of d148_85 (d) L st h).trans (rfl)
theorem d148_87 : decode (mB 148) 87 = .ok (.if_icmp .ne 10, 3) := by decide +kernel
theorem x148_87 {d : Nat} {L : Lc} {st : List Value} {x y : Int32} {h : Hp} : ex (d) 148 87 L (.int y :: .int x :: st) h = if ¬ x = y then ex d 148 97 L st h else ex d 148 90 L st h := (ex_of d148_87 (d) L (.int y :: .int x :: st) h).trans (fin_brq (off := 10) (tgt := 97) rfl (by decide))
theorem d148_90 : decode (mB 148) 90 = .ok (.iload_n 3, 1) := by decide +kernel
theorem x148_90 {d : Nat} {l0 l1 l2 l4 : Option Value} {st : List Value} {x : Int32} {h : Hp} : ex (d) 148 90 [l0, l1, l2, some (.int x), l4] st h = ex d 148 91 [l0, l1, l2, some (.int x), l4] (.int x :: st) h := (ex_of d148_90 (d) [l0, l1, l2, some (.int x), l4] st h).trans (rfl)
theorem d148_91 : decode (mB 148) 91 = .ok (.ldc 124, 2) := by decide +kernel
theorem x148_91 {d : Nat} {L : Lc} {st : List Value} {h : Hp} : ex (d) 148 91 L st h = ex d 148 93 L (.int (nI 65535) :: st) h := (ex_of d148_91 (d) L st h).trans (fin_ldc (mi := 148) c11_124)
theorem d148_93 : decode (mB 148) 93 = .ok (.iand, 1) := by decide +kernel
theorem x148_93 {d : Nat} {L : Lc} {st : List Value} {x y : Int32} {h : Hp} : ex (d) 148 93 L (.int y :: .int x :: st) h = ex d 148 94 L (.int (x &&& y) :: st) h := (ex_of d148_93 (d) L (.int y :: .int x :: st) h).trans (rfl)
theorem d148_94 : decode (mB 148) 94 = .ok (.goto 4, 3) := by decide +kernel
theorem x148_94 {d : Nat} {L : Lc} {st : List Value} {h : Hp} : ex (d) 148 94 L st h = ex d 148 98 L st h := (ex_of d148_94 (d) L st h).trans (rfl)
theorem d148_97 : decode (mB 148) 97 = .ok (.iload_n 3, 1) := by decide +kernel
theorem x148_97 {d : Nat} {l0 l1 l2 l4 : Option Value} {st : List Value} {x : Int32} {h : Hp} : ex (d) 148 97 [l0, l1, l2, some (.int x), l4] st h = ex d 148 98 [l0, l1, l2, some (.int x), l4] (.int x :: st) h := (ex_of d148_97 (d) [l0, l1, l2, some (.int x), l4] st h).trans (rfl)
theorem d148_98 : decode (mB 148) 98 = .ok (.iastore, 1) := by decide +kernel
theorem x148_98 {d : Nat} {L : Lc} {st : List Value} {a j : Nat} {x : Int32} {h : Hp} (ht : (h.2.1 a).1 = 20) (hj : j < (h.2.1 a).2) (hb : j < 2147483648) : ex (d) 148 98 L (.int x :: .int (nI j) :: .ref a :: st) h = ex d 148 99 L st (mup h.1 a j (.int x), h.2) := (ex_of d148_98 (d) L (.int x :: .int (nI j) :: .ref a :: st) h).trans (fin_iastore ht hj hb)
theorem d148_99 : decode (mB 148) 99 = .ok (.aload_n 0, 1) := by decide +kernel
theorem x148_99 {d : Nat} {l1 l2 l3 l4 : Option Value} {st : List Value} {a : Nat} {h : Hp} : ex (d) 148 99 [some (.ref a), l1, l2, l3, l4] st h = ex d 148 100 [some (.ref a), l1, l2, l3, l4] (.ref a :: st) h := (ex_of d148_99 (d) [some (.ref a), l1, l2, l3, l4] st h).trans (rfl)
theorem d148_100 : decode (mB 148) 100 = .ok (.iconst 1, 1) := by decide +kernel
theorem x148_100 {d : Nat} {L : Lc} {st : List Value} {h : Hp} : ex (d) 148 100 L st h = ex d 148 101 L (.int (nI 1) :: st) h := (ex_of d148_100 (d) L st h).trans (rfl)
theorem d148_101 : decode (mB 148) 101 = .ok (.invokevirtual 113, 3) := by decide +kernel
theorem x148_101 {d : Nat} {L : Lc} {a : Nat} {v0 : Int32} {h : Hp} (ht : (h.2.1 a).1 = 11) : ex (d + 1) 148 101 L (.int v0 :: .ref a :: []) h = bnd (ex d 134 0 [some (.ref a), some (.int v0)] [] h) (fun v h' => ex (d + 1) 148 104 L (v.toList ++ []) h') := (ex_of d148_101 (d + 1) L (.int v0 :: .ref a :: []) h).trans (fin_vi (mi := 148) i11_113 ht rfl rfl (by simp [cat1_i, cat1_r]) (by simp) (Nat.le_of_ble_eq_true rfl))
theorem d148_104 : decode (mB 148) 104 = .ok (.ireturn, 1) := by decide +kernel
theorem x148_104 {d : Nat} {L : Lc} {x : Int32} {h : Hp} : ex (d) 148 104 L [.int x] h = some (some (.int x), h) := (ex_of d148_104 (d) L [.int x] h).trans (rfl)
theorem d149_0 : decode (mB 149) 0 = .ok (.aload_n 0, 1) := by decide +kernel
theorem x149_0 {d : Nat} {l1 l2 l3 l4 : Option Value} {st : List Value} {a : Nat} {h : Hp} : ex (d) 149 0 [some (.ref a), l1, l2, l3, l4] st h = ex d 149 1 [some (.ref a), l1, l2, l3, l4] (.ref a :: st) h := (ex_of d149_0 (d) [some (.ref a), l1, l2, l3, l4] st h).trans (rfl)
theorem d149_1 : decode (mB 149) 1 = .ok (.iload_n 1, 1) := by decide +kernel
theorem x149_1 {d : Nat} {l0 l2 l3 l4 : Option Value} {st : List Value} {x : Int32} {h : Hp} : ex (d) 149 1 [l0, some (.int x), l2, l3, l4] st h = ex d 149 2 [l0, some (.int x), l2, l3, l4] (.int x :: st) h := (ex_of d149_1 (d) [l0, some (.int x), l2, l3, l4] st h).trans (rfl)
theorem d149_2 : decode (mB 149) 2 = .ok (.iload_n 2, 1) := by decide +kernel
theorem x149_2 {d : Nat} {l0 l1 l3 l4 : Option Value} {st : List Value} {x : Int32} {h : Hp} : ex (d) 149 2 [l0, l1, some (.int x), l3, l4] st h = ex d 149 3 [l0, l1, some (.int x), l3, l4] (.int x :: st) h := (ex_of d149_2 (d) [l0, l1, some (.int x), l3, l4] st h).trans (rfl)
theorem d149_3 : decode (mB 149) 3 = .ok (.invokevirtual 120, 3) := by decide +kernel
theorem x149_3 {d : Nat} {L : Lc} {a : Nat} {v0 : Int32} {v1 : Int32} {h : Hp} (ht : (h.2.1 a).1 = 11) : ex (d + 1) 149 3 L (.int v1 :: .int v0 :: .ref a :: []) h = bnd (ex d 147 0 [some (.ref a), some (.int v0), some (.int v1)] [] h) (fun v h' => ex (d + 1) 149 6 L (v.toList ++ []) h') := (ex_of d149_3 (d + 1) L (.int v1 :: .int v0 :: .ref a :: []) h).trans (fin_vi (mi := 149) i11_120 ht rfl rfl (by simp [cat1_i, cat1_r]) (by simp) (Nat.le_of_ble_eq_true rfl))
theorem d149_6 : decode (mB 149) 6 = .ok (.istore_n 3, 1) := by decide +kernel
theorem x149_6 {d : Nat} {l0 l1 l2 l3 l4 : Option Value} {st : List Value} {x : Int32} {h : Hp} : ex (d) 149 6 [l0, l1, l2, l3, l4] (.int x :: st) h = ex d 149 7 [l0, l1, clr l2, some (.int x), l4] st h := (ex_of d149_6 (d) [l0, l1, l2, l3, l4] (.int x :: st) h).trans (rfl)
theorem d149_7 : decode (mB 149) 7 = .ok (.iload_n 3, 1) := by decide +kernel
theorem x149_7 {d : Nat} {l0 l1 l2 l4 : Option Value} {st : List Value} {x : Int32} {h : Hp} : ex (d) 149 7 [l0, l1, l2, some (.int x), l4] st h = ex d 149 8 [l0, l1, l2, some (.int x), l4] (.int x :: st) h := (ex_of d149_7 (d) [l0, l1, l2, some (.int x), l4] st h).trans (rfl)
theorem d149_8 : decode (mB 149) 8 = .ok (.ifCond .le 9, 3) := by decide +kernel
theorem x149_8 {d : Nat} {L : Lc} {st : List Value} {x : Int32} {h : Hp} : ex (d) 149 8 L (.int x :: st) h = if x ≤ 0 then ex d 149 17 L st h else ex d 149 11 L st h := (ex_of d149_8 (d) L (.int x :: st) h).trans (fin_brq (off := 9) (tgt := 17) rfl (by decide))
theorem d149_11 : decode (mB 149) 11 = .ok (.aload_n 0, 1) := by decide +kernel
theorem x149_11 {d : Nat} {l1 l2 l3 l4 : Option Value} {st : List Value} {a : Nat} {h : Hp} : ex (d) 149 11 [some (.ref a), l1, l2, l3, l4] st h = ex d 149 12 [some (.ref a), l1, l2, l3, l4] (.ref a :: st) h := (ex_of d149_11 (d) [some (.ref a), l1, l2, l3, l4] st h).trans (rfl)
theorem d149_12 : decode (mB 149) 12 = .ok (.iload_n 3, 1) := by decide +kernel
theorem x149_12 {d : Nat} {l0 l1 l2 l4 : Option Value} {st : List Value} {x : Int32} {h : Hp} : ex (d) 149 12 [l0, l1, l2, some (.int x), l4] st h = ex d 149 13 [l0, l1, l2, some (.int x), l4] (.int x :: st) h := (ex_of d149_12 (d) [l0, l1, l2, some (.int x), l4] st h).trans (rfl)
theorem d149_13 : decode (mB 149) 13 = .ok (.invokevirtual 109, 3) := by decide +kernel
theorem x149_13 {d : Nat} {L : Lc} {a : Nat} {v0 : Int32} {h : Hp} (ht : (h.2.1 a).1 = 11) : ex (d + 1) 149 13 L (.int v0 :: .ref a :: []) h = bnd (ex d 135 0 [some (.ref a), some (.int v0)] [] h) (fun v h' => ex (d + 1) 149 16 L (v.toList ++ []) h') := (ex_of d149_13 (d + 1) L (.int v0 :: .ref a :: []) h).trans (fin_vi (mi := 149) i11_109 ht rfl rfl (by simp [cat1_i, cat1_r]) (by simp) (Nat.le_of_ble_eq_true rfl))
theorem d149_16 : decode (mB 149) 16 = .ok (.ireturn, 1) := by decide +kernel
theorem x149_16 {d : Nat} {L : Lc} {x : Int32} {h : Hp} : ex (d) 149 16 L [.int x] h = some (some (.int x), h) := (ex_of d149_16 (d) L [.int x] h).trans (rfl)
theorem d149_17 : decode (mB 149) 17 = .ok (.aload_n 0, 1) := by decide +kernel
theorem x149_17 {d : Nat} {l1 l2 l3 l4 : Option Value} {st : List Value} {a : Nat} {h : Hp} : ex (d) 149 17 [some (.ref a), l1, l2, l3, l4] st h = ex d 149 18 [some (.ref a), l1, l2, l3, l4] (.ref a :: st) h := (ex_of d149_17 (d) [some (.ref a), l1, l2, l3, l4] st h).trans (rfl)
theorem d149_18 : decode (mB 149) 18 = .ok (.getfield 37, 3) := by decide +kernel
theorem x149_18 {d : Nat} {L : Lc} {st : List Value} {a : Nat} {h : Hp} (ht : (h.2.1 a).1 = 11) : ex (d) 149 18 L (.ref a :: st) h = ex d 149 21 L (h.1 a 12 :: st) h := (ex_of d149_18 (d) L (.ref a :: st) h).trans (fin_get (mi := 149) f11_37 (tg1 ht rfl))
theorem d149_21 : decode (mB 149) 21 = .ok (.bipush 40, 2) := by decide +kernel
theorem x149_21 {d : Nat} {L : Lc} {st : List Value} {h : Hp} : ex (d) 149 21 L st h = ex d 149 23 L (.int (nI 40) :: st) h := (ex_of d149_21 (d) L st h).trans (rfl)
theorem d149_23 : decode (mB 149) 23 = .ok (.iload_n 1, 1) := by decide +kernel
theorem x149_23 {d : Nat} {l0 l2 l3 l4 : Option Value} {st : List Value} {x : Int32} {h : Hp} : ex (d) 149 23 [l0, some (.int x), l2, l3, l4] st h = ex d 149 24 [l0, some (.int x), l2, l3, l4] (.int x :: st) h := (ex_of d149_23 (d) [l0, some (.int x), l2, l3, l4] st h).trans (rfl)
theorem d149_24 : decode (mB 149) 24 = .ok (.imul, 1) := by decide +kernel
theorem x149_24 {d : Nat} {L : Lc} {st : List Value} {x y : Int32} {h : Hp} : ex (d) 149 24 L (.int y :: .int x :: st) h = ex d 149 25 L (.int (x * y) :: st) h := (ex_of d149_24 (d) L (.int y :: .int x :: st) h).trans (rfl)
theorem d149_25 : decode (mB 149) 25 = .ok (.iload_n 2, 1) := by decide +kernel
theorem x149_25 {d : Nat} {l0 l1 l3 l4 : Option Value} {st : List Value} {x : Int32} {h : Hp} : ex (d) 149 25 [l0, l1, some (.int x), l3, l4] st h = ex d 149 26 [l0, l1, some (.int x), l3, l4] (.int x :: st) h := (ex_of d149_25 (d) [l0, l1, some (.int x), l3, l4] st h).trans (rfl)
theorem d149_26 : decode (mB 149) 26 = .ok (.iadd, 1) := by decide +kernel
theorem x149_26 {d : Nat} {L : Lc} {st : List Value} {x y : Int32} {h : Hp} : ex (d) 149 26 L (.int y :: .int x :: st) h = ex d 149 27 L (.int (x + y) :: st) h := (ex_of d149_26 (d) L (.int y :: .int x :: st) h).trans (rfl)
theorem d149_27 : decode (mB 149) 27 = .ok (.iaload, 1) := by decide +kernel
theorem x149_27 {d : Nat} {L : Lc} {st : List Value} {a j : Nat} {h : Hp} (ht : (h.2.1 a).1 = 20) (hj : j < (h.2.1 a).2) (hb : j < 2147483648) : ex (d) 149 27 L (.int (nI j) :: .ref a :: st) h = ex d 149 28 L (h.1 a j :: st) h := (ex_of d149_27 (d) L (.int (nI j) :: .ref a :: st) h).trans (fin_iaload (Or.inl ht) hj hb)
theorem d149_28 : decode (mB 149) 28 = .ok (.istore 4, 2) := by decide +kernel
theorem x149_28 {d : Nat} {l0 l1 l2 l3 l4 : Option Value} {st : List Value} {x : Int32} {h : Hp} : ex (d) 149 28 [l0, l1, l2, l3, l4] (.int x :: st) h = ex d 149 30 [l0, l1, l2, clr l3, some (.int x)] st h := (ex_of d149_28 (d) [l0, l1, l2, l3, l4] (.int x :: st) h).trans (rfl)
theorem d149_30 : decode (mB 149) 30 = .ok (.aload_n 0, 1) := by decide +kernel
theorem x149_30 {d : Nat} {l1 l2 l3 l4 : Option Value} {st : List Value} {a : Nat} {h : Hp} : ex (d) 149 30 [some (.ref a), l1, l2, l3, l4] st h = ex d 149 31 [some (.ref a), l1, l2, l3, l4] (.ref a :: st) h := (ex_of d149_30 (d) [some (.ref a), l1, l2, l3, l4] st h).trans (rfl)
theorem d149_31 : decode (mB 149) 31 = .ok (.getfield 9, 3) := by decide +kernel
theorem x149_31 {d : Nat} {L : Lc} {st : List Value} {a : Nat} {h : Hp} (ht : (h.2.1 a).1 = 11) : ex (d) 149 31 L (.ref a :: st) h = ex d 149 34 L (h.1 a 2 :: st) h := (ex_of d149_31 (d) L (.ref a :: st) h).trans (fin_get (mi := 149) f11_9 (tg1 ht rfl))
theorem d149_34 : decode (mB 149) 34 = .ok (.iload_n 1, 1) := by decide +kernel
theorem x149_34 {d : Nat} {l0 l2 l3 l4 : Option Value} {st : List Value} {x : Int32} {h : Hp} : ex (d) 149 34 [l0, some (.int x), l2, l3, l4] st h = ex d 149 35 [l0, some (.int x), l2, l3, l4] (.int x :: st) h := (ex_of d149_34 (d) [l0, some (.int x), l2, l3, l4] st h).trans (rfl)
theorem d149_35 : decode (mB 149) 35 = .ok (.iaload, 1) := by decide +kernel
theorem x149_35 {d : Nat} {L : Lc} {st : List Value} {a j : Nat} {h : Hp} (ht : (h.2.1 a).1 = 20) (hj : j < (h.2.1 a).2) (hb : j < 2147483648) : ex (d) 149 35 L (.int (nI j) :: .ref a :: st) h = ex d 149 36 L (h.1 a j :: st) h := (ex_of d149_35 (d) L (.int (nI j) :: .ref a :: st) h).trans (fin_iaload (Or.inl ht) hj hb)
theorem d149_36 : decode (mB 149) 36 = .ok (.bipush 7, 2) := by decide +kernel
theorem x149_36 {d : Nat} {L : Lc} {st : List Value} {h : Hp} : ex (d) 149 36 L st h = ex d 149 38 L (.int (nI 7) :: st) h := (ex_of d149_36 (d) L st h).trans (rfl)
theorem d149_38 : decode (mB 149) 38 = .ok (.if_icmp .eq 10, 3) := by decide +kernel
theorem x149_38 {d : Nat} {L : Lc} {st : List Value} {x y : Int32} {h : Hp} : ex (d) 149 38 L (.int y :: .int x :: st) h = if x = y then ex d 149 48 L st h else ex d 149 41 L st h := (ex_of d149_38 (d) L (.int y :: .int x :: st) h).trans (fin_brq (off := 10) (tgt := 48) rfl (by decide))
theorem d149_41 : decode (mB 149) 41 = .ok (.aload_n 0, 1) := by decide +kernel
theorem x149_41 {d : Nat} {l1 l2 l3 l4 : Option Value} {st : List Value} {a : Nat} {h : Hp} : ex (d) 149 41 [some (.ref a), l1, l2, l3, l4] st h = ex d 149 42 [some (.ref a), l1, l2, l3, l4] (.ref a :: st) h := (ex_of d149_41 (d) [some (.ref a), l1, l2, l3, l4] st h).trans (rfl)
theorem d149_42 : decode (mB 149) 42 = .ok (.iload 4, 2) := by decide +kernel
theorem x149_42 {d : Nat} {l0 l1 l2 l3 : Option Value} {st : List Value} {x : Int32} {h : Hp} : ex (d) 149 42 [l0, l1, l2, l3, some (.int x)] st h = ex d 149 44 [l0, l1, l2, l3, some (.int x)] (.int x :: st) h := (ex_of d149_42 (d) [l0, l1, l2, l3, some (.int x)] st h).trans (rfl)
theorem d149_44 : decode (mB 149) 44 = .ok (.invokevirtual 113, 3) := by decide +kernel
theorem x149_44 {d : Nat} {L : Lc} {a : Nat} {v0 : Int32} {h : Hp} (ht : (h.2.1 a).1 = 11) : ex (d + 1) 149 44 L (.int v0 :: .ref a :: []) h = bnd (ex d 134 0 [some (.ref a), some (.int v0)] [] h) (fun v h' => ex (d + 1) 149 47 L (v.toList ++ []) h') := (ex_of d149_44 (d + 1) L (.int v0 :: .ref a :: []) h).trans (fin_vi (mi := 149) i11_113 ht rfl rfl (by simp [cat1_i, cat1_r]) (by simp) (Nat.le_of_ble_eq_true rfl))
theorem d149_47 : decode (mB 149) 47 = .ok (.ireturn, 1) := by decide +kernel
theorem x149_47 {d : Nat} {L : Lc} {x : Int32} {h : Hp} : ex (d) 149 47 L [.int x] h = some (some (.int x), h) := (ex_of d149_47 (d) L [.int x] h).trans (rfl)
theorem d149_48 : decode (mB 149) 48 = .ok (.iload 4, 2) := by decide +kernel
theorem x149_48 {d : Nat} {l0 l1 l2 l3 : Option Value} {st : List Value} {x : Int32} {h : Hp} : ex (d) 149 48 [l0, l1, l2, l3, some (.int x)] st h = ex d 149 50 [l0, l1, l2, l3, some (.int x)] (.int x :: st) h := (ex_of d149_48 (d) [l0, l1, l2, l3, some (.int x)] st h).trans (rfl)
theorem d149_50 : decode (mB 149) 50 = .ok (.iconst (-1), 1) := by decide +kernel
theorem x149_50 {d : Nat} {L : Lc} {st : List Value} {h : Hp} : ex (d) 149 50 L st h = ex d 149 51 L (.int (-1) :: st) h := (ex_of d149_50 (d) L st h).trans (rfl)
theorem d149_51 : decode (mB 149) 51 = .ok (.if_icmp .ne 12, 3) := by decide +kernel
theorem x149_51 {d : Nat} {L : Lc} {st : List Value} {x y : Int32} {h : Hp} : ex (d) 149 51 L (.int y :: .int x :: st) h = if ¬ x = y then ex d 149 63 L st h else ex d 149 54 L st h := (ex_of d149_51 (d) L (.int y :: .int x :: st) h).trans (fin_brq (off := 12) (tgt := 63) rfl (by decide))
theorem d149_54 : decode (mB 149) 54 = .ok (.aload_n 0, 1) := by decide +kernel
theorem x149_54 {d : Nat} {l1 l2 l3 l4 : Option Value} {st : List Value} {a : Nat} {h : Hp} : ex (d) 149 54 [some (.ref a), l1, l2, l3, l4] st h = ex d 149 55 [some (.ref a), l1, l2, l3, l4] (.ref a :: st) h := (ex_of d149_54 (d) [some (.ref a), l1, l2, l3, l4] st h).trans (rfl)
theorem d149_55 : decode (mB 149) 55 = .ok (.bipush 13, 2) := by decide +kernel
theorem x149_55 {d : Nat} {L : Lc} {st : List Value} {h : Hp} : ex (d) 149 55 L st h = ex d 149 57 L (.int (nI 13) :: st) h := (ex_of d149_55 (d) L st h).trans (rfl)
theorem d149_57 : decode (mB 149) 57 = .ok (.invokevirtual 109, 3) := by decide +kernel
theorem x149_57 {d : Nat} {L : Lc} {a : Nat} {v0 : Int32} {h : Hp} (ht : (h.2.1 a).1 = 11) : ex (d + 1) 149 57 L (.int v0 :: .ref a :: []) h = bnd (ex d 135 0 [some (.ref a), some (.int v0)] [] h) (fun v h' => ex (d + 1) 149 60 L (v.toList ++ []) h') := (ex_of d149_57 (d + 1) L (.int v0 :: .ref a :: []) h).trans (fin_vi (mi := 149) i11_109 ht rfl rfl (by simp [cat1_i, cat1_r]) (by simp) (Nat.le_of_ble_eq_true rfl))
theorem d149_60 : decode (mB 149) 60 = .ok (.goto 24, 3) := by decide +kernel
theorem x149_60 {d : Nat} {L : Lc} {st : List Value} {h : Hp} : ex (d) 149 60 L st h = ex d 149 84 L st h := (ex_of d149_60 (d) L st h).trans (rfl)
theorem d149_63 : decode (mB 149) 63 = .ok (.aload_n 0, 1) := by decide +kernel
theorem x149_63 {d : Nat} {l1 l2 l3 l4 : Option Value} {st : List Value} {a : Nat} {h : Hp} : ex (d) 149 63 [some (.ref a), l1, l2, l3, l4] st h = ex d 149 64 [some (.ref a), l1, l2, l3, l4] (.ref a :: st) h := (ex_of d149_63 (d) [some (.ref a), l1, l2, l3, l4] st h).trans (rfl)
theorem d149_64 : decode (mB 149) 64 = .ok (.iload 4, 2) := by decide +kernel
theorem x149_64 {d : Nat} {l0 l1 l2 l3 : Option Value} {st : List Value} {x : Int32} {h : Hp} : ex (d) 149 64 [l0, l1, l2, l3, some (.int x)] st h = ex d 149 66 [l0, l1, l2, l3, some (.int x)] (.int x :: st) h := (ex_of d149_64 (d) [l0, l1, l2, l3, some (.int x)] st h).trans (rfl)
theorem d149_66 : decode (mB 149) 66 = .ok (.bipush (-2), 2) := by decide +kernel
theorem x149_66 {d : Nat} {L : Lc} {st : List Value} {h : Hp} : ex (d) 149 66 L st h = ex d 149 68 L (.int (-2) :: st) h := (ex_of d149_66 (d) L st h).trans (rfl)
theorem d149_68 : decode (mB 149) 68 = .ok (.if_icmp .ne 8, 3) := by decide +kernel
theorem x149_68 {d : Nat} {L : Lc} {st : List Value} {x y : Int32} {h : Hp} : ex (d) 149 68 L (.int y :: .int x :: st) h = if ¬ x = y then ex d 149 76 L st h else ex d 149 71 L st h := (ex_of d149_68 (d) L (.int y :: .int x :: st) h).trans (fin_brq (off := 8) (tgt := 76) rfl (by decide))
theorem d149_71 : decode (mB 149) 71 = .ok (.ldc 125, 2) := by decide +kernel
theorem x149_71 {d : Nat} {L : Lc} {st : List Value} {h : Hp} : ex (d) 149 71 L st h = ex d 149 73 L (.int (nI 2147483647) :: st) h := (ex_of d149_71 (d) L st h).trans (fin_ldc (mi := 149) c11_125)
theorem d149_73 : decode (mB 149) 73 = .ok (.goto 8, 3) := by decide +kernel
theorem x149_73 {d : Nat} {L : Lc} {st : List Value} {h : Hp} : ex (d) 149 73 L st h = ex d 149 81 L st h := (ex_of d149_73 (d) L st h).trans (rfl)
theorem d149_76 : decode (mB 149) 76 = .ok (.iload 4, 2) := by decide +kernel
theorem x149_76 {d : Nat} {l0 l1 l2 l3 : Option Value} {st : List Value} {x : Int32} {h : Hp} : ex (d) 149 76 [l0, l1, l2, l3, some (.int x)] st h = ex d 149 78 [l0, l1, l2, l3, some (.int x)] (.int x :: st) h := (ex_of d149_76 (d) [l0, l1, l2, l3, some (.int x)] st h).trans (rfl)
theorem d149_78 : decode (mB 149) 78 = .ok (.bipush 10, 2) := by decide +kernel
theorem x149_78 {d : Nat} {L : Lc} {st : List Value} {h : Hp} : ex (d) 149 78 L st h = ex d 149 80 L (.int (nI 10) :: st) h := (ex_of d149_78 (d) L st h).trans (rfl)
theorem d149_80 : decode (mB 149) 80 = .ok (.idiv, 1) := by decide +kernel
theorem x149_80 {d : Nat} {L : Lc} {st : List Value} {x y : Int32} {h : Hp} (hy : ¬ y = 0) : ex (d) 149 80 L (.int y :: .int x :: st) h = ex d 149 81 L (.int (x / y) :: st) h := (ex_of d149_80 (d) L (.int y :: .int x :: st) h).trans (fin_div hy)
theorem d149_81 : decode (mB 149) 81 = .ok (.invokevirtual 113, 3) := by decide +kernel
theorem x149_81 {d : Nat} {L : Lc} {a : Nat} {v0 : Int32} {h : Hp} (ht : (h.2.1 a).1 = 11) : ex (d + 1) 149 81 L (.int v0 :: .ref a :: []) h = bnd (ex d 134 0 [some (.ref a), some (.int v0)] [] h) (fun v h' => ex (d + 1) 149 84 L (v.toList ++ []) h') := (ex_of d149_81 (d + 1) L (.int v0 :: .ref a :: []) h).trans (fin_vi (mi := 149) i11_113 ht rfl rfl (by simp [cat1_i, cat1_r]) (by simp) (Nat.le_of_ble_eq_true rfl))
theorem d149_84 : decode (mB 149) 84 = .ok (.ireturn, 1) := by decide +kernel
theorem x149_84 {d : Nat} {L : Lc} {x : Int32} {h : Hp} : ex (d) 149 84 L [.int x] h = some (some (.int x), h) := (ex_of d149_84 (d) L [.int x] h).trans (rfl)
theorem d150_0 : decode (mB 150) 0 = .ok (.aload_n 0, 1) := by decide +kernel
theorem x150_0 {d : Nat} {l1 : Option Value} {st : List Value} {a : Nat} {h : Hp} : ex (d) 150 0 [some (.ref a), l1] st h = ex d 150 1 [some (.ref a), l1] (.ref a :: st) h := (ex_of d150_0 (d) [some (.ref a), l1] st h).trans (rfl)
theorem d150_1 : decode (mB 150) 1 = .ok (.iload_n 1, 1) := by decide +kernel
theorem x150_1 {d : Nat} {l0 : Option Value} {st : List Value} {x : Int32} {h : Hp} : ex (d) 150 1 [l0, some (.int x)] st h = ex d 150 2 [l0, some (.int x)] (.int x :: st) h := (ex_of d150_1 (d) [l0, some (.int x)] st h).trans (rfl)
theorem d150_2 : decode (mB 150) 2 = .ok (.invokevirtual 105, 3) := by decide +kernel
theorem x150_2 {d : Nat} {L : Lc} {a : Nat} {v0 : Int32} {h : Hp} (ht : (h.2.1 a).1 = 11) : ex (d + 1) 150 2 L (.int v0 :: .ref a :: []) h = bnd (ex d 136 0 [some (.ref a), some (.int v0)] [] h) (fun v h' => ex (d + 1) 150 5 L (v.toList ++ []) h') := (ex_of d150_2 (d + 1) L (.int v0 :: .ref a :: []) h).trans (fin_vi (mi := 150) i11_105 ht rfl rfl (by simp [cat1_i, cat1_r]) (by simp) (Nat.le_of_ble_eq_true rfl))
theorem d150_5 : decode (mB 150) 5 = .ok (.ifCond .eq 16, 3) := by decide +kernel
theorem x150_5 {d : Nat} {L : Lc} {st : List Value} {x : Int32} {h : Hp} : ex (d) 150 5 L (.int x :: st) h = if x = 0 then ex d 150 21 L st h else ex d 150 8 L st h := (ex_of d150_5 (d) L (.int x :: st) h).trans (fin_brq (off := 16) (tgt := 21) rfl (by decide))
theorem d150_8 : decode (mB 150) 8 = .ok (.aload_n 0, 1) := by decide +kernel
theorem x150_8 {d : Nat} {l1 : Option Value} {st : List Value} {a : Nat} {h : Hp} : ex (d) 150 8 [some (.ref a), l1] st h = ex d 150 9 [some (.ref a), l1] (.ref a :: st) h := (ex_of d150_8 (d) [some (.ref a), l1] st h).trans (rfl)
theorem d150_9 : decode (mB 150) 9 = .ok (.aload_n 0, 1) := by decide +kernel
theorem x150_9 {d : Nat} {l1 : Option Value} {st : List Value} {a : Nat} {h : Hp} : ex (d) 150 9 [some (.ref a), l1] st h = ex d 150 10 [some (.ref a), l1] (.ref a :: st) h := (ex_of d150_9 (d) [some (.ref a), l1] st h).trans (rfl)
theorem d150_10 : decode (mB 150) 10 = .ok (.getfield 9, 3) := by decide +kernel
theorem x150_10 {d : Nat} {L : Lc} {st : List Value} {a : Nat} {h : Hp} (ht : (h.2.1 a).1 = 11) : ex (d) 150 10 L (.ref a :: st) h = ex d 150 13 L (h.1 a 2 :: st) h := (ex_of d150_10 (d) L (.ref a :: st) h).trans (fin_get (mi := 150) f11_9 (tg1 ht rfl))
theorem d150_13 : decode (mB 150) 13 = .ok (.iload_n 1, 1) := by decide +kernel
theorem x150_13 {d : Nat} {l0 : Option Value} {st : List Value} {x : Int32} {h : Hp} : ex (d) 150 13 [l0, some (.int x)] st h = ex d 150 14 [l0, some (.int x)] (.int x :: st) h := (ex_of d150_13 (d) [l0, some (.int x)] st h).trans (rfl)
theorem d150_14 : decode (mB 150) 14 = .ok (.iaload, 1) := by decide +kernel
theorem x150_14 {d : Nat} {L : Lc} {st : List Value} {a j : Nat} {h : Hp} (ht : (h.2.1 a).1 = 20) (hj : j < (h.2.1 a).2) (hb : j < 2147483648) : ex (d) 150 14 L (.int (nI j) :: .ref a :: st) h = ex d 150 15 L (h.1 a j :: st) h := (ex_of d150_14 (d) L (.int (nI j) :: .ref a :: st) h).trans (fin_iaload (Or.inl ht) hj hb)
theorem d150_15 : decode (mB 150) 15 = .ok (.invokevirtual 113, 3) := by decide +kernel
theorem x150_15 {d : Nat} {L : Lc} {a : Nat} {v0 : Int32} {h : Hp} (ht : (h.2.1 a).1 = 11) : ex (d + 1) 150 15 L (.int v0 :: .ref a :: []) h = bnd (ex d 134 0 [some (.ref a), some (.int v0)] [] h) (fun v h' => ex (d + 1) 150 18 L (v.toList ++ []) h') := (ex_of d150_15 (d + 1) L (.int v0 :: .ref a :: []) h).trans (fin_vi (mi := 150) i11_113 ht rfl rfl (by simp [cat1_i, cat1_r]) (by simp) (Nat.le_of_ble_eq_true rfl))
theorem d150_18 : decode (mB 150) 18 = .ok (.goto 9, 3) := by decide +kernel
theorem x150_18 {d : Nat} {L : Lc} {st : List Value} {h : Hp} : ex (d) 150 18 L st h = ex d 150 27 L st h := (ex_of d150_18 (d) L st h).trans (rfl)
theorem d150_21 : decode (mB 150) 21 = .ok (.aload_n 0, 1) := by decide +kernel
theorem x150_21 {d : Nat} {l1 : Option Value} {st : List Value} {a : Nat} {h : Hp} : ex (d) 150 21 [some (.ref a), l1] st h = ex d 150 22 [some (.ref a), l1] (.ref a :: st) h := (ex_of d150_21 (d) [some (.ref a), l1] st h).trans (rfl)
theorem d150_22 : decode (mB 150) 22 = .ok (.bipush 10, 2) := by decide +kernel
theorem x150_22 {d : Nat} {L : Lc} {st : List Value} {h : Hp} : ex (d) 150 22 L st h = ex d 150 24 L (.int (nI 10) :: st) h := (ex_of d150_22 (d) L st h).trans (rfl)
theorem d150_24 : decode (mB 150) 24 = .ok (.invokevirtual 109, 3) := by decide +kernel
theorem x150_24 {d : Nat} {L : Lc} {a : Nat} {v0 : Int32} {h : Hp} (ht : (h.2.1 a).1 = 11) : ex (d + 1) 150 24 L (.int v0 :: .ref a :: []) h = bnd (ex d 135 0 [some (.ref a), some (.int v0)] [] h) (fun v h' => ex (d + 1) 150 27 L (v.toList ++ []) h') := (ex_of d150_24 (d + 1) L (.int v0 :: .ref a :: []) h).trans (fin_vi (mi := 150) i11_109 ht rfl rfl (by simp [cat1_i, cat1_r]) (by simp) (Nat.le_of_ble_eq_true rfl))
theorem d150_27 : decode (mB 150) 27 = .ok (.ireturn, 1) := by decide +kernel
theorem x150_27 {d : Nat} {L : Lc} {x : Int32} {h : Hp} : ex (d) 150 27 L [.int x] h = some (some (.int x), h) := (ex_of d150_27 (d) L [.int x] h).trans (rfl)
theorem d151_0 : decode (mB 151) 0 = .ok (.aload_n 0, 1) := by decide +kernel
theorem x151_0 {d : Nat} {l1 : Option Value} {st : List Value} {a : Nat} {h : Hp} : ex (d) 151 0 [some (.ref a), l1] st h = ex d 151 1 [some (.ref a), l1] (.ref a :: st) h := (ex_of d151_0 (d) [some (.ref a), l1] st h).trans (rfl)
theorem d151_1 : decode (mB 151) 1 = .ok (.iload_n 1, 1) := by decide +kernel
theorem x151_1 {d : Nat} {l0 : Option Value} {st : List Value} {x : Int32} {h : Hp} : ex (d) 151 1 [l0, some (.int x)] st h = ex d 151 2 [l0, some (.int x)] (.int x :: st) h := (ex_of d151_1 (d) [l0, some (.int x)] st h).trans (rfl)
theorem d151_2 : decode (mB 151) 2 = .ok (.invokevirtual 105, 3) := by decide +kernel
theorem x151_2 {d : Nat} {L : Lc} {a : Nat} {v0 : Int32} {h : Hp} (ht : (h.2.1 a).1 = 11) : ex (d + 1) 151 2 L (.int v0 :: .ref a :: []) h = bnd (ex d 136 0 [some (.ref a), some (.int v0)] [] h) (fun v h' => ex (d + 1) 151 5 L (v.toList ++ []) h') := (ex_of d151_2 (d + 1) L (.int v0 :: .ref a :: []) h).trans (fin_vi (mi := 151) i11_105 ht rfl rfl (by simp [cat1_i, cat1_r]) (by simp) (Nat.le_of_ble_eq_true rfl))
theorem d151_5 : decode (mB 151) 5 = .ok (.ifCond .eq 16, 3) := by decide +kernel
theorem x151_5 {d : Nat} {L : Lc} {st : List Value} {x : Int32} {h : Hp} : ex (d) 151 5 L (.int x :: st) h = if x = 0 then ex d 151 21 L st h else ex d 151 8 L st h := (ex_of d151_5 (d) L (.int x :: st) h).trans (fin_brq (off := 16) (tgt := 21) rfl (by decide))
theorem d151_8 : decode (mB 151) 8 = .ok (.aload_n 0, 1) := by decide +kernel
theorem x151_8 {d : Nat} {l1 : Option Value} {st : List Value} {a : Nat} {h : Hp} : ex (d) 151 8 [some (.ref a), l1] st h = ex d 151 9 [some (.ref a), l1] (.ref a :: st) h := (ex_of d151_8 (d) [some (.ref a), l1] st h).trans (rfl)
theorem d151_9 : decode (mB 151) 9 = .ok (.aload_n 0, 1) := by decide +kernel
theorem x151_9 {d : Nat} {l1 : Option Value} {st : List Value} {a : Nat} {h : Hp} : ex (d) 151 9 [some (.ref a), l1] st h = ex d 151 10 [some (.ref a), l1] (.ref a :: st) h := (ex_of d151_9 (d) [some (.ref a), l1] st h).trans (rfl)
theorem d151_10 : decode (mB 151) 10 = .ok (.getfield 13, 3) := by decide +kernel
theorem x151_10 {d : Nat} {L : Lc} {st : List Value} {a : Nat} {h : Hp} (ht : (h.2.1 a).1 = 11) : ex (d) 151 10 L (.ref a :: st) h = ex d 151 13 L (h.1 a 3 :: st) h := (ex_of d151_10 (d) L (.ref a :: st) h).trans (fin_get (mi := 151) f11_13 (tg1 ht rfl))
theorem d151_13 : decode (mB 151) 13 = .ok (.iload_n 1, 1) := by decide +kernel
theorem x151_13 {d : Nat} {l0 : Option Value} {st : List Value} {x : Int32} {h : Hp} : ex (d) 151 13 [l0, some (.int x)] st h = ex d 151 14 [l0, some (.int x)] (.int x :: st) h := (ex_of d151_13 (d) [l0, some (.int x)] st h).trans (rfl)
theorem d151_14 : decode (mB 151) 14 = .ok (.iaload, 1) := by decide +kernel
theorem x151_14 {d : Nat} {L : Lc} {st : List Value} {a j : Nat} {h : Hp} (ht : (h.2.1 a).1 = 20) (hj : j < (h.2.1 a).2) (hb : j < 2147483648) : ex (d) 151 14 L (.int (nI j) :: .ref a :: st) h = ex d 151 15 L (h.1 a j :: st) h := (ex_of d151_14 (d) L (.int (nI j) :: .ref a :: st) h).trans (fin_iaload (Or.inl ht) hj hb)
theorem d151_15 : decode (mB 151) 15 = .ok (.invokevirtual 113, 3) := by decide +kernel
theorem x151_15 {d : Nat} {L : Lc} {a : Nat} {v0 : Int32} {h : Hp} (ht : (h.2.1 a).1 = 11) : ex (d + 1) 151 15 L (.int v0 :: .ref a :: []) h = bnd (ex d 134 0 [some (.ref a), some (.int v0)] [] h) (fun v h' => ex (d + 1) 151 18 L (v.toList ++ []) h') := (ex_of d151_15 (d + 1) L (.int v0 :: .ref a :: []) h).trans (fin_vi (mi := 151) i11_113 ht rfl rfl (by simp [cat1_i, cat1_r]) (by simp) (Nat.le_of_ble_eq_true rfl))
theorem d151_18 : decode (mB 151) 18 = .ok (.goto 9, 3) := by decide +kernel
theorem x151_18 {d : Nat} {L : Lc} {st : List Value} {h : Hp} : ex (d) 151 18 L st h = ex d 151 27 L st h := (ex_of d151_18 (d) L st h).trans (rfl)
theorem d151_21 : decode (mB 151) 21 = .ok (.aload_n 0, 1) := by decide +kernel
theorem x151_21 {d : Nat} {l1 : Option Value} {st : List Value} {a : Nat} {h : Hp} : ex (d) 151 21 [some (.ref a), l1] st h = ex d 151 22 [some (.ref a), l1] (.ref a :: st) h := (ex_of d151_21 (d) [some (.ref a), l1] st h).trans (rfl)
theorem d151_22 : decode (mB 151) 22 = .ok (.bipush 10, 2) := by decide +kernel
theorem x151_22 {d : Nat} {L : Lc} {st : List Value} {h : Hp} : ex (d) 151 22 L st h = ex d 151 24 L (.int (nI 10) :: st) h := (ex_of d151_22 (d) L st h).trans (rfl)
theorem d151_24 : decode (mB 151) 24 = .ok (.invokevirtual 109, 3) := by decide +kernel
theorem x151_24 {d : Nat} {L : Lc} {a : Nat} {v0 : Int32} {h : Hp} (ht : (h.2.1 a).1 = 11) : ex (d + 1) 151 24 L (.int v0 :: .ref a :: []) h = bnd (ex d 135 0 [some (.ref a), some (.int v0)] [] h) (fun v h' => ex (d + 1) 151 27 L (v.toList ++ []) h') := (ex_of d151_24 (d + 1) L (.int v0 :: .ref a :: []) h).trans (fin_vi (mi := 151) i11_109 ht rfl rfl (by simp [cat1_i, cat1_r]) (by simp) (Nat.le_of_ble_eq_true rfl))
theorem d151_27 : decode (mB 151) 27 = .ok (.ireturn, 1) := by decide +kernel
theorem x151_27 {d : Nat} {L : Lc} {x : Int32} {h : Hp} : ex (d) 151 27 L [.int x] h = some (some (.int x), h) := (ex_of d151_27 (d) L [.int x] h).trans (rfl)
theorem d152_0 : decode (mB 152) 0 = .ok (.aload_n 0, 1) := by decide +kernel
theorem x152_0 {d : Nat} {l1 : Option Value} {st : List Value} {a : Nat} {h : Hp} : ex (d) 152 0 [some (.ref a), l1] st h = ex d 152 1 [some (.ref a), l1] (.ref a :: st) h := (ex_of d152_0 (d) [some (.ref a), l1] st h).trans (rfl)
theorem d152_1 : decode (mB 152) 1 = .ok (.iload_n 1, 1) := by decide +kernel
theorem x152_1 {d : Nat} {l0 : Option Value} {st : List Value} {x : Int32} {h : Hp} : ex (d) 152 1 [l0, some (.int x)] st h = ex d 152 2 [l0, some (.int x)] (.int x :: st) h := (ex_of d152_1 (d) [l0, some (.int x)] st h).trans (rfl)
theorem d152_2 : decode (mB 152) 2 = .ok (.invokevirtual 105, 3) := by decide +kernel
theorem x152_2 {d : Nat} {L : Lc} {a : Nat} {v0 : Int32} {h : Hp} (ht : (h.2.1 a).1 = 11) : ex (d + 1) 152 2 L (.int v0 :: .ref a :: []) h = bnd (ex d 136 0 [some (.ref a), some (.int v0)] [] h) (fun v h' => ex (d + 1) 152 5 L (v.toList ++ []) h') := (ex_of d152_2 (d + 1) L (.int v0 :: .ref a :: []) h).trans (fin_vi (mi := 152) i11_105 ht rfl rfl (by simp [cat1_i, cat1_r]) (by simp) (Nat.le_of_ble_eq_true rfl))
theorem d152_5 : decode (mB 152) 5 = .ok (.ifCond .ne 12, 3) := by decide +kernel
theorem x152_5 {d : Nat} {L : Lc} {st : List Value} {x : Int32} {h : Hp} : ex (d) 152 5 L (.int x :: st) h = if ¬ x = 0 then ex d 152 17 L st h else ex d 152 8 L st h := (ex_of d152_5 (d) L (.int x :: st) h).trans (fin_brq (off := 12) (tgt := 17) rfl (by decide))
theorem d152_8 : decode (mB 152) 8 = .ok (.aload_n 0, 1) := by decide +kernel
theorem x152_8 {d : Nat} {l1 : Option Value} {st : List Value} {a : Nat} {h : Hp} : ex (d) 152 8 [some (.ref a), l1] st h = ex d 152 9 [some (.ref a), l1] (.ref a :: st) h := (ex_of d152_8 (d) [some (.ref a), l1] st h).trans (rfl)
theorem d152_9 : decode (mB 152) 9 = .ok (.bipush 10, 2) := by decide +kernel
theorem x152_9 {d : Nat} {L : Lc} {st : List Value} {h : Hp} : ex (d) 152 9 L st h = ex d 152 11 L (.int (nI 10) :: st) h := (ex_of d152_9 (d) L st h).trans (rfl)
theorem d152_11 : decode (mB 152) 11 = .ok (.invokevirtual 109, 3) := by decide +kernel
theorem x152_11 {d : Nat} {L : Lc} {a : Nat} {v0 : Int32} {h : Hp} (ht : (h.2.1 a).1 = 11) : ex (d + 1) 152 11 L (.int v0 :: .ref a :: []) h = bnd (ex d 135 0 [some (.ref a), some (.int v0)] [] h) (fun v h' => ex (d + 1) 152 14 L (v.toList ++ []) h') := (ex_of d152_11 (d + 1) L (.int v0 :: .ref a :: []) h).trans (fin_vi (mi := 152) i11_109 ht rfl rfl (by simp [cat1_i, cat1_r]) (by simp) (Nat.le_of_ble_eq_true rfl))
theorem d152_14 : decode (mB 152) 14 = .ok (.goto 32, 3) := by decide +kernel
theorem x152_14 {d : Nat} {L : Lc} {st : List Value} {h : Hp} : ex (d) 152 14 L st h = ex d 152 46 L st h := (ex_of d152_14 (d) L st h).trans (rfl)
theorem d152_17 : decode (mB 152) 17 = .ok (.aload_n 0, 1) := by decide +kernel
theorem x152_17 {d : Nat} {l1 : Option Value} {st : List Value} {a : Nat} {h : Hp} : ex (d) 152 17 [some (.ref a), l1] st h = ex d 152 18 [some (.ref a), l1] (.ref a :: st) h := (ex_of d152_17 (d) [some (.ref a), l1] st h).trans (rfl)
theorem d152_18 : decode (mB 152) 18 = .ok (.getfield 13, 3) := by decide +kernel
theorem x152_18 {d : Nat} {L : Lc} {st : List Value} {a : Nat} {h : Hp} (ht : (h.2.1 a).1 = 11) : ex (d) 152 18 L (.ref a :: st) h = ex d 152 21 L (h.1 a 3 :: st) h := (ex_of d152_18 (d) L (.ref a :: st) h).trans (fin_get (mi := 152) f11_13 (tg1 ht rfl))
theorem d152_21 : decode (mB 152) 21 = .ok (.iload_n 1, 1) := by decide +kernel
theorem x152_21 {d : Nat} {l0 : Option Value} {st : List Value} {x : Int32} {h : Hp} : ex (d) 152 21 [l0, some (.int x)] st h = ex d 152 22 [l0, some (.int x)] (.int x :: st) h := (ex_of d152_21 (d) [l0, some (.int x)] st h).trans (rfl)
theorem d152_22 : decode (mB 152) 22 = .ok (.iaload, 1) := by decide +kernel
theorem x152_22 {d : Nat} {L : Lc} {st : List Value} {a j : Nat} {h : Hp} (ht : (h.2.1 a).1 = 20) (hj : j < (h.2.1 a).2) (hb : j < 2147483648) : ex (d) 152 22 L (.int (nI j) :: .ref a :: st) h = ex d 152 23 L (h.1 a j :: st) h := (ex_of d152_22 (d) L (.int (nI j) :: .ref a :: st) h).trans (fin_iaload (Or.inl ht) hj hb)
theorem d152_23 : decode (mB 152) 23 = .ok (.iconst 1, 1) := by decide +kernel
theorem x152_23 {d : Nat} {L : Lc} {st : List Value} {h : Hp} : ex (d) 152 23 L st h = ex d 152 24 L (.int (nI 1) :: st) h := (ex_of d152_23 (d) L st h).trans (rfl)
theorem d152_24 : decode (mB 152) 24 = .ok (.if_icmp .eq 12, 3) := by decide +kernel
theorem x152_24 {d : Nat} {L : Lc} {st : List Value} {x y : Int32} {h : Hp} : ex (d) 152 24 L (.int y :: .int x :: st) h = if x = y then ex d 152 36 L st h else ex d 152 27 L st h := (ex_of d152_24 (d) L (.int y :: .int x :: st) h).trans (fin_brq (off := 12) (tgt := 36) rfl (by decide))
theorem d152_27 : decode (mB 152) 27 = .ok (.aload_n 0, 1) := by decide +kernel
theorem x152_27 {d : Nat} {l1 : Option Value} {st : List Value} {a : Nat} {h : Hp} : ex (d) 152 27 [some (.ref a), l1] st h = ex d 152 28 [some (.ref a), l1] (.ref a :: st) h := (ex_of d152_27 (d) [some (.ref a), l1] st h).trans (rfl)
theorem d152_28 : decode (mB 152) 28 = .ok (.bipush 8, 2) := by decide +kernel
theorem x152_28 {d : Nat} {L : Lc} {st : List Value} {h : Hp} : ex (d) 152 28 L st h = ex d 152 30 L (.int (nI 8) :: st) h := (ex_of d152_28 (d) L st h).trans (rfl)
theorem d152_30 : decode (mB 152) 30 = .ok (.invokevirtual 109, 3) := by decide +kernel
theorem x152_30 {d : Nat} {L : Lc} {a : Nat} {v0 : Int32} {h : Hp} (ht : (h.2.1 a).1 = 11) : ex (d + 1) 152 30 L (.int v0 :: .ref a :: []) h = bnd (ex d 135 0 [some (.ref a), some (.int v0)] [] h) (fun v h' => ex (d + 1) 152 33 L (v.toList ++ []) h') := (ex_of d152_30 (d + 1) L (.int v0 :: .ref a :: []) h).trans (fin_vi (mi := 152) i11_109 ht rfl rfl (by simp [cat1_i, cat1_r]) (by simp) (Nat.le_of_ble_eq_true rfl))
theorem d152_33 : decode (mB 152) 33 = .ok (.goto 13, 3) := by decide +kernel
theorem x152_33 {d : Nat} {L : Lc} {st : List Value} {h : Hp} : ex (d) 152 33 L st h = ex d 152 46 L st h := (ex_of d152_33 (d) L st h).trans (rfl)
theorem d152_36 : decode (mB 152) 36 = .ok (.aload_n 0, 1) := by decide +kernel
theorem x152_36 {d : Nat} {l1 : Option Value} {st : List Value} {a : Nat} {h : Hp} : ex (d) 152 36 [some (.ref a), l1] st h = ex d 152 37 [some (.ref a), l1] (.ref a :: st) h := (ex_of d152_36 (d) [some (.ref a), l1] st h).trans (rfl)
theorem d152_37 : decode (mB 152) 37 = .ok (.aload_n 0, 1) := by decide +kernel
theorem x152_37 {d : Nat} {l1 : Option Value} {st : List Value} {a : Nat} {h : Hp} : ex (d) 152 37 [some (.ref a), l1] st h = ex d 152 38 [some (.ref a), l1] (.ref a :: st) h := (ex_of d152_37 (d) [some (.ref a), l1] st h).trans (rfl)
theorem d152_38 : decode (mB 152) 38 = .ok (.getfield 16, 3) := by decide +kernel
theorem x152_38 {d : Nat} {L : Lc} {st : List Value} {a : Nat} {h : Hp} (ht : (h.2.1 a).1 = 11) : ex (d) 152 38 L (.ref a :: st) h = ex d 152 41 L (h.1 a 4 :: st) h := (ex_of d152_38 (d) L (.ref a :: st) h).trans (fin_get (mi := 152) f11_16 (tg1 ht rfl))
theorem d152_41 : decode (mB 152) 41 = .ok (.iload_n 1, 1) := by decide +kernel
theorem x152_41 {d : Nat} {l0 : Option Value} {st : List Value} {x : Int32} {h : Hp} : ex (d) 152 41 [l0, some (.int x)] st h = ex d 152 42 [l0, some (.int x)] (.int x :: st) h := (ex_of d152_41 (d) [l0, some (.int x)] st h).trans (rfl)
theorem d152_42 : decode (mB 152) 42 = .ok (.iaload, 1) := by decide +kernel
theorem x152_42 {d : Nat} {L : Lc} {st : List Value} {a j : Nat} {h : Hp} (ht : (h.2.1 a).1 = 20) (hj : j < (h.2.1 a).2) (hb : j < 2147483648) : ex (d) 152 42 L (.int (nI j) :: .ref a :: st) h = ex d 152 43 L (h.1 a j :: st) h := (ex_of d152_42 (d) L (.int (nI j) :: .ref a :: st) h).trans (fin_iaload (Or.inl ht) hj hb)
theorem d152_43 : decode (mB 152) 43 = .ok (.invokevirtual 113, 3) := by decide +kernel
theorem x152_43 {d : Nat} {L : Lc} {a : Nat} {v0 : Int32} {h : Hp} (ht : (h.2.1 a).1 = 11) : ex (d + 1) 152 43 L (.int v0 :: .ref a :: []) h = bnd (ex d 134 0 [some (.ref a), some (.int v0)] [] h) (fun v h' => ex (d + 1) 152 46 L (v.toList ++ []) h') := (ex_of d152_43 (d + 1) L (.int v0 :: .ref a :: []) h).trans (fin_vi (mi := 152) i11_113 ht rfl rfl (by simp [cat1_i, cat1_r]) (by simp) (Nat.le_of_ble_eq_true rfl))
theorem d152_46 : decode (mB 152) 46 = .ok (.ireturn, 1) := by decide +kernel
theorem x152_46 {d : Nat} {L : Lc} {x : Int32} {h : Hp} : ex (d) 152 46 L [.int x] h = some (some (.int x), h) := (ex_of d152_46 (d) L [.int x] h).trans (rfl)
theorem d153_0 : decode (mB 153) 0 = .ok (.aload_n 0, 1) := by decide +kernel
theorem x153_0 {d : Nat} {st : List Value} {a : Nat} {h : Hp} : ex (d) 153 0 [some (.ref a)] st h = ex d 153 1 [some (.ref a)] (.ref a :: st) h := (ex_of d153_0 (d) [some (.ref a)] st h).trans (rfl)
theorem d153_1 : decode (mB 153) 1 = .ok (.dup, 1) := by decide +kernel
theorem x153_1 {d : Nat} {L : Lc} {st : List Value} {a : Nat} {h : Hp} : ex (d) 153 1 L (.ref a :: st) h = ex d 153 2 L (.ref a :: .ref a :: st) h := (ex_of d153_1 (d) L (.ref a :: st) h).trans (rfl)
theorem x153_1i {d : Nat} {L : Lc} {st : List Value} {x : Int32} {h : Hp} : ex (d) 153 1 L (.int x :: st) h = ex d 153 2 L (.int x :: .int x :: st) h := (ex_of d153_1 (d) L (.int x :: st) h).trans (rfl)
theorem d153_2 : decode (mB 153) 2 = .ok (.getfield 126, 3) := by decide +kernel
theorem x153_2 {d : Nat} {L : Lc} {st : List Value} {a : Nat} {h : Hp} (ht : (h.2.1 a).1 = 11) : ex (d) 153 2 L (.ref a :: st) h = ex d 153 5 L (h.1 a 14 :: st) h := (ex_of d153_2 (d) L (.ref a :: st) h).trans (fin_get (mi := 153) f11_126 (tg1 ht rfl))
theorem d153_5 : decode (mB 153) 5 = .ok (.iconst 1, 1) := by decide +kernel
theorem x153_5 {d : Nat} {L : Lc} {st : List Value} {h : Hp} : ex (d) 153 5 L st h = ex d 153 6 L (.int (nI 1) :: st) h := (ex_of d153_5 (d) L st h).trans (rfl)
theorem d153_6 : decode (mB 153) 6 = .ok (.iadd, 1) := by decide +kernel
theorem x153_6 {d : Nat} {L : Lc} {st : List Value} {x y : Int32} {h : Hp} : ex (d) 153 6 L (.int y :: .int x :: st) h = ex d 153 7 L (.int (x + y) :: st) h := (ex_of d153_6 (d) L (.int y :: .int x :: st) h).trans (rfl)
theorem d153_7 : decode (mB 153) 7 = .ok (.putfield 126, 3) := by decide +kernel
theorem x153_7 {d : Nat} {L : Lc} {st : List Value} {a : Nat} {x : Int32} {h : Hp} (ht : (h.2.1 a).1 = 11) : ex (d) 153 7 L (.int x :: .ref a :: st) h = ex d 153 10 L st (mup h.1 a 14 (.int x), h.2) := (ex_of d153_7 (d) L (.int x :: .ref a :: st) h).trans (fin_put (mi := 153) f11_126 ht rfl rfl (by decide +kernel))
theorem d153_10 : decode (mB 153) 10 = .ok (.aload_n 0, 1) := by decide +kernel
theorem x153_10 {d : Nat} {st : List Value} {a : Nat} {h : Hp} : ex (d) 153 10 [some (.ref a)] st h = ex d 153 11 [some (.ref a)] (.ref a :: st) h := (ex_of d153_10 (d) [some (.ref a)] st h).trans (rfl)
theorem d153_11 : decode (mB 153) 11 = .ok (.dup, 1) := by decide +kernel
theorem x153_11 {d : Nat} {L : Lc} {st : List Value} {a : Nat} {h : Hp} : ex (d) 153 11 L (.ref a :: st) h = ex d 153 12 L (.ref a :: .ref a :: st) h := (ex_of d153_11 (d) L (.ref a :: st) h).trans (rfl)
theorem x153_11i {d : Nat} {L : Lc} {st : List Value} {x : Int32} {h : Hp} : ex (d) 153 11 L (.int x :: st) h = ex d 153 12 L (.int x :: .int x :: st) h := (ex_of d153_11 (d) L (.int x :: st) h).trans (rfl)
theorem d153_12 : decode (mB 153) 12 = .ok (.getfield 129, 3) := by decide +kernel
theorem x153_12 {d : Nat} {L : Lc} {st : List Value} {a : Nat} {h : Hp} (ht : (h.2.1 a).1 = 11) : ex (d) 153 12 L (.ref a :: st) h = ex d 153 15 L (h.1 a 15 :: st) h := (ex_of d153_12 (d) L (.ref a :: st) h).trans (fin_get (mi := 153) f11_129 (tg1 ht rfl))
theorem d153_15 : decode (mB 153) 15 = .ok (.iconst 1, 1) := by decide +kernel
theorem x153_15 {d : Nat} {L : Lc} {st : List Value} {h : Hp} : ex (d) 153 15 L st h = ex d 153 16 L (.int (nI 1) :: st) h := (ex_of d153_15 (d) L st h).trans (rfl)
theorem d153_16 : decode (mB 153) 16 = .ok (.iadd, 1) := by decide +kernel
theorem x153_16 {d : Nat} {L : Lc} {st : List Value} {x y : Int32} {h : Hp} : ex (d) 153 16 L (.int y :: .int x :: st) h = ex d 153 17 L (.int (x + y) :: st) h := (ex_of d153_16 (d) L (.int y :: .int x :: st) h).trans (rfl)
theorem d153_17 : decode (mB 153) 17 = .ok (.putfield 129, 3) := by decide +kernel
theorem x153_17 {d : Nat} {L : Lc} {st : List Value} {a : Nat} {x : Int32} {h : Hp} (ht : (h.2.1 a).1 = 11) : ex (d) 153 17 L (.int x :: .ref a :: st) h = ex d 153 20 L st (mup h.1 a 15 (.int x), h.2) := (ex_of d153_17 (d) L (.int x :: .ref a :: st) h).trans (fin_put (mi := 153) f11_129 ht rfl rfl (by decide +kernel))
theorem d153_20 : decode (mB 153) 20 = .ok (.return_, 1) := by decide +kernel
theorem x153_20 {d : Nat} {L : Lc}  {h : Hp} : ex (d) 153 20 L [] h = some (none, h) := (ex_of d153_20 (d) L [] h).trans (rfl)
theorem d154_0 : decode (mB 154) 0 = .ok (.aload_n 0, 1) := by decide +kernel
theorem x154_0 {d : Nat} {l1 l2 : Option Value} {st : List Value} {a : Nat} {h : Hp} : ex (d) 154 0 [some (.ref a), l1, l2] st h = ex d 154 1 [some (.ref a), l1, l2] (.ref a :: st) h := (ex_of d154_0 (d) [some (.ref a), l1, l2] st h).trans (rfl)
theorem d154_1 : decode (mB 154) 1 = .ok (.getfield 25, 3) := by decide +kernel
theorem x154_1 {d : Nat} {L : Lc} {st : List Value} {a : Nat} {h : Hp} (ht : (h.2.1 a).1 = 11) : ex (d) 154 1 L (.ref a :: st) h = ex d 154 4 L (h.1 a 7 :: st) h := (ex_of d154_1 (d) L (.ref a :: st) h).trans (fin_get (mi := 154) f11_25 (tg1 ht rfl))
theorem d154_4 : decode (mB 154) 4 = .ok (.bipush 40, 2) := by decide +kernel
theorem x154_4 {d : Nat} {L : Lc} {st : List Value} {h : Hp} : ex (d) 154 4 L st h = ex d 154 6 L (.int (nI 40) :: st) h := (ex_of d154_4 (d) L st h).trans (rfl)
theorem d154_6 : decode (mB 154) 6 = .ok (.iload_n 1, 1) := by decide +kernel
theorem x154_6 {d : Nat} {l0 l2 : Option Value} {st : List Value} {x : Int32} {h : Hp} : ex (d) 154 6 [l0, some (.int x), l2] st h = ex d 154 7 [l0, some (.int x), l2] (.int x :: st) h := (ex_of d154_6 (d) [l0, some (.int x), l2] st h).trans (rfl)
theorem d154_7 : decode (mB 154) 7 = .ok (.imul, 1) := by decide +kernel
theorem x154_7 {d : Nat} {L : Lc} {st : List Value} {x y : Int32} {h : Hp} : ex (d) 154 7 L (.int y :: .int x :: st) h = ex d 154 8 L (.int (x * y) :: st) h := (ex_of d154_7 (d) L (.int y :: .int x :: st) h).trans (rfl)
theorem d154_8 : decode (mB 154) 8 = .ok (.iload_n 2, 1) := by decide +kernel
theorem x154_8 {d : Nat} {l0 l1 : Option Value} {st : List Value} {x : Int32} {h : Hp} : ex (d) 154 8 [l0, l1, some (.int x)] st h = ex d 154 9 [l0, l1, some (.int x)] (.int x :: st) h := (ex_of d154_8 (d) [l0, l1, some (.int x)] st h).trans (rfl)
theorem d154_9 : decode (mB 154) 9 = .ok (.iadd, 1) := by decide +kernel
theorem x154_9 {d : Nat} {L : Lc} {st : List Value} {x y : Int32} {h : Hp} : ex (d) 154 9 L (.int y :: .int x :: st) h = ex d 154 10 L (.int (x + y) :: st) h := (ex_of d154_9 (d) L (.int y :: .int x :: st) h).trans (rfl)
theorem d154_10 : decode (mB 154) 10 = .ok (.iaload, 1) := by decide +kernel
theorem x154_10 {d : Nat} {L : Lc} {st : List Value} {a j : Nat} {h : Hp} (ht : (h.2.1 a).1 = 20) (hj : j < (h.2.1 a).2) (hb : j < 2147483648) : ex (d) 154 10 L (.int (nI j) :: .ref a :: st) h = ex d 154 11 L (h.1 a j :: st) h := (ex_of d154_10 (d) L (.int (nI j) :: .ref a :: st) h).trans (fin_iaload (Or.inl ht) hj hb)
theorem d154_11 : decode (mB 154) 11 = .ok (.ireturn, 1) := by decide +kernel
theorem x154_11 {d : Nat} {L : Lc} {x : Int32} {h : Hp} : ex (d) 154 11 L [.int x] h = some (some (.int x), h) := (ex_of d154_11 (d) L [.int x] h).trans (rfl)
theorem d155_0 : decode (mB 155) 0 = .ok (.aload_n 0, 1) := by decide +kernel
theorem x155_0 {d : Nat} {l1 l2 l3 : Option Value} {st : List Value} {a : Nat} {h : Hp} : ex (d) 155 0 [some (.ref a), l1, l2, l3] st h = ex d 155 1 [some (.ref a), l1, l2, l3] (.ref a :: st) h := (ex_of d155_0 (d) [some (.ref a), l1, l2, l3] st h).trans (rfl)
theorem d155_1 : decode (mB 155) 1 = .ok (.getfield 25, 3) := by decide +kernel
theorem x155_1 {d : Nat} {L : Lc} {st : List Value} {a : Nat} {h : Hp} (ht : (h.2.1 a).1 = 11) : ex (d) 155 1 L (.ref a :: st) h = ex d 155 4 L (h.1 a 7 :: st) h := (ex_of d155_1 (d) L (.ref a :: st) h).trans (fin_get (mi := 155) f11_25 (tg1 ht rfl))
theorem d155_4 : decode (mB 155) 4 = .ok (.bipush 40, 2) := by decide +kernel
theorem x155_4 {d : Nat} {L : Lc} {st : List Value} {h : Hp} : ex (d) 155 4 L st h = ex d 155 6 L (.int (nI 40) :: st) h := (ex_of d155_4 (d) L st h).trans (rfl)
theorem d155_6 : decode (mB 155) 6 = .ok (.aload_n 0, 1) := by decide +kernel
theorem x155_6 {d : Nat} {l1 l2 l3 : Option Value} {st : List Value} {a : Nat} {h : Hp} : ex (d) 155 6 [some (.ref a), l1, l2, l3] st h = ex d 155 7 [some (.ref a), l1, l2, l3] (.ref a :: st) h := (ex_of d155_6 (d) [some (.ref a), l1, l2, l3] st h).trans (rfl)
theorem d155_7 : decode (mB 155) 7 = .ok (.iload_n 1, 1) := by decide +kernel
theorem x155_7 {d : Nat} {l0 l2 l3 : Option Value} {st : List Value} {x : Int32} {h : Hp} : ex (d) 155 7 [l0, some (.int x), l2, l3] st h = ex d 155 8 [l0, some (.int x), l2, l3] (.int x :: st) h := (ex_of d155_7 (d) [l0, some (.int x), l2, l3] st h).trans (rfl)
theorem d155_8 : decode (mB 155) 8 = .ok (.invokevirtual 132, 3) := by decide +kernel
theorem x155_8 {d : Nat} {L : Lc} {s0 s1 : Value} {a : Nat} {v0 : Int32} {h : Hp} (ht : (h.2.1 a).1 = 11) : ex (d + 1) 155 8 L (.int v0 :: .ref a :: [s0, s1]) h = bnd (ex d 140 0 [some (.ref a), some (.int v0), none] [] h) (fun v h' => ex (d + 1) 155 11 L (v.toList ++ [s0, s1]) h') := (ex_of d155_8 (d + 1) L (.int v0 :: .ref a :: [s0, s1]) h).trans (fin_vi (mi := 155) i11_132 ht rfl rfl (by simp [cat1_i, cat1_r]) (by simp) (Nat.le_of_ble_eq_true rfl))
theorem d155_11 : decode (mB 155) 11 = .ok (.imul, 1) := by decide +kernel
theorem x155_11 {d : Nat} {L : Lc} {st : List Value} {x y : Int32} {h : Hp} : ex (d) 155 11 L (.int y :: .int x :: st) h = ex d 155 12 L (.int (x * y) :: st) h := (ex_of d155_11 (d) L (.int y :: .int x :: st) h).trans (rfl)
theorem d155_12 : decode (mB 155) 12 = .ok (.iload_n 2, 1) := by decide +kernel
theorem x155_12 {d : Nat} {l0 l1 l3 : Option Value} {st : List Value} {x : Int32} {h : Hp} : ex (d) 155 12 [l0, l1, some (.int x), l3] st h = ex d 155 13 [l0, l1, some (.int x), l3] (.int x :: st) h := (ex_of d155_12 (d) [l0, l1, some (.int x), l3] st h).trans (rfl)
theorem d155_13 : decode (mB 155) 13 = .ok (.iadd, 1) := by decide +kernel
theorem x155_13 {d : Nat} {L : Lc} {st : List Value} {x y : Int32} {h : Hp} : ex (d) 155 13 L (.int y :: .int x :: st) h = ex d 155 14 L (.int (x + y) :: st) h := (ex_of d155_13 (d) L (.int y :: .int x :: st) h).trans (rfl)
theorem d155_14 : decode (mB 155) 14 = .ok (.iload_n 3, 1) := by decide +kernel
theorem x155_14 {d : Nat} {l0 l1 l2 : Option Value} {st : List Value} {x : Int32} {h : Hp} : ex (d) 155 14 [l0, l1, l2, some (.int x)] st h = ex d 155 15 [l0, l1, l2, some (.int x)] (.int x :: st) h := (ex_of d155_14 (d) [l0, l1, l2, some (.int x)] st h).trans (rfl)
theorem d155_15 : decode (mB 155) 15 = .ok (.iastore, 1) := by decide +kernel
theorem x155_15 {d : Nat} {L : Lc} {st : List Value} {a j : Nat} {x : Int32} {h : Hp} (ht : (h.2.1 a).1 = 20) (hj : j < (h.2.1 a).2) (hb : j < 2147483648) : ex (d) 155 15 L (.int x :: .int (nI j) :: .ref a :: st) h = ex d 155 16 L st (mup h.1 a j (.int x), h.2) := (ex_of d155_15 (d) L (.int x :: .int (nI j) :: .ref a :: st) h).trans (fin_iastore ht hj hb)
theorem d155_16 : decode (mB 155) 16 = .ok (.aload_n 0, 1) := by decide +kernel
theorem x155_16 {d : Nat} {l1 l2 l3 : Option Value} {st : List Value} {a : Nat} {h : Hp} : ex (d) 155 16 [some (.ref a), l1, l2, l3] st h = ex d 155 17 [some (.ref a), l1, l2, l3] (.ref a :: st) h := (ex_of d155_16 (d) [some (.ref a), l1, l2, l3] st h).trans (rfl)
theorem d155_17 : decode (mB 155) 17 = .ok (.getfield 13, 3) := by decide +kernel
theorem x155_17 {d : Nat} {L : Lc} {st : List Value} {a : Nat} {h : Hp} (ht : (h.2.1 a).1 = 11) : ex (d) 155 17 L (.ref a :: st) h = ex d 155 20 L (h.1 a 3 :: st) h := (ex_of d155_17 (d) L (.ref a :: st) h).trans (fin_get (mi := 155) f11_13 (tg1 ht rfl))
theorem d155_20 : decode (mB 155) 20 = .ok (.iload_n 3, 1) := by decide +kernel
theorem x155_20 {d : Nat} {l0 l1 l2 : Option Value} {st : List Value} {x : Int32} {h : Hp} : ex (d) 155 20 [l0, l1, l2, some (.int x)] st h = ex d 155 21 [l0, l1, l2, some (.int x)] (.int x :: st) h := (ex_of d155_20 (d) [l0, l1, l2, some (.int x)] st h).trans (rfl)
theorem d155_21 : decode (mB 155) 21 = .ok (.iconst 1, 1) := by decide +kernel
theorem x155_21 {d : Nat} {L : Lc} {st : List Value} {h : Hp} : ex (d) 155 21 L st h = ex d 155 22 L (.int (nI 1) :: st) h := (ex_of d155_21 (d) L st h).trans (rfl)
theorem d155_22 : decode (mB 155) 22 = .ok (.iastore, 1) := by decide +kernel
theorem x155_22 {d : Nat} {L : Lc} {st : List Value} {a j : Nat} {x : Int32} {h : Hp} (ht : (h.2.1 a).1 = 20) (hj : j < (h.2.1 a).2) (hb : j < 2147483648) : ex (d) 155 22 L (.int x :: .int (nI j) :: .ref a :: st) h = ex d 155 23 L st (mup h.1 a j (.int x), h.2) := (ex_of d155_22 (d) L (.int x :: .int (nI j) :: .ref a :: st) h).trans (fin_iastore ht hj hb)
theorem d155_23 : decode (mB 155) 23 = .ok (.aload_n 0, 1) := by decide +kernel
theorem x155_23 {d : Nat} {l1 l2 l3 : Option Value} {st : List Value} {a : Nat} {h : Hp} : ex (d) 155 23 [some (.ref a), l1, l2, l3] st h = ex d 155 24 [some (.ref a), l1, l2, l3] (.ref a :: st) h := (ex_of d155_23 (d) [some (.ref a), l1, l2, l3] st h).trans (rfl)
theorem d155_24 : decode (mB 155) 24 = .ok (.getfield 16, 3) := by decide +kernel
theorem x155_24 {d : Nat} {L : Lc} {st : List Value} {a : Nat} {h : Hp} (ht : (h.2.1 a).1 = 11) : ex (d) 155 24 L (.ref a :: st) h = ex d 155 27 L (h.1 a 4 :: st) h := (ex_of d155_24 (d) L (.ref a :: st) h).trans (fin_get (mi := 155) f11_16 (tg1 ht rfl))
theorem d155_27 : decode (mB 155) 27 = .ok (.iload_n 3, 1) := by decide +kernel
theorem x155_27 {d : Nat} {l0 l1 l2 : Option Value} {st : List Value} {x : Int32} {h : Hp} : ex (d) 155 27 [l0, l1, l2, some (.int x)] st h = ex d 155 28 [l0, l1, l2, some (.int x)] (.int x :: st) h := (ex_of d155_27 (d) [l0, l1, l2, some (.int x)] st h).trans (rfl)
theorem d155_28 : decode (mB 155) 28 = .ok (.iload_n 1, 1) := by decide +kernel
theorem x155_28 {d : Nat} {l0 l2 l3 : Option Value} {st : List Value} {x : Int32} {h : Hp} : ex (d) 155 28 [l0, some (.int x), l2, l3] st h = ex d 155 29 [l0, some (.int x), l2, l3] (.int x :: st) h := (ex_of d155_28 (d) [l0, some (.int x), l2, l3] st h).trans (rfl)
theorem d155_29 : decode (mB 155) 29 = .ok (.iastore, 1) := by decide +kernel
theorem x155_29 {d : Nat} {L : Lc} {st : List Value} {a j : Nat} {x : Int32} {h : Hp} (ht : (h.2.1 a).1 = 20) (hj : j < (h.2.1 a).2) (hb : j < 2147483648) : ex (d) 155 29 L (.int x :: .int (nI j) :: .ref a :: st) h = ex d 155 30 L st (mup h.1 a j (.int x), h.2) := (ex_of d155_29 (d) L (.int x :: .int (nI j) :: .ref a :: st) h).trans (fin_iastore ht hj hb)
theorem d155_30 : decode (mB 155) 30 = .ok (.aload_n 0, 1) := by decide +kernel
theorem x155_30 {d : Nat} {l1 l2 l3 : Option Value} {st : List Value} {a : Nat} {h : Hp} : ex (d) 155 30 [some (.ref a), l1, l2, l3] st h = ex d 155 31 [some (.ref a), l1, l2, l3] (.ref a :: st) h := (ex_of d155_30 (d) [some (.ref a), l1, l2, l3] st h).trans (rfl)
theorem d155_31 : decode (mB 155) 31 = .ok (.getfield 19, 3) := by decide +kernel
theorem x155_31 {d : Nat} {L : Lc} {st : List Value} {a : Nat} {h : Hp} (ht : (h.2.1 a).1 = 11) : ex (d) 155 31 L (.ref a :: st) h = ex d 155 34 L (h.1 a 5 :: st) h := (ex_of d155_31 (d) L (.ref a :: st) h).trans (fin_get (mi := 155) f11_19 (tg1 ht rfl))
theorem d155_34 : decode (mB 155) 34 = .ok (.iload_n 3, 1) := by decide +kernel
theorem x155_34 {d : Nat} {l0 l1 l2 : Option Value} {st : List Value} {x : Int32} {h : Hp} : ex (d) 155 34 [l0, l1, l2, some (.int x)] st h = ex d 155 35 [l0, l1, l2, some (.int x)] (.int x :: st) h := (ex_of d155_34 (d) [l0, l1, l2, some (.int x)] st h).trans (rfl)
theorem d155_35 : decode (mB 155) 35 = .ok (.iload_n 2, 1) := by decide +kernel
theorem x155_35 {d : Nat} {l0 l1 l3 : Option Value} {st : List Value} {x : Int32} {h : Hp} : ex (d) 155 35 [l0, l1, some (.int x), l3] st h = ex d 155 36 [l0, l1, some (.int x), l3] (.int x :: st) h := (ex_of d155_35 (d) [l0, l1, some (.int x), l3] st h).trans (rfl)
theorem d155_36 : decode (mB 155) 36 = .ok (.iastore, 1) := by decide +kernel
theorem x155_36 {d : Nat} {L : Lc} {st : List Value} {a j : Nat} {x : Int32} {h : Hp} (ht : (h.2.1 a).1 = 20) (hj : j < (h.2.1 a).2) (hb : j < 2147483648) : ex (d) 155 36 L (.int x :: .int (nI j) :: .ref a :: st) h = ex d 155 37 L st (mup h.1 a j (.int x), h.2) := (ex_of d155_36 (d) L (.int x :: .int (nI j) :: .ref a :: st) h).trans (fin_iastore ht hj hb)
theorem d155_37 : decode (mB 155) 37 = .ok (.return_, 1) := by decide +kernel
theorem x155_37 {d : Nat} {L : Lc}  {h : Hp} : ex (d) 155 37 L [] h = some (none, h) := (ex_of d155_37 (d) L [] h).trans (rfl)
theorem d156_0 : decode (mB 156) 0 = .ok (.aload_n 0, 1) := by decide +kernel
theorem x156_0 {d : Nat} {l1 l2 : Option Value} {st : List Value} {a : Nat} {h : Hp} : ex (d) 156 0 [some (.ref a), l1, l2] st h = ex d 156 1 [some (.ref a), l1, l2] (.ref a :: st) h := (ex_of d156_0 (d) [some (.ref a), l1, l2] st h).trans (rfl)
theorem d156_1 : decode (mB 156) 1 = .ok (.getfield 25, 3) := by decide +kernel
theorem x156_1 {d : Nat} {L : Lc} {st : List Value} {a : Nat} {h : Hp} (ht : (h.2.1 a).1 = 11) : ex (d) 156 1 L (.ref a :: st) h = ex d 156 4 L (h.1 a 7 :: st) h := (ex_of d156_1 (d) L (.ref a :: st) h).trans (fin_get (mi := 156) f11_25 (tg1 ht rfl))
theorem d156_4 : decode (mB 156) 4 = .ok (.bipush 40, 2) := by decide +kernel
theorem x156_4 {d : Nat} {L : Lc} {st : List Value} {h : Hp} : ex (d) 156 4 L st h = ex d 156 6 L (.int (nI 40) :: st) h := (ex_of d156_4 (d) L st h).trans (rfl)
theorem d156_6 : decode (mB 156) 6 = .ok (.aload_n 0, 1) := by decide +kernel
theorem x156_6 {d : Nat} {l1 l2 : Option Value} {st : List Value} {a : Nat} {h : Hp} : ex (d) 156 6 [some (.ref a), l1, l2] st h = ex d 156 7 [some (.ref a), l1, l2] (.ref a :: st) h := (ex_of d156_6 (d) [some (.ref a), l1, l2] st h).trans (rfl)
theorem d156_7 : decode (mB 156) 7 = .ok (.aload_n 0, 1) := by decide +kernel
theorem x156_7 {d : Nat} {l1 l2 : Option Value} {st : List Value} {a : Nat} {h : Hp} : ex (d) 156 7 [some (.ref a), l1, l2] st h = ex d 156 8 [some (.ref a), l1, l2] (.ref a :: st) h := (ex_of d156_7 (d) [some (.ref a), l1, l2] st h).trans (rfl)
theorem d156_8 : decode (mB 156) 8 = .ok (.getfield 16, 3) := by decide +kernel
theorem x156_8 {d : Nat} {L : Lc} {st : List Value} {a : Nat} {h : Hp} (ht : (h.2.1 a).1 = 11) : ex (d) 156 8 L (.ref a :: st) h = ex d 156 11 L (h.1 a 4 :: st) h := (ex_of d156_8 (d) L (.ref a :: st) h).trans (fin_get (mi := 156) f11_16 (tg1 ht rfl))
theorem d156_11 : decode (mB 156) 11 = .ok (.iload_n 1, 1) := by decide +kernel
theorem x156_11 {d : Nat} {l0 l2 : Option Value} {st : List Value} {x : Int32} {h : Hp} : ex (d) 156 11 [l0, some (.int x), l2] st h = ex d 156 12 [l0, some (.int x), l2] (.int x :: st) h := (ex_of d156_11 (d) [l0, some (.int x), l2] st h).trans (rfl)
theorem d156_12 : decode (mB 156) 12 = .ok (.iaload, 1) := by decide +kernel
theorem x156_12 {d : Nat} {L : Lc} {st : List Value} {a j : Nat} {h : Hp} (ht : (h.2.1 a).1 = 20) (hj : j < (h.2.1 a).2) (hb : j < 2147483648) : ex (d) 156 12 L (.int (nI j) :: .ref a :: st) h = ex d 156 13 L (h.1 a j :: st) h := (ex_of d156_12 (d) L (.int (nI j) :: .ref a :: st) h).trans (fin_iaload (Or.inl ht) hj hb)
theorem d156_13 : decode (mB 156) 13 = .ok (.invokevirtual 132, 3) := by decide +kernel
theorem x156_13 {d : Nat} {L : Lc} {s0 s1 : Value} {a : Nat} {v0 : Int32} {h : Hp} (ht : (h.2.1 a).1 = 11) : ex (d + 1) 156 13 L (.int v0 :: .ref a :: [s0, s1]) h = bnd (ex d 140 0 [some (.ref a), some (.int v0), none] [] h) (fun v h' => ex (d + 1) 156 16 L (v.toList ++ [s0, s1]) h') := (ex_of d156_13 (d + 1) L (.int v0 :: .ref a :: [s0, s1]) h).trans (fin_vi (mi := 156) i11_132 ht rfl rfl (by simp [cat1_i, cat1_r]) (by simp) (Nat.le_of_ble_eq_true rfl))
theorem d156_16 : decode (mB 156) 16 = .ok (.imul, 1) := by decide +kernel
theorem x156_16 {d : Nat} {L : Lc} {st : List Value} {x y : Int32} {h : Hp} : ex (d) 156 16 L (.int y :: .int x :: st) h = ex d 156 17 L (.int (x * y) :: st) h := (ex_of d156_16 (d) L (.int y :: .int x :: st) h).trans (rfl)
theorem d156_17 : decode (mB 156) 17 = .ok (.aload_n 0, 1) := by decide +kernel
theorem x156_17 {d : Nat} {l1 l2 : Option Value} {st : List Value} {a : Nat} {h : Hp} : ex (d) 156 17 [some (.ref a), l1, l2] st h = ex d 156 18 [some (.ref a), l1, l2] (.ref a :: st) h := (ex_of d156_17 (d) [some (.ref a), l1, l2] st h).trans (rfl)
theorem d156_18 : decode (mB 156) 18 = .ok (.getfield 19, 3) := by decide +kernel
theorem x156_18 {d : Nat} {L : Lc} {st : List Value} {a : Nat} {h : Hp} (ht : (h.2.1 a).1 = 11) : ex (d) 156 18 L (.ref a :: st) h = ex d 156 21 L (h.1 a 5 :: st) h := (ex_of d156_18 (d) L (.ref a :: st) h).trans (fin_get (mi := 156) f11_19 (tg1 ht rfl))
theorem d156_21 : decode (mB 156) 21 = .ok (.iload_n 1, 1) := by decide +kernel
theorem x156_21 {d : Nat} {l0 l2 : Option Value} {st : List Value} {x : Int32} {h : Hp} : ex (d) 156 21 [l0, some (.int x), l2] st h = ex d 156 22 [l0, some (.int x), l2] (.int x :: st) h := (ex_of d156_21 (d) [l0, some (.int x), l2] st h).trans (rfl)
theorem d156_22 : decode (mB 156) 22 = .ok (.iaload, 1) := by decide +kernel
theorem x156_22 {d : Nat} {L : Lc} {st : List Value} {a j : Nat} {h : Hp} (ht : (h.2.1 a).1 = 20) (hj : j < (h.2.1 a).2) (hb : j < 2147483648) : ex (d) 156 22 L (.int (nI j) :: .ref a :: st) h = ex d 156 23 L (h.1 a j :: st) h := (ex_of d156_22 (d) L (.int (nI j) :: .ref a :: st) h).trans (fin_iaload (Or.inl ht) hj hb)
theorem d156_23 : decode (mB 156) 23 = .ok (.iadd, 1) := by decide +kernel
theorem x156_23 {d : Nat} {L : Lc} {st : List Value} {x y : Int32} {h : Hp} : ex (d) 156 23 L (.int y :: .int x :: st) h = ex d 156 24 L (.int (x + y) :: st) h := (ex_of d156_23 (d) L (.int y :: .int x :: st) h).trans (rfl)
theorem d156_24 : decode (mB 156) 24 = .ok (.iconst (-1), 1) := by decide +kernel
theorem x156_24 {d : Nat} {L : Lc} {st : List Value} {h : Hp} : ex (d) 156 24 L st h = ex d 156 25 L (.int (-1) :: st) h := (ex_of d156_24 (d) L st h).trans (rfl)
theorem d156_25 : decode (mB 156) 25 = .ok (.iastore, 1) := by decide +kernel
theorem x156_25 {d : Nat} {L : Lc} {st : List Value} {a j : Nat} {x : Int32} {h : Hp} (ht : (h.2.1 a).1 = 20) (hj : j < (h.2.1 a).2) (hb : j < 2147483648) : ex (d) 156 25 L (.int x :: .int (nI j) :: .ref a :: st) h = ex d 156 26 L st (mup h.1 a j (.int x), h.2) := (ex_of d156_25 (d) L (.int x :: .int (nI j) :: .ref a :: st) h).trans (fin_iastore ht hj hb)
theorem d156_26 : decode (mB 156) 26 = .ok (.aload_n 0, 1) := by decide +kernel
theorem x156_26 {d : Nat} {l1 l2 : Option Value} {st : List Value} {a : Nat} {h : Hp} : ex (d) 156 26 [some (.ref a), l1, l2] st h = ex d 156 27 [some (.ref a), l1, l2] (.ref a :: st) h := (ex_of d156_26 (d) [some (.ref a), l1, l2] st h).trans (rfl)
theorem d156_27 : decode (mB 156) 27 = .ok (.getfield 13, 3) := by decide +kernel
theorem x156_27 {d : Nat} {L : Lc} {st : List Value} {a : Nat} {h : Hp} (ht : (h.2.1 a).1 = 11) : ex (d) 156 27 L (.ref a :: st) h = ex d 156 30 L (h.1 a 3 :: st) h := (ex_of d156_27 (d) L (.ref a :: st) h).trans (fin_get (mi := 156) f11_13 (tg1 ht rfl))
theorem d156_30 : decode (mB 156) 30 = .ok (.iload_n 1, 1) := by decide +kernel
theorem x156_30 {d : Nat} {l0 l2 : Option Value} {st : List Value} {x : Int32} {h : Hp} : ex (d) 156 30 [l0, some (.int x), l2] st h = ex d 156 31 [l0, some (.int x), l2] (.int x :: st) h := (ex_of d156_30 (d) [l0, some (.int x), l2] st h).trans (rfl)
theorem d156_31 : decode (mB 156) 31 = .ok (.iload_n 2, 1) := by decide +kernel
theorem x156_31 {d : Nat} {l0 l1 : Option Value} {st : List Value} {x : Int32} {h : Hp} : ex (d) 156 31 [l0, l1, some (.int x)] st h = ex d 156 32 [l0, l1, some (.int x)] (.int x :: st) h := (ex_of d156_31 (d) [l0, l1, some (.int x)] st h).trans (rfl)
theorem d156_32 : decode (mB 156) 32 = .ok (.iastore, 1) := by decide +kernel
theorem x156_32 {d : Nat} {L : Lc} {st : List Value} {a j : Nat} {x : Int32} {h : Hp} (ht : (h.2.1 a).1 = 20) (hj : j < (h.2.1 a).2) (hb : j < 2147483648) : ex (d) 156 32 L (.int x :: .int (nI j) :: .ref a :: st) h = ex d 156 33 L st (mup h.1 a j (.int x), h.2) := (ex_of d156_32 (d) L (.int x :: .int (nI j) :: .ref a :: st) h).trans (fin_iastore ht hj hb)
theorem d156_33 : decode (mB 156) 33 = .ok (.aload_n 0, 1) := by decide +kernel
theorem x156_33 {d : Nat} {l1 l2 : Option Value} {st : List Value} {a : Nat} {h : Hp} : ex (d) 156 33 [some (.ref a), l1, l2] st h = ex d 156 34 [some (.ref a), l1, l2] (.ref a :: st) h := (ex_of d156_33 (d) [some (.ref a), l1, l2] st h).trans (rfl)
theorem d156_34 : decode (mB 156) 34 = .ok (.getfield 16, 3) := by decide +kernel
theorem x156_34 {d : Nat} {L : Lc} {st : List Value} {a : Nat} {h : Hp} (ht : (h.2.1 a).1 = 11) : ex (d) 156 34 L (.ref a :: st) h = ex d 156 37 L (h.1 a 4 :: st) h := (ex_of d156_34 (d) L (.ref a :: st) h).trans (fin_get (mi := 156) f11_16 (tg1 ht rfl))
theorem d156_37 : decode (mB 156) 37 = .ok (.iload_n 1, 1) := by decide +kernel
theorem x156_37 {d : Nat} {l0 l2 : Option Value} {st : List Value} {x : Int32} {h : Hp} : ex (d) 156 37 [l0, some (.int x), l2] st h = ex d 156 38 [l0, some (.int x), l2] (.int x :: st) h := (ex_of d156_37 (d) [l0, some (.int x), l2] st h).trans (rfl)
theorem d156_38 : decode (mB 156) 38 = .ok (.iconst (-1), 1) := by decide +kernel
theorem x156_38 {d : Nat} {L : Lc} {st : List Value} {h : Hp} : ex (d) 156 38 L st h = ex d 156 39 L (.int (-1) :: st) h := (ex_of d156_38 (d) L st h).trans (rfl)
theorem d156_39 : decode (mB 156) 39 = .ok (.iastore, 1) := by decide +kernel
theorem x156_39 {d : Nat} {L : Lc} {st : List Value} {a j : Nat} {x : Int32} {h : Hp} (ht : (h.2.1 a).1 = 20) (hj : j < (h.2.1 a).2) (hb : j < 2147483648) : ex (d) 156 39 L (.int x :: .int (nI j) :: .ref a :: st) h = ex d 156 40 L st (mup h.1 a j (.int x), h.2) := (ex_of d156_39 (d) L (.int x :: .int (nI j) :: .ref a :: st) h).trans (fin_iastore ht hj hb)
theorem d156_40 : decode (mB 156) 40 = .ok (.return_, 1) := by decide +kernel
theorem x156_40 {d : Nat} {L : Lc}  {h : Hp} : ex (d) 156 40 L [] h = some (none, h) := (ex_of d156_40 (d) L [] h).trans (rfl)
theorem d157_0 : decode (mB 157) 0 = .ok (.iconst 0, 1) := by decide +kernel
theorem x157_0 {d : Nat} {L : Lc} {st : List Value} {h : Hp} : ex (d) 157 0 L st h = ex d 157 1 L (.int (nI 0) :: st) h := (ex_of d157_0 (d) L st h).trans (rfl)
theorem d157_1 : decode (mB 157) 1 = .ok (.istore_n 3, 1) := by decide +kernel
theorem x157_1 {d : Nat} {l0 l1 l2 l3 l4 l5 : Option Value} {st : List Value} {x : Int32} {h : Hp} : ex (d) 157 1 [l0, l1, l2, l3, l4, l5] (.int x :: st) h = ex d 157 2 [l0, l1, clr l2, some (.int x), l4, l5] st h := (ex_of d157_1 (d) [l0, l1, l2, l3, l4, l5] (.int x :: st) h).trans (rfl)
theorem d157_2 : decode (mB 157) 2 = .ok (.iload_n 1, 1) := by decide +kernel
theorem x157_2 {d : Nat} {l0 l2 l3 l4 l5 : Option Value} {st : List Value} {x : Int32} {h : Hp} : ex (d) 157 2 [l0, some (.int x), l2, l3, l4, l5] st h = ex d 157 3 [l0, some (.int x), l2, l3, l4, l5] (.int x :: st) h := (ex_of d157_2 (d) [l0, some (.int x), l2, l3, l4, l5] st h).trans (rfl)
theorem d157_3 : decode (mB 157) 3 = .ok (.istore 4, 2) := by decide +kernel
theorem x157_3 {d : Nat} {l0 l1 l2 l3 l4 l5 : Option Value} {st : List Value} {x : Int32} {h : Hp} : ex (d) 157 3 [l0, l1, l2, l3, l4, l5] (.int x :: st) h = ex d 157 5 [l0, l1, l2, clr l3, some (.int x), l5] st h := (ex_of d157_3 (d) [l0, l1, l2, l3, l4, l5] (.int x :: st) h).trans (rfl)
theorem d157_5 : decode (mB 157) 5 = .ok (.iload 4, 2) := by decide +kernel
theorem x157_5 {d : Nat} {l0 l1 l2 l3 l5 : Option Value} {st : List Value} {x : Int32} {h : Hp} : ex (d) 157 5 [l0, l1, l2, l3, some (.int x), l5] st h = ex d 157 7 [l0, l1, l2, l3, some (.int x), l5] (.int x :: st) h := (ex_of d157_5 (d) [l0, l1, l2, l3, some (.int x), l5] st h).trans (rfl)
theorem d157_7 : decode (mB 157) 7 = .ok (.sipush 1000, 3) := by decide +kernel
theorem x157_7 {d : Nat} {L : Lc} {st : List Value} {h : Hp} : ex (d) 157 7 L st h = ex d 157 10 L (.int (nI 1000) :: st) h := (ex_of d157_7 (d) L st h).trans (rfl)
theorem d157_10 : decode (mB 157) 10 = .ok (.if_icmp .lt 68, 3) := by decide +kernel
theorem x157_10 {d : Nat} {L : Lc} {st : List Value} {x y : Int32} {h : Hp} : ex (d) 157 10 L (.int y :: .int x :: st) h = if x < y then ex d 157 78 L st h else ex d 157 13 L st h := (ex_of d157_10 (d) L (.int y :: .int x :: st) h).trans (fin_brq (off := 68) (tgt := 78) rfl (by decide))
theorem d157_13 : decode (mB 157) 13 = .ok (.iload 4, 2) := by decide +kernel
theorem x157_13 {d : Nat} {l0 l1 l2 l3 l5 : Option Value} {st : List Value} {x : Int32} {h : Hp} : ex (d) 157 13 [l0, l1, l2, l3, some (.int x), l5] st h = ex d 157 15 [l0, l1, l2, l3, some (.int x), l5] (.int x :: st) h := (ex_of d157_13 (d) [l0, l1, l2, l3, some (.int x), l5] st h).trans (rfl)
theorem d157_15 : decode (mB 157) 15 = .ok (.sipush 1000, 3) := by decide +kernel
theorem x157_15 {d : Nat} {L : Lc} {st : List Value} {h : Hp} : ex (d) 157 15 L st h = ex d 157 18 L (.int (nI 1000) :: st) h := (ex_of d157_15 (d) L st h).trans (rfl)
theorem d157_18 : decode (mB 157) 18 = .ok (.isub, 1) := by decide +kernel
theorem x157_18 {d : Nat} {L : Lc} {st : List Value} {x y : Int32} {h : Hp} : ex (d) 157 18 L (.int y :: .int x :: st) h = ex d 157 19 L (.int (x - y) :: st) h := (ex_of d157_18 (d) L (.int y :: .int x :: st) h).trans (rfl)
theorem d157_19 : decode (mB 157) 19 = .ok (.istore 5, 2) := by decide +kernel
theorem x157_19 {d : Nat} {l0 l1 l2 l3 l4 l5 : Option Value} {st : List Value} {x : Int32} {h : Hp} : ex (d) 157 19 [l0, l1, l2, l3, l4, l5] (.int x :: st) h = ex d 157 21 [l0, l1, l2, l3, clr l4, some (.int x)] st h := (ex_of d157_19 (d) [l0, l1, l2, l3, l4, l5] (.int x :: st) h).trans (rfl)
theorem d157_21 : decode (mB 157) 21 = .ok (.iload_n 3, 1) := by decide +kernel
theorem x157_21 {d : Nat} {l0 l1 l2 l4 l5 : Option Value} {st : List Value} {x : Int32} {h : Hp} : ex (d) 157 21 [l0, l1, l2, some (.int x), l4, l5] st h = ex d 157 22 [l0, l1, l2, some (.int x), l4, l5] (.int x :: st) h := (ex_of d157_21 (d) [l0, l1, l2, some (.int x), l4, l5] st h).trans (rfl)
theorem d157_22 : decode (mB 157) 22 = .ok (.iload 5, 2) := by decide +kernel
theorem x157_22 {d : Nat} {l0 l1 l2 l3 l4 : Option Value} {st : List Value} {x : Int32} {h : Hp} : ex (d) 157 22 [l0, l1, l2, l3, l4, some (.int x)] st h = ex d 157 24 [l0, l1, l2, l3, l4, some (.int x)] (.int x :: st) h := (ex_of d157_22 (d) [l0, l1, l2, l3, l4, some (.int x)] st h).trans (rfl)
theorem d157_24 : decode (mB 157) 24 = .ok (.iload_n 2, 1) := by decide +kernel
theorem x157_24 {d : Nat} {l0 l1 l3 l4 l5 : Option Value} {st : List Value} {x : Int32} {h : Hp} : ex (d) 157 24 [l0, l1, some (.int x), l3, l4, l5] st h = ex d 157 25 [l0, l1, some (.int x), l3, l4, l5] (.int x :: st) h := (ex_of d157_24 (d) [l0, l1, some (.int x), l3, l4, l5] st h).trans (rfl)
theorem d157_25 : decode (mB 157) 25 = .ok (.if_icmp .ne 8, 3) := by decide +kernel
theorem x157_25 {d : Nat} {L : Lc} {st : List Value} {x y : Int32} {h : Hp} : ex (d) 157 25 L (.int y :: .int x :: st) h = if ¬ x = y then ex d 157 33 L st h else ex d 157 28 L st h := (ex_of d157_25 (d) L (.int y :: .int x :: st) h).trans (fin_brq (off := 8) (tgt := 33) rfl (by decide))
theorem d157_28 : decode (mB 157) 28 = .ok (.bipush 100, 2) := by decide +kernel
theorem x157_28 {d : Nat} {L : Lc} {st : List Value} {h : Hp} : ex (d) 157 28 L st h = ex d 157 30 L (.int (nI 100) :: st) h := (ex_of d157_28 (d) L st h).trans (rfl)
theorem d157_30 : decode (mB 157) 30 = .ok (.goto 19, 3) := by decide +kernel
theorem x157_30 {d : Nat} {L : Lc} {st : List Value} {h : Hp} : ex (d) 157 30 L st h = ex d 157 49 L st h := (ex_of d157_30 (d) L st h).trans (rfl)
theorem d157_33 : decode (mB 157) 33 = .ok (.aload_n 0, 1) := by decide +kernel
theorem x157_33 {d : Nat} {l1 l2 l3 l4 l5 : Option Value} {st : List Value} {a : Nat} {h : Hp} : ex (d) 157 33 [some (.ref a), l1, l2, l3, l4, l5] st h = ex d 157 34 [some (.ref a), l1, l2, l3, l4, l5] (.ref a :: st) h := (ex_of d157_33 (d) [some (.ref a), l1, l2, l3, l4, l5] st h).trans (rfl)
theorem d157_34 : decode (mB 157) 34 = .ok (.getfield 9, 3) := by decide +kernel
theorem x157_34 {d : Nat} {L : Lc} {st : List Value} {a : Nat} {h : Hp} (ht : (h.2.1 a).1 = 11) : ex (d) 157 34 L (.ref a :: st) h = ex d 157 37 L (h.1 a 2 :: st) h := (ex_of d157_34 (d) L (.ref a :: st) h).trans (fin_get (mi := 157) f11_9 (tg1 ht rfl))
theorem d157_37 : decode (mB 157) 37 = .ok (.iload 5, 2) := by decide +kernel
theorem x157_37 {d : Nat} {l0 l1 l2 l3 l4 : Option Value} {st : List Value} {x : Int32} {h : Hp} : ex (d) 157 37 [l0, l1, l2, l3, l4, some (.int x)] st h = ex d 157 39 [l0, l1, l2, l3, l4, some (.int x)] (.int x :: st) h := (ex_of d157_37 (d) [l0, l1, l2, l3, l4, some (.int x)] st h).trans (rfl)
theorem d157_39 : decode (mB 157) 39 = .ok (.iaload, 1) := by decide +kernel
theorem x157_39 {d : Nat} {L : Lc} {st : List Value} {a j : Nat} {h : Hp} (ht : (h.2.1 a).1 = 20) (hj : j < (h.2.1 a).2) (hb : j < 2147483648) : ex (d) 157 39 L (.int (nI j) :: .ref a :: st) h = ex d 157 40 L (h.1 a j :: st) h := (ex_of d157_39 (d) L (.int (nI j) :: .ref a :: st) h).trans (fin_iaload (Or.inl ht) hj hb)
theorem d157_40 : decode (mB 157) 40 = .ok (.iconst 5, 1) := by decide +kernel
theorem x157_40 {d : Nat} {L : Lc} {st : List Value} {h : Hp} : ex (d) 157 40 L st h = ex d 157 41 L (.int (nI 5) :: st) h := (ex_of d157_40 (d) L st h).trans (rfl)
theorem d157_41 : decode (mB 157) 41 = .ok (.if_icmp .ne 7, 3) := by decide +kernel
theorem x157_41 {d : Nat} {L : Lc} {st : List Value} {x y : Int32} {h : Hp} : ex (d) 157 41 L (.int y :: .int x :: st) h = if ¬ x = y then ex d 157 48 L st h else ex d 157 44 L st h := (ex_of d157_41 (d) L (.int y :: .int x :: st) h).trans (fin_brq (off := 7) (tgt := 48) rfl (by decide))
theorem d157_44 : decode (mB 157) 44 = .ok (.iconst 1, 1) := by decide +kernel
theorem x157_44 {d : Nat} {L : Lc} {st : List Value} {h : Hp} : ex (d) 157 44 L st h = ex d 157 45 L (.int (nI 1) :: st) h := (ex_of d157_44 (d) L st h).trans (rfl)
theorem d157_45 : decode (mB 157) 45 = .ok (.goto 4, 3) := by decide +kernel
theorem x157_45 {d : Nat} {L : Lc} {st : List Value} {h : Hp} : ex (d) 157 45 L st h = ex d 157 49 L st h := (ex_of d157_45 (d) L st h).trans (rfl)
theorem d157_48 : decode (mB 157) 48 = .ok (.iconst 0, 1) := by decide +kernel
theorem x157_48 {d : Nat} {L : Lc} {st : List Value} {h : Hp} : ex (d) 157 48 L st h = ex d 157 49 L (.int (nI 0) :: st) h := (ex_of d157_48 (d) L st h).trans (rfl)
theorem d157_49 : decode (mB 157) 49 = .ok (.iadd, 1) := by decide +kernel
theorem x157_49 {d : Nat} {L : Lc} {st : List Value} {x y : Int32} {h : Hp} : ex (d) 157 49 L (.int y :: .int x :: st) h = ex d 157 50 L (.int (x + y) :: st) h := (ex_of d157_49 (d) L (.int y :: .int x :: st) h).trans (rfl)
theorem d157_50 : decode (mB 157) 50 = .ok (.istore_n 3, 1) := by decide +kernel
theorem x157_50 {d : Nat} {l0 l1 l2 l3 l4 l5 : Option Value} {st : List Value} {x : Int32} {h : Hp} : ex (d) 157 50 [l0, l1, l2, l3, l4, l5] (.int x :: st) h = ex d 157 51 [l0, l1, clr l2, some (.int x), l4, l5] st h := (ex_of d157_50 (d) [l0, l1, l2, l3, l4, l5] (.int x :: st) h).trans (rfl)
theorem d157_51 : decode (mB 157) 51 = .ok (.aload_n 0, 1) := by decide +kernel
theorem x157_51 {d : Nat} {l1 l2 l3 l4 l5 : Option Value} {st : List Value} {a : Nat} {h : Hp} : ex (d) 157 51 [some (.ref a), l1, l2, l3, l4, l5] st h = ex d 157 52 [some (.ref a), l1, l2, l3, l4, l5] (.ref a :: st) h := (ex_of d157_51 (d) [some (.ref a), l1, l2, l3, l4, l5] st h).trans (rfl)
theorem d157_52 : decode (mB 157) 52 = .ok (.getfield 13, 3) := by decide +kernel
theorem x157_52 {d : Nat} {L : Lc} {st : List Value} {a : Nat} {h : Hp} (ht : (h.2.1 a).1 = 11) : ex (d) 157 52 L (.ref a :: st) h = ex d 157 55 L (h.1 a 3 :: st) h := (ex_of d157_52 (d) L (.ref a :: st) h).trans (fin_get (mi := 157) f11_13 (tg1 ht rfl))
theorem d157_55 : decode (mB 157) 55 = .ok (.iload 5, 2) := by decide +kernel
theorem x157_55 {d : Nat} {l0 l1 l2 l3 l4 : Option Value} {st : List Value} {x : Int32} {h : Hp} : ex (d) 157 55 [l0, l1, l2, l3, l4, some (.int x)] st h = ex d 157 57 [l0, l1, l2, l3, l4, some (.int x)] (.int x :: st) h := (ex_of d157_55 (d) [l0, l1, l2, l3, l4, some (.int x)] st h).trans (rfl)
theorem d157_57 : decode (mB 157) 57 = .ok (.iaload, 1) := by decide +kernel
theorem x157_57 {d : Nat} {L : Lc} {st : List Value} {a j : Nat} {h : Hp} (ht : (h.2.1 a).1 = 20) (hj : j < (h.2.1 a).2) (hb : j < 2147483648) : ex (d) 157 57 L (.int (nI j) :: .ref a :: st) h = ex d 157 58 L (h.1 a j :: st) h := (ex_of d157_57 (d) L (.int (nI j) :: .ref a :: st) h).trans (fin_iaload (Or.inl ht) hj hb)
theorem d157_58 : decode (mB 157) 58 = .ok (.iconst 1, 1) := by decide +kernel
theorem x157_58 {d : Nat} {L : Lc} {st : List Value} {h : Hp} : ex (d) 157 58 L st h = ex d 157 59 L (.int (nI 1) :: st) h := (ex_of d157_58 (d) L st h).trans (rfl)
theorem d157_59 : decode (mB 157) 59 = .ok (.if_icmp .ne 13, 3) := by decide +kernel
theorem x157_59 {d : Nat} {L : Lc} {st : List Value} {x y : Int32} {h : Hp} : ex (d) 157 59 L (.int y :: .int x :: st) h = if ¬ x = y then ex d 157 72 L st h else ex d 157 62 L st h := (ex_of d157_59 (d) L (.int y :: .int x :: st) h).trans (fin_brq (off := 13) (tgt := 72) rfl (by decide))
theorem d157_62 : decode (mB 157) 62 = .ok (.aload_n 0, 1) := by decide +kernel
theorem x157_62 {d : Nat} {l1 l2 l3 l4 l5 : Option Value} {st : List Value} {a : Nat} {h : Hp} : ex (d) 157 62 [some (.ref a), l1, l2, l3, l4, l5] st h = ex d 157 63 [some (.ref a), l1, l2, l3, l4, l5] (.ref a :: st) h := (ex_of d157_62 (d) [some (.ref a), l1, l2, l3, l4, l5] st h).trans (rfl)
theorem d157_63 : decode (mB 157) 63 = .ok (.getfield 16, 3) := by decide +kernel
theorem x157_63 {d : Nat} {L : Lc} {st : List Value} {a : Nat} {h : Hp} (ht : (h.2.1 a).1 = 11) : ex (d) 157 63 L (.ref a :: st) h = ex d 157 66 L (h.1 a 4 :: st) h := (ex_of d157_63 (d) L (.ref a :: st) h).trans (fin_get (mi := 157) f11_16 (tg1 ht rfl))
theorem d157_66 : decode (mB 157) 66 = .ok (.iload 5, 2) := by decide +kernel
theorem x157_66 {d : Nat} {l0 l1 l2 l3 l4 : Option Value} {st : List Value} {x : Int32} {h : Hp} : ex (d) 157 66 [l0, l1, l2, l3, l4, some (.int x)] st h = ex d 157 68 [l0, l1, l2, l3, l4, some (.int x)] (.int x :: st) h := (ex_of d157_66 (d) [l0, l1, l2, l3, l4, some (.int x)] st h).trans (rfl)
theorem d157_68 : decode (mB 157) 68 = .ok (.iaload, 1) := by decide +kernel
theorem x157_68 {d : Nat} {L : Lc} {st : List Value} {a j : Nat} {h : Hp} (ht : (h.2.1 a).1 = 20) (hj : j < (h.2.1 a).2) (hb : j < 2147483648) : ex (d) 157 68 L (.int (nI j) :: .ref a :: st) h = ex d 157 69 L (h.1 a j :: st) h := (ex_of d157_68 (d) L (.int (nI j) :: .ref a :: st) h).trans (fin_iaload (Or.inl ht) hj hb)
theorem d157_69 : decode (mB 157) 69 = .ok (.goto 4, 3) := by decide +kernel
theorem x157_69 {d : Nat} {L : Lc} {st : List Value} {h : Hp} : ex (d) 157 69 L st h = ex d 157 73 L st h := (ex_of d157_69 (d) L st h).trans (rfl)
theorem d157_72 : decode (mB 157) 72 = .ok (.iconst (-1), 1) := by decide +kernel
theorem x157_72 {d : Nat} {L : Lc} {st : List Value} {h : Hp} : ex (d) 157 72 L st h = ex d 157 73 L (.int (-1) :: st) h := (ex_of d157_72 (d) L st h).trans (rfl)
theorem d157_73 : decode (mB 157) 73 = .ok (.istore 4, 2) := by decide +kernel
theorem x157_73 {d : Nat} {l0 l1 l2 l3 l4 l5 : Option Value} {st : List Value} {x : Int32} {h : Hp} : ex (d) 157 73 [l0, l1, l2, l3, l4, l5] (.int x :: st) h = ex d 157 75 [l0, l1, l2, clr l3, some (.int x), l5] st h := (ex_of d157_73 (d) [l0, l1, l2, l3, l4, l5] (.int x :: st) h).trans (rfl)
theorem d157_75 : decode (mB 157) 75 = .ok (.goto (-70), 3) := by decide +kernel
theorem x157_75 {d : Nat} {L : Lc} {st : List Value} {h : Hp} : ex (d) 157 75 L st h = ex d 157 5 L st h := (ex_of d157_75 (d) L st h).trans (rfl)
theorem d157_78 : decode (mB 157) 78 = .ok (.iload_n 3, 1) := by decide +kernel
theorem x157_78 {d : Nat} {l0 l1 l2 l4 l5 : Option Value} {st : List Value} {x : Int32} {h : Hp} : ex (d) 157 78 [l0, l1, l2, some (.int x), l4, l5] st h = ex d 157 79 [l0, l1, l2, some (.int x), l4, l5] (.int x :: st) h := (ex_of d157_78 (d) [l0, l1, l2, some (.int x), l4, l5] st h).trans (rfl)
theorem d157_79 : decode (mB 157) 79 = .ok (.ireturn, 1) := by decide +kernel
theorem x157_79 {d : Nat} {L : Lc} {x : Int32} {h : Hp} : ex (d) 157 79 L [.int x] h = some (some (.int x), h) := (ex_of d157_79 (d) L [.int x] h).trans (rfl)
theorem d158_0 : decode (mB 158) 0 = .ok (.iconst 0, 1) := by decide +kernel
theorem x158_0 {d : Nat} {L : Lc} {st : List Value} {h : Hp} : ex (d) 158 0 L st h = ex d 158 1 L (.int (nI 0) :: st) h := (ex_of d158_0 (d) L st h).trans (rfl)
theorem d158_1 : decode (mB 158) 1 = .ok (.istore_n 2, 1) := by decide +kernel
theorem x158_1 {d : Nat} {l0 l1 l2 l3 l4 l5 l6 : Option Value} {st : List Value} {x : Int32} {h : Hp} : ex (d) 158 1 [l0, l1, l2, l3, l4, l5, l6] (.int x :: st) h = ex d 158 2 [l0, clr l1, some (.int x), l3, l4, l5, l6] st h := (ex_of d158_1 (d) [l0, l1, l2, l3, l4, l5, l6] (.int x :: st) h).trans (rfl)
theorem d158_2 : decode (mB 158) 2 = .ok (.iconst 0, 1) := by decide +kernel
theorem x158_2 {d : Nat} {L : Lc} {st : List Value} {h : Hp} : ex (d) 158 2 L st h = ex d 158 3 L (.int (nI 0) :: st) h := (ex_of d158_2 (d) L st h).trans (rfl)
theorem d158_3 : decode (mB 158) 3 = .ok (.istore_n 3, 1) := by decide +kernel
theorem x158_3 {d : Nat} {l0 l1 l2 l3 l4 l5 l6 : Option Value} {st : List Value} {x : Int32} {h : Hp} : ex (d) 158 3 [l0, l1, l2, l3, l4, l5, l6] (.int x :: st) h = ex d 158 4 [l0, l1, clr l2, some (.int x), l4, l5, l6] st h := (ex_of d158_3 (d) [l0, l1, l2, l3, l4, l5, l6] (.int x :: st) h).trans (rfl)
theorem d158_4 : decode (mB 158) 4 = .ok (.iload_n 3, 1) := by decide +kernel
theorem x158_4 {d : Nat} {l0 l1 l2 l4 l5 l6 : Option Value} {st : List Value} {x : Int32} {h : Hp} : ex (d) 158 4 [l0, l1, l2, some (.int x), l4, l5, l6] st h = ex d 158 5 [l0, l1, l2, some (.int x), l4, l5, l6] (.int x :: st) h := (ex_of d158_4 (d) [l0, l1, l2, some (.int x), l4, l5, l6] st h).trans (rfl)
theorem d158_5 : decode (mB 158) 5 = .ok (.aload_n 0, 1) := by decide +kernel
theorem x158_5 {d : Nat} {l1 l2 l3 l4 l5 l6 : Option Value} {st : List Value} {a : Nat} {h : Hp} : ex (d) 158 5 [some (.ref a), l1, l2, l3, l4, l5, l6] st h = ex d 158 6 [some (.ref a), l1, l2, l3, l4, l5, l6] (.ref a :: st) h := (ex_of d158_5 (d) [some (.ref a), l1, l2, l3, l4, l5, l6] st h).trans (rfl)
theorem d158_6 : decode (mB 158) 6 = .ok (.getfield 95, 3) := by decide +kernel
theorem x158_6 {d : Nat} {L : Lc} {st : List Value} {a : Nat} {h : Hp} (ht : (h.2.1 a).1 = 11) : ex (d) 158 6 L (.ref a :: st) h = ex d 158 9 L (h.1 a 1 :: st) h := (ex_of d158_6 (d) L (.ref a :: st) h).trans (fin_get (mi := 158) f11_95 (tg1 ht rfl))
theorem d158_9 : decode (mB 158) 9 = .ok (.if_icmp .ge 139, 3) := by decide +kernel
theorem x158_9 {d : Nat} {L : Lc} {st : List Value} {x y : Int32} {h : Hp} : ex (d) 158 9 L (.int y :: .int x :: st) h = if y ≤ x then ex d 158 148 L st h else ex d 158 12 L st h := (ex_of d158_9 (d) L (.int y :: .int x :: st) h).trans (fin_brq (off := 139) (tgt := 148) rfl (by decide))
theorem d158_12 : decode (mB 158) 12 = .ok (.aload_n 0, 1) := by decide +kernel
theorem x158_12 {d : Nat} {l1 l2 l3 l4 l5 l6 : Option Value} {st : List Value} {a : Nat} {h : Hp} : ex (d) 158 12 [some (.ref a), l1, l2, l3, l4, l5, l6] st h = ex d 158 13 [some (.ref a), l1, l2, l3, l4, l5, l6] (.ref a :: st) h := (ex_of d158_12 (d) [some (.ref a), l1, l2, l3, l4, l5, l6] st h).trans (rfl)
theorem d158_13 : decode (mB 158) 13 = .ok (.getfield 9, 3) := by decide +kernel
theorem x158_13 {d : Nat} {L : Lc} {st : List Value} {a : Nat} {h : Hp} (ht : (h.2.1 a).1 = 11) : ex (d) 158 13 L (.ref a :: st) h = ex d 158 16 L (h.1 a 2 :: st) h := (ex_of d158_13 (d) L (.ref a :: st) h).trans (fin_get (mi := 158) f11_9 (tg1 ht rfl))
theorem d158_16 : decode (mB 158) 16 = .ok (.iload_n 3, 1) := by decide +kernel
theorem x158_16 {d : Nat} {l0 l1 l2 l4 l5 l6 : Option Value} {st : List Value} {x : Int32} {h : Hp} : ex (d) 158 16 [l0, l1, l2, some (.int x), l4, l5, l6] st h = ex d 158 17 [l0, l1, l2, some (.int x), l4, l5, l6] (.int x :: st) h := (ex_of d158_16 (d) [l0, l1, l2, some (.int x), l4, l5, l6] st h).trans (rfl)
theorem d158_17 : decode (mB 158) 17 = .ok (.iaload, 1) := by decide +kernel
theorem x158_17 {d : Nat} {L : Lc} {st : List Value} {a j : Nat} {h : Hp} (ht : (h.2.1 a).1 = 20) (hj : j < (h.2.1 a).2) (hb : j < 2147483648) : ex (d) 158 17 L (.int (nI j) :: .ref a :: st) h = ex d 158 18 L (h.1 a j :: st) h := (ex_of d158_17 (d) L (.int (nI j) :: .ref a :: st) h).trans (fin_iaload (Or.inl ht) hj hb)
theorem d158_18 : decode (mB 158) 18 = .ok (.iconst 5, 1) := by decide +kernel
theorem x158_18 {d : Nat} {L : Lc} {st : List Value} {h : Hp} : ex (d) 158 18 L st h = ex d 158 19 L (.int (nI 5) :: st) h := (ex_of d158_18 (d) L st h).trans (rfl)
theorem d158_19 : decode (mB 158) 19 = .ok (.if_icmp .eq 6, 3) := by decide +kernel
theorem x158_19 {d : Nat} {L : Lc} {st : List Value} {x y : Int32} {h : Hp} : ex (d) 158 19 L (.int y :: .int x :: st) h = if x = y then ex d 158 25 L st h else ex d 158 22 L st h := (ex_of d158_19 (d) L (.int y :: .int x :: st) h).trans (fin_brq (off := 6) (tgt := 25) rfl (by decide))
theorem d158_22 : decode (mB 158) 22 = .ok (.goto 120, 3) := by decide +kernel
theorem x158_22 {d : Nat} {L : Lc} {st : List Value} {h : Hp} : ex (d) 158 22 L st h = ex d 158 142 L st h := (ex_of d158_22 (d) L st h).trans (rfl)
theorem d158_25 : decode (mB 158) 25 = .ok (.iconst 0, 1) := by decide +kernel
theorem x158_25 {d : Nat} {L : Lc} {st : List Value} {h : Hp} : ex (d) 158 25 L st h = ex d 158 26 L (.int (nI 0) :: st) h := (ex_of d158_25 (d) L st h).trans (rfl)
theorem d158_26 : decode (mB 158) 26 = .ok (.istore 4, 2) := by decide +kernel
theorem x158_26 {d : Nat} {l0 l1 l2 l3 l4 l5 l6 : Option Value} {st : List Value} {x : Int32} {h : Hp} : ex (d) 158 26 [l0, l1, l2, l3, l4, l5, l6] (.int x :: st) h = ex d 158 28 [l0, l1, l2, clr l3, some (.int x), l5, l6] st h := (ex_of d158_26 (d) [l0, l1, l2, l3, l4, l5, l6] (.int x :: st) h).trans (rfl)
theorem d158_28 : decode (mB 158) 28 = .ok (.iload_n 3, 1) := by decide +kernel
theorem x158_28 {d : Nat} {l0 l1 l2 l4 l5 l6 : Option Value} {st : List Value} {x : Int32} {h : Hp} : ex (d) 158 28 [l0, l1, l2, some (.int x), l4, l5, l6] st h = ex d 158 29 [l0, l1, l2, some (.int x), l4, l5, l6] (.int x :: st) h := (ex_of d158_28 (d) [l0, l1, l2, some (.int x), l4, l5, l6] st h).trans (rfl)
theorem d158_29 : decode (mB 158) 29 = .ok (.istore 5, 2) := by decide +kernel
theorem x158_29 {d : Nat} {l0 l1 l2 l3 l4 l5 l6 : Option Value} {st : List Value} {x : Int32} {h : Hp} : ex (d) 158 29 [l0, l1, l2, l3, l4, l5, l6] (.int x :: st) h = ex d 158 31 [l0, l1, l2, l3, clr l4, some (.int x), l6] st h := (ex_of d158_29 (d) [l0, l1, l2, l3, l4, l5, l6] (.int x :: st) h).trans (rfl)
theorem d158_31 : decode (mB 158) 31 = .ok (.iconst 1, 1) := by decide +kernel
theorem x158_31 {d : Nat} {L : Lc} {st : List Value} {h : Hp} : ex (d) 158 31 L st h = ex d 158 32 L (.int (nI 1) :: st) h := (ex_of d158_31 (d) L st h).trans (rfl)
theorem d158_32 : decode (mB 158) 32 = .ok (.istore 6, 2) := by decide +kernel
theorem x158_32 {d : Nat} {l0 l1 l2 l3 l4 l5 l6 : Option Value} {st : List Value} {x : Int32} {h : Hp} : ex (d) 158 32 [l0, l1, l2, l3, l4, l5, l6] (.int x :: st) h = ex d 158 34 [l0, l1, l2, l3, l4, clr l5, some (.int x)] st h := (ex_of d158_32 (d) [l0, l1, l2, l3, l4, l5, l6] (.int x :: st) h).trans (rfl)
theorem d158_34 : decode (mB 158) 34 = .ok (.iload 6, 2) := by decide +kernel
theorem x158_34 {d : Nat} {l0 l1 l2 l3 l4 l5 : Option Value} {st : List Value} {x : Int32} {h : Hp} : ex (d) 158 34 [l0, l1, l2, l3, l4, l5, some (.int x)] st h = ex d 158 36 [l0, l1, l2, l3, l4, l5, some (.int x)] (.int x :: st) h := (ex_of d158_34 (d) [l0, l1, l2, l3, l4, l5, some (.int x)] st h).trans (rfl)
theorem d158_36 : decode (mB 158) 36 = .ok (.ifCond .eq 87, 3) := by decide +kernel
theorem x158_36 {d : Nat} {L : Lc} {st : List Value} {x : Int32} {h : Hp} : ex (d) 158 36 L (.int x :: st) h = if x = 0 then ex d 158 123 L st h else ex d 158 39 L st h := (ex_of d158_36 (d) L (.int x :: st) h).trans (fin_brq (off := 87) (tgt := 123) rfl (by decide))
theorem d158_39 : decode (mB 158) 39 = .ok (.iload 4, 2) := by decide +kernel
theorem x158_39 {d : Nat} {l0 l1 l2 l3 l5 l6 : Option Value} {st : List Value} {x : Int32} {h : Hp} : ex (d) 158 39 [l0, l1, l2, l3, some (.int x), l5, l6] st h = ex d 158 41 [l0, l1, l2, l3, some (.int x), l5, l6] (.int x :: st) h := (ex_of d158_39 (d) [l0, l1, l2, l3, some (.int x), l5, l6] st h).trans (rfl)
theorem d158_41 : decode (mB 158) 41 = .ok (.aload_n 0, 1) := by decide +kernel
theorem x158_41 {d : Nat} {l1 l2 l3 l4 l5 l6 : Option Value} {st : List Value} {a : Nat} {h : Hp} : ex (d) 158 41 [some (.ref a), l1, l2, l3, l4, l5, l6] st h = ex d 158 42 [some (.ref a), l1, l2, l3, l4, l5, l6] (.ref a :: st) h := (ex_of d158_41 (d) [some (.ref a), l1, l2, l3, l4, l5, l6] st h).trans (rfl)
theorem d158_42 : decode (mB 158) 42 = .ok (.getfield 9, 3) := by decide +kernel
theorem x158_42 {d : Nat} {L : Lc} {st : List Value} {a : Nat} {h : Hp} (ht : (h.2.1 a).1 = 11) : ex (d) 158 42 L (.ref a :: st) h = ex d 158 45 L (h.1 a 2 :: st) h := (ex_of d158_42 (d) L (.ref a :: st) h).trans (fin_get (mi := 158) f11_9 (tg1 ht rfl))
theorem d158_45 : decode (mB 158) 45 = .ok (.iload 5, 2) := by decide +kernel
theorem x158_45 {d : Nat} {l0 l1 l2 l3 l4 l6 : Option Value} {st : List Value} {x : Int32} {h : Hp} : ex (d) 158 45 [l0, l1, l2, l3, l4, some (.int x), l6] st h = ex d 158 47 [l0, l1, l2, l3, l4, some (.int x), l6] (.int x :: st) h := (ex_of d158_45 (d) [l0, l1, l2, l3, l4, some (.int x), l6] st h).trans (rfl)
theorem d158_47 : decode (mB 158) 47 = .ok (.iaload, 1) := by decide +kernel
theorem x158_47 {d : Nat} {L : Lc} {st : List Value} {a j : Nat} {h : Hp} (ht : (h.2.1 a).1 = 20) (hj : j < (h.2.1 a).2) (hb : j < 2147483648) : ex (d) 158 47 L (.int (nI j) :: .ref a :: st) h = ex d 158 48 L (h.1 a j :: st) h := (ex_of d158_47 (d) L (.int (nI j) :: .ref a :: st) h).trans (fin_iaload (Or.inl ht) hj hb)
theorem d158_48 : decode (mB 158) 48 = .ok (.iconst 5, 1) := by decide +kernel
theorem x158_48 {d : Nat} {L : Lc} {st : List Value} {h : Hp} : ex (d) 158 48 L st h = ex d 158 49 L (.int (nI 5) :: st) h := (ex_of d158_48 (d) L st h).trans (rfl)
theorem d158_49 : decode (mB 158) 49 = .ok (.if_icmp .ne 7, 3) := by decide +kernel
theorem x158_49 {d : Nat} {L : Lc} {st : List Value} {x y : Int32} {h : Hp} : ex (d) 158 49 L (.int y :: .int x :: st) h = if ¬ x = y then ex d 158 56 L st h else ex d 158 52 L st h := (ex_of d158_49 (d) L (.int y :: .int x :: st) h).trans (fin_brq (off := 7) (tgt := 56) rfl (by decide))
theorem d158_52 : decode (mB 158) 52 = .ok (.iconst 1, 1) := by decide +kernel
theorem x158_52 {d : Nat} {L : Lc} {st : List Value} {h : Hp} : ex (d) 158 52 L st h = ex d 158 53 L (.int (nI 1) :: st) h := (ex_of d158_52 (d) L st h).trans (rfl)
theorem d158_53 : decode (mB 158) 53 = .ok (.goto 4, 3) := by decide +kernel
theorem x158_53 {d : Nat} {L : Lc} {st : List Value} {h : Hp} : ex (d) 158 53 L st h = ex d 158 57 L st h := (ex_of d158_53 (d) L st h).trans (rfl)
theorem d158_56 : decode (mB 158) 56 = .ok (.iconst 0, 1) := by decide +kernel
theorem x158_56 {d : Nat} {L : Lc} {st : List Value} {h : Hp} : ex (d) 158 56 L st h = ex d 158 57 L (.int (nI 0) :: st) h := (ex_of d158_56 (d) L st h).trans (rfl)
theorem d158_57 : decode (mB 158) 57 = .ok (.iadd, 1) := by decide +kernel
theorem x158_57 {d : Nat} {L : Lc} {st : List Value} {x y : Int32} {h : Hp} : ex (d) 158 57 L (.int y :: .int x :: st) h = ex d 158 58 L (.int (x + y) :: st) h := (ex_of d158_57 (d) L (.int y :: .int x :: st) h).trans (rfl)
theorem d158_58 : decode (mB 158) 58 = .ok (.istore 4, 2) := by decide +kernel
theorem x158_58 {d : Nat} {l0 l1 l2 l3 l4 l5 l6 : Option Value} {st : List Value} {x : Int32} {h : Hp} : ex (d) 158 58 [l0, l1, l2, l3, l4, l5, l6] (.int x :: st) h = ex d 158 60 [l0, l1, l2, clr l3, some (.int x), l5, l6] st h := (ex_of d158_58 (d) [l0, l1, l2, l3, l4, l5, l6] (.int x :: st) h).trans (rfl)
theorem d158_60 : decode (mB 158) 60 = .ok (.iload 5, 2) := by decide +kernel
theorem x158_60 {d : Nat} {l0 l1 l2 l3 l4 l6 : Option Value} {st : List Value} {x : Int32} {h : Hp} : ex (d) 158 60 [l0, l1, l2, l3, l4, some (.int x), l6] st h = ex d 158 62 [l0, l1, l2, l3, l4, some (.int x), l6] (.int x :: st) h := (ex_of d158_60 (d) [l0, l1, l2, l3, l4, some (.int x), l6] st h).trans (rfl)
theorem d158_62 : decode (mB 158) 62 = .ok (.iload_n 1, 1) := by decide +kernel
theorem x158_62 {d : Nat} {l0 l2 l3 l4 l5 l6 : Option Value} {st : List Value} {x : Int32} {h : Hp} : ex (d) 158 62 [l0, some (.int x), l2, l3, l4, l5, l6] st h = ex d 158 63 [l0, some (.int x), l2, l3, l4, l5, l6] (.int x :: st) h := (ex_of d158_62 (d) [l0, some (.int x), l2, l3, l4, l5, l6] st h).trans (rfl)
theorem d158_63 : decode (mB 158) 63 = .ok (.if_icmp .eq 31, 3) := by decide +kernel
theorem x158_63 {d : Nat} {L : Lc} {st : List Value} {x y : Int32} {h : Hp} : ex (d) 158 63 L (.int y :: .int x :: st) h = if x = y then ex d 158 94 L st h else ex d 158 66 L st h := (ex_of d158_63 (d) L (.int y :: .int x :: st) h).trans (fin_brq (off := 31) (tgt := 94) rfl (by decide))
theorem d158_66 : decode (mB 158) 66 = .ok (.aload_n 0, 1) := by decide +kernel
theorem x158_66 {d : Nat} {l1 l2 l3 l4 l5 l6 : Option Value} {st : List Value} {a : Nat} {h : Hp} : ex (d) 158 66 [some (.ref a), l1, l2, l3, l4, l5, l6] st h = ex d 158 67 [some (.ref a), l1, l2, l3, l4, l5, l6] (.ref a :: st) h := (ex_of d158_66 (d) [some (.ref a), l1, l2, l3, l4, l5, l6] st h).trans (rfl)
theorem d158_67 : decode (mB 158) 67 = .ok (.getfield 13, 3) := by decide +kernel
theorem x158_67 {d : Nat} {L : Lc} {st : List Value} {a : Nat} {h : Hp} (ht : (h.2.1 a).1 = 11) : ex (d) 158 67 L (.ref a :: st) h = ex d 158 70 L (h.1 a 3 :: st) h := (ex_of d158_67 (d) L (.ref a :: st) h).trans (fin_get (mi := 158) f11_13 (tg1 ht rfl))
theorem d158_70 : decode (mB 158) 70 = .ok (.iload 5, 2) := by decide +kernel
theorem x158_70 {d : Nat} {l0 l1 l2 l3 l4 l6 : Option Value} {st : List Value} {x : Int32} {h : Hp} : ex (d) 158 70 [l0, l1, l2, l3, l4, some (.int x), l6] st h = ex d 158 72 [l0, l1, l2, l3, l4, some (.int x), l6] (.int x :: st) h := (ex_of d158_70 (d) [l0, l1, l2, l3, l4, some (.int x), l6] st h).trans (rfl)
theorem d158_72 : decode (mB 158) 72 = .ok (.iaload, 1) := by decide +kernel
theorem x158_72 {d : Nat} {L : Lc} {st : List Value} {a j : Nat} {h : Hp} (ht : (h.2.1 a).1 = 20) (hj : j < (h.2.1 a).2) (hb : j < 2147483648) : ex (d) 158 72 L (.int (nI j) :: .ref a :: st) h = ex d 158 73 L (h.1 a j :: st) h := (ex_of d158_72 (d) L (.int (nI j) :: .ref a :: st) h).trans (fin_iaload (Or.inl ht) hj hb)
theorem d158_73 : decode (mB 158) 73 = .ok (.iconst 1, 1) := by decide +kernel
theorem x158_73 {d : Nat} {L : Lc} {st : List Value} {h : Hp} : ex (d) 158 73 L st h = ex d 158 74 L (.int (nI 1) :: st) h := (ex_of d158_73 (d) L st h).trans (rfl)
theorem d158_74 : decode (mB 158) 74 = .ok (.if_icmp .ne 20, 3) := by decide +kernel
theorem x158_74 {d : Nat} {L : Lc} {st : List Value} {x y : Int32} {h : Hp} : ex (d) 158 74 L (.int y :: .int x :: st) h = if ¬ x = y then ex d 158 94 L st h else ex d 158 77 L st h := (ex_of d158_74 (d) L (.int y :: .int x :: st) h).trans (fin_brq (off := 20) (tgt := 94) rfl (by decide))
theorem d158_77 : decode (mB 158) 77 = .ok (.aload_n 0, 1) := by decide +kernel
theorem x158_77 {d : Nat} {l1 l2 l3 l4 l5 l6 : Option Value} {st : List Value} {a : Nat} {h : Hp} : ex (d) 158 77 [some (.ref a), l1, l2, l3, l4, l5, l6] st h = ex d 158 78 [some (.ref a), l1, l2, l3, l4, l5, l6] (.ref a :: st) h := (ex_of d158_77 (d) [some (.ref a), l1, l2, l3, l4, l5, l6] st h).trans (rfl)
theorem d158_78 : decode (mB 158) 78 = .ok (.getfield 16, 3) := by decide +kernel
theorem x158_78 {d : Nat} {L : Lc} {st : List Value} {a : Nat} {h : Hp} (ht : (h.2.1 a).1 = 11) : ex (d) 158 78 L (.ref a :: st) h = ex d 158 81 L (h.1 a 4 :: st) h := (ex_of d158_78 (d) L (.ref a :: st) h).trans (fin_get (mi := 158) f11_16 (tg1 ht rfl))
theorem d158_81 : decode (mB 158) 81 = .ok (.iload 5, 2) := by decide +kernel
theorem x158_81 {d : Nat} {l0 l1 l2 l3 l4 l6 : Option Value} {st : List Value} {x : Int32} {h : Hp} : ex (d) 158 81 [l0, l1, l2, l3, l4, some (.int x), l6] st h = ex d 158 83 [l0, l1, l2, l3, l4, some (.int x), l6] (.int x :: st) h := (ex_of d158_81 (d) [l0, l1, l2, l3, l4, some (.int x), l6] st h).trans (rfl)
theorem d158_83 : decode (mB 158) 83 = .ok (.iaload, 1) := by decide +kernel
theorem x158_83 {d : Nat} {L : Lc} {st : List Value} {a j : Nat} {h : Hp} (ht : (h.2.1 a).1 = 20) (hj : j < (h.2.1 a).2) (hb : j < 2147483648) : ex (d) 158 83 L (.int (nI j) :: .ref a :: st) h = ex d 158 84 L (h.1 a j :: st) h := (ex_of d158_83 (d) L (.int (nI j) :: .ref a :: st) h).trans (fin_iaload (Or.inl ht) hj hb)
theorem d158_84 : decode (mB 158) 84 = .ok (.sipush 1000, 3) := by decide +kernel
theorem x158_84 {d : Nat} {L : Lc} {st : List Value} {h : Hp} : ex (d) 158 84 L st h = ex d 158 87 L (.int (nI 1000) :: st) h := (ex_of d158_84 (d) L st h).trans (rfl)
theorem d158_87 : decode (mB 158) 87 = .ok (.if_icmp .lt 7, 3) := by decide +kernel
theorem x158_87 {d : Nat} {L : Lc} {st : List Value} {x y : Int32} {h : Hp} : ex (d) 158 87 L (.int y :: .int x :: st) h = if x < y then ex d 158 94 L st h else ex d 158 90 L st h := (ex_of d158_87 (d) L (.int y :: .int x :: st) h).trans (fin_brq (off := 7) (tgt := 94) rfl (by decide))
theorem d158_90 : decode (mB 158) 90 = .ok (.iconst 1, 1) := by decide +kernel
theorem x158_90 {d : Nat} {L : Lc} {st : List Value} {h : Hp} : ex (d) 158 90 L st h = ex d 158 91 L (.int (nI 1) :: st) h := (ex_of d158_90 (d) L st h).trans (rfl)
theorem d158_91 : decode (mB 158) 91 = .ok (.goto 4, 3) := by decide +kernel
theorem x158_91 {d : Nat} {L : Lc} {st : List Value} {h : Hp} : ex (d) 158 91 L st h = ex d 158 95 L st h := (ex_of d158_91 (d) L st h).trans (rfl)
theorem d158_94 : decode (mB 158) 94 = .ok (.iconst 0, 1) := by decide +kernel
theorem x158_94 {d : Nat} {L : Lc} {st : List Value} {h : Hp} : ex (d) 158 94 L st h = ex d 158 95 L (.int (nI 0) :: st) h := (ex_of d158_94 (d) L st h).trans (rfl)
theorem d158_95 : decode (mB 158) 95 = .ok (.istore 6, 2) := by decide +kernel
theorem x158_95 {d : Nat} {l0 l1 l2 l3 l4 l5 l6 : Option Value} {st : List Value} {x : Int32} {h : Hp} : ex (d) 158 95 [l0, l1, l2, l3, l4, l5, l6] (.int x :: st) h = ex d 158 97 [l0, l1, l2, l3, l4, clr l5, some (.int x)] st h := (ex_of d158_95 (d) [l0, l1, l2, l3, l4, l5, l6] (.int x :: st) h).trans (rfl)
theorem d158_97 : decode (mB 158) 97 = .ok (.iload 6, 2) := by decide +kernel
theorem x158_97 {d : Nat} {l0 l1 l2 l3 l4 l5 : Option Value} {st : List Value} {x : Int32} {h : Hp} : ex (d) 158 97 [l0, l1, l2, l3, l4, l5, some (.int x)] st h = ex d 158 99 [l0, l1, l2, l3, l4, l5, some (.int x)] (.int x :: st) h := (ex_of d158_97 (d) [l0, l1, l2, l3, l4, l5, some (.int x)] st h).trans (rfl)
theorem d158_99 : decode (mB 158) 99 = .ok (.ifCond .eq 17, 3) := by decide +kernel
theorem x158_99 {d : Nat} {L : Lc} {st : List Value} {x : Int32} {h : Hp} : ex (d) 158 99 L (.int x :: st) h = if x = 0 then ex d 158 116 L st h else ex d 158 102 L st h := (ex_of d158_99 (d) L (.int x :: st) h).trans (fin_brq (off := 17) (tgt := 116) rfl (by decide))
theorem d158_102 : decode (mB 158) 102 = .ok (.aload_n 0, 1) := by decide +kernel
theorem x158_102 {d : Nat} {l1 l2 l3 l4 l5 l6 : Option Value} {st : List Value} {a : Nat} {h : Hp} : ex (d) 158 102 [some (.ref a), l1, l2, l3, l4, l5, l6] st h = ex d 158 103 [some (.ref a), l1, l2, l3, l4, l5, l6] (.ref a :: st) h := (ex_of d158_102 (d) [some (.ref a), l1, l2, l3, l4, l5, l6] st h).trans (rfl)
theorem d158_103 : decode (mB 158) 103 = .ok (.getfield 16, 3) := by decide +kernel
theorem x158_103 {d : Nat} {L : Lc} {st : List Value} {a : Nat} {h : Hp} (ht : (h.2.1 a).1 = 11) : ex (d) 158 103 L (.ref a :: st) h = ex d 158 106 L (h.1 a 4 :: st) h := (ex_of d158_103 (d) L (.ref a :: st) h).trans (fin_get (mi := 158) f11_16 (tg1 ht rfl))
theorem d158_106 : decode (mB 158) 106 = .ok (.iload 5, 2) := by decide +kernel
theorem x158_106 {d : Nat} {l0 l1 l2 l3 l4 l6 : Option Value} {st : List Value} {x : Int32} {h : Hp} : ex (d) 158 106 [l0, l1, l2, l3, l4, some (.int x), l6] st h = ex d 158 108 [l0, l1, l2, l3, l4, some (.int x), l6] (.int x :: st) h := (ex_of d158_106 (d) [l0, l1, l2, l3, l4, some (.int x), l6] st h).trans (rfl)
theorem d158_108 : decode (mB 158) 108 = .ok (.iaload, 1) := by decide +kernel
theorem x158_108 {d : Nat} {L : Lc} {st : List Value} {a j : Nat} {h : Hp} (ht : (h.2.1 a).1 = 20) (hj : j < (h.2.1 a).2) (hb : j < 2147483648) : ex (d) 158 108 L (.int (nI j) :: .ref a :: st) h = ex d 158 109 L (h.1 a j :: st) h := (ex_of d158_108 (d) L (.int (nI j) :: .ref a :: st) h).trans (fin_iaload (Or.inl ht) hj hb)
theorem d158_109 : decode (mB 158) 109 = .ok (.sipush 1000, 3) := by decide +kernel
theorem x158_109 {d : Nat} {L : Lc} {st : List Value} {h : Hp} : ex (d) 158 109 L st h = ex d 158 112 L (.int (nI 1000) :: st) h := (ex_of d158_109 (d) L st h).trans (rfl)
theorem d158_112 : decode (mB 158) 112 = .ok (.isub, 1) := by decide +kernel
theorem x158_112 {d : Nat} {L : Lc} {st : List Value} {x y : Int32} {h : Hp} : ex (d) 158 112 L (.int y :: .int x :: st) h = ex d 158 113 L (.int (x - y) :: st) h := (ex_of d158_112 (d) L (.int y :: .int x :: st) h).trans (rfl)
theorem d158_113 : decode (mB 158) 113 = .ok (.goto 5, 3) := by decide +kernel
theorem x158_113 {d : Nat} {L : Lc} {st : List Value} {h : Hp} : ex (d) 158 113 L st h = ex d 158 118 L st h := (ex_of d158_113 (d) L st h).trans (rfl)
theorem d158_116 : decode (mB 158) 116 = .ok (.iload 5, 2) := by decide +kernel
theorem x158_116 {d : Nat} {l0 l1 l2 l3 l4 l6 : Option Value} {st : List Value} {x : Int32} {h : Hp} : ex (d) 158 116 [l0, l1, l2, l3, l4, some (.int x), l6] st h = ex d 158 118 [l0, l1, l2, l3, l4, some (.int x), l6] (.int x :: st) h := (ex_of d158_116 (d) [l0, l1, l2, l3, l4, some (.int x), l6] st h).trans (rfl)
theorem d158_118 : decode (mB 158) 118 = .ok (.istore 5, 2) := by decide +kernel
theorem x158_118 {d : Nat} {l0 l1 l2 l3 l4 l5 l6 : Option Value} {st : List Value} {x : Int32} {h : Hp} : ex (d) 158 118 [l0, l1, l2, l3, l4, l5, l6] (.int x :: st) h = ex d 158 120 [l0, l1, l2, l3, clr l4, some (.int x), l6] st h := (ex_of d158_118 (d) [l0, l1, l2, l3, l4, l5, l6] (.int x :: st) h).trans (rfl)
theorem d158_120 : decode (mB 158) 120 = .ok (.goto (-86), 3) := by decide +kernel
theorem x158_120 {d : Nat} {L : Lc} {st : List Value} {h : Hp} : ex (d) 158 120 L st h = ex d 158 34 L st h := (ex_of d158_120 (d) L st h).trans (rfl)
theorem d158_123 : decode (mB 158) 123 = .ok (.iload 5, 2) := by decide +kernel
theorem x158_123 {d : Nat} {l0 l1 l2 l3 l4 l6 : Option Value} {st : List Value} {x : Int32} {h : Hp} : ex (d) 158 123 [l0, l1, l2, l3, l4, some (.int x), l6] st h = ex d 158 125 [l0, l1, l2, l3, l4, some (.int x), l6] (.int x :: st) h := (ex_of d158_123 (d) [l0, l1, l2, l3, l4, some (.int x), l6] st h).trans (rfl)
theorem d158_125 : decode (mB 158) 125 = .ok (.iload_n 1, 1) := by decide +kernel
theorem x158_125 {d : Nat} {l0 l2 l3 l4 l5 l6 : Option Value} {st : List Value} {x : Int32} {h : Hp} : ex (d) 158 125 [l0, some (.int x), l2, l3, l4, l5, l6] st h = ex d 158 126 [l0, some (.int x), l2, l3, l4, l5, l6] (.int x :: st) h := (ex_of d158_125 (d) [l0, some (.int x), l2, l3, l4, l5, l6] st h).trans (rfl)
theorem d158_126 : decode (mB 158) 126 = .ok (.if_icmp .ne 14, 3) := by decide +kernel
theorem x158_126 {d : Nat} {L : Lc} {st : List Value} {x y : Int32} {h : Hp} : ex (d) 158 126 L (.int y :: .int x :: st) h = if ¬ x = y then ex d 158 140 L st h else ex d 158 129 L st h := (ex_of d158_126 (d) L (.int y :: .int x :: st) h).trans (fin_brq (off := 14) (tgt := 140) rfl (by decide))
theorem d158_129 : decode (mB 158) 129 = .ok (.iload 4, 2) := by decide +kernel
theorem x158_129 {d : Nat} {l0 l1 l2 l3 l5 l6 : Option Value} {st : List Value} {x : Int32} {h : Hp} : ex (d) 158 129 [l0, l1, l2, l3, some (.int x), l5, l6] st h = ex d 158 131 [l0, l1, l2, l3, some (.int x), l5, l6] (.int x :: st) h := (ex_of d158_129 (d) [l0, l1, l2, l3, some (.int x), l5, l6] st h).trans (rfl)
theorem d158_131 : decode (mB 158) 131 = .ok (.iload_n 2, 1) := by decide +kernel
theorem x158_131 {d : Nat} {l0 l1 l3 l4 l5 l6 : Option Value} {st : List Value} {x : Int32} {h : Hp} : ex (d) 158 131 [l0, l1, some (.int x), l3, l4, l5, l6] st h = ex d 158 132 [l0, l1, some (.int x), l3, l4, l5, l6] (.int x :: st) h := (ex_of d158_131 (d) [l0, l1, some (.int x), l3, l4, l5, l6] st h).trans (rfl)
theorem d158_132 : decode (mB 158) 132 = .ok (.if_icmp .le 8, 3) := by decide +kernel
theorem x158_132 {d : Nat} {L : Lc} {st : List Value} {x y : Int32} {h : Hp} : ex (d) 158 132 L (.int y :: .int x :: st) h = if x ≤ y then ex d 158 140 L st h else ex d 158 135 L st h := (ex_of d158_132 (d) L (.int y :: .int x :: st) h).trans (fin_brq (off := 8) (tgt := 140) rfl (by decide))
theorem d158_135 : decode (mB 158) 135 = .ok (.iload 4, 2) := by decide +kernel
theorem x158_135 {d : Nat} {l0 l1 l2 l3 l5 l6 : Option Value} {st : List Value} {x : Int32} {h : Hp} : ex (d) 158 135 [l0, l1, l2, l3, some (.int x), l5, l6] st h = ex d 158 137 [l0, l1, l2, l3, some (.int x), l5, l6] (.int x :: st) h := (ex_of d158_135 (d) [l0, l1, l2, l3, some (.int x), l5, l6] st h).trans (rfl)
theorem d158_137 : decode (mB 158) 137 = .ok (.goto 4, 3) := by decide +kernel
theorem x158_137 {d : Nat} {L : Lc} {st : List Value} {h : Hp} : ex (d) 158 137 L st h = ex d 158 141 L st h := (ex_of d158_137 (d) L st h).trans (rfl)
theorem d158_140 : decode (mB 158) 140 = .ok (.iload_n 2, 1) := by decide +kernel
theorem x158_140 {d : Nat} {l0 l1 l3 l4 l5 l6 : Option Value} {st : List Value} {x : Int32} {h : Hp} : ex (d) 158 140 [l0, l1, some (.int x), l3, l4, l5, l6] st h = ex d 158 141 [l0, l1, some (.int x), l3, l4, l5, l6] (.int x :: st) h := (ex_of d158_140 (d) [l0, l1, some (.int x), l3, l4, l5, l6] st h).trans (rfl)
theorem d158_141 : decode (mB 158) 141 = .ok (.istore_n 2, 1) := by decide +kernel
theorem x158_141 {d : Nat} {l0 l1 l2 l3 l4 l5 l6 : Option Value} {st : List Value} {x : Int32} {h : Hp} : ex (d) 158 141 [l0, l1, l2, l3, l4, l5, l6] (.int x :: st) h = ex d 158 142 [l0, clr l1, some (.int x), l3, l4, l5, l6] st h := (ex_of d158_141 (d) [l0, l1, l2, l3, l4, l5, l6] (.int x :: st) h).trans (rfl)
theorem d158_142 : decode (mB 158) 142 = .ok (.iinc 3 1, 3) := by decide +kernel
theorem x158_142 {d : Nat} {l0 l1 l2 l4 l5 l6 : Option Value} {st : List Value} {x : Int32} {h : Hp} : ex (d) 158 142 [l0, l1, l2, some (.int x), l4, l5, l6] st h = ex d 158 145 [l0, l1, clr l2, some (.int (x + (nI 1))), l4, l5, l6] st h := (ex_of d158_142 (d) [l0, l1, l2, some (.int x), l4, l5, l6] st h).trans (rfl)
theorem d158_145 : decode (mB 158) 145 = .ok (.goto (-141), 3) := by decide +kernel
theorem x158_145 {d : Nat} {L : Lc} {st : List Value} {h : Hp} : ex (d) 158 145 L st h = ex d 158 4 L st h := (ex_of d158_145 (d) L st h).trans (rfl)
theorem d158_148 : decode (mB 158) 148 = .ok (.iload_n 2, 1) := by decide +kernel
theorem x158_148 {d : Nat} {l0 l1 l3 l4 l5 l6 : Option Value} {st : List Value} {x : Int32} {h : Hp} : ex (d) 158 148 [l0, l1, some (.int x), l3, l4, l5, l6] st h = ex d 158 149 [l0, l1, some (.int x), l3, l4, l5, l6] (.int x :: st) h := (ex_of d158_148 (d) [l0, l1, some (.int x), l3, l4, l5, l6] st h).trans (rfl)
theorem d158_149 : decode (mB 158) 149 = .ok (.ireturn, 1) := by decide +kernel
theorem x158_149 {d : Nat} {L : Lc} {x : Int32} {h : Hp} : ex (d) 158 149 L [.int x] h = some (some (.int x), h) := (ex_of d158_149 (d) L [.int x] h).trans (rfl)
theorem d159_0 : decode (mB 159) 0 = .ok (.aload_n 0, 1) := by decide +kernel
theorem x159_0 {d : Nat} {l1 l2 l3 : Option Value} {st : List Value} {a : Nat} {h : Hp} : ex (d) 159 0 [some (.ref a), l1, l2, l3] st h = ex d 159 1 [some (.ref a), l1, l2, l3] (.ref a :: st) h := (ex_of d159_0 (d) [some (.ref a), l1, l2, l3] st h).trans (rfl)
theorem d159_1 : decode (mB 159) 1 = .ok (.aload_n 0, 1) := by decide +kernel
theorem x159_1 {d : Nat} {l1 l2 l3 : Option Value} {st : List Value} {a : Nat} {h : Hp} : ex (d) 159 1 [some (.ref a), l1, l2, l3] st h = ex d 159 2 [some (.ref a), l1, l2, l3] (.ref a :: st) h := (ex_of d159_1 (d) [some (.ref a), l1, l2, l3] st h).trans (rfl)
theorem d159_2 : decode (mB 159) 2 = .ok (.iload_n 1, 1) := by decide +kernel
theorem x159_2 {d : Nat} {l0 l2 l3 : Option Value} {st : List Value} {x : Int32} {h : Hp} : ex (d) 159 2 [l0, some (.int x), l2, l3] st h = ex d 159 3 [l0, some (.int x), l2, l3] (.int x :: st) h := (ex_of d159_2 (d) [l0, some (.int x), l2, l3] st h).trans (rfl)
theorem d159_3 : decode (mB 159) 3 = .ok (.invokevirtual 132, 3) := by decide +kernel
theorem x159_3 {d : Nat} {L : Lc} {s0 : Value} {a : Nat} {v0 : Int32} {h : Hp} (ht : (h.2.1 a).1 = 11) : ex (d + 1) 159 3 L (.int v0 :: .ref a :: [s0]) h = bnd (ex d 140 0 [some (.ref a), some (.int v0), none] [] h) (fun v h' => ex (d + 1) 159 6 L (v.toList ++ [s0]) h') := (ex_of d159_3 (d + 1) L (.int v0 :: .ref a :: [s0]) h).trans (fin_vi (mi := 159) i11_132 ht rfl rfl (by simp [cat1_i, cat1_r]) (by simp) (Nat.le_of_ble_eq_true rfl))
theorem d159_6 : decode (mB 159) 6 = .ok (.iload_n 2, 1) := by decide +kernel
theorem x159_6 {d : Nat} {l0 l1 l3 : Option Value} {st : List Value} {x : Int32} {h : Hp} : ex (d) 159 6 [l0, l1, some (.int x), l3] st h = ex d 159 7 [l0, l1, some (.int x), l3] (.int x :: st) h := (ex_of d159_6 (d) [l0, l1, some (.int x), l3] st h).trans (rfl)
theorem d159_7 : decode (mB 159) 7 = .ok (.invokevirtual 135, 3) := by decide +kernel
theorem x159_7 {d : Nat} {L : Lc} {a : Nat} {v0 : Int32} {v1 : Int32} {h : Hp} (ht : (h.2.1 a).1 = 11) : ex (d + 1) 159 7 L (.int v1 :: .int v0 :: .ref a :: []) h = bnd (ex d 154 0 [some (.ref a), some (.int v0), some (.int v1)] [] h) (fun v h' => ex (d + 1) 159 10 L (v.toList ++ []) h') := (ex_of d159_7 (d + 1) L (.int v1 :: .int v0 :: .ref a :: []) h).trans (fin_vi (mi := 159) i11_135 ht rfl rfl (by simp [cat1_i, cat1_r]) (by simp) (Nat.le_of_ble_eq_true rfl))
theorem d159_10 : decode (mB 159) 10 = .ok (.ifCond .lt 5, 3) := by decide +kernel
theorem x159_10 {d : Nat} {L : Lc} {st : List Value} {x : Int32} {h : Hp} : ex (d) 159 10 L (.int x :: st) h = if x < 0 then ex d 159 15 L st h else ex d 159 13 L st h := (ex_of d159_10 (d) L (.int x :: st) h).trans (fin_brq (off := 5) (tgt := 15) rfl (by decide))
theorem d159_13 : decode (mB 159) 13 = .ok (.iconst 5, 1) := by decide +kernel
theorem x159_13 {d : Nat} {L : Lc} {st : List Value} {h : Hp} : ex (d) 159 13 L st h = ex d 159 14 L (.int (nI 5) :: st) h := (ex_of d159_13 (d) L st h).trans (rfl)
theorem d159_14 : decode (mB 159) 14 = .ok (.ireturn, 1) := by decide +kernel
theorem x159_14 {d : Nat} {L : Lc} {x : Int32} {h : Hp} : ex (d) 159 14 L [.int x] h = some (some (.int x), h) := (ex_of d159_14 (d) L [.int x] h).trans (rfl)
theorem d159_15 : decode (mB 159) 15 = .ok (.iload_n 1, 1) := by decide +kernel
theorem x159_15 {d : Nat} {l0 l2 l3 : Option Value} {st : List Value} {x : Int32} {h : Hp} : ex (d) 159 15 [l0, some (.int x), l2, l3] st h = ex d 159 16 [l0, some (.int x), l2, l3] (.int x :: st) h := (ex_of d159_15 (d) [l0, some (.int x), l2, l3] st h).trans (rfl)
theorem d159_16 : decode (mB 159) 16 = .ok (.sipush 1000, 3) := by decide +kernel
theorem x159_16 {d : Nat} {L : Lc} {st : List Value} {h : Hp} : ex (d) 159 16 L st h = ex d 159 19 L (.int (nI 1000) :: st) h := (ex_of d159_16 (d) L st h).trans (rfl)
theorem d159_19 : decode (mB 159) 19 = .ok (.if_icmp .lt 27, 3) := by decide +kernel
theorem x159_19 {d : Nat} {L : Lc} {st : List Value} {x y : Int32} {h : Hp} : ex (d) 159 19 L (.int y :: .int x :: st) h = if x < y then ex d 159 46 L st h else ex d 159 22 L st h := (ex_of d159_19 (d) L (.int y :: .int x :: st) h).trans (fin_brq (off := 27) (tgt := 46) rfl (by decide))
theorem d159_22 : decode (mB 159) 22 = .ok (.aload_n 0, 1) := by decide +kernel
theorem x159_22 {d : Nat} {l1 l2 l3 : Option Value} {st : List Value} {a : Nat} {h : Hp} : ex (d) 159 22 [some (.ref a), l1, l2, l3] st h = ex d 159 23 [some (.ref a), l1, l2, l3] (.ref a :: st) h := (ex_of d159_22 (d) [some (.ref a), l1, l2, l3] st h).trans (rfl)
theorem d159_23 : decode (mB 159) 23 = .ok (.getfield 9, 3) := by decide +kernel
theorem x159_23 {d : Nat} {L : Lc} {st : List Value} {a : Nat} {h : Hp} (ht : (h.2.1 a).1 = 11) : ex (d) 159 23 L (.ref a :: st) h = ex d 159 26 L (h.1 a 2 :: st) h := (ex_of d159_23 (d) L (.ref a :: st) h).trans (fin_get (mi := 159) f11_9 (tg1 ht rfl))
theorem d159_26 : decode (mB 159) 26 = .ok (.iload_n 1, 1) := by decide +kernel
theorem x159_26 {d : Nat} {l0 l2 l3 : Option Value} {st : List Value} {x : Int32} {h : Hp} : ex (d) 159 26 [l0, some (.int x), l2, l3] st h = ex d 159 27 [l0, some (.int x), l2, l3] (.int x :: st) h := (ex_of d159_26 (d) [l0, some (.int x), l2, l3] st h).trans (rfl)
theorem d159_27 : decode (mB 159) 27 = .ok (.sipush 1000, 3) := by decide +kernel
theorem x159_27 {d : Nat} {L : Lc} {st : List Value} {h : Hp} : ex (d) 159 27 L st h = ex d 159 30 L (.int (nI 1000) :: st) h := (ex_of d159_27 (d) L st h).trans (rfl)
theorem d159_30 : decode (mB 159) 30 = .ok (.isub, 1) := by decide +kernel
theorem x159_30 {d : Nat} {L : Lc} {st : List Value} {x y : Int32} {h : Hp} : ex (d) 159 30 L (.int y :: .int x :: st) h = ex d 159 31 L (.int (x - y) :: st) h := (ex_of d159_30 (d) L (.int y :: .int x :: st) h).trans (rfl)
theorem d159_31 : decode (mB 159) 31 = .ok (.iaload, 1) := by decide +kernel
theorem x159_31 {d : Nat} {L : Lc} {st : List Value} {a j : Nat} {h : Hp} (ht : (h.2.1 a).1 = 20) (hj : j < (h.2.1 a).2) (hb : j < 2147483648) : ex (d) 159 31 L (.int (nI j) :: .ref a :: st) h = ex d 159 32 L (h.1 a j :: st) h := (ex_of d159_31 (d) L (.int (nI j) :: .ref a :: st) h).trans (fin_iaload (Or.inl ht) hj hb)
theorem d159_32 : decode (mB 159) 32 = .ok (.iconst 4, 1) := by decide +kernel
theorem x159_32 {d : Nat} {L : Lc} {st : List Value} {h : Hp} : ex (d) 159 32 L st h = ex d 159 33 L (.int (nI 4) :: st) h := (ex_of d159_32 (d) L st h).trans (rfl)
theorem d159_33 : decode (mB 159) 33 = .ok (.if_icmp .ne 13, 3) := by decide +kernel
theorem x159_33 {d : Nat} {L : Lc} {st : List Value} {x y : Int32} {h : Hp} : ex (d) 159 33 L (.int y :: .int x :: st) h = if ¬ x = y then ex d 159 46 L st h else ex d 159 36 L st h := (ex_of d159_33 (d) L (.int y :: .int x :: st) h).trans (fin_brq (off := 13) (tgt := 46) rfl (by decide))
theorem d159_36 : decode (mB 159) 36 = .ok (.aload_n 0, 1) := by decide +kernel
theorem x159_36 {d : Nat} {l1 l2 l3 : Option Value} {st : List Value} {a : Nat} {h : Hp} : ex (d) 159 36 [some (.ref a), l1, l2, l3] st h = ex d 159 37 [some (.ref a), l1, l2, l3] (.ref a :: st) h := (ex_of d159_36 (d) [some (.ref a), l1, l2, l3] st h).trans (rfl)
theorem d159_37 : decode (mB 159) 37 = .ok (.iload_n 3, 1) := by decide +kernel
theorem x159_37 {d : Nat} {l0 l1 l2 : Option Value} {st : List Value} {x : Int32} {h : Hp} : ex (d) 159 37 [l0, l1, l2, some (.int x)] st h = ex d 159 38 [l0, l1, l2, some (.int x)] (.int x :: st) h := (ex_of d159_37 (d) [l0, l1, l2, some (.int x)] st h).trans (rfl)
theorem d159_38 : decode (mB 159) 38 = .ok (.invokevirtual 138, 3) := by decide +kernel
theorem x159_38 {d : Nat} {L : Lc} {a : Nat} {v0 : Int32} {h : Hp} (ht : (h.2.1 a).1 = 11) : ex (d + 1) 159 38 L (.int v0 :: .ref a :: []) h = bnd (ex d 138 0 [some (.ref a), some (.int v0)] [] h) (fun v h' => ex (d + 1) 159 41 L (v.toList ++ []) h') := (ex_of d159_38 (d + 1) L (.int v0 :: .ref a :: []) h).trans (fin_vi (mi := 159) i11_138 ht rfl rfl (by simp [cat1_i, cat1_r]) (by simp) (Nat.le_of_ble_eq_true rfl))
theorem d159_41 : decode (mB 159) 41 = .ok (.ifCond .ne 5, 3) := by decide +kernel
theorem x159_41 {d : Nat} {L : Lc} {st : List Value} {x : Int32} {h : Hp} : ex (d) 159 41 L (.int x :: st) h = if ¬ x = 0 then ex d 159 46 L st h else ex d 159 44 L st h := (ex_of d159_41 (d) L (.int x :: st) h).trans (fin_brq (off := 5) (tgt := 46) rfl (by decide))
theorem d159_44 : decode (mB 159) 44 = .ok (.iconst 4, 1) := by decide +kernel
theorem x159_44 {d : Nat} {L : Lc} {st : List Value} {h : Hp} : ex (d) 159 44 L st h = ex d 159 45 L (.int (nI 4) :: st) h := (ex_of d159_44 (d) L st h).trans (rfl)
theorem d159_45 : decode (mB 159) 45 = .ok (.ireturn, 1) := by decide +kernel
theorem x159_45 {d : Nat} {L : Lc} {x : Int32} {h : Hp} : ex (d) 159 45 L [.int x] h = some (some (.int x), h) := (ex_of d159_45 (d) L [.int x] h).trans (rfl)
theorem d159_46 : decode (mB 159) 46 = .ok (.aload_n 0, 1) := by decide +kernel
theorem x159_46 {d : Nat} {l1 l2 l3 : Option Value} {st : List Value} {a : Nat} {h : Hp} : ex (d) 159 46 [some (.ref a), l1, l2, l3] st h = ex d 159 47 [some (.ref a), l1, l2, l3] (.ref a :: st) h := (ex_of d159_46 (d) [some (.ref a), l1, l2, l3] st h).trans (rfl)
theorem d159_47 : decode (mB 159) 47 = .ok (.iload_n 1, 1) := by decide +kernel
theorem x159_47 {d : Nat} {l0 l2 l3 : Option Value} {st : List Value} {x : Int32} {h : Hp} : ex (d) 159 47 [l0, some (.int x), l2, l3] st h = ex d 159 48 [l0, some (.int x), l2, l3] (.int x :: st) h := (ex_of d159_47 (d) [l0, some (.int x), l2, l3] st h).trans (rfl)
theorem d159_48 : decode (mB 159) 48 = .ok (.iload_n 3, 1) := by decide +kernel
theorem x159_48 {d : Nat} {l0 l1 l2 : Option Value} {st : List Value} {x : Int32} {h : Hp} : ex (d) 159 48 [l0, l1, l2, some (.int x)] st h = ex d 159 49 [l0, l1, l2, some (.int x)] (.int x :: st) h := (ex_of d159_48 (d) [l0, l1, l2, some (.int x)] st h).trans (rfl)
theorem d159_49 : decode (mB 159) 49 = .ok (.invokevirtual 141, 3) := by decide +kernel
theorem x159_49 {d : Nat} {L : Lc} {a : Nat} {v0 : Int32} {v1 : Int32} {h : Hp} (ht : (h.2.1 a).1 = 11) : ex (d + 1) 159 49 L (.int v1 :: .int v0 :: .ref a :: []) h = bnd (ex d 157 0 [some (.ref a), some (.int v0), some (.int v1), none, none, none] [] h) (fun v h' => ex (d + 1) 159 52 L (v.toList ++ []) h') := (ex_of d159_49 (d + 1) L (.int v1 :: .int v0 :: .ref a :: []) h).trans (fin_vi (mi := 159) i11_141 ht rfl rfl (by simp [cat1_i, cat1_r]) (by simp) (Nat.le_of_ble_eq_true rfl))
theorem d159_52 : decode (mB 159) 52 = .ok (.aload_n 0, 1) := by decide +kernel
theorem x159_52 {d : Nat} {l1 l2 l3 : Option Value} {st : List Value} {a : Nat} {h : Hp} : ex (d) 159 52 [some (.ref a), l1, l2, l3] st h = ex d 159 53 [some (.ref a), l1, l2, l3] (.ref a :: st) h := (ex_of d159_52 (d) [some (.ref a), l1, l2, l3] st h).trans (rfl)
theorem d159_53 : decode (mB 159) 53 = .ok (.iload_n 3, 1) := by decide +kernel
theorem x159_53 {d : Nat} {l0 l1 l2 : Option Value} {st : List Value} {x : Int32} {h : Hp} : ex (d) 159 53 [l0, l1, l2, some (.int x)] st h = ex d 159 54 [l0, l1, l2, some (.int x)] (.int x :: st) h := (ex_of d159_53 (d) [l0, l1, l2, some (.int x)] st h).trans (rfl)
theorem d159_54 : decode (mB 159) 54 = .ok (.invokevirtual 144, 3) := by decide +kernel
theorem x159_54 {d : Nat} {L : Lc} {s0 : Value} {a : Nat} {v0 : Int32} {h : Hp} (ht : (h.2.1 a).1 = 11) : ex (d + 1) 159 54 L (.int v0 :: .ref a :: [s0]) h = bnd (ex d 158 0 [some (.ref a), some (.int v0), none, none, none, none, none] [] h) (fun v h' => ex (d + 1) 159 57 L (v.toList ++ [s0]) h') := (ex_of d159_54 (d + 1) L (.int v0 :: .ref a :: [s0]) h).trans (fin_vi (mi := 159) i11_144 ht rfl rfl (by simp [cat1_i, cat1_r]) (by simp) (Nat.le_of_ble_eq_true rfl))
theorem d159_57 : decode (mB 159) 57 = .ok (.iadd, 1) := by decide +kernel
theorem x159_57 {d : Nat} {L : Lc} {st : List Value} {x y : Int32} {h : Hp} : ex (d) 159 57 L (.int y :: .int x :: st) h = ex d 159 58 L (.int (x + y) :: st) h := (ex_of d159_57 (d) L (.int y :: .int x :: st) h).trans (rfl)
theorem d159_58 : decode (mB 159) 58 = .ok (.bipush 6, 2) := by decide +kernel
theorem x159_58 {d : Nat} {L : Lc} {st : List Value} {h : Hp} : ex (d) 159 58 L st h = ex d 159 60 L (.int (nI 6) :: st) h := (ex_of d159_58 (d) L st h).trans (rfl)
theorem d159_60 : decode (mB 159) 60 = .ok (.if_icmp .le 8, 3) := by decide +kernel
theorem x159_60 {d : Nat} {L : Lc} {st : List Value} {x y : Int32} {h : Hp} : ex (d) 159 60 L (.int y :: .int x :: st) h = if x ≤ y then ex d 159 68 L st h else ex d 159 63 L st h := (ex_of d159_60 (d) L (.int y :: .int x :: st) h).trans (fin_brq (off := 8) (tgt := 68) rfl (by decide))
theorem d159_63 : decode (mB 159) 63 = .ok (.bipush 9, 2) := by decide +kernel
theorem x159_63 {d : Nat} {L : Lc} {st : List Value} {h : Hp} : ex (d) 159 63 L st h = ex d 159 65 L (.int (nI 9) :: st) h := (ex_of d159_63 (d) L st h).trans (rfl)
theorem d159_65 : decode (mB 159) 65 = .ok (.goto 4, 3) := by decide +kernel
theorem x159_65 {d : Nat} {L : Lc} {st : List Value} {h : Hp} : ex (d) 159 65 L st h = ex d 159 69 L st h := (ex_of d159_65 (d) L st h).trans (rfl)
theorem d159_68 : decode (mB 159) 68 = .ok (.iconst 0, 1) := by decide +kernel
theorem x159_68 {d : Nat} {L : Lc} {st : List Value} {h : Hp} : ex (d) 159 68 L st h = ex d 159 69 L (.int (nI 0) :: st) h := (ex_of d159_68 (d) L st h).trans (rfl)
theorem d159_69 : decode (mB 159) 69 = .ok (.ireturn, 1) := by decide +kernel
theorem x159_69 {d : Nat} {L : Lc} {x : Int32} {h : Hp} : ex (d) 159 69 L [.int x] h = some (some (.int x), h) := (ex_of d159_69 (d) L [.int x] h).trans (rfl)
