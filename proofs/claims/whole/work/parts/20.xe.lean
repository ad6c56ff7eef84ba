/-! ===== x-rows, printed by wip/whole/gen/genx.py: X11_hireLocked, X11_backLocked, X11_whyNotInto, X11_trunksUp, X11_trunksDown, X11_isWayUpThrough, X11_remember, X11_fitOf, X11_fitOfGarment, X11_fitOfPart, X11_bothFits, X11_halvesOf, X11_needs, X11_c ===== -/
theorem d109_0 : decode (mB 109) 0 = .ok (.iload_n 2, 1) := by decide +kernel
theorem x109_0 {d : Nat} {l0 l1 l3 l4 : Option Value} {st : List Value} {x : Int32} {h : Hp} : ex (d) 109 0 [l0, l1, some (.int x), l3, l4] st h = ex d 109 1 [l0, l1, some (.int x), l3, l4] (.int x :: st) h := (ex_of d109_0 (d) [l0, l1, some (.int x), l3, l4] st h).trans (rfl)
theorem d109_1 : decode (mB 109) 1 = .ok (.iconst 0, 1) := by decide +kernel
theorem x109_1 {d : Nat} {L : Lc} {st : List Value} {h : Hp} : ex (d) 109 1 L st h = ex d 109 2 L (.int (nI 0) :: st) h := (ex_of d109_1 (d) L st h).trans (rfl)
theorem d109_2 : decode (mB 109) 2 = .ok (.ldc_w 354, 3) := by decide +kernel
theorem x109_2 {d : Nat} {L : Lc} {st : List Value} {h : Hp} : ex (d) 109 2 L st h = ex d 109 5 L (.int (nI 1000000) :: st) h := (ex_of d109_2 (d) L st h).trans (fin_ldcw (mi := 109) c10_354)
theorem d109_5 : decode (mB 109) 5 = .ok (.invokestatic 50, 3) := by decide +kernel
theorem x109_5 {d : Nat} {L : Lc}  {v0 : Int32} {v1 : Int32} {v2 : Int32} {h : Hp} : ex (d + 1) 109 5 L (.int v2 :: .int v1 :: .int v0 :: []) h = bnd (ex d 92 0 [some (.int v0), some (.int v1), some (.int v2)] [] h) (fun v h' => ex (d + 1) 109 8 L (v.toList ++ []) h') := (ex_of d109_5 (d + 1) L (.int v2 :: .int v1 :: .int v0 :: []) h).trans (fin_st (mi := 109) i10_50 (Or.inl rfl) (by simp) (by simp [cat1_i, cat1_r]) (by simp) (Nat.le_of_ble_eq_true rfl))
theorem d109_8 : decode (mB 109) 8 = .ok (.ifCond .eq 13, 3) := by decide +kernel
theorem x109_8 {d : Nat} {L : Lc} {st : List Value} {x : Int32} {h : Hp} : ex (d) 109 8 L (.int x :: st) h = if x = 0 then ex d 109 21 L st h else ex d 109 11 L st h := (ex_of d109_8 (d) L (.int x :: st) h).trans (fin_brq (off := 13) (tgt := 21) rfl (by decide))
theorem d109_11 : decode (mB 109) 11 = .ok (.aload_n 0, 1) := by decide +kernel
theorem x109_11 {d : Nat} {l1 l2 l3 l4 : Option Value} {st : List Value} {a : Nat} {h : Hp} : ex (d) 109 11 [some (.ref a), l1, l2, l3, l4] st h = ex d 109 12 [some (.ref a), l1, l2, l3, l4] (.ref a :: st) h := (ex_of d109_11 (d) [some (.ref a), l1, l2, l3, l4] st h).trans (rfl)
theorem d109_12 : decode (mB 109) 12 = .ok (.getfield 323, 3) := by decide +kernel
theorem x109_12 {d : Nat} {L : Lc} {st : List Value} {a : Nat} {h : Hp} (ht : (h.2.1 a).1 = 10) : ex (d) 109 12 L (.ref a :: st) h = ex d 109 15 L (h.1 a 7 :: st) h := (ex_of d109_12 (d) L (.ref a :: st) h).trans (fin_get (mi := 109) f10_323 (tg1 ht rfl))
theorem d109_15 : decode (mB 109) 15 = .ok (.sipush 300, 3) := by decide +kernel
theorem x109_15 {d : Nat} {L : Lc} {st : List Value} {h : Hp} : ex (d) 109 15 L st h = ex d 109 18 L (.int (nI 300) :: st) h := (ex_of d109_15 (d) L st h).trans (rfl)
theorem d109_18 : decode (mB 109) 18 = .ok (.if_icmp .lt 10, 3) := by decide +kernel
theorem x109_18 {d : Nat} {L : Lc} {st : List Value} {x y : Int32} {h : Hp} : ex (d) 109 18 L (.int y :: .int x :: st) h = if x < y then ex d 109 28 L st h else ex d 109 21 L st h := (ex_of d109_18 (d) L (.int y :: .int x :: st) h).trans (fin_brq (off := 10) (tgt := 28) rfl (by decide))
theorem d109_21 : decode (mB 109) 21 = .ok (.aload_n 0, 1) := by decide +kernel
theorem x109_21 {d : Nat} {l1 l2 l3 l4 : Option Value} {st : List Value} {a : Nat} {h : Hp} : ex (d) 109 21 [some (.ref a), l1, l2, l3, l4] st h = ex d 109 22 [some (.ref a), l1, l2, l3, l4] (.ref a :: st) h := (ex_of d109_21 (d) [some (.ref a), l1, l2, l3, l4] st h).trans (rfl)
theorem d109_22 : decode (mB 109) 22 = .ok (.bipush 6, 2) := by decide +kernel
theorem x109_22 {d : Nat} {L : Lc} {st : List Value} {h : Hp} : ex (d) 109 22 L st h = ex d 109 24 L (.int (nI 6) :: st) h := (ex_of d109_22 (d) L st h).trans (rfl)
theorem d109_24 : decode (mB 109) 24 = .ok (.invokevirtual 57, 3) := by decide +kernel
theorem x109_24 {d : Nat} {L : Lc} {a : Nat} {v0 : Int32} {h : Hp} (ht : (h.2.1 a).1 = 10) : ex (d + 1) 109 24 L (.int v0 :: .ref a :: []) h = bnd (ex d 84 0 [some (.ref a), some (.int v0)] [] h) (fun v h' => ex (d + 1) 109 27 L (v.toList ++ []) h') := (ex_of d109_24 (d + 1) L (.int v0 :: .ref a :: []) h).trans (fin_vi (mi := 109) i10_57 ht rfl rfl (by simp [cat1_i, cat1_r]) (by simp) (Nat.le_of_ble_eq_true rfl))
theorem d109_27 : decode (mB 109) 27 = .ok (.ireturn, 1) := by decide +kernel
theorem x109_27 {d : Nat} {L : Lc} {x : Int32} {h : Hp} : ex (d) 109 27 L [.int x] h = some (some (.int x), h) := (ex_of d109_27 (d) L [.int x] h).trans (rfl)
theorem d109_28 : decode (mB 109) 28 = .ok (.aload_n 0, 1) := by decide +kernel
theorem x109_28 {d : Nat} {l1 l2 l3 l4 : Option Value} {st : List Value} {a : Nat} {h : Hp} : ex (d) 109 28 [some (.ref a), l1, l2, l3, l4] st h = ex d 109 29 [some (.ref a), l1, l2, l3, l4] (.ref a :: st) h := (ex_of d109_28 (d) [some (.ref a), l1, l2, l3, l4] st h).trans (rfl)
theorem d109_29 : decode (mB 109) 29 = .ok (.getfield 323, 3) := by decide +kernel
theorem x109_29 {d : Nat} {L : Lc} {st : List Value} {a : Nat} {h : Hp} (ht : (h.2.1 a).1 = 10) : ex (d) 109 29 L (.ref a :: st) h = ex d 109 32 L (h.1 a 7 :: st) h := (ex_of d109_29 (d) L (.ref a :: st) h).trans (fin_get (mi := 109) f10_323 (tg1 ht rfl))
theorem d109_32 : decode (mB 109) 32 = .ok (.istore_n 3, 1) := by decide +kernel
theorem x109_32 {d : Nat} {l0 l1 l2 l3 l4 : Option Value} {st : List Value} {x : Int32} {h : Hp} : ex (d) 109 32 [l0, l1, l2, l3, l4] (.int x :: st) h = ex d 109 33 [l0, l1, clr l2, some (.int x), l4] st h := (ex_of d109_32 (d) [l0, l1, l2, l3, l4] (.int x :: st) h).trans (rfl)
theorem d109_33 : decode (mB 109) 33 = .ok (.new 27, 3) := by decide +kernel
theorem x109_33 {d : Nat} {L : Lc} {st : List Value} {h : Hp} : ex (d) 109 33 L st h = ex d 109 36 L (.ref h.2.2.1 :: st) (mnw h.1 h.2.2.1 (fun k => dfv (pty 2 k)), mnw h.2.1 h.2.2.1 (2, 3), h.2.2.1 + 1, h.2.2.2 + 3) := (ex_of d109_33 (d) L st h).trans (fin_new (mi := 109) k10_27 rfl (by decide))
theorem d109_36 : decode (mB 109) 36 = .ok (.dup, 1) := by decide +kernel
theorem x109_36 {d : Nat} {L : Lc} {st : List Value} {a : Nat} {h : Hp} : ex (d) 109 36 L (.ref a :: st) h = ex d 109 37 L (.ref a :: .ref a :: st) h := (ex_of d109_36 (d) L (.ref a :: st) h).trans (rfl)
theorem x109_36i {d : Nat} {L : Lc} {st : List Value} {x : Int32} {h : Hp} : ex (d) 109 36 L (.int x :: st) h = ex d 109 37 L (.int x :: .int x :: st) h := (ex_of d109_36 (d) L (.int x :: st) h).trans (rfl)
theorem d109_37 : decode (mB 109) 37 = .ok (.aload_n 1, 1) := by decide +kernel
theorem x109_37 {d : Nat} {l0 l2 l3 l4 : Option Value} {st : List Value} {a : Nat} {h : Hp} : ex (d) 109 37 [l0, some (.ref a), l2, l3, l4] st h = ex d 109 38 [l0, some (.ref a), l2, l3, l4] (.ref a :: st) h := (ex_of d109_37 (d) [l0, some (.ref a), l2, l3, l4] st h).trans (rfl)
theorem x109_37n {d : Nat} {l0 l2 l3 l4 : Option Value} {st : List Value} {h : Hp} : ex (d) 109 37 [l0, some .null, l2, l3, l4] st h = ex d 109 38 [l0, some .null, l2, l3, l4] (.null :: st) h := (ex_of d109_37 (d) [l0, some .null, l2, l3, l4] st h).trans (rfl)
theorem x109_37q {d : Nat} {l0 l2 l3 l4 : Option Value} {st : List Value} {a : Option Nat} {h : Hp} : ex (d) 109 37 [l0, some (va_rf a), l2, l3, l4] st h = ex d 109 38 [l0, some (va_rf a), l2, l3, l4] (va_rf a :: st) h := (ex_of d109_37 (d) [l0, some (va_rf a), l2, l3, l4] st h).trans (by cases a <;> rfl)
theorem d109_38 : decode (mB 109) 38 = .ok (.iload_n 2, 1) := by decide +kernel
theorem x109_38 {d : Nat} {l0 l1 l3 l4 : Option Value} {st : List Value} {x : Int32} {h : Hp} : ex (d) 109 38 [l0, l1, some (.int x), l3, l4] st h = ex d 109 39 [l0, l1, some (.int x), l3, l4] (.int x :: st) h := (ex_of d109_38 (d) [l0, l1, some (.int x), l3, l4] st h).trans (rfl)
theorem d109_39 : decode (mB 109) 39 = .ok (.invokespecial 355, 3) := by decide +kernel
theorem x109_39 {d : Nat} {L : Lc} {s0 : Value} {a : Nat} {v0 : Value} {v1 : Int32} {h : Hp} (hv0 : isR v0 = true) : ex (d + 1) 109 39 L (.int v1 :: v0 :: .ref a :: [s0]) h = bnd (ex d 4 0 [some (.ref a), some v0, some (.int v1)] [] h) (fun v h' => ex (d + 1) 109 42 L (v.toList ++ [s0]) h') := (ex_of d109_39 (d + 1) L (.int v1 :: v0 :: .ref a :: [s0]) h).trans (fin_sp (mi := 109) i10_355 (Or.inl rfl) rfl (by simp [cat1_i, cat1_r, isR_cat1 hv0]) (by simp) (Nat.le_of_ble_eq_true rfl))
theorem d109_42 : decode (mB 109) 42 = .ok (.astore 4, 2) := by decide +kernel
theorem x109_42 {d : Nat} {l0 l1 l2 l3 l4 : Option Value} {st : List Value} {a : Nat} {h : Hp} : ex (d) 109 42 [l0, l1, l2, l3, l4] (.ref a :: st) h = ex d 109 44 [l0, l1, l2, clr l3, some (.ref a)] st h := (ex_of d109_42 (d) [l0, l1, l2, l3, l4] (.ref a :: st) h).trans (rfl)
theorem x109_42n {d : Nat} {l0 l1 l2 l3 l4 : Option Value} {st : List Value} {h : Hp} : ex (d) 109 42 [l0, l1, l2, l3, l4] (.null :: st) h = ex d 109 44 [l0, l1, l2, clr l3, some .null] st h := (ex_of d109_42 (d) [l0, l1, l2, l3, l4] (.null :: st) h).trans (rfl)
theorem x109_42q {d : Nat} {l0 l1 l2 l3 l4 : Option Value} {st : List Value} {a : Option Nat} {h : Hp} : ex (d) 109 42 [l0, l1, l2, l3, l4] (va_rf a :: st) h = ex d 109 44 [l0, l1, l2, clr l3, some (va_rf a)] st h := (ex_of d109_42 (d) [l0, l1, l2, l3, l4] (va_rf a :: st) h).trans (by cases a <;> rfl)
theorem d109_44 : decode (mB 109) 44 = .ok (.aload_n 0, 1) := by decide +kernel
theorem x109_44 {d : Nat} {l1 l2 l3 l4 : Option Value} {st : List Value} {a : Nat} {h : Hp} : ex (d) 109 44 [some (.ref a), l1, l2, l3, l4] st h = ex d 109 45 [some (.ref a), l1, l2, l3, l4] (.ref a :: st) h := (ex_of d109_44 (d) [some (.ref a), l1, l2, l3, l4] st h).trans (rfl)
theorem d109_45 : decode (mB 109) 45 = .ok (.getfield 29, 3) := by decide +kernel
theorem x109_45 {d : Nat} {L : Lc} {st : List Value} {a : Nat} {h : Hp} (ht : (h.2.1 a).1 = 10) : ex (d) 109 45 L (.ref a :: st) h = ex d 109 48 L (h.1 a 6 :: st) h := (ex_of d109_45 (d) L (.ref a :: st) h).trans (fin_get (mi := 109) f10_29 (tg1 ht rfl))
theorem d109_48 : decode (mB 109) 48 = .ok (.iload_n 3, 1) := by decide +kernel
theorem x109_48 {d : Nat} {l0 l1 l2 l4 : Option Value} {st : List Value} {x : Int32} {h : Hp} : ex (d) 109 48 [l0, l1, l2, some (.int x), l4] st h = ex d 109 49 [l0, l1, l2, some (.int x), l4] (.int x :: st) h := (ex_of d109_48 (d) [l0, l1, l2, some (.int x), l4] st h).trans (rfl)
theorem d109_49 : decode (mB 109) 49 = .ok (.aload 4, 2) := by decide +kernel
theorem x109_49 {d : Nat} {l0 l1 l2 l3 : Option Value} {st : List Value} {a : Nat} {h : Hp} : ex (d) 109 49 [l0, l1, l2, l3, some (.ref a)] st h = ex d 109 51 [l0, l1, l2, l3, some (.ref a)] (.ref a :: st) h := (ex_of d109_49 (d) [l0, l1, l2, l3, some (.ref a)] st h).trans (rfl)
theorem x109_49n {d : Nat} {l0 l1 l2 l3 : Option Value} {st : List Value} {h : Hp} : ex (d) 109 49 [l0, l1, l2, l3, some .null] st h = ex d 109 51 [l0, l1, l2, l3, some .null] (.null :: st) h := (ex_of d109_49 (d) [l0, l1, l2, l3, some .null] st h).trans (rfl)
theorem x109_49q {d : Nat} {l0 l1 l2 l3 : Option Value} {st : List Value} {a : Option Nat} {h : Hp} : ex (d) 109 49 [l0, l1, l2, l3, some (va_rf a)] st h = ex d 109 51 [l0, l1, l2, l3, some (va_rf a)] (va_rf a :: st) h := (ex_of d109_49 (d) [l0, l1, l2, l3, some (va_rf a)] st h).trans (by cases a <;> rfl)
theorem d109_51 : decode (mB 109) 51 = .ok (.aastore, 1) := by decide +kernel
theorem x109_51 {d : Nat} {L : Lc} {st : List Value} {a j v : Nat} {h : Hp} (ht : 21 ≤ (h.2.1 a).1 ∧ (h.2.1 a).1 ≤ 25) (hc : casts.contains ((h.2.1 v).1, elT (h.2.1 a).1) = true) (hj : j < (h.2.1 a).2) (hb : j < 2147483648) : ex (d) 109 51 L (.ref v :: .int (nI j) :: .ref a :: st) h = ex d 109 52 L st (mup h.1 a j (.ref v), h.2) := (ex_of d109_51 (d) L (.ref v :: .int (nI j) :: .ref a :: st) h).trans (fin_aastore ht hc hj hb)
theorem x109_51n {d : Nat} {L : Lc} {st : List Value} {a j : Nat} {h : Hp} (ht : 21 ≤ (h.2.1 a).1 ∧ (h.2.1 a).1 ≤ 25) (hj : j < (h.2.1 a).2) (hb : j < 2147483648) : ex (d) 109 51 L (.null :: .int (nI j) :: .ref a :: st) h = ex d 109 52 L st (mup h.1 a j .null, h.2) := (ex_of d109_51 (d) L (.null :: .int (nI j) :: .ref a :: st) h).trans (fin_aastoreN ht hj hb)
theorem d109_52 : decode (mB 109) 52 = .ok (.aload_n 0, 1) := by decide +kernel
theorem x109_52 {d : Nat} {l1 l2 l3 l4 : Option Value} {st : List Value} {a : Nat} {h : Hp} : ex (d) 109 52 [some (.ref a), l1, l2, l3, l4] st h = ex d 109 53 [some (.ref a), l1, l2, l3, l4] (.ref a :: st) h := (ex_of d109_52 (d) [some (.ref a), l1, l2, l3, l4] st h).trans (rfl)
theorem d109_53 : decode (mB 109) 53 = .ok (.dup, 1) := by decide +kernel
theorem x109_53 {d : Nat} {L : Lc} {st : List Value} {a : Nat} {h : Hp} : ex (d) 109 53 L (.ref a :: st) h = ex d 109 54 L (.ref a :: .ref a :: st) h := (ex_of d109_53 (d) L (.ref a :: st) h).trans (rfl)
theorem x109_53i {d : Nat} {L : Lc} {st : List Value} {x : Int32} {h : Hp} : ex (d) 109 53 L (.int x :: st) h = ex d 109 54 L (.int x :: .int x :: st) h := (ex_of d109_53 (d) L (.int x :: st) h).trans (rfl)
theorem d109_54 : decode (mB 109) 54 = .ok (.getfield 323, 3) := by decide +kernel
theorem x109_54 {d : Nat} {L : Lc} {st : List Value} {a : Nat} {h : Hp} (ht : (h.2.1 a).1 = 10) : ex (d) 109 54 L (.ref a :: st) h = ex d 109 57 L (h.1 a 7 :: st) h := (ex_of d109_54 (d) L (.ref a :: st) h).trans (fin_get (mi := 109) f10_323 (tg1 ht rfl))
theorem d109_57 : decode (mB 109) 57 = .ok (.iconst 1, 1) := by decide +kernel
theorem x109_57 {d : Nat} {L : Lc} {st : List Value} {h : Hp} : ex (d) 109 57 L st h = ex d 109 58 L (.int (nI 1) :: st) h := (ex_of d109_57 (d) L st h).trans (rfl)
theorem d109_58 : decode (mB 109) 58 = .ok (.iadd, 1) := by decide +kernel
theorem x109_58 {d : Nat} {L : Lc} {st : List Value} {x y : Int32} {h : Hp} : ex (d) 109 58 L (.int y :: .int x :: st) h = ex d 109 59 L (.int (x + y) :: st) h := (ex_of d109_58 (d) L (.int y :: .int x :: st) h).trans (rfl)
theorem d109_59 : decode (mB 109) 59 = .ok (.putfield 323, 3) := by decide +kernel
theorem x109_59 {d : Nat} {L : Lc} {st : List Value} {a : Nat} {x : Int32} {h : Hp} (ht : (h.2.1 a).1 = 10) : ex (d) 109 59 L (.int x :: .ref a :: st) h = ex d 109 62 L st (mup h.1 a 7 (.int x), h.2) := (ex_of d109_59 (d) L (.int x :: .ref a :: st) h).trans (fin_put (mi := 109) f10_323 ht rfl rfl (by decide +kernel))
theorem d109_62 : decode (mB 109) 62 = .ok (.aload_n 0, 1) := by decide +kernel
theorem x109_62 {d : Nat} {l1 l2 l3 l4 : Option Value} {st : List Value} {a : Nat} {h : Hp} : ex (d) 109 62 [some (.ref a), l1, l2, l3, l4] st h = ex d 109 63 [some (.ref a), l1, l2, l3, l4] (.ref a :: st) h := (ex_of d109_62 (d) [some (.ref a), l1, l2, l3, l4] st h).trans (rfl)
theorem d109_63 : decode (mB 109) 63 = .ok (.new 342, 3) := by decide +kernel
theorem x109_63 {d : Nat} {L : Lc} {st : List Value} {h : Hp} : ex (d) 109 63 L st h = ex d 109 66 L (.ref h.2.2.1 :: st) (mnw h.1 h.2.2.1 (fun k => dfv (pty 4 k)), mnw h.2.1 h.2.2.1 (4, 7), h.2.2.1 + 1, h.2.2.2 + 7) := (ex_of d109_63 (d) L st h).trans (fin_new (mi := 109) k10_342 rfl (by decide))
theorem d109_66 : decode (mB 109) 66 = .ok (.dup, 1) := by decide +kernel
theorem x109_66 {d : Nat} {L : Lc} {st : List Value} {a : Nat} {h : Hp} : ex (d) 109 66 L (.ref a :: st) h = ex d 109 67 L (.ref a :: .ref a :: st) h := (ex_of d109_66 (d) L (.ref a :: st) h).trans (rfl)
theorem x109_66i {d : Nat} {L : Lc} {st : List Value} {x : Int32} {h : Hp} : ex (d) 109 66 L (.int x :: st) h = ex d 109 67 L (.int x :: .int x :: st) h := (ex_of d109_66 (d) L (.int x :: st) h).trans (rfl)
theorem d109_67 : decode (mB 109) 67 = .ok (.aload_n 1, 1) := by decide +kernel
theorem x109_67 {d : Nat} {l0 l2 l3 l4 : Option Value} {st : List Value} {a : Nat} {h : Hp} : ex (d) 109 67 [l0, some (.ref a), l2, l3, l4] st h = ex d 109 68 [l0, some (.ref a), l2, l3, l4] (.ref a :: st) h := (ex_of d109_67 (d) [l0, some (.ref a), l2, l3, l4] st h).trans (rfl)
theorem x109_67n {d : Nat} {l0 l2 l3 l4 : Option Value} {st : List Value} {h : Hp} : ex (d) 109 67 [l0, some .null, l2, l3, l4] st h = ex d 109 68 [l0, some .null, l2, l3, l4] (.null :: st) h := (ex_of d109_67 (d) [l0, some .null, l2, l3, l4] st h).trans (rfl)
theorem x109_67q {d : Nat} {l0 l2 l3 l4 : Option Value} {st : List Value} {a : Option Nat} {h : Hp} : ex (d) 109 67 [l0, some (va_rf a), l2, l3, l4] st h = ex d 109 68 [l0, some (va_rf a), l2, l3, l4] (va_rf a :: st) h := (ex_of d109_67 (d) [l0, some (va_rf a), l2, l3, l4] st h).trans (by cases a <;> rfl)
theorem d109_68 : decode (mB 109) 68 = .ok (.aload_n 0, 1) := by decide +kernel
theorem x109_68 {d : Nat} {l1 l2 l3 l4 : Option Value} {st : List Value} {a : Nat} {h : Hp} : ex (d) 109 68 [some (.ref a), l1, l2, l3, l4] st h = ex d 109 69 [some (.ref a), l1, l2, l3, l4] (.ref a :: st) h := (ex_of d109_68 (d) [some (.ref a), l1, l2, l3, l4] st h).trans (rfl)
theorem d109_69 : decode (mB 109) 69 = .ok (.getfield 280, 3) := by decide +kernel
theorem x109_69 {d : Nat} {L : Lc} {st : List Value} {a : Nat} {h : Hp} (ht : (h.2.1 a).1 = 10) : ex (d) 109 69 L (.ref a :: st) h = ex d 109 72 L (h.1 a 11 :: st) h := (ex_of d109_69 (d) L (.ref a :: st) h).trans (fin_get (mi := 109) f10_280 (tg1 ht rfl))
theorem d109_72 : decode (mB 109) 72 = .ok (.aload 4, 2) := by decide +kernel
theorem x109_72 {d : Nat} {l0 l1 l2 l3 : Option Value} {st : List Value} {a : Nat} {h : Hp} : ex (d) 109 72 [l0, l1, l2, l3, some (.ref a)] st h = ex d 109 74 [l0, l1, l2, l3, some (.ref a)] (.ref a :: st) h := (ex_of d109_72 (d) [l0, l1, l2, l3, some (.ref a)] st h).trans (rfl)
theorem x109_72n {d : Nat} {l0 l1 l2 l3 : Option Value} {st : List Value} {h : Hp} : ex (d) 109 72 [l0, l1, l2, l3, some .null] st h = ex d 109 74 [l0, l1, l2, l3, some .null] (.null :: st) h := (ex_of d109_72 (d) [l0, l1, l2, l3, some .null] st h).trans (rfl)
theorem x109_72q {d : Nat} {l0 l1 l2 l3 : Option Value} {st : List Value} {a : Option Nat} {h : Hp} : ex (d) 109 72 [l0, l1, l2, l3, some (va_rf a)] st h = ex d 109 74 [l0, l1, l2, l3, some (va_rf a)] (va_rf a :: st) h := (ex_of d109_72 (d) [l0, l1, l2, l3, some (va_rf a)] st h).trans (by cases a <;> rfl)
theorem d109_74 : decode (mB 109) 74 = .ok (.iconst 2, 1) := by decide +kernel
theorem x109_74 {d : Nat} {L : Lc} {st : List Value} {h : Hp} : ex (d) 109 74 L st h = ex d 109 75 L (.int (nI 2) :: st) h := (ex_of d109_74 (d) L st h).trans (rfl)
theorem d109_75 : decode (mB 109) 75 = .ok (.invokespecial 344, 3) := by decide +kernel
theorem x109_75 {d : Nat} {L : Lc} {s0 s1 : Value} {a : Nat} {v0 : Value} {v1 : Int32} {v2 : Value} {v3 : Int32} {h : Hp} (hv0 : isR v0 = true) (hv2 : isR v2 = true) : ex (d + 1) 109 75 L (.int v3 :: v2 :: .int v1 :: v0 :: .ref a :: [s0, s1]) h = bnd (ex d 11 0 [some (.ref a), some v0, some (.int v1), some v2, some (.int v3)] [] h) (fun v h' => ex (d + 1) 109 78 L (v.toList ++ [s0, s1]) h') := (ex_of d109_75 (d + 1) L (.int v3 :: v2 :: .int v1 :: v0 :: .ref a :: [s0, s1]) h).trans (fin_sp (mi := 109) i10_344 (Or.inl rfl) rfl (by simp [cat1_i, cat1_r, isR_cat1 hv0, isR_cat1 hv2]) (by simp) (Nat.le_of_ble_eq_true rfl))
theorem d109_78 : decode (mB 109) 78 = .ok (.invokevirtual 162, 3) := by decide +kernel
theorem x109_78 {d : Nat} {L : Lc} {a : Nat} {v0 : Value} {h : Hp} (ht : (h.2.1 a).1 = 10) (hv0 : isR v0 = true) : ex (d + 1) 109 78 L (v0 :: .ref a :: []) h = bnd (ex d 115 0 [some (.ref a), some v0] [] h) (fun v h' => ex (d + 1) 109 81 L (v.toList ++ []) h') := (ex_of d109_78 (d + 1) L (v0 :: .ref a :: []) h).trans (fin_vi (mi := 109) i10_162 ht rfl rfl (by simp [cat1_i, cat1_r, isR_cat1 hv0]) (by simp) (Nat.le_of_ble_eq_true rfl))
theorem d109_81 : decode (mB 109) 81 = .ok (.aload_n 1, 1) := by decide +kernel
theorem x109_81 {d : Nat} {l0 l2 l3 l4 : Option Value} {st : List Value} {a : Nat} {h : Hp} : ex (d) 109 81 [l0, some (.ref a), l2, l3, l4] st h = ex d 109 82 [l0, some (.ref a), l2, l3, l4] (.ref a :: st) h := (ex_of d109_81 (d) [l0, some (.ref a), l2, l3, l4] st h).trans (rfl)
theorem x109_81n {d : Nat} {l0 l2 l3 l4 : Option Value} {st : List Value} {h : Hp} : ex (d) 109 81 [l0, some .null, l2, l3, l4] st h = ex d 109 82 [l0, some .null, l2, l3, l4] (.null :: st) h := (ex_of d109_81 (d) [l0, some .null, l2, l3, l4] st h).trans (rfl)
theorem x109_81q {d : Nat} {l0 l2 l3 l4 : Option Value} {st : List Value} {a : Option Nat} {h : Hp} : ex (d) 109 81 [l0, some (va_rf a), l2, l3, l4] st h = ex d 109 82 [l0, some (va_rf a), l2, l3, l4] (va_rf a :: st) h := (ex_of d109_81 (d) [l0, some (va_rf a), l2, l3, l4] st h).trans (by cases a <;> rfl)
theorem d109_82 : decode (mB 109) 82 = .ok (.iconst 2, 1) := by decide +kernel
theorem x109_82 {d : Nat} {L : Lc} {st : List Value} {h : Hp} : ex (d) 109 82 L st h = ex d 109 83 L (.int (nI 2) :: st) h := (ex_of d109_82 (d) L st h).trans (rfl)
theorem d109_83 : decode (mB 109) 83 = .ok (.aconst_null, 1) := by decide +kernel
theorem x109_83 {d : Nat} {L : Lc} {st : List Value} {h : Hp} : ex (d) 109 83 L st h = ex d 109 84 L (.null :: st) h := (ex_of d109_83 (d) L st h).trans (rfl)
theorem d109_84 : decode (mB 109) 84 = .ok (.iconst 0, 1) := by decide +kernel
theorem x109_84 {d : Nat} {L : Lc} {st : List Value} {h : Hp} : ex (d) 109 84 L st h = ex d 109 85 L (.int (nI 0) :: st) h := (ex_of d109_84 (d) L st h).trans (rfl)
theorem d109_85 : decode (mB 109) 85 = .ok (.invokevirtual 347, 3) := by decide +kernel
theorem x109_85 {d : Nat} {L : Lc} {a : Nat} {v0 : Int32} {v1 : Value} {v2 : Int32} {h : Hp} (ht : isTh (h.2.1 a).1 = true) (hv1 : isR v1 = true) : ex (d + 1) 109 85 L (.int v2 :: v1 :: .int v0 :: .ref a :: []) h = bnd (ex d 42 0 [some (.ref a), some (.int v0), some v1, some (.int v2)] [] h) (fun v h' => ex (d + 1) 109 88 L (v.toList ++ []) h') := (ex_of d109_85 (d + 1) L (.int v2 :: v1 :: .int v0 :: .ref a :: []) h).trans (fin_viT (mi := 109) i10_347 ht (by decide +kernel) rfl (by simp [cat1_i, cat1_r, isR_cat1 hv1]) (by simp) (Nat.le_of_ble_eq_true rfl))
theorem d109_88 : decode (mB 109) 88 = .ok (.aload_n 0, 1) := by decide +kernel
theorem x109_88 {d : Nat} {l1 l2 l3 l4 : Option Value} {st : List Value} {a : Nat} {h : Hp} : ex (d) 109 88 [some (.ref a), l1, l2, l3, l4] st h = ex d 109 89 [some (.ref a), l1, l2, l3, l4] (.ref a :: st) h := (ex_of d109_88 (d) [some (.ref a), l1, l2, l3, l4] st h).trans (rfl)
theorem d109_89 : decode (mB 109) 89 = .ok (.dup, 1) := by decide +kernel
theorem x109_89 {d : Nat} {L : Lc} {st : List Value} {a : Nat} {h : Hp} : ex (d) 109 89 L (.ref a :: st) h = ex d 109 90 L (.ref a :: .ref a :: st) h := (ex_of d109_89 (d) L (.ref a :: st) h).trans (rfl)
theorem x109_89i {d : Nat} {L : Lc} {st : List Value} {x : Int32} {h : Hp} : ex (d) 109 89 L (.int x :: st) h = ex d 109 90 L (.int x :: .int x :: st) h := (ex_of d109_89 (d) L (.int x :: st) h).trans (rfl)
theorem d109_90 : decode (mB 109) 90 = .ok (.getfield 280, 3) := by decide +kernel
theorem x109_90 {d : Nat} {L : Lc} {st : List Value} {a : Nat} {h : Hp} (ht : (h.2.1 a).1 = 10) : ex (d) 109 90 L (.ref a :: st) h = ex d 109 93 L (h.1 a 11 :: st) h := (ex_of d109_90 (d) L (.ref a :: st) h).trans (fin_get (mi := 109) f10_280 (tg1 ht rfl))
theorem d109_93 : decode (mB 109) 93 = .ok (.iload_n 2, 1) := by decide +kernel
theorem x109_93 {d : Nat} {l0 l1 l3 l4 : Option Value} {st : List Value} {x : Int32} {h : Hp} : ex (d) 109 93 [l0, l1, some (.int x), l3, l4] st h = ex d 109 94 [l0, l1, some (.int x), l3, l4] (.int x :: st) h := (ex_of d109_93 (d) [l0, l1, some (.int x), l3, l4] st h).trans (rfl)
theorem d109_94 : decode (mB 109) 94 = .ok (.iadd, 1) := by decide +kernel
theorem x109_94 {d : Nat} {L : Lc} {st : List Value} {x y : Int32} {h : Hp} : ex (d) 109 94 L (.int y :: .int x :: st) h = ex d 109 95 L (.int (x + y) :: st) h := (ex_of d109_94 (d) L (.int y :: .int x :: st) h).trans (rfl)
theorem d109_95 : decode (mB 109) 95 = .ok (.putfield 280, 3) := by decide +kernel
theorem x109_95 {d : Nat} {L : Lc} {st : List Value} {a : Nat} {x : Int32} {h : Hp} (ht : (h.2.1 a).1 = 10) : ex (d) 109 95 L (.int x :: .ref a :: st) h = ex d 109 98 L st (mup h.1 a 11 (.int x), h.2) := (ex_of d109_95 (d) L (.int x :: .ref a :: st) h).trans (fin_put (mi := 109) f10_280 ht rfl rfl (by decide +kernel))
theorem d109_98 : decode (mB 109) 98 = .ok (.aload_n 0, 1) := by decide +kernel
theorem x109_98 {d : Nat} {l1 l2 l3 l4 : Option Value} {st : List Value} {a : Nat} {h : Hp} : ex (d) 109 98 [some (.ref a), l1, l2, l3, l4] st h = ex d 109 99 [some (.ref a), l1, l2, l3, l4] (.ref a :: st) h := (ex_of d109_98 (d) [some (.ref a), l1, l2, l3, l4] st h).trans (rfl)
theorem d109_99 : decode (mB 109) 99 = .ok (.iload_n 3, 1) := by decide +kernel
theorem x109_99 {d : Nat} {l0 l1 l2 l4 : Option Value} {st : List Value} {x : Int32} {h : Hp} : ex (d) 109 99 [l0, l1, l2, some (.int x), l4] st h = ex d 109 100 [l0, l1, l2, some (.int x), l4] (.int x :: st) h := (ex_of d109_99 (d) [l0, l1, l2, some (.int x), l4] st h).trans (rfl)
theorem d109_100 : decode (mB 109) 100 = .ok (.invokevirtual 64, 3) := by decide +kernel
theorem x109_100 {d : Nat} {L : Lc} {a : Nat} {v0 : Int32} {h : Hp} (ht : (h.2.1 a).1 = 10) : ex (d + 1) 109 100 L (.int v0 :: .ref a :: []) h = bnd (ex d 85 0 [some (.ref a), some (.int v0)] [] h) (fun v h' => ex (d + 1) 109 103 L (v.toList ++ []) h') := (ex_of d109_100 (d + 1) L (.int v0 :: .ref a :: []) h).trans (fin_vi (mi := 109) i10_64 ht rfl rfl (by simp [cat1_i, cat1_r]) (by simp) (Nat.le_of_ble_eq_true rfl))
theorem d109_103 : decode (mB 109) 103 = .ok (.ireturn, 1) := by decide +kernel
theorem x109_103 {d : Nat} {L : Lc} {x : Int32} {h : Hp} : ex (d) 109 103 L [.int x] h = some (some (.int x), h) := (ex_of d109_103 (d) L [.int x] h).trans (rfl)
theorem d110_0 : decode (mB 110) 0 = .ok (.aload_n 2, 1) := by decide +kernel
theorem x110_0 {d : Nat} {l0 l1 l3 l4 l5 l6 : Option Value} {st : List Value} {a : Nat} {h : Hp} : ex (d) 110 0 [l0, l1, some (.ref a), l3, l4, l5, l6] st h = ex d 110 1 [l0, l1, some (.ref a), l3, l4, l5, l6] (.ref a :: st) h := (ex_of d110_0 (d) [l0, l1, some (.ref a), l3, l4, l5, l6] st h).trans (rfl)
theorem x110_0n {d : Nat} {l0 l1 l3 l4 l5 l6 : Option Value} {st : List Value} {h : Hp} : ex (d) 110 0 [l0, l1, some .null, l3, l4, l5, l6] st h = ex d 110 1 [l0, l1, some .null, l3, l4, l5, l6] (.null :: st) h := (ex_of d110_0 (d) [l0, l1, some .null, l3, l4, l5, l6] st h).trans (rfl)
theorem x110_0q {d : Nat} {l0 l1 l3 l4 l5 l6 : Option Value} {st : List Value} {a : Option Nat} {h : Hp} : ex (d) 110 0 [l0, l1, some (va_rf a), l3, l4, l5, l6] st h = ex d 110 1 [l0, l1, some (va_rf a), l3, l4, l5, l6] (va_rf a :: st) h := (ex_of d110_0 (d) [l0, l1, some (va_rf a), l3, l4, l5, l6] st h).trans (by cases a <;> rfl)
theorem d110_1 : decode (mB 110) 1 = .ok (.iload_n 3, 1) := by decide +kernel
theorem x110_1 {d : Nat} {l0 l1 l2 l4 l5 l6 : Option Value} {st : List Value} {x : Int32} {h : Hp} : ex (d) 110 1 [l0, l1, l2, some (.int x), l4, l5, l6] st h = ex d 110 2 [l0, l1, l2, some (.int x), l4, l5, l6] (.int x :: st) h := (ex_of d110_1 (d) [l0, l1, l2, some (.int x), l4, l5, l6] st h).trans (rfl)
theorem d110_2 : decode (mB 110) 2 = .ok (.invokevirtual 336, 3) := by decide +kernel
theorem x110_2 {d : Nat} {L : Lc} {a : Nat} {v0 : Int32} {h : Hp} (ht : (h.2.1 a).1 = 3) : ex (d + 1) 110 2 L (.int v0 :: .ref a :: []) h = bnd (ex d 6 0 [some (.ref a), some (.int v0)] [] h) (fun v h' => ex (d + 1) 110 5 L (v.toList ++ []) h') := (ex_of d110_2 (d + 1) L (.int v0 :: .ref a :: []) h).trans (fin_vi (mi := 110) i10_336 ht rfl rfl (by simp [cat1_i, cat1_r]) (by simp) (Nat.le_of_ble_eq_true rfl))
theorem d110_5 : decode (mB 110) 5 = .ok (.ifCond .ne 9, 3) := by decide +kernel
theorem x110_5 {d : Nat} {L : Lc} {st : List Value} {x : Int32} {h : Hp} : ex (d) 110 5 L (.int x :: st) h = if ¬ x = 0 then ex d 110 14 L st h else ex d 110 8 L st h := (ex_of d110_5 (d) L (.int x :: st) h).trans (fin_brq (off := 9) (tgt := 14) rfl (by decide))
theorem d110_8 : decode (mB 110) 8 = .ok (.aload_n 0, 1) := by decide +kernel
theorem x110_8 {d : Nat} {l1 l2 l3 l4 l5 l6 : Option Value} {st : List Value} {a : Nat} {h : Hp} : ex (d) 110 8 [some (.ref a), l1, l2, l3, l4, l5, l6] st h = ex d 110 9 [some (.ref a), l1, l2, l3, l4, l5, l6] (.ref a :: st) h := (ex_of d110_8 (d) [some (.ref a), l1, l2, l3, l4, l5, l6] st h).trans (rfl)
theorem d110_9 : decode (mB 110) 9 = .ok (.iconst 2, 1) := by decide +kernel
theorem x110_9 {d : Nat} {L : Lc} {st : List Value} {h : Hp} : ex (d) 110 9 L st h = ex d 110 10 L (.int (nI 2) :: st) h := (ex_of d110_9 (d) L st h).trans (rfl)
theorem d110_10 : decode (mB 110) 10 = .ok (.invokevirtual 57, 3) := by decide +kernel
theorem x110_10 {d : Nat} {L : Lc} {a : Nat} {v0 : Int32} {h : Hp} (ht : (h.2.1 a).1 = 10) : ex (d + 1) 110 10 L (.int v0 :: .ref a :: []) h = bnd (ex d 84 0 [some (.ref a), some (.int v0)] [] h) (fun v h' => ex (d + 1) 110 13 L (v.toList ++ []) h') := (ex_of d110_10 (d + 1) L (.int v0 :: .ref a :: []) h).trans (fin_vi (mi := 110) i10_57 ht rfl rfl (by simp [cat1_i, cat1_r]) (by simp) (Nat.le_of_ble_eq_true rfl))
theorem d110_13 : decode (mB 110) 13 = .ok (.ireturn, 1) := by decide +kernel
theorem x110_13 {d : Nat} {L : Lc} {x : Int32} {h : Hp} : ex (d) 110 13 L [.int x] h = some (some (.int x), h) := (ex_of d110_13 (d) L [.int x] h).trans (rfl)
theorem d110_14 : decode (mB 110) 14 = .ok (.aload_n 2, 1) := by decide +kernel
theorem x110_14 {d : Nat} {l0 l1 l3 l4 l5 l6 : Option Value} {st : List Value} {a : Nat} {h : Hp} : ex (d) 110 14 [l0, l1, some (.ref a), l3, l4, l5, l6] st h = ex d 110 15 [l0, l1, some (.ref a), l3, l4, l5, l6] (.ref a :: st) h := (ex_of d110_14 (d) [l0, l1, some (.ref a), l3, l4, l5, l6] st h).trans (rfl)
theorem x110_14n {d : Nat} {l0 l1 l3 l4 l5 l6 : Option Value} {st : List Value} {h : Hp} : ex (d) 110 14 [l0, l1, some .null, l3, l4, l5, l6] st h = ex d 110 15 [l0, l1, some .null, l3, l4, l5, l6] (.null :: st) h := (ex_of d110_14 (d) [l0, l1, some .null, l3, l4, l5, l6] st h).trans (rfl)
theorem x110_14q {d : Nat} {l0 l1 l3 l4 l5 l6 : Option Value} {st : List Value} {a : Option Nat} {h : Hp} : ex (d) 110 14 [l0, l1, some (va_rf a), l3, l4, l5, l6] st h = ex d 110 15 [l0, l1, some (va_rf a), l3, l4, l5, l6] (va_rf a :: st) h := (ex_of d110_14 (d) [l0, l1, some (va_rf a), l3, l4, l5, l6] st h).trans (by cases a <;> rfl)
theorem d110_15 : decode (mB 110) 15 = .ok (.iload_n 3, 1) := by decide +kernel
theorem x110_15 {d : Nat} {l0 l1 l2 l4 l5 l6 : Option Value} {st : List Value} {x : Int32} {h : Hp} : ex (d) 110 15 [l0, l1, l2, some (.int x), l4, l5, l6] st h = ex d 110 16 [l0, l1, l2, some (.int x), l4, l5, l6] (.int x :: st) h := (ex_of d110_15 (d) [l0, l1, l2, some (.int x), l4, l5, l6] st h).trans (rfl)
theorem d110_16 : decode (mB 110) 16 = .ok (.aload_n 1, 1) := by decide +kernel
theorem x110_16 {d : Nat} {l0 l2 l3 l4 l5 l6 : Option Value} {st : List Value} {a : Nat} {h : Hp} : ex (d) 110 16 [l0, some (.ref a), l2, l3, l4, l5, l6] st h = ex d 110 17 [l0, some (.ref a), l2, l3, l4, l5, l6] (.ref a :: st) h := (ex_of d110_16 (d) [l0, some (.ref a), l2, l3, l4, l5, l6] st h).trans (rfl)
theorem x110_16n {d : Nat} {l0 l2 l3 l4 l5 l6 : Option Value} {st : List Value} {h : Hp} : ex (d) 110 16 [l0, some .null, l2, l3, l4, l5, l6] st h = ex d 110 17 [l0, some .null, l2, l3, l4, l5, l6] (.null :: st) h := (ex_of d110_16 (d) [l0, some .null, l2, l3, l4, l5, l6] st h).trans (rfl)
theorem x110_16q {d : Nat} {l0 l2 l3 l4 l5 l6 : Option Value} {st : List Value} {a : Option Nat} {h : Hp} : ex (d) 110 16 [l0, some (va_rf a), l2, l3, l4, l5, l6] st h = ex d 110 17 [l0, some (va_rf a), l2, l3, l4, l5, l6] (va_rf a :: st) h := (ex_of d110_16 (d) [l0, some (va_rf a), l2, l3, l4, l5, l6] st h).trans (by cases a <;> rfl)
theorem d110_17 : decode (mB 110) 17 = .ok (.getfield 358, 3) := by decide +kernel
theorem x110_17 {d : Nat} {L : Lc} {st : List Value} {a : Nat} {h : Hp} (ht : (h.2.1 a).1 = 2) : ex (d) 110 17 L (.ref a :: st) h = ex d 110 20 L (h.1 a 0 :: st) h := (ex_of d110_17 (d) L (.ref a :: st) h).trans (fin_get (mi := 110) f10_358 (tg1 ht rfl))
theorem d110_20 : decode (mB 110) 20 = .ok (.invokestatic 339, 3) := by decide +kernel
theorem x110_20 {d : Nat} {L : Lc}  {v0 : Value} {v1 : Int32} {v2 : Value} {h : Hp} (hv0 : isR v0 = true) (hv2 : isR v2 = true) : ex (d + 1) 110 20 L (v2 :: .int v1 :: v0 :: []) h = bnd (ex d 111 0 [some v0, some (.int v1), some v2, none] [] h) (fun v h' => ex (d + 1) 110 23 L (v.toList ++ []) h') := (ex_of d110_20 (d + 1) L (v2 :: .int v1 :: v0 :: []) h).trans (fin_st (mi := 110) i10_339 (Or.inl rfl) (by simp) (by simp [cat1_i, cat1_r, isR_cat1 hv0, isR_cat1 hv2]) (by simp) (Nat.le_of_ble_eq_true rfl))
theorem d110_23 : decode (mB 110) 23 = .ok (.istore 5, 2) := by decide +kernel
theorem x110_23 {d : Nat} {l0 l1 l2 l3 l4 l5 l6 : Option Value} {st : List Value} {x : Int32} {h : Hp} : ex (d) 110 23 [l0, l1, l2, l3, l4, l5, l6] (.int x :: st) h = ex d 110 25 [l0, l1, l2, l3, clr l4, some (.int x), l6] st h := (ex_of d110_23 (d) [l0, l1, l2, l3, l4, l5, l6] (.int x :: st) h).trans (rfl)
theorem d110_25 : decode (mB 110) 25 = .ok (.iload 5, 2) := by decide +kernel
theorem x110_25 {d : Nat} {l0 l1 l2 l3 l4 l6 : Option Value} {st : List Value} {x : Int32} {h : Hp} : ex (d) 110 25 [l0, l1, l2, l3, l4, some (.int x), l6] st h = ex d 110 27 [l0, l1, l2, l3, l4, some (.int x), l6] (.int x :: st) h := (ex_of d110_25 (d) [l0, l1, l2, l3, l4, some (.int x), l6] st h).trans (rfl)
theorem d110_27 : decode (mB 110) 27 = .ok (.ifCond .eq 10, 3) := by decide +kernel
theorem x110_27 {d : Nat} {L : Lc} {st : List Value} {x : Int32} {h : Hp} : ex (d) 110 27 L (.int x :: st) h = if x = 0 then ex d 110 37 L st h else ex d 110 30 L st h := (ex_of d110_27 (d) L (.int x :: st) h).trans (fin_brq (off := 10) (tgt := 37) rfl (by decide))
theorem d110_30 : decode (mB 110) 30 = .ok (.aload_n 0, 1) := by decide +kernel
theorem x110_30 {d : Nat} {l1 l2 l3 l4 l5 l6 : Option Value} {st : List Value} {a : Nat} {h : Hp} : ex (d) 110 30 [some (.ref a), l1, l2, l3, l4, l5, l6] st h = ex d 110 31 [some (.ref a), l1, l2, l3, l4, l5, l6] (.ref a :: st) h := (ex_of d110_30 (d) [some (.ref a), l1, l2, l3, l4, l5, l6] st h).trans (rfl)
theorem d110_31 : decode (mB 110) 31 = .ok (.iload 5, 2) := by decide +kernel
theorem x110_31 {d : Nat} {l0 l1 l2 l3 l4 l6 : Option Value} {st : List Value} {x : Int32} {h : Hp} : ex (d) 110 31 [l0, l1, l2, l3, l4, some (.int x), l6] st h = ex d 110 33 [l0, l1, l2, l3, l4, some (.int x), l6] (.int x :: st) h := (ex_of d110_31 (d) [l0, l1, l2, l3, l4, some (.int x), l6] st h).trans (rfl)
theorem d110_33 : decode (mB 110) 33 = .ok (.invokevirtual 57, 3) := by decide +kernel
theorem x110_33 {d : Nat} {L : Lc} {a : Nat} {v0 : Int32} {h : Hp} (ht : (h.2.1 a).1 = 10) : ex (d + 1) 110 33 L (.int v0 :: .ref a :: []) h = bnd (ex d 84 0 [some (.ref a), some (.int v0)] [] h) (fun v h' => ex (d + 1) 110 36 L (v.toList ++ []) h') := (ex_of d110_33 (d + 1) L (.int v0 :: .ref a :: []) h).trans (fin_vi (mi := 110) i10_57 ht rfl rfl (by simp [cat1_i, cat1_r]) (by simp) (Nat.le_of_ble_eq_true rfl))
theorem d110_36 : decode (mB 110) 36 = .ok (.ireturn, 1) := by decide +kernel
theorem x110_36 {d : Nat} {L : Lc} {x : Int32} {h : Hp} : ex (d) 110 36 L [.int x] h = some (some (.int x), h) := (ex_of d110_36 (d) L [.int x] h).trans (rfl)
theorem d110_37 : decode (mB 110) 37 = .ok (.iload 4, 2) := by decide +kernel
theorem x110_37 {d : Nat} {l0 l1 l2 l3 l5 l6 : Option Value} {st : List Value} {x : Int32} {h : Hp} : ex (d) 110 37 [l0, l1, l2, l3, some (.int x), l5, l6] st h = ex d 110 39 [l0, l1, l2, l3, some (.int x), l5, l6] (.int x :: st) h := (ex_of d110_37 (d) [l0, l1, l2, l3, some (.int x), l5, l6] st h).trans (rfl)
theorem d110_39 : decode (mB 110) 39 = .ok (.iconst 0, 1) := by decide +kernel
theorem x110_39 {d : Nat} {L : Lc} {st : List Value} {h : Hp} : ex (d) 110 39 L st h = ex d 110 40 L (.int (nI 0) :: st) h := (ex_of d110_39 (d) L st h).trans (rfl)
theorem d110_40 : decode (mB 110) 40 = .ok (.aload_n 1, 1) := by decide +kernel
theorem x110_40 {d : Nat} {l0 l2 l3 l4 l5 l6 : Option Value} {st : List Value} {a : Nat} {h : Hp} : ex (d) 110 40 [l0, some (.ref a), l2, l3, l4, l5, l6] st h = ex d 110 41 [l0, some (.ref a), l2, l3, l4, l5, l6] (.ref a :: st) h := (ex_of d110_40 (d) [l0, some (.ref a), l2, l3, l4, l5, l6] st h).trans (rfl)
theorem x110_40n {d : Nat} {l0 l2 l3 l4 l5 l6 : Option Value} {st : List Value} {h : Hp} : ex (d) 110 40 [l0, some .null, l2, l3, l4, l5, l6] st h = ex d 110 41 [l0, some .null, l2, l3, l4, l5, l6] (.null :: st) h := (ex_of d110_40 (d) [l0, some .null, l2, l3, l4, l5, l6] st h).trans (rfl)
theorem x110_40q {d : Nat} {l0 l2 l3 l4 l5 l6 : Option Value} {st : List Value} {a : Option Nat} {h : Hp} : ex (d) 110 40 [l0, some (va_rf a), l2, l3, l4, l5, l6] st h = ex d 110 41 [l0, some (va_rf a), l2, l3, l4, l5, l6] (va_rf a :: st) h := (ex_of d110_40 (d) [l0, some (va_rf a), l2, l3, l4, l5, l6] st h).trans (by cases a <;> rfl)
theorem d110_41 : decode (mB 110) 41 = .ok (.getfield 362, 3) := by decide +kernel
theorem x110_41 {d : Nat} {L : Lc} {st : List Value} {a : Nat} {h : Hp} (ht : (h.2.1 a).1 = 2) : ex (d) 110 41 L (.ref a :: st) h = ex d 110 44 L (h.1 a 1 :: st) h := (ex_of d110_41 (d) L (.ref a :: st) h).trans (fin_get (mi := 110) f10_362 (tg1 ht rfl))
theorem d110_44 : decode (mB 110) 44 = .ok (.invokestatic 50, 3) := by decide +kernel
theorem x110_44 {d : Nat} {L : Lc}  {v0 : Int32} {v1 : Int32} {v2 : Int32} {h : Hp} : ex (d + 1) 110 44 L (.int v2 :: .int v1 :: .int v0 :: []) h = bnd (ex d 92 0 [some (.int v0), some (.int v1), some (.int v2)] [] h) (fun v h' => ex (d + 1) 110 47 L (v.toList ++ []) h') := (ex_of d110_44 (d + 1) L (.int v2 :: .int v1 :: .int v0 :: []) h).trans (fin_st (mi := 110) i10_50 (Or.inl rfl) (by simp) (by simp [cat1_i, cat1_r]) (by simp) (Nat.le_of_ble_eq_true rfl))
theorem d110_47 : decode (mB 110) 47 = .ok (.ifCond .ne 10, 3) := by decide +kernel
theorem x110_47 {d : Nat} {L : Lc} {st : List Value} {x : Int32} {h : Hp} : ex (d) 110 47 L (.int x :: st) h = if ¬ x = 0 then ex d 110 57 L st h else ex d 110 50 L st h := (ex_of d110_47 (d) L (.int x :: st) h).trans (fin_brq (off := 10) (tgt := 57) rfl (by decide))
theorem d110_50 : decode (mB 110) 50 = .ok (.aload_n 0, 1) := by decide +kernel
theorem x110_50 {d : Nat} {l1 l2 l3 l4 l5 l6 : Option Value} {st : List Value} {a : Nat} {h : Hp} : ex (d) 110 50 [some (.ref a), l1, l2, l3, l4, l5, l6] st h = ex d 110 51 [some (.ref a), l1, l2, l3, l4, l5, l6] (.ref a :: st) h := (ex_of d110_50 (d) [some (.ref a), l1, l2, l3, l4, l5, l6] st h).trans (rfl)
theorem d110_51 : decode (mB 110) 51 = .ok (.bipush 6, 2) := by decide +kernel
theorem x110_51 {d : Nat} {L : Lc} {st : List Value} {h : Hp} : ex (d) 110 51 L st h = ex d 110 53 L (.int (nI 6) :: st) h := (ex_of d110_51 (d) L st h).trans (rfl)
theorem d110_53 : decode (mB 110) 53 = .ok (.invokevirtual 57, 3) := by decide +kernel
theorem x110_53 {d : Nat} {L : Lc} {a : Nat} {v0 : Int32} {h : Hp} (ht : (h.2.1 a).1 = 10) : ex (d + 1) 110 53 L (.int v0 :: .ref a :: []) h = bnd (ex d 84 0 [some (.ref a), some (.int v0)] [] h) (fun v h' => ex (d + 1) 110 56 L (v.toList ++ []) h') := (ex_of d110_53 (d + 1) L (.int v0 :: .ref a :: []) h).trans (fin_vi (mi := 110) i10_57 ht rfl rfl (by simp [cat1_i, cat1_r]) (by simp) (Nat.le_of_ble_eq_true rfl))
theorem d110_56 : decode (mB 110) 56 = .ok (.ireturn, 1) := by decide +kernel
theorem x110_56 {d : Nat} {L : Lc} {x : Int32} {h : Hp} : ex (d) 110 56 L [.int x] h = some (some (.int x), h) := (ex_of d110_56 (d) L [.int x] h).trans (rfl)
theorem d110_57 : decode (mB 110) 57 = .ok (.aload_n 0, 1) := by decide +kernel
theorem x110_57 {d : Nat} {l1 l2 l3 l4 l5 l6 : Option Value} {st : List Value} {a : Nat} {h : Hp} : ex (d) 110 57 [some (.ref a), l1, l2, l3, l4, l5, l6] st h = ex d 110 58 [some (.ref a), l1, l2, l3, l4, l5, l6] (.ref a :: st) h := (ex_of d110_57 (d) [some (.ref a), l1, l2, l3, l4, l5, l6] st h).trans (rfl)
theorem d110_58 : decode (mB 110) 58 = .ok (.new 342, 3) := by decide +kernel
theorem x110_58 {d : Nat} {L : Lc} {st : List Value} {h : Hp} : ex (d) 110 58 L st h = ex d 110 61 L (.ref h.2.2.1 :: st) (mnw h.1 h.2.2.1 (fun k => dfv (pty 4 k)), mnw h.2.1 h.2.2.1 (4, 7), h.2.2.1 + 1, h.2.2.2 + 7) := (ex_of d110_58 (d) L st h).trans (fin_new (mi := 110) k10_342 rfl (by decide))
theorem d110_61 : decode (mB 110) 61 = .ok (.dup, 1) := by decide +kernel
theorem x110_61 {d : Nat} {L : Lc} {st : List Value} {a : Nat} {h : Hp} : ex (d) 110 61 L (.ref a :: st) h = ex d 110 62 L (.ref a :: .ref a :: st) h := (ex_of d110_61 (d) L (.ref a :: st) h).trans (rfl)
theorem x110_61i {d : Nat} {L : Lc} {st : List Value} {x : Int32} {h : Hp} : ex (d) 110 61 L (.int x :: st) h = ex d 110 62 L (.int x :: .int x :: st) h := (ex_of d110_61 (d) L (.int x :: st) h).trans (rfl)
theorem d110_62 : decode (mB 110) 62 = .ok (.aload_n 1, 1) := by decide +kernel
theorem x110_62 {d : Nat} {l0 l2 l3 l4 l5 l6 : Option Value} {st : List Value} {a : Nat} {h : Hp} : ex (d) 110 62 [l0, some (.ref a), l2, l3, l4, l5, l6] st h = ex d 110 63 [l0, some (.ref a), l2, l3, l4, l5, l6] (.ref a :: st) h := (ex_of d110_62 (d) [l0, some (.ref a), l2, l3, l4, l5, l6] st h).trans (rfl)
theorem x110_62n {d : Nat} {l0 l2 l3 l4 l5 l6 : Option Value} {st : List Value} {h : Hp} : ex (d) 110 62 [l0, some .null, l2, l3, l4, l5, l6] st h = ex d 110 63 [l0, some .null, l2, l3, l4, l5, l6] (.null :: st) h := (ex_of d110_62 (d) [l0, some .null, l2, l3, l4, l5, l6] st h).trans (rfl)
theorem x110_62q {d : Nat} {l0 l2 l3 l4 l5 l6 : Option Value} {st : List Value} {a : Option Nat} {h : Hp} : ex (d) 110 62 [l0, some (va_rf a), l2, l3, l4, l5, l6] st h = ex d 110 63 [l0, some (va_rf a), l2, l3, l4, l5, l6] (va_rf a :: st) h := (ex_of d110_62 (d) [l0, some (va_rf a), l2, l3, l4, l5, l6] st h).trans (by cases a <;> rfl)
theorem d110_63 : decode (mB 110) 63 = .ok (.getfield 358, 3) := by decide +kernel
theorem x110_63 {d : Nat} {L : Lc} {st : List Value} {a : Nat} {h : Hp} (ht : (h.2.1 a).1 = 2) : ex (d) 110 63 L (.ref a :: st) h = ex d 110 66 L (h.1 a 0 :: st) h := (ex_of d110_63 (d) L (.ref a :: st) h).trans (fin_get (mi := 110) f10_358 (tg1 ht rfl))
theorem d110_66 : decode (mB 110) 66 = .ok (.aload_n 0, 1) := by decide +kernel
theorem x110_66 {d : Nat} {l1 l2 l3 l4 l5 l6 : Option Value} {st : List Value} {a : Nat} {h : Hp} : ex (d) 110 66 [some (.ref a), l1, l2, l3, l4, l5, l6] st h = ex d 110 67 [some (.ref a), l1, l2, l3, l4, l5, l6] (.ref a :: st) h := (ex_of d110_66 (d) [some (.ref a), l1, l2, l3, l4, l5, l6] st h).trans (rfl)
theorem d110_67 : decode (mB 110) 67 = .ok (.getfield 280, 3) := by decide +kernel
theorem x110_67 {d : Nat} {L : Lc} {st : List Value} {a : Nat} {h : Hp} (ht : (h.2.1 a).1 = 10) : ex (d) 110 67 L (.ref a :: st) h = ex d 110 70 L (h.1 a 11 :: st) h := (ex_of d110_67 (d) L (.ref a :: st) h).trans (fin_get (mi := 110) f10_280 (tg1 ht rfl))
theorem d110_70 : decode (mB 110) 70 = .ok (.aload_n 1, 1) := by decide +kernel
theorem x110_70 {d : Nat} {l0 l2 l3 l4 l5 l6 : Option Value} {st : List Value} {a : Nat} {h : Hp} : ex (d) 110 70 [l0, some (.ref a), l2, l3, l4, l5, l6] st h = ex d 110 71 [l0, some (.ref a), l2, l3, l4, l5, l6] (.ref a :: st) h := (ex_of d110_70 (d) [l0, some (.ref a), l2, l3, l4, l5, l6] st h).trans (rfl)
theorem x110_70n {d : Nat} {l0 l2 l3 l4 l5 l6 : Option Value} {st : List Value} {h : Hp} : ex (d) 110 70 [l0, some .null, l2, l3, l4, l5, l6] st h = ex d 110 71 [l0, some .null, l2, l3, l4, l5, l6] (.null :: st) h := (ex_of d110_70 (d) [l0, some .null, l2, l3, l4, l5, l6] st h).trans (rfl)
theorem x110_70q {d : Nat} {l0 l2 l3 l4 l5 l6 : Option Value} {st : List Value} {a : Option Nat} {h : Hp} : ex (d) 110 70 [l0, some (va_rf a), l2, l3, l4, l5, l6] st h = ex d 110 71 [l0, some (va_rf a), l2, l3, l4, l5, l6] (va_rf a :: st) h := (ex_of d110_70 (d) [l0, some (va_rf a), l2, l3, l4, l5, l6] st h).trans (by cases a <;> rfl)
theorem d110_71 : decode (mB 110) 71 = .ok (.iconst 0, 1) := by decide +kernel
theorem x110_71 {d : Nat} {L : Lc} {st : List Value} {h : Hp} : ex (d) 110 71 L st h = ex d 110 72 L (.int (nI 0) :: st) h := (ex_of d110_71 (d) L st h).trans (rfl)
theorem d110_72 : decode (mB 110) 72 = .ok (.invokespecial 344, 3) := by decide +kernel
theorem x110_72 {d : Nat} {L : Lc} {s0 s1 : Value} {a : Nat} {v0 : Value} {v1 : Int32} {v2 : Value} {v3 : Int32} {h : Hp} (hv0 : isR v0 = true) (hv2 : isR v2 = true) : ex (d + 1) 110 72 L (.int v3 :: v2 :: .int v1 :: v0 :: .ref a :: [s0, s1]) h = bnd (ex d 11 0 [some (.ref a), some v0, some (.int v1), some v2, some (.int v3)] [] h) (fun v h' => ex (d + 1) 110 75 L (v.toList ++ [s0, s1]) h') := (ex_of d110_72 (d + 1) L (.int v3 :: v2 :: .int v1 :: v0 :: .ref a :: [s0, s1]) h).trans (fin_sp (mi := 110) i10_344 (Or.inl rfl) rfl (by simp [cat1_i, cat1_r, isR_cat1 hv0, isR_cat1 hv2]) (by simp) (Nat.le_of_ble_eq_true rfl))
theorem d110_75 : decode (mB 110) 75 = .ok (.invokevirtual 162, 3) := by decide +kernel
theorem x110_75 {d : Nat} {L : Lc} {a : Nat} {v0 : Value} {h : Hp} (ht : (h.2.1 a).1 = 10) (hv0 : isR v0 = true) : ex (d + 1) 110 75 L (v0 :: .ref a :: []) h = bnd (ex d 115 0 [some (.ref a), some v0] [] h) (fun v h' => ex (d + 1) 110 78 L (v.toList ++ []) h') := (ex_of d110_75 (d + 1) L (v0 :: .ref a :: []) h).trans (fin_vi (mi := 110) i10_162 ht rfl rfl (by simp [cat1_i, cat1_r, isR_cat1 hv0]) (by simp) (Nat.le_of_ble_eq_true rfl))
theorem d110_78 : decode (mB 110) 78 = .ok (.aload_n 1, 1) := by decide +kernel
theorem x110_78 {d : Nat} {l0 l2 l3 l4 l5 l6 : Option Value} {st : List Value} {a : Nat} {h : Hp} : ex (d) 110 78 [l0, some (.ref a), l2, l3, l4, l5, l6] st h = ex d 110 79 [l0, some (.ref a), l2, l3, l4, l5, l6] (.ref a :: st) h := (ex_of d110_78 (d) [l0, some (.ref a), l2, l3, l4, l5, l6] st h).trans (rfl)
theorem x110_78n {d : Nat} {l0 l2 l3 l4 l5 l6 : Option Value} {st : List Value} {h : Hp} : ex (d) 110 78 [l0, some .null, l2, l3, l4, l5, l6] st h = ex d 110 79 [l0, some .null, l2, l3, l4, l5, l6] (.null :: st) h := (ex_of d110_78 (d) [l0, some .null, l2, l3, l4, l5, l6] st h).trans (rfl)
theorem x110_78q {d : Nat} {l0 l2 l3 l4 l5 l6 : Option Value} {st : List Value} {a : Option Nat} {h : Hp} : ex (d) 110 78 [l0, some (va_rf a), l2, l3, l4, l5, l6] st h = ex d 110 79 [l0, some (va_rf a), l2, l3, l4, l5, l6] (va_rf a :: st) h := (ex_of d110_78 (d) [l0, some (va_rf a), l2, l3, l4, l5, l6] st h).trans (by cases a <;> rfl)
theorem d110_79 : decode (mB 110) 79 = .ok (.iconst 1, 1) := by decide +kernel
theorem x110_79 {d : Nat} {L : Lc} {st : List Value} {h : Hp} : ex (d) 110 79 L st h = ex d 110 80 L (.int (nI 1) :: st) h := (ex_of d110_79 (d) L st h).trans (rfl)
theorem d110_80 : decode (mB 110) 80 = .ok (.putfield 326, 3) := by decide +kernel
theorem x110_80 {d : Nat} {L : Lc} {st : List Value} {a : Nat} {x : Int32} {h : Hp} (ht : (h.2.1 a).1 = 2) : ex (d) 110 80 L (.int x :: .ref a :: st) h = ex d 110 83 L st (mup h.1 a 2 (.int x), h.2) := (ex_of d110_80 (d) L (.int x :: .ref a :: st) h).trans (fin_put (mi := 110) f10_326 ht rfl rfl (by decide +kernel))
theorem d110_83 : decode (mB 110) 83 = .ok (.aload_n 1, 1) := by decide +kernel
theorem x110_83 {d : Nat} {l0 l2 l3 l4 l5 l6 : Option Value} {st : List Value} {a : Nat} {h : Hp} : ex (d) 110 83 [l0, some (.ref a), l2, l3, l4, l5, l6] st h = ex d 110 84 [l0, some (.ref a), l2, l3, l4, l5, l6] (.ref a :: st) h := (ex_of d110_83 (d) [l0, some (.ref a), l2, l3, l4, l5, l6] st h).trans (rfl)
theorem x110_83n {d : Nat} {l0 l2 l3 l4 l5 l6 : Option Value} {st : List Value} {h : Hp} : ex (d) 110 83 [l0, some .null, l2, l3, l4, l5, l6] st h = ex d 110 84 [l0, some .null, l2, l3, l4, l5, l6] (.null :: st) h := (ex_of d110_83 (d) [l0, some .null, l2, l3, l4, l5, l6] st h).trans (rfl)
theorem x110_83q {d : Nat} {l0 l2 l3 l4 l5 l6 : Option Value} {st : List Value} {a : Option Nat} {h : Hp} : ex (d) 110 83 [l0, some (va_rf a), l2, l3, l4, l5, l6] st h = ex d 110 84 [l0, some (va_rf a), l2, l3, l4, l5, l6] (va_rf a :: st) h := (ex_of d110_83 (d) [l0, some (va_rf a), l2, l3, l4, l5, l6] st h).trans (by cases a <;> rfl)
theorem d110_84 : decode (mB 110) 84 = .ok (.getfield 358, 3) := by decide +kernel
theorem x110_84 {d : Nat} {L : Lc} {st : List Value} {a : Nat} {h : Hp} (ht : (h.2.1 a).1 = 2) : ex (d) 110 84 L (.ref a :: st) h = ex d 110 87 L (h.1 a 0 :: st) h := (ex_of d110_84 (d) L (.ref a :: st) h).trans (fin_get (mi := 110) f10_358 (tg1 ht rfl))
theorem d110_87 : decode (mB 110) 87 = .ok (.iconst 1, 1) := by decide +kernel
theorem x110_87 {d : Nat} {L : Lc} {st : List Value} {h : Hp} : ex (d) 110 87 L st h = ex d 110 88 L (.int (nI 1) :: st) h := (ex_of d110_87 (d) L st h).trans (rfl)
theorem d110_88 : decode (mB 110) 88 = .ok (.aload_n 2, 1) := by decide +kernel
theorem x110_88 {d : Nat} {l0 l1 l3 l4 l5 l6 : Option Value} {st : List Value} {a : Nat} {h : Hp} : ex (d) 110 88 [l0, l1, some (.ref a), l3, l4, l5, l6] st h = ex d 110 89 [l0, l1, some (.ref a), l3, l4, l5, l6] (.ref a :: st) h := (ex_of d110_88 (d) [l0, l1, some (.ref a), l3, l4, l5, l6] st h).trans (rfl)
theorem x110_88n {d : Nat} {l0 l1 l3 l4 l5 l6 : Option Value} {st : List Value} {h : Hp} : ex (d) 110 88 [l0, l1, some .null, l3, l4, l5, l6] st h = ex d 110 89 [l0, l1, some .null, l3, l4, l5, l6] (.null :: st) h := (ex_of d110_88 (d) [l0, l1, some .null, l3, l4, l5, l6] st h).trans (rfl)
theorem x110_88q {d : Nat} {l0 l1 l3 l4 l5 l6 : Option Value} {st : List Value} {a : Option Nat} {h : Hp} : ex (d) 110 88 [l0, l1, some (va_rf a), l3, l4, l5, l6] st h = ex d 110 89 [l0, l1, some (va_rf a), l3, l4, l5, l6] (va_rf a :: st) h := (ex_of d110_88 (d) [l0, l1, some (va_rf a), l3, l4, l5, l6] st h).trans (by cases a <;> rfl)
theorem d110_89 : decode (mB 110) 89 = .ok (.iload_n 3, 1) := by decide +kernel
theorem x110_89 {d : Nat} {l0 l1 l2 l4 l5 l6 : Option Value} {st : List Value} {x : Int32} {h : Hp} : ex (d) 110 89 [l0, l1, l2, some (.int x), l4, l5, l6] st h = ex d 110 90 [l0, l1, l2, some (.int x), l4, l5, l6] (.int x :: st) h := (ex_of d110_89 (d) [l0, l1, l2, some (.int x), l4, l5, l6] st h).trans (rfl)
theorem d110_90 : decode (mB 110) 90 = .ok (.invokevirtual 347, 3) := by decide +kernel
theorem x110_90 {d : Nat} {L : Lc} {a : Nat} {v0 : Int32} {v1 : Value} {v2 : Int32} {h : Hp} (ht : isTh (h.2.1 a).1 = true) (hv1 : isR v1 = true) : ex (d + 1) 110 90 L (.int v2 :: v1 :: .int v0 :: .ref a :: []) h = bnd (ex d 42 0 [some (.ref a), some (.int v0), some v1, some (.int v2)] [] h) (fun v h' => ex (d + 1) 110 93 L (v.toList ++ []) h') := (ex_of d110_90 (d + 1) L (.int v2 :: v1 :: .int v0 :: .ref a :: []) h).trans (fin_viT (mi := 110) i10_347 ht (by decide +kernel) rfl (by simp [cat1_i, cat1_r, isR_cat1 hv1]) (by simp) (Nat.le_of_ble_eq_true rfl))
theorem d110_93 : decode (mB 110) 93 = .ok (.aload_n 1, 1) := by decide +kernel
theorem x110_93 {d : Nat} {l0 l2 l3 l4 l5 l6 : Option Value} {st : List Value} {a : Nat} {h : Hp} : ex (d) 110 93 [l0, some (.ref a), l2, l3, l4, l5, l6] st h = ex d 110 94 [l0, some (.ref a), l2, l3, l4, l5, l6] (.ref a :: st) h := (ex_of d110_93 (d) [l0, some (.ref a), l2, l3, l4, l5, l6] st h).trans (rfl)
theorem x110_93n {d : Nat} {l0 l2 l3 l4 l5 l6 : Option Value} {st : List Value} {h : Hp} : ex (d) 110 93 [l0, some .null, l2, l3, l4, l5, l6] st h = ex d 110 94 [l0, some .null, l2, l3, l4, l5, l6] (.null :: st) h := (ex_of d110_93 (d) [l0, some .null, l2, l3, l4, l5, l6] st h).trans (rfl)
theorem x110_93q {d : Nat} {l0 l2 l3 l4 l5 l6 : Option Value} {st : List Value} {a : Option Nat} {h : Hp} : ex (d) 110 93 [l0, some (va_rf a), l2, l3, l4, l5, l6] st h = ex d 110 94 [l0, some (va_rf a), l2, l3, l4, l5, l6] (va_rf a :: st) h := (ex_of d110_93 (d) [l0, some (va_rf a), l2, l3, l4, l5, l6] st h).trans (by cases a <;> rfl)
theorem d110_94 : decode (mB 110) 94 = .ok (.getfield 362, 3) := by decide +kernel
theorem x110_94 {d : Nat} {L : Lc} {st : List Value} {a : Nat} {h : Hp} (ht : (h.2.1 a).1 = 2) : ex (d) 110 94 L (.ref a :: st) h = ex d 110 97 L (h.1 a 1 :: st) h := (ex_of d110_94 (d) L (.ref a :: st) h).trans (fin_get (mi := 110) f10_362 (tg1 ht rfl))
theorem d110_97 : decode (mB 110) 97 = .ok (.iload 4, 2) := by decide +kernel
theorem x110_97 {d : Nat} {l0 l1 l2 l3 l5 l6 : Option Value} {st : List Value} {x : Int32} {h : Hp} : ex (d) 110 97 [l0, l1, l2, l3, some (.int x), l5, l6] st h = ex d 110 99 [l0, l1, l2, l3, some (.int x), l5, l6] (.int x :: st) h := (ex_of d110_97 (d) [l0, l1, l2, l3, some (.int x), l5, l6] st h).trans (rfl)
theorem d110_99 : decode (mB 110) 99 = .ok (.isub, 1) := by decide +kernel
theorem x110_99 {d : Nat} {L : Lc} {st : List Value} {x y : Int32} {h : Hp} : ex (d) 110 99 L (.int y :: .int x :: st) h = ex d 110 100 L (.int (x - y) :: st) h := (ex_of d110_99 (d) L (.int y :: .int x :: st) h).trans (rfl)
theorem d110_100 : decode (mB 110) 100 = .ok (.istore 6, 2) := by decide +kernel
theorem x110_100 {d : Nat} {l0 l1 l2 l3 l4 l5 l6 : Option Value} {st : List Value} {x : Int32} {h : Hp} : ex (d) 110 100 [l0, l1, l2, l3, l4, l5, l6] (.int x :: st) h = ex d 110 102 [l0, l1, l2, l3, l4, clr l5, some (.int x)] st h := (ex_of d110_100 (d) [l0, l1, l2, l3, l4, l5, l6] (.int x :: st) h).trans (rfl)
theorem d110_102 : decode (mB 110) 102 = .ok (.aload_n 0, 1) := by decide +kernel
theorem x110_102 {d : Nat} {l1 l2 l3 l4 l5 l6 : Option Value} {st : List Value} {a : Nat} {h : Hp} : ex (d) 110 102 [some (.ref a), l1, l2, l3, l4, l5, l6] st h = ex d 110 103 [some (.ref a), l1, l2, l3, l4, l5, l6] (.ref a :: st) h := (ex_of d110_102 (d) [some (.ref a), l1, l2, l3, l4, l5, l6] st h).trans (rfl)
theorem d110_103 : decode (mB 110) 103 = .ok (.dup, 1) := by decide +kernel
theorem x110_103 {d : Nat} {L : Lc} {st : List Value} {a : Nat} {h : Hp} : ex (d) 110 103 L (.ref a :: st) h = ex d 110 104 L (.ref a :: .ref a :: st) h := (ex_of d110_103 (d) L (.ref a :: st) h).trans (rfl)
theorem x110_103i {d : Nat} {L : Lc} {st : List Value} {x : Int32} {h : Hp} : ex (d) 110 103 L (.int x :: st) h = ex d 110 104 L (.int x :: .int x :: st) h := (ex_of d110_103 (d) L (.int x :: st) h).trans (rfl)
theorem d110_104 : decode (mB 110) 104 = .ok (.getfield 280, 3) := by decide +kernel
theorem x110_104 {d : Nat} {L : Lc} {st : List Value} {a : Nat} {h : Hp} (ht : (h.2.1 a).1 = 10) : ex (d) 110 104 L (.ref a :: st) h = ex d 110 107 L (h.1 a 11 :: st) h := (ex_of d110_104 (d) L (.ref a :: st) h).trans (fin_get (mi := 110) f10_280 (tg1 ht rfl))
theorem d110_107 : decode (mB 110) 107 = .ok (.iload 6, 2) := by decide +kernel
theorem x110_107 {d : Nat} {l0 l1 l2 l3 l4 l5 : Option Value} {st : List Value} {x : Int32} {h : Hp} : ex (d) 110 107 [l0, l1, l2, l3, l4, l5, some (.int x)] st h = ex d 110 109 [l0, l1, l2, l3, l4, l5, some (.int x)] (.int x :: st) h := (ex_of d110_107 (d) [l0, l1, l2, l3, l4, l5, some (.int x)] st h).trans (rfl)
theorem d110_109 : decode (mB 110) 109 = .ok (.isub, 1) := by decide +kernel
theorem x110_109 {d : Nat} {L : Lc} {st : List Value} {x y : Int32} {h : Hp} : ex (d) 110 109 L (.int y :: .int x :: st) h = ex d 110 110 L (.int (x - y) :: st) h := (ex_of d110_109 (d) L (.int y :: .int x :: st) h).trans (rfl)
theorem d110_110 : decode (mB 110) 110 = .ok (.putfield 280, 3) := by decide +kernel
theorem x110_110 {d : Nat} {L : Lc} {st : List Value} {a : Nat} {x : Int32} {h : Hp} (ht : (h.2.1 a).1 = 10) : ex (d) 110 110 L (.int x :: .ref a :: st) h = ex d 110 113 L st (mup h.1 a 11 (.int x), h.2) := (ex_of d110_110 (d) L (.int x :: .ref a :: st) h).trans (fin_put (mi := 110) f10_280 ht rfl rfl (by decide +kernel))
theorem d110_113 : decode (mB 110) 113 = .ok (.aload_n 0, 1) := by decide +kernel
theorem x110_113 {d : Nat} {l1 l2 l3 l4 l5 l6 : Option Value} {st : List Value} {a : Nat} {h : Hp} : ex (d) 110 113 [some (.ref a), l1, l2, l3, l4, l5, l6] st h = ex d 110 114 [some (.ref a), l1, l2, l3, l4, l5, l6] (.ref a :: st) h := (ex_of d110_113 (d) [some (.ref a), l1, l2, l3, l4, l5, l6] st h).trans (rfl)
theorem d110_114 : decode (mB 110) 114 = .ok (.iload 6, 2) := by decide +kernel
theorem x110_114 {d : Nat} {l0 l1 l2 l3 l4 l5 : Option Value} {st : List Value} {x : Int32} {h : Hp} : ex (d) 110 114 [l0, l1, l2, l3, l4, l5, some (.int x)] st h = ex d 110 116 [l0, l1, l2, l3, l4, l5, some (.int x)] (.int x :: st) h := (ex_of d110_114 (d) [l0, l1, l2, l3, l4, l5, some (.int x)] st h).trans (rfl)
theorem d110_116 : decode (mB 110) 116 = .ok (.invokevirtual 64, 3) := by decide +kernel
theorem x110_116 {d : Nat} {L : Lc} {a : Nat} {v0 : Int32} {h : Hp} (ht : (h.2.1 a).1 = 10) : ex (d + 1) 110 116 L (.int v0 :: .ref a :: []) h = bnd (ex d 85 0 [some (.ref a), some (.int v0)] [] h) (fun v h' => ex (d + 1) 110 119 L (v.toList ++ []) h') := (ex_of d110_116 (d + 1) L (.int v0 :: .ref a :: []) h).trans (fin_vi (mi := 110) i10_64 ht rfl rfl (by simp [cat1_i, cat1_r]) (by simp) (Nat.le_of_ble_eq_true rfl))
theorem d110_119 : decode (mB 110) 119 = .ok (.ireturn, 1) := by decide +kernel
theorem x110_119 {d : Nat} {L : Lc} {x : Int32} {h : Hp} : ex (d) 110 119 L [.int x] h = some (some (.int x), h) := (ex_of d110_119 (d) L [.int x] h).trans (rfl)
theorem d111_0 : decode (mB 111) 0 = .ok (.aload_n 0, 1) := by decide +kernel
theorem x111_0 {d : Nat} {l1 l2 l3 : Option Value} {st : List Value} {a : Nat} {h : Hp} : ex (d) 111 0 [some (.ref a), l1, l2, l3] st h = ex d 111 1 [some (.ref a), l1, l2, l3] (.ref a :: st) h := (ex_of d111_0 (d) [some (.ref a), l1, l2, l3] st h).trans (rfl)
theorem x111_0n {d : Nat} {l1 l2 l3 : Option Value} {st : List Value} {h : Hp} : ex (d) 111 0 [some .null, l1, l2, l3] st h = ex d 111 1 [some .null, l1, l2, l3] (.null :: st) h := (ex_of d111_0 (d) [some .null, l1, l2, l3] st h).trans (rfl)
theorem x111_0q {d : Nat} {l1 l2 l3 : Option Value} {st : List Value} {a : Option Nat} {h : Hp} : ex (d) 111 0 [some (va_rf a), l1, l2, l3] st h = ex d 111 1 [some (va_rf a), l1, l2, l3] (va_rf a :: st) h := (ex_of d111_0 (d) [some (va_rf a), l1, l2, l3] st h).trans (by cases a <;> rfl)
theorem d111_1 : decode (mB 111) 1 = .ok (.iload_n 1, 1) := by decide +kernel
theorem x111_1 {d : Nat} {l0 l2 l3 : Option Value} {st : List Value} {x : Int32} {h : Hp} : ex (d) 111 1 [l0, some (.int x), l2, l3] st h = ex d 111 2 [l0, some (.int x), l2, l3] (.int x :: st) h := (ex_of d111_1 (d) [l0, some (.int x), l2, l3] st h).trans (rfl)
theorem d111_2 : decode (mB 111) 2 = .ok (.invokevirtual 336, 3) := by decide +kernel
theorem x111_2 {d : Nat} {L : Lc} {a : Nat} {v0 : Int32} {h : Hp} (ht : (h.2.1 a).1 = 3) : ex (d + 1) 111 2 L (.int v0 :: .ref a :: []) h = bnd (ex d 6 0 [some (.ref a), some (.int v0)] [] h) (fun v h' => ex (d + 1) 111 5 L (v.toList ++ []) h') := (ex_of d111_2 (d + 1) L (.int v0 :: .ref a :: []) h).trans (fin_vi (mi := 111) i10_336 ht rfl rfl (by simp [cat1_i, cat1_r]) (by simp) (Nat.le_of_ble_eq_true rfl))
theorem d111_5 : decode (mB 111) 5 = .ok (.ifCond .eq 12, 3) := by decide +kernel
theorem x111_5 {d : Nat} {L : Lc} {st : List Value} {x : Int32} {h : Hp} : ex (d) 111 5 L (.int x :: st) h = if x = 0 then ex d 111 17 L st h else ex d 111 8 L st h := (ex_of d111_5 (d) L (.int x :: st) h).trans (fin_brq (off := 12) (tgt := 17) rfl (by decide))
theorem d111_8 : decode (mB 111) 8 = .ok (.aload_n 0, 1) := by decide +kernel
theorem x111_8 {d : Nat} {l1 l2 l3 : Option Value} {st : List Value} {a : Nat} {h : Hp} : ex (d) 111 8 [some (.ref a), l1, l2, l3] st h = ex d 111 9 [some (.ref a), l1, l2, l3] (.ref a :: st) h := (ex_of d111_8 (d) [some (.ref a), l1, l2, l3] st h).trans (rfl)
theorem x111_8n {d : Nat} {l1 l2 l3 : Option Value} {st : List Value} {h : Hp} : ex (d) 111 8 [some .null, l1, l2, l3] st h = ex d 111 9 [some .null, l1, l2, l3] (.null :: st) h := (ex_of d111_8 (d) [some .null, l1, l2, l3] st h).trans (rfl)
theorem x111_8q {d : Nat} {l1 l2 l3 : Option Value} {st : List Value} {a : Option Nat} {h : Hp} : ex (d) 111 8 [some (va_rf a), l1, l2, l3] st h = ex d 111 9 [some (va_rf a), l1, l2, l3] (va_rf a :: st) h := (ex_of d111_8 (d) [some (va_rf a), l1, l2, l3] st h).trans (by cases a <;> rfl)
theorem d111_9 : decode (mB 111) 9 = .ok (.getfield 351, 3) := by decide +kernel
theorem x111_9 {d : Nat} {L : Lc} {st : List Value} {a : Nat} {h : Hp} (ht : (h.2.1 a).1 = 3) : ex (d) 111 9 L (.ref a :: st) h = ex d 111 12 L (h.1 a 2 :: st) h := (ex_of d111_9 (d) L (.ref a :: st) h).trans (fin_get (mi := 111) f10_351 (tg1 ht rfl))
theorem d111_12 : decode (mB 111) 12 = .ok (.iload_n 1, 1) := by decide +kernel
theorem x111_12 {d : Nat} {l0 l2 l3 : Option Value} {st : List Value} {x : Int32} {h : Hp} : ex (d) 111 12 [l0, some (.int x), l2, l3] st h = ex d 111 13 [l0, some (.int x), l2, l3] (.int x :: st) h := (ex_of d111_12 (d) [l0, some (.int x), l2, l3] st h).trans (rfl)
theorem d111_13 : decode (mB 111) 13 = .ok (.aaload, 1) := by decide +kernel
theorem x111_13 {d : Nat} {L : Lc} {st : List Value} {a j : Nat} {h : Hp} (ht : 21 ≤ (h.2.1 a).1 ∧ (h.2.1 a).1 ≤ 26) (hj : j < (h.2.1 a).2) (hb : j < 2147483648) : ex (d) 111 13 L (.int (nI j) :: .ref a :: st) h = ex d 111 14 L (h.1 a j :: st) h := (ex_of d111_13 (d) L (.int (nI j) :: .ref a :: st) h).trans (fin_aaload ht hj hb)
theorem d111_14 : decode (mB 111) 14 = .ok (.ifnull 5, 3) := by decide +kernel
theorem x111_14n {d : Nat} {L : Lc} {st : List Value} {h : Hp} : ex (d) 111 14 L (.null :: st) h = ex d 111 19 L st h := (ex_of d111_14 (d) L (.null :: st) h).trans (rfl)
theorem x111_14 {d : Nat} {L : Lc} {st : List Value} {a : Nat} {h : Hp} : ex (d) 111 14 L (.ref a :: st) h = ex d 111 17 L st h := (ex_of d111_14 (d) L (.ref a :: st) h).trans (rfl)
theorem d111_17 : decode (mB 111) 17 = .ok (.iconst 5, 1) := by decide +kernel
theorem x111_17 {d : Nat} {L : Lc} {st : List Value} {h : Hp} : ex (d) 111 17 L st h = ex d 111 18 L (.int (nI 5) :: st) h := (ex_of d111_17 (d) L st h).trans (rfl)
theorem d111_18 : decode (mB 111) 18 = .ok (.ireturn, 1) := by decide +kernel
theorem x111_18 {d : Nat} {L : Lc} {x : Int32} {h : Hp} : ex (d) 111 18 L [.int x] h = some (some (.int x), h) := (ex_of d111_18 (d) L [.int x] h).trans (rfl)
theorem d111_19 : decode (mB 111) 19 = .ok (.aload_n 0, 1) := by decide +kernel
theorem x111_19 {d : Nat} {l1 l2 l3 : Option Value} {st : List Value} {a : Nat} {h : Hp} : ex (d) 111 19 [some (.ref a), l1, l2, l3] st h = ex d 111 20 [some (.ref a), l1, l2, l3] (.ref a :: st) h := (ex_of d111_19 (d) [some (.ref a), l1, l2, l3] st h).trans (rfl)
theorem x111_19n {d : Nat} {l1 l2 l3 : Option Value} {st : List Value} {h : Hp} : ex (d) 111 19 [some .null, l1, l2, l3] st h = ex d 111 20 [some .null, l1, l2, l3] (.null :: st) h := (ex_of d111_19 (d) [some .null, l1, l2, l3] st h).trans (rfl)
theorem x111_19q {d : Nat} {l1 l2 l3 : Option Value} {st : List Value} {a : Option Nat} {h : Hp} : ex (d) 111 19 [some (va_rf a), l1, l2, l3] st h = ex d 111 20 [some (va_rf a), l1, l2, l3] (va_rf a :: st) h := (ex_of d111_19 (d) [some (va_rf a), l1, l2, l3] st h).trans (by cases a <;> rfl)
theorem d111_20 : decode (mB 111) 20 = .ok (.invokevirtual 365, 3) := by decide +kernel
theorem x111_20 {d : Nat} {L : Lc} {a : Nat} {h : Hp} (ht : (h.2.1 a).1 = 3) : ex (d + 1) 111 20 L (.ref a :: []) h = bnd (ex d 8 0 [some (.ref a)] [] h) (fun v h' => ex (d + 1) 111 23 L (v.toList ++ []) h') := (ex_of d111_20 (d + 1) L (.ref a :: []) h).trans (fin_vi (mi := 111) i10_365 ht rfl rfl (by simp [cat1_i, cat1_r]) (by simp) (Nat.le_of_ble_eq_true rfl))
theorem d111_23 : decode (mB 111) 23 = .ok (.ifCond .eq 13, 3) := by decide +kernel
theorem x111_23 {d : Nat} {L : Lc} {st : List Value} {x : Int32} {h : Hp} : ex (d) 111 23 L (.int x :: st) h = if x = 0 then ex d 111 36 L st h else ex d 111 26 L st h := (ex_of d111_23 (d) L (.int x :: st) h).trans (fin_brq (off := 13) (tgt := 36) rfl (by decide))
theorem d111_26 : decode (mB 111) 26 = .ok (.aload_n 2, 1) := by decide +kernel
theorem x111_26 {d : Nat} {l0 l1 l3 : Option Value} {st : List Value} {a : Nat} {h : Hp} : ex (d) 111 26 [l0, l1, some (.ref a), l3] st h = ex d 111 27 [l0, l1, some (.ref a), l3] (.ref a :: st) h := (ex_of d111_26 (d) [l0, l1, some (.ref a), l3] st h).trans (rfl)
theorem x111_26n {d : Nat} {l0 l1 l3 : Option Value} {st : List Value} {h : Hp} : ex (d) 111 26 [l0, l1, some .null, l3] st h = ex d 111 27 [l0, l1, some .null, l3] (.null :: st) h := (ex_of d111_26 (d) [l0, l1, some .null, l3] st h).trans (rfl)
theorem x111_26q {d : Nat} {l0 l1 l3 : Option Value} {st : List Value} {a : Option Nat} {h : Hp} : ex (d) 111 26 [l0, l1, some (va_rf a), l3] st h = ex d 111 27 [l0, l1, some (va_rf a), l3] (va_rf a :: st) h := (ex_of d111_26 (d) [l0, l1, some (va_rf a), l3] st h).trans (by cases a <;> rfl)
theorem d111_27 : decode (mB 111) 27 = .ok (.getfield 115, 3) := by decide +kernel
theorem x111_27 {d : Nat} {L : Lc} {st : List Value} {a : Nat} {h : Hp} (ht : isTh (h.2.1 a).1 = true) : ex (d) 111 27 L (.ref a :: st) h = ex d 111 30 L (h.1 a 1 :: st) h := (ex_of d111_27 (d) L (.ref a :: st) h).trans (fin_get (mi := 111) f10_115 ht)
theorem d111_30 : decode (mB 111) 30 = .ok (.iconst 3, 1) := by decide +kernel
theorem x111_30 {d : Nat} {L : Lc} {st : List Value} {h : Hp} : ex (d) 111 30 L st h = ex d 111 31 L (.int (nI 3) :: st) h := (ex_of d111_30 (d) L st h).trans (rfl)
theorem d111_31 : decode (mB 111) 31 = .ok (.if_icmp .le 5, 3) := by decide +kernel
theorem x111_31 {d : Nat} {L : Lc} {st : List Value} {x y : Int32} {h : Hp} : ex (d) 111 31 L (.int y :: .int x :: st) h = if x ≤ y then ex d 111 36 L st h else ex d 111 34 L st h := (ex_of d111_31 (d) L (.int y :: .int x :: st) h).trans (fin_brq (off := 5) (tgt := 36) rfl (by decide))
theorem d111_34 : decode (mB 111) 34 = .ok (.iconst 4, 1) := by decide +kernel
theorem x111_34 {d : Nat} {L : Lc} {st : List Value} {h : Hp} : ex (d) 111 34 L st h = ex d 111 35 L (.int (nI 4) :: st) h := (ex_of d111_34 (d) L st h).trans (rfl)
theorem d111_35 : decode (mB 111) 35 = .ok (.ireturn, 1) := by decide +kernel
theorem x111_35 {d : Nat} {L : Lc} {x : Int32} {h : Hp} : ex (d) 111 35 L [.int x] h = some (some (.int x), h) := (ex_of d111_35 (d) L [.int x] h).trans (rfl)
theorem d111_36 : decode (mB 111) 36 = .ok (.aload_n 0, 1) := by decide +kernel
theorem x111_36 {d : Nat} {l1 l2 l3 : Option Value} {st : List Value} {a : Nat} {h : Hp} : ex (d) 111 36 [some (.ref a), l1, l2, l3] st h = ex d 111 37 [some (.ref a), l1, l2, l3] (.ref a :: st) h := (ex_of d111_36 (d) [some (.ref a), l1, l2, l3] st h).trans (rfl)
theorem x111_36n {d : Nat} {l1 l2 l3 : Option Value} {st : List Value} {h : Hp} : ex (d) 111 36 [some .null, l1, l2, l3] st h = ex d 111 37 [some .null, l1, l2, l3] (.null :: st) h := (ex_of d111_36 (d) [some .null, l1, l2, l3] st h).trans (rfl)
theorem x111_36q {d : Nat} {l1 l2 l3 : Option Value} {st : List Value} {a : Option Nat} {h : Hp} : ex (d) 111 36 [some (va_rf a), l1, l2, l3] st h = ex d 111 37 [some (va_rf a), l1, l2, l3] (va_rf a :: st) h := (ex_of d111_36 (d) [some (va_rf a), l1, l2, l3] st h).trans (by cases a <;> rfl)
theorem d111_37 : decode (mB 111) 37 = .ok (.invokestatic 368, 3) := by decide +kernel
theorem x111_37 {d : Nat} {L : Lc}  {v0 : Value} {h : Hp} (hv0 : isR v0 = true) : ex (d + 1) 111 37 L (v0 :: []) h = bnd (ex d 112 0 [some v0, none, none, none] [] h) (fun v h' => ex (d + 1) 111 40 L (v.toList ++ []) h') := (ex_of d111_37 (d + 1) L (v0 :: []) h).trans (fin_st (mi := 111) i10_368 (Or.inl rfl) (by simp) (by simp [cat1_i, cat1_r, isR_cat1 hv0]) (by simp) (Nat.le_of_ble_eq_true rfl))
theorem d111_40 : decode (mB 111) 40 = .ok (.aload_n 2, 1) := by decide +kernel
theorem x111_40 {d : Nat} {l0 l1 l3 : Option Value} {st : List Value} {a : Nat} {h : Hp} : ex (d) 111 40 [l0, l1, some (.ref a), l3] st h = ex d 111 41 [l0, l1, some (.ref a), l3] (.ref a :: st) h := (ex_of d111_40 (d) [l0, l1, some (.ref a), l3] st h).trans (rfl)
theorem x111_40n {d : Nat} {l0 l1 l3 : Option Value} {st : List Value} {h : Hp} : ex (d) 111 40 [l0, l1, some .null, l3] st h = ex d 111 41 [l0, l1, some .null, l3] (.null :: st) h := (ex_of d111_40 (d) [l0, l1, some .null, l3] st h).trans (rfl)
theorem x111_40q {d : Nat} {l0 l1 l3 : Option Value} {st : List Value} {a : Option Nat} {h : Hp} : ex (d) 111 40 [l0, l1, some (va_rf a), l3] st h = ex d 111 41 [l0, l1, some (va_rf a), l3] (va_rf a :: st) h := (ex_of d111_40 (d) [l0, l1, some (va_rf a), l3] st h).trans (by cases a <;> rfl)
theorem d111_41 : decode (mB 111) 41 = .ok (.iconst 1, 1) := by decide +kernel
theorem x111_41 {d : Nat} {L : Lc} {st : List Value} {h : Hp} : ex (d) 111 41 L st h = ex d 111 42 L (.int (nI 1) :: st) h := (ex_of d111_41 (d) L st h).trans (rfl)
theorem d111_42 : decode (mB 111) 42 = .ok (.invokestatic 372, 3) := by decide +kernel
theorem x111_42 {d : Nat} {L : Lc} {s0 : Value}  {v0 : Value} {v1 : Int32} {h : Hp} (hv0 : isR v0 = true) : ex (d + 1) 111 42 L (.int v1 :: v0 :: [s0]) h = bnd (ex d 113 0 [some v0, some (.int v1), none, none] [] h) (fun v h' => ex (d + 1) 111 45 L (v.toList ++ [s0]) h') := (ex_of d111_42 (d + 1) L (.int v1 :: v0 :: [s0]) h).trans (fin_st (mi := 111) i10_372 (Or.inl rfl) (by simp) (by simp [cat1_i, cat1_r, isR_cat1 hv0]) (by simp) (Nat.le_of_ble_eq_true rfl))
theorem d111_45 : decode (mB 111) 45 = .ok (.iadd, 1) := by decide +kernel
theorem x111_45 {d : Nat} {L : Lc} {st : List Value} {x y : Int32} {h : Hp} : ex (d) 111 45 L (.int y :: .int x :: st) h = ex d 111 46 L (.int (x + y) :: st) h := (ex_of d111_45 (d) L (.int y :: .int x :: st) h).trans (rfl)
theorem d111_46 : decode (mB 111) 46 = .ok (.bipush 6, 2) := by decide +kernel
theorem x111_46 {d : Nat} {L : Lc} {st : List Value} {h : Hp} : ex (d) 111 46 L st h = ex d 111 48 L (.int (nI 6) :: st) h := (ex_of d111_46 (d) L st h).trans (rfl)
theorem d111_48 : decode (mB 111) 48 = .ok (.if_icmp .le 7, 3) := by decide +kernel
theorem x111_48 {d : Nat} {L : Lc} {st : List Value} {x y : Int32} {h : Hp} : ex (d) 111 48 L (.int y :: .int x :: st) h = if x ≤ y then ex d 111 55 L st h else ex d 111 51 L st h := (ex_of d111_48 (d) L (.int y :: .int x :: st) h).trans (fin_brq (off := 7) (tgt := 55) rfl (by decide))
theorem d111_51 : decode (mB 111) 51 = .ok (.iconst 1, 1) := by decide +kernel
theorem x111_51 {d : Nat} {L : Lc} {st : List Value} {h : Hp} : ex (d) 111 51 L st h = ex d 111 52 L (.int (nI 1) :: st) h := (ex_of d111_51 (d) L st h).trans (rfl)
theorem d111_52 : decode (mB 111) 52 = .ok (.goto 4, 3) := by decide +kernel
theorem x111_52 {d : Nat} {L : Lc} {st : List Value} {h : Hp} : ex (d) 111 52 L st h = ex d 111 56 L st h := (ex_of d111_52 (d) L st h).trans (rfl)
theorem d111_55 : decode (mB 111) 55 = .ok (.iconst 0, 1) := by decide +kernel
theorem x111_55 {d : Nat} {L : Lc} {st : List Value} {h : Hp} : ex (d) 111 55 L st h = ex d 111 56 L (.int (nI 0) :: st) h := (ex_of d111_55 (d) L st h).trans (rfl)
theorem d111_56 : decode (mB 111) 56 = .ok (.istore_n 3, 1) := by decide +kernel
theorem x111_56 {d : Nat} {l0 l1 l2 l3 : Option Value} {st : List Value} {x : Int32} {h : Hp} : ex (d) 111 56 [l0, l1, l2, l3] (.int x :: st) h = ex d 111 57 [l0, l1, clr l2, some (.int x)] st h := (ex_of d111_56 (d) [l0, l1, l2, l3] (.int x :: st) h).trans (rfl)
theorem d111_57 : decode (mB 111) 57 = .ok (.iload_n 3, 1) := by decide +kernel
theorem x111_57 {d : Nat} {l0 l1 l2 : Option Value} {st : List Value} {x : Int32} {h : Hp} : ex (d) 111 57 [l0, l1, l2, some (.int x)] st h = ex d 111 58 [l0, l1, l2, some (.int x)] (.int x :: st) h := (ex_of d111_57 (d) [l0, l1, l2, some (.int x)] st h).trans (rfl)
theorem d111_58 : decode (mB 111) 58 = .ok (.ifCond .ne 11, 3) := by decide +kernel
theorem x111_58 {d : Nat} {L : Lc} {st : List Value} {x : Int32} {h : Hp} : ex (d) 111 58 L (.int x :: st) h = if ¬ x = 0 then ex d 111 69 L st h else ex d 111 61 L st h := (ex_of d111_58 (d) L (.int x :: st) h).trans (fin_brq (off := 11) (tgt := 69) rfl (by decide))
theorem d111_61 : decode (mB 111) 61 = .ok (.aload_n 0, 1) := by decide +kernel
theorem x111_61 {d : Nat} {l1 l2 l3 : Option Value} {st : List Value} {a : Nat} {h : Hp} : ex (d) 111 61 [some (.ref a), l1, l2, l3] st h = ex d 111 62 [some (.ref a), l1, l2, l3] (.ref a :: st) h := (ex_of d111_61 (d) [some (.ref a), l1, l2, l3] st h).trans (rfl)
theorem x111_61n {d : Nat} {l1 l2 l3 : Option Value} {st : List Value} {h : Hp} : ex (d) 111 61 [some .null, l1, l2, l3] st h = ex d 111 62 [some .null, l1, l2, l3] (.null :: st) h := (ex_of d111_61 (d) [some .null, l1, l2, l3] st h).trans (rfl)
theorem x111_61q {d : Nat} {l1 l2 l3 : Option Value} {st : List Value} {a : Option Nat} {h : Hp} : ex (d) 111 61 [some (va_rf a), l1, l2, l3] st h = ex d 111 62 [some (va_rf a), l1, l2, l3] (va_rf a :: st) h := (ex_of d111_61 (d) [some (va_rf a), l1, l2, l3] st h).trans (by cases a <;> rfl)
theorem d111_62 : decode (mB 111) 62 = .ok (.aload_n 2, 1) := by decide +kernel
theorem x111_62 {d : Nat} {l0 l1 l3 : Option Value} {st : List Value} {a : Nat} {h : Hp} : ex (d) 111 62 [l0, l1, some (.ref a), l3] st h = ex d 111 63 [l0, l1, some (.ref a), l3] (.ref a :: st) h := (ex_of d111_62 (d) [l0, l1, some (.ref a), l3] st h).trans (rfl)
theorem x111_62n {d : Nat} {l0 l1 l3 : Option Value} {st : List Value} {h : Hp} : ex (d) 111 62 [l0, l1, some .null, l3] st h = ex d 111 63 [l0, l1, some .null, l3] (.null :: st) h := (ex_of d111_62 (d) [l0, l1, some .null, l3] st h).trans (rfl)
theorem x111_62q {d : Nat} {l0 l1 l3 : Option Value} {st : List Value} {a : Option Nat} {h : Hp} : ex (d) 111 62 [l0, l1, some (va_rf a), l3] st h = ex d 111 63 [l0, l1, some (va_rf a), l3] (va_rf a :: st) h := (ex_of d111_62 (d) [l0, l1, some (va_rf a), l3] st h).trans (by cases a <;> rfl)
theorem d111_63 : decode (mB 111) 63 = .ok (.invokestatic 375, 3) := by decide +kernel
theorem x111_63 {d : Nat} {L : Lc}  {v0 : Value} {v1 : Value} {h : Hp} (hv0 : isR v0 = true) (hv1 : isR v1 = true) : ex (d + 1) 111 63 L (v1 :: v0 :: []) h = bnd (ex d 114 0 [some v0, some v1, none, none] [] h) (fun v h' => ex (d + 1) 111 66 L (v.toList ++ []) h') := (ex_of d111_63 (d + 1) L (v1 :: v0 :: []) h).trans (fin_st (mi := 111) i10_375 (Or.inl rfl) (by simp) (by simp [cat1_i, cat1_r, isR_cat1 hv0, isR_cat1 hv1]) (by simp) (Nat.le_of_ble_eq_true rfl))
theorem d111_66 : decode (mB 111) 66 = .ok (.ifCond .eq 8, 3) := by decide +kernel
theorem x111_66 {d : Nat} {L : Lc} {st : List Value} {x : Int32} {h : Hp} : ex (d) 111 66 L (.int x :: st) h = if x = 0 then ex d 111 74 L st h else ex d 111 69 L st h := (ex_of d111_66 (d) L (.int x :: st) h).trans (fin_brq (off := 8) (tgt := 74) rfl (by decide))
theorem d111_69 : decode (mB 111) 69 = .ok (.bipush 9, 2) := by decide +kernel
theorem x111_69 {d : Nat} {L : Lc} {st : List Value} {h : Hp} : ex (d) 111 69 L st h = ex d 111 71 L (.int (nI 9) :: st) h := (ex_of d111_69 (d) L st h).trans (rfl)
theorem d111_71 : decode (mB 111) 71 = .ok (.goto 4, 3) := by decide +kernel
theorem x111_71 {d : Nat} {L : Lc} {st : List Value} {h : Hp} : ex (d) 111 71 L st h = ex d 111 75 L st h := (ex_of d111_71 (d) L st h).trans (rfl)
theorem d111_74 : decode (mB 111) 74 = .ok (.iconst 0, 1) := by decide +kernel
theorem x111_74 {d : Nat} {L : Lc} {st : List Value} {h : Hp} : ex (d) 111 74 L st h = ex d 111 75 L (.int (nI 0) :: st) h := (ex_of d111_74 (d) L st h).trans (rfl)
theorem d111_75 : decode (mB 111) 75 = .ok (.ireturn, 1) := by decide +kernel
theorem x111_75 {d : Nat} {L : Lc} {x : Int32} {h : Hp} : ex (d) 111 75 L [.int x] h = some (some (.int x), h) := (ex_of d111_75 (d) L [.int x] h).trans (rfl)
theorem d112_0 : decode (mB 112) 0 = .ok (.iconst 0, 1) := by decide +kernel
theorem x112_0 {d : Nat} {L : Lc} {st : List Value} {h : Hp} : ex (d) 112 0 L st h = ex d 112 1 L (.int (nI 0) :: st) h := (ex_of d112_0 (d) L st h).trans (rfl)
theorem d112_1 : decode (mB 112) 1 = .ok (.istore_n 1, 1) := by decide +kernel
theorem x112_1 {d : Nat} {l0 l1 l2 l3 : Option Value} {st : List Value} {x : Int32} {h : Hp} : ex (d) 112 1 [l0, l1, l2, l3] (.int x :: st) h = ex d 112 2 [clr l0, some (.int x), l2, l3] st h := (ex_of d112_1 (d) [l0, l1, l2, l3] (.int x :: st) h).trans (rfl)
theorem d112_2 : decode (mB 112) 2 = .ok (.aload_n 0, 1) := by decide +kernel
theorem x112_2 {d : Nat} {l1 l2 l3 : Option Value} {st : List Value} {a : Nat} {h : Hp} : ex (d) 112 2 [some (.ref a), l1, l2, l3] st h = ex d 112 3 [some (.ref a), l1, l2, l3] (.ref a :: st) h := (ex_of d112_2 (d) [some (.ref a), l1, l2, l3] st h).trans (rfl)
theorem x112_2n {d : Nat} {l1 l2 l3 : Option Value} {st : List Value} {h : Hp} : ex (d) 112 2 [some .null, l1, l2, l3] st h = ex d 112 3 [some .null, l1, l2, l3] (.null :: st) h := (ex_of d112_2 (d) [some .null, l1, l2, l3] st h).trans (rfl)
theorem x112_2q {d : Nat} {l1 l2 l3 : Option Value} {st : List Value} {a : Option Nat} {h : Hp} : ex (d) 112 2 [some (va_rf a), l1, l2, l3] st h = ex d 112 3 [some (va_rf a), l1, l2, l3] (va_rf a :: st) h := (ex_of d112_2 (d) [some (va_rf a), l1, l2, l3] st h).trans (by cases a <;> rfl)
theorem d112_3 : decode (mB 112) 3 = .ok (.astore_n 2, 1) := by decide +kernel
theorem x112_3 {d : Nat} {l0 l1 l2 l3 : Option Value} {st : List Value} {a : Nat} {h : Hp} : ex (d) 112 3 [l0, l1, l2, l3] (.ref a :: st) h = ex d 112 4 [l0, clr l1, some (.ref a), l3] st h := (ex_of d112_3 (d) [l0, l1, l2, l3] (.ref a :: st) h).trans (rfl)
theorem x112_3n {d : Nat} {l0 l1 l2 l3 : Option Value} {st : List Value} {h : Hp} : ex (d) 112 3 [l0, l1, l2, l3] (.null :: st) h = ex d 112 4 [l0, clr l1, some .null, l3] st h := (ex_of d112_3 (d) [l0, l1, l2, l3] (.null :: st) h).trans (rfl)
theorem x112_3q {d : Nat} {l0 l1 l2 l3 : Option Value} {st : List Value} {a : Option Nat} {h : Hp} : ex (d) 112 3 [l0, l1, l2, l3] (va_rf a :: st) h = ex d 112 4 [l0, clr l1, some (va_rf a), l3] st h := (ex_of d112_3 (d) [l0, l1, l2, l3] (va_rf a :: st) h).trans (by cases a <;> rfl)
theorem d112_4 : decode (mB 112) 4 = .ok (.iconst 0, 1) := by decide +kernel
theorem x112_4 {d : Nat} {L : Lc} {st : List Value} {h : Hp} : ex (d) 112 4 L st h = ex d 112 5 L (.int (nI 0) :: st) h := (ex_of d112_4 (d) L st h).trans (rfl)
theorem d112_5 : decode (mB 112) 5 = .ok (.istore_n 3, 1) := by decide +kernel
theorem x112_5 {d : Nat} {l0 l1 l2 l3 : Option Value} {st : List Value} {x : Int32} {h : Hp} : ex (d) 112 5 [l0, l1, l2, l3] (.int x :: st) h = ex d 112 6 [l0, l1, clr l2, some (.int x)] st h := (ex_of d112_5 (d) [l0, l1, l2, l3] (.int x :: st) h).trans (rfl)
theorem d112_6 : decode (mB 112) 6 = .ok (.iload_n 3, 1) := by decide +kernel
theorem x112_6 {d : Nat} {l0 l1 l2 : Option Value} {st : List Value} {x : Int32} {h : Hp} : ex (d) 112 6 [l0, l1, l2, some (.int x)] st h = ex d 112 7 [l0, l1, l2, some (.int x)] (.int x :: st) h := (ex_of d112_6 (d) [l0, l1, l2, some (.int x)] st h).trans (rfl)
theorem d112_7 : decode (mB 112) 7 = .ok (.bipush 8, 2) := by decide +kernel
theorem x112_7 {d : Nat} {L : Lc} {st : List Value} {h : Hp} : ex (d) 112 7 L st h = ex d 112 9 L (.int (nI 8) :: st) h := (ex_of d112_7 (d) L st h).trans (rfl)
theorem d112_9 : decode (mB 112) 9 = .ok (.if_icmp .ge 28, 3) := by decide +kernel
theorem x112_9 {d : Nat} {L : Lc} {st : List Value} {x y : Int32} {h : Hp} : ex (d) 112 9 L (.int y :: .int x :: st) h = if y ≤ x then ex d 112 37 L st h else ex d 112 12 L st h := (ex_of d112_9 (d) L (.int y :: .int x :: st) h).trans (fin_brq (off := 28) (tgt := 37) rfl (by decide))
theorem d112_12 : decode (mB 112) 12 = .ok (.aload_n 2, 1) := by decide +kernel
theorem x112_12 {d : Nat} {l0 l1 l3 : Option Value} {st : List Value} {a : Nat} {h : Hp} : ex (d) 112 12 [l0, l1, some (.ref a), l3] st h = ex d 112 13 [l0, l1, some (.ref a), l3] (.ref a :: st) h := (ex_of d112_12 (d) [l0, l1, some (.ref a), l3] st h).trans (rfl)
theorem x112_12n {d : Nat} {l0 l1 l3 : Option Value} {st : List Value} {h : Hp} : ex (d) 112 12 [l0, l1, some .null, l3] st h = ex d 112 13 [l0, l1, some .null, l3] (.null :: st) h := (ex_of d112_12 (d) [l0, l1, some .null, l3] st h).trans (rfl)
theorem x112_12q {d : Nat} {l0 l1 l3 : Option Value} {st : List Value} {a : Option Nat} {h : Hp} : ex (d) 112 12 [l0, l1, some (va_rf a), l3] st h = ex d 112 13 [l0, l1, some (va_rf a), l3] (va_rf a :: st) h := (ex_of d112_12 (d) [l0, l1, some (va_rf a), l3] st h).trans (by cases a <;> rfl)
theorem d112_13 : decode (mB 112) 13 = .ok (.ifnull 24, 3) := by decide +kernel
theorem x112_13n {d : Nat} {L : Lc} {st : List Value} {h : Hp} : ex (d) 112 13 L (.null :: st) h = ex d 112 37 L st h := (ex_of d112_13 (d) L (.null :: st) h).trans (rfl)
theorem x112_13 {d : Nat} {L : Lc} {st : List Value} {a : Nat} {h : Hp} : ex (d) 112 13 L (.ref a :: st) h = ex d 112 16 L st h := (ex_of d112_13 (d) L (.ref a :: st) h).trans (rfl)
theorem d112_16 : decode (mB 112) 16 = .ok (.aload_n 2, 1) := by decide +kernel
theorem x112_16 {d : Nat} {l0 l1 l3 : Option Value} {st : List Value} {a : Nat} {h : Hp} : ex (d) 112 16 [l0, l1, some (.ref a), l3] st h = ex d 112 17 [l0, l1, some (.ref a), l3] (.ref a :: st) h := (ex_of d112_16 (d) [l0, l1, some (.ref a), l3] st h).trans (rfl)
theorem x112_16n {d : Nat} {l0 l1 l3 : Option Value} {st : List Value} {h : Hp} : ex (d) 112 16 [l0, l1, some .null, l3] st h = ex d 112 17 [l0, l1, some .null, l3] (.null :: st) h := (ex_of d112_16 (d) [l0, l1, some .null, l3] st h).trans (rfl)
theorem x112_16q {d : Nat} {l0 l1 l3 : Option Value} {st : List Value} {a : Option Nat} {h : Hp} : ex (d) 112 16 [l0, l1, some (va_rf a), l3] st h = ex d 112 17 [l0, l1, some (va_rf a), l3] (va_rf a :: st) h := (ex_of d112_16 (d) [l0, l1, some (va_rf a), l3] st h).trans (by cases a <;> rfl)
theorem d112_17 : decode (mB 112) 17 = .ok (.invokevirtual 379, 3) := by decide +kernel
theorem x112_17 {d : Nat} {L : Lc} {a : Nat} {h : Hp} (ht : (h.2.1 a).1 = 3) : ex (d + 1) 112 17 L (.ref a :: []) h = bnd (ex d 9 0 [some (.ref a)] [] h) (fun v h' => ex (d + 1) 112 20 L (v.toList ++ []) h') := (ex_of d112_17 (d + 1) L (.ref a :: []) h).trans (fin_vi (mi := 112) i10_379 ht rfl rfl (by simp [cat1_i, cat1_r]) (by simp) (Nat.le_of_ble_eq_true rfl))
theorem d112_20 : decode (mB 112) 20 = .ok (.ifCond .eq 6, 3) := by decide +kernel
theorem x112_20 {d : Nat} {L : Lc} {st : List Value} {x : Int32} {h : Hp} : ex (d) 112 20 L (.int x :: st) h = if x = 0 then ex d 112 26 L st h else ex d 112 23 L st h := (ex_of d112_20 (d) L (.int x :: st) h).trans (fin_brq (off := 6) (tgt := 26) rfl (by decide))
theorem d112_23 : decode (mB 112) 23 = .ok (.iinc 1 1, 3) := by decide +kernel
theorem x112_23 {d : Nat} {l0 l2 l3 : Option Value} {st : List Value} {x : Int32} {h : Hp} : ex (d) 112 23 [l0, some (.int x), l2, l3] st h = ex d 112 26 [clr l0, some (.int (x + (nI 1))), l2, l3] st h := (ex_of d112_23 (d) [l0, some (.int x), l2, l3] st h).trans (rfl)
theorem d112_26 : decode (mB 112) 26 = .ok (.aload_n 2, 1) := by decide +kernel
theorem x112_26 {d : Nat} {l0 l1 l3 : Option Value} {st : List Value} {a : Nat} {h : Hp} : ex (d) 112 26 [l0, l1, some (.ref a), l3] st h = ex d 112 27 [l0, l1, some (.ref a), l3] (.ref a :: st) h := (ex_of d112_26 (d) [l0, l1, some (.ref a), l3] st h).trans (rfl)
theorem x112_26n {d : Nat} {l0 l1 l3 : Option Value} {st : List Value} {h : Hp} : ex (d) 112 26 [l0, l1, some .null, l3] st h = ex d 112 27 [l0, l1, some .null, l3] (.null :: st) h := (ex_of d112_26 (d) [l0, l1, some .null, l3] st h).trans (rfl)
theorem x112_26q {d : Nat} {l0 l1 l3 : Option Value} {st : List Value} {a : Option Nat} {h : Hp} : ex (d) 112 26 [l0, l1, some (va_rf a), l3] st h = ex d 112 27 [l0, l1, some (va_rf a), l3] (va_rf a :: st) h := (ex_of d112_26 (d) [l0, l1, some (va_rf a), l3] st h).trans (by cases a <;> rfl)
theorem d112_27 : decode (mB 112) 27 = .ok (.invokevirtual 382, 3) := by decide +kernel
theorem x112_27 {d : Nat} {L : Lc} {a : Nat} {h : Hp} (ht : (h.2.1 a).1 = 3) : ex (d + 1) 112 27 L (.ref a :: []) h = bnd (ex d 10 0 [some (.ref a)] [] h) (fun v h' => ex (d + 1) 112 30 L (v.toList ++ []) h') := (ex_of d112_27 (d + 1) L (.ref a :: []) h).trans (fin_vi (mi := 112) i10_382 ht rfl rfl (by simp [cat1_i, cat1_r]) (by simp) (Nat.le_of_ble_eq_true rfl))
theorem d112_30 : decode (mB 112) 30 = .ok (.astore_n 2, 1) := by decide +kernel
theorem x112_30 {d : Nat} {l0 l1 l2 l3 : Option Value} {st : List Value} {a : Nat} {h : Hp} : ex (d) 112 30 [l0, l1, l2, l3] (.ref a :: st) h = ex d 112 31 [l0, clr l1, some (.ref a), l3] st h := (ex_of d112_30 (d) [l0, l1, l2, l3] (.ref a :: st) h).trans (rfl)
theorem x112_30n {d : Nat} {l0 l1 l2 l3 : Option Value} {st : List Value} {h : Hp} : ex (d) 112 30 [l0, l1, l2, l3] (.null :: st) h = ex d 112 31 [l0, clr l1, some .null, l3] st h := (ex_of d112_30 (d) [l0, l1, l2, l3] (.null :: st) h).trans (rfl)
theorem x112_30q {d : Nat} {l0 l1 l2 l3 : Option Value} {st : List Value} {a : Option Nat} {h : Hp} : ex (d) 112 30 [l0, l1, l2, l3] (va_rf a :: st) h = ex d 112 31 [l0, clr l1, some (va_rf a), l3] st h := (ex_of d112_30 (d) [l0, l1, l2, l3] (va_rf a :: st) h).trans (by cases a <;> rfl)
theorem d112_31 : decode (mB 112) 31 = .ok (.iinc 3 1, 3) := by decide +kernel
theorem x112_31 {d : Nat} {l0 l1 l2 : Option Value} {st : List Value} {x : Int32} {h : Hp} : ex (d) 112 31 [l0, l1, l2, some (.int x)] st h = ex d 112 34 [l0, l1, clr l2, some (.int (x + (nI 1)))] st h := (ex_of d112_31 (d) [l0, l1, l2, some (.int x)] st h).trans (rfl)
theorem d112_34 : decode (mB 112) 34 = .ok (.goto (-28), 3) := by decide +kernel
theorem x112_34 {d : Nat} {L : Lc} {st : List Value} {h : Hp} : ex (d) 112 34 L st h = ex d 112 6 L st h := (ex_of d112_34 (d) L st h).trans (rfl)
theorem d112_37 : decode (mB 112) 37 = .ok (.iload_n 1, 1) := by decide +kernel
theorem x112_37 {d : Nat} {l0 l2 l3 : Option Value} {st : List Value} {x : Int32} {h : Hp} : ex (d) 112 37 [l0, some (.int x), l2, l3] st h = ex d 112 38 [l0, some (.int x), l2, l3] (.int x :: st) h := (ex_of d112_37 (d) [l0, some (.int x), l2, l3] st h).trans (rfl)
theorem d112_38 : decode (mB 112) 38 = .ok (.ireturn, 1) := by decide +kernel
theorem x112_38 {d : Nat} {L : Lc} {x : Int32} {h : Hp} : ex (d) 112 38 L [.int x] h = some (some (.int x), h) := (ex_of d112_38 (d) L [.int x] h).trans (rfl)
theorem d113_0 : decode (mB 113) 0 = .ok (.aload_n 0, 1) := by decide +kernel
theorem x113_0 {d : Nat} {l1 l2 l3 : Option Value} {st : List Value} {a : Nat} {h : Hp} : ex (d) 113 0 [some (.ref a), l1, l2, l3] st h = ex d 113 1 [some (.ref a), l1, l2, l3] (.ref a :: st) h := (ex_of d113_0 (d) [some (.ref a), l1, l2, l3] st h).trans (rfl)
theorem x113_0n {d : Nat} {l1 l2 l3 : Option Value} {st : List Value} {h : Hp} : ex (d) 113 0 [some .null, l1, l2, l3] st h = ex d 113 1 [some .null, l1, l2, l3] (.null :: st) h := (ex_of d113_0 (d) [some .null, l1, l2, l3] st h).trans (rfl)
theorem x113_0q {d : Nat} {l1 l2 l3 : Option Value} {st : List Value} {a : Option Nat} {h : Hp} : ex (d) 113 0 [some (va_rf a), l1, l2, l3] st h = ex d 113 1 [some (va_rf a), l1, l2, l3] (va_rf a :: st) h := (ex_of d113_0 (d) [some (va_rf a), l1, l2, l3] st h).trans (by cases a <;> rfl)
theorem d113_1 : decode (mB 113) 1 = .ok (.ifnull 24, 3) := by decide +kernel
theorem x113_1n {d : Nat} {L : Lc} {st : List Value} {h : Hp} : ex (d) 113 1 L (.null :: st) h = ex d 113 25 L st h := (ex_of d113_1 (d) L (.null :: st) h).trans (rfl)
theorem x113_1 {d : Nat} {L : Lc} {st : List Value} {a : Nat} {h : Hp} : ex (d) 113 1 L (.ref a :: st) h = ex d 113 4 L st h := (ex_of d113_1 (d) L (.ref a :: st) h).trans (rfl)
theorem d113_4 : decode (mB 113) 4 = .ok (.aload_n 0, 1) := by decide +kernel
theorem x113_4 {d : Nat} {l1 l2 l3 : Option Value} {st : List Value} {a : Nat} {h : Hp} : ex (d) 113 4 [some (.ref a), l1, l2, l3] st h = ex d 113 5 [some (.ref a), l1, l2, l3] (.ref a :: st) h := (ex_of d113_4 (d) [some (.ref a), l1, l2, l3] st h).trans (rfl)
theorem x113_4n {d : Nat} {l1 l2 l3 : Option Value} {st : List Value} {h : Hp} : ex (d) 113 4 [some .null, l1, l2, l3] st h = ex d 113 5 [some .null, l1, l2, l3] (.null :: st) h := (ex_of d113_4 (d) [some .null, l1, l2, l3] st h).trans (rfl)
theorem x113_4q {d : Nat} {l1 l2 l3 : Option Value} {st : List Value} {a : Option Nat} {h : Hp} : ex (d) 113 4 [some (va_rf a), l1, l2, l3] st h = ex d 113 5 [some (va_rf a), l1, l2, l3] (va_rf a :: st) h := (ex_of d113_4 (d) [some (va_rf a), l1, l2, l3] st h).trans (by cases a <;> rfl)
theorem d113_5 : decode (mB 113) 5 = .ok (.getfield 115, 3) := by decide +kernel
theorem x113_5 {d : Nat} {L : Lc} {st : List Value} {a : Nat} {h : Hp} (ht : isTh (h.2.1 a).1 = true) : ex (d) 113 5 L (.ref a :: st) h = ex d 113 8 L (h.1 a 1 :: st) h := (ex_of d113_5 (d) L (.ref a :: st) h).trans (fin_get (mi := 113) f10_115 ht)
theorem d113_8 : decode (mB 113) 8 = .ok (.iconst 5, 1) := by decide +kernel
theorem x113_8 {d : Nat} {L : Lc} {st : List Value} {h : Hp} : ex (d) 113 8 L st h = ex d 113 9 L (.int (nI 5) :: st) h := (ex_of d113_8 (d) L st h).trans (rfl)
theorem d113_9 : decode (mB 113) 9 = .ok (.if_icmp .ne 16, 3) := by decide +kernel
theorem x113_9 {d : Nat} {L : Lc} {st : List Value} {x y : Int32} {h : Hp} : ex (d) 113 9 L (.int y :: .int x :: st) h = if ¬ x = y then ex d 113 25 L st h else ex d 113 12 L st h := (ex_of d113_9 (d) L (.int y :: .int x :: st) h).trans (fin_brq (off := 16) (tgt := 25) rfl (by decide))
theorem d113_12 : decode (mB 113) 12 = .ok (.aload_n 0, 1) := by decide +kernel
theorem x113_12 {d : Nat} {l1 l2 l3 : Option Value} {st : List Value} {a : Nat} {h : Hp} : ex (d) 113 12 [some (.ref a), l1, l2, l3] st h = ex d 113 13 [some (.ref a), l1, l2, l3] (.ref a :: st) h := (ex_of d113_12 (d) [some (.ref a), l1, l2, l3] st h).trans (rfl)
theorem x113_12n {d : Nat} {l1 l2 l3 : Option Value} {st : List Value} {h : Hp} : ex (d) 113 12 [some .null, l1, l2, l3] st h = ex d 113 13 [some .null, l1, l2, l3] (.null :: st) h := (ex_of d113_12 (d) [some .null, l1, l2, l3] st h).trans (rfl)
theorem x113_12q {d : Nat} {l1 l2 l3 : Option Value} {st : List Value} {a : Option Nat} {h : Hp} : ex (d) 113 12 [some (va_rf a), l1, l2, l3] st h = ex d 113 13 [some (va_rf a), l1, l2, l3] (va_rf a :: st) h := (ex_of d113_12 (d) [some (va_rf a), l1, l2, l3] st h).trans (by cases a <;> rfl)
theorem d113_13 : decode (mB 113) 13 = .ok (.getfield 320, 3) := by decide +kernel
theorem x113_13 {d : Nat} {L : Lc} {st : List Value} {a : Nat} {h : Hp} (ht : isTh (h.2.1 a).1 = true) : ex (d) 113 13 L (.ref a :: st) h = ex d 113 16 L (h.1 a 5 :: st) h := (ex_of d113_13 (d) L (.ref a :: st) h).trans (fin_get (mi := 113) f10_320 ht)
theorem d113_16 : decode (mB 113) 16 = .ok (.ifnull 9, 3) := by decide +kernel
theorem x113_16n {d : Nat} {L : Lc} {st : List Value} {h : Hp} : ex (d) 113 16 L (.null :: st) h = ex d 113 25 L st h := (ex_of d113_16 (d) L (.null :: st) h).trans (rfl)
theorem x113_16 {d : Nat} {L : Lc} {st : List Value} {a : Nat} {h : Hp} : ex (d) 113 16 L (.ref a :: st) h = ex d 113 19 L st h := (ex_of d113_16 (d) L (.ref a :: st) h).trans (rfl)
theorem d113_19 : decode (mB 113) 19 = .ok (.iload_n 1, 1) := by decide +kernel
theorem x113_19 {d : Nat} {l0 l2 l3 : Option Value} {st : List Value} {x : Int32} {h : Hp} : ex (d) 113 19 [l0, some (.int x), l2, l3] st h = ex d 113 20 [l0, some (.int x), l2, l3] (.int x :: st) h := (ex_of d113_19 (d) [l0, some (.int x), l2, l3] st h).trans (rfl)
theorem d113_20 : decode (mB 113) 20 = .ok (.bipush 6, 2) := by decide +kernel
theorem x113_20 {d : Nat} {L : Lc} {st : List Value} {h : Hp} : ex (d) 113 20 L st h = ex d 113 22 L (.int (nI 6) :: st) h := (ex_of d113_20 (d) L st h).trans (rfl)
theorem d113_22 : decode (mB 113) 22 = .ok (.if_icmp .le 5, 3) := by decide +kernel
theorem x113_22 {d : Nat} {L : Lc} {st : List Value} {x y : Int32} {h : Hp} : ex (d) 113 22 L (.int y :: .int x :: st) h = if x ≤ y then ex d 113 27 L st h else ex d 113 25 L st h := (ex_of d113_22 (d) L (.int y :: .int x :: st) h).trans (fin_brq (off := 5) (tgt := 27) rfl (by decide))
theorem d113_25 : decode (mB 113) 25 = .ok (.iconst 0, 1) := by decide +kernel
theorem x113_25 {d : Nat} {L : Lc} {st : List Value} {h : Hp} : ex (d) 113 25 L st h = ex d 113 26 L (.int (nI 0) :: st) h := (ex_of d113_25 (d) L st h).trans (rfl)
theorem d113_26 : decode (mB 113) 26 = .ok (.ireturn, 1) := by decide +kernel
theorem x113_26 {d : Nat} {L : Lc} {x : Int32} {h : Hp} : ex (d) 113 26 L [.int x] h = some (some (.int x), h) := (ex_of d113_26 (d) L [.int x] h).trans (rfl)
theorem d113_27 : decode (mB 113) 27 = .ok (.iconst 0, 1) := by decide +kernel
theorem x113_27 {d : Nat} {L : Lc} {st : List Value} {h : Hp} : ex (d) 113 27 L st h = ex d 113 28 L (.int (nI 0) :: st) h := (ex_of d113_27 (d) L st h).trans (rfl)
theorem d113_28 : decode (mB 113) 28 = .ok (.istore_n 2, 1) := by decide +kernel
theorem x113_28 {d : Nat} {l0 l1 l2 l3 : Option Value} {st : List Value} {x : Int32} {h : Hp} : ex (d) 113 28 [l0, l1, l2, l3] (.int x :: st) h = ex d 113 29 [l0, clr l1, some (.int x), l3] st h := (ex_of d113_28 (d) [l0, l1, l2, l3] (.int x :: st) h).trans (rfl)
theorem d113_29 : decode (mB 113) 29 = .ok (.iconst 0, 1) := by decide +kernel
theorem x113_29 {d : Nat} {L : Lc} {st : List Value} {h : Hp} : ex (d) 113 29 L st h = ex d 113 30 L (.int (nI 0) :: st) h := (ex_of d113_29 (d) L st h).trans (rfl)
theorem d113_30 : decode (mB 113) 30 = .ok (.istore_n 3, 1) := by decide +kernel
theorem x113_30 {d : Nat} {l0 l1 l2 l3 : Option Value} {st : List Value} {x : Int32} {h : Hp} : ex (d) 113 30 [l0, l1, l2, l3] (.int x :: st) h = ex d 113 31 [l0, l1, clr l2, some (.int x)] st h := (ex_of d113_30 (d) [l0, l1, l2, l3] (.int x :: st) h).trans (rfl)
theorem d113_31 : decode (mB 113) 31 = .ok (.iload_n 3, 1) := by decide +kernel
theorem x113_31 {d : Nat} {l0 l1 l2 : Option Value} {st : List Value} {x : Int32} {h : Hp} : ex (d) 113 31 [l0, l1, l2, some (.int x)] st h = ex d 113 32 [l0, l1, l2, some (.int x)] (.int x :: st) h := (ex_of d113_31 (d) [l0, l1, l2, some (.int x)] st h).trans (rfl)
theorem d113_32 : decode (mB 113) 32 = .ok (.aload_n 0, 1) := by decide +kernel
theorem x113_32 {d : Nat} {l1 l2 l3 : Option Value} {st : List Value} {a : Nat} {h : Hp} : ex (d) 113 32 [some (.ref a), l1, l2, l3] st h = ex d 113 33 [some (.ref a), l1, l2, l3] (.ref a :: st) h := (ex_of d113_32 (d) [some (.ref a), l1, l2, l3] st h).trans (rfl)
theorem x113_32n {d : Nat} {l1 l2 l3 : Option Value} {st : List Value} {h : Hp} : ex (d) 113 32 [some .null, l1, l2, l3] st h = ex d 113 33 [some .null, l1, l2, l3] (.null :: st) h := (ex_of d113_32 (d) [some .null, l1, l2, l3] st h).trans (rfl)
theorem x113_32q {d : Nat} {l1 l2 l3 : Option Value} {st : List Value} {a : Option Nat} {h : Hp} : ex (d) 113 32 [some (va_rf a), l1, l2, l3] st h = ex d 113 33 [some (va_rf a), l1, l2, l3] (va_rf a :: st) h := (ex_of d113_32 (d) [some (va_rf a), l1, l2, l3] st h).trans (by cases a <;> rfl)
theorem d113_33 : decode (mB 113) 33 = .ok (.getfield 320, 3) := by decide +kernel
theorem x113_33 {d : Nat} {L : Lc} {st : List Value} {a : Nat} {h : Hp} (ht : isTh (h.2.1 a).1 = true) : ex (d) 113 33 L (.ref a :: st) h = ex d 113 36 L (h.1 a 5 :: st) h := (ex_of d113_33 (d) L (.ref a :: st) h).trans (fin_get (mi := 113) f10_320 ht)
theorem d113_36 : decode (mB 113) 36 = .ok (.getfield 351, 3) := by decide +kernel
theorem x113_36 {d : Nat} {L : Lc} {st : List Value} {a : Nat} {h : Hp} (ht : (h.2.1 a).1 = 3) : ex (d) 113 36 L (.ref a :: st) h = ex d 113 39 L (h.1 a 2 :: st) h := (ex_of d113_36 (d) L (.ref a :: st) h).trans (fin_get (mi := 113) f10_351 (tg1 ht rfl))
theorem d113_39 : decode (mB 113) 39 = .ok (.arraylength, 1) := by decide +kernel
theorem x113_39 {d : Nat} {L : Lc} {st : List Value} {a : Nat} {h : Hp} (ht : 20 ≤ (h.2.1 a).1 ∧ (h.2.1 a).1 ≤ 30) : ex (d) 113 39 L (.ref a :: st) h = ex d 113 40 L (.int (nI (h.2.1 a).2) :: st) h := (ex_of d113_39 (d) L (.ref a :: st) h).trans (fin_alen ht)
theorem d113_40 : decode (mB 113) 40 = .ok (.if_icmp .ge 29, 3) := by decide +kernel
theorem x113_40 {d : Nat} {L : Lc} {st : List Value} {x y : Int32} {h : Hp} : ex (d) 113 40 L (.int y :: .int x :: st) h = if y ≤ x then ex d 113 69 L st h else ex d 113 43 L st h := (ex_of d113_40 (d) L (.int y :: .int x :: st) h).trans (fin_brq (off := 29) (tgt := 69) rfl (by decide))
theorem d113_43 : decode (mB 113) 43 = .ok (.iload_n 2, 1) := by decide +kernel
theorem x113_43 {d : Nat} {l0 l1 l3 : Option Value} {st : List Value} {x : Int32} {h : Hp} : ex (d) 113 43 [l0, l1, some (.int x), l3] st h = ex d 113 44 [l0, l1, some (.int x), l3] (.int x :: st) h := (ex_of d113_43 (d) [l0, l1, some (.int x), l3] st h).trans (rfl)
theorem d113_44 : decode (mB 113) 44 = .ok (.aload_n 0, 1) := by decide +kernel
theorem x113_44 {d : Nat} {l1 l2 l3 : Option Value} {st : List Value} {a : Nat} {h : Hp} : ex (d) 113 44 [some (.ref a), l1, l2, l3] st h = ex d 113 45 [some (.ref a), l1, l2, l3] (.ref a :: st) h := (ex_of d113_44 (d) [some (.ref a), l1, l2, l3] st h).trans (rfl)
theorem x113_44n {d : Nat} {l1 l2 l3 : Option Value} {st : List Value} {h : Hp} : ex (d) 113 44 [some .null, l1, l2, l3] st h = ex d 113 45 [some .null, l1, l2, l3] (.null :: st) h := (ex_of d113_44 (d) [some .null, l1, l2, l3] st h).trans (rfl)
theorem x113_44q {d : Nat} {l1 l2 l3 : Option Value} {st : List Value} {a : Option Nat} {h : Hp} : ex (d) 113 44 [some (va_rf a), l1, l2, l3] st h = ex d 113 45 [some (va_rf a), l1, l2, l3] (va_rf a :: st) h := (ex_of d113_44 (d) [some (va_rf a), l1, l2, l3] st h).trans (by cases a <;> rfl)
theorem d113_45 : decode (mB 113) 45 = .ok (.getfield 320, 3) := by decide +kernel
theorem x113_45 {d : Nat} {L : Lc} {st : List Value} {a : Nat} {h : Hp} (ht : isTh (h.2.1 a).1 = true) : ex (d) 113 45 L (.ref a :: st) h = ex d 113 48 L (h.1 a 5 :: st) h := (ex_of d113_45 (d) L (.ref a :: st) h).trans (fin_get (mi := 113) f10_320 ht)
theorem d113_48 : decode (mB 113) 48 = .ok (.getfield 351, 3) := by decide +kernel
theorem x113_48 {d : Nat} {L : Lc} {st : List Value} {a : Nat} {h : Hp} (ht : (h.2.1 a).1 = 3) : ex (d) 113 48 L (.ref a :: st) h = ex d 113 51 L (h.1 a 2 :: st) h := (ex_of d113_48 (d) L (.ref a :: st) h).trans (fin_get (mi := 113) f10_351 (tg1 ht rfl))
theorem d113_51 : decode (mB 113) 51 = .ok (.iload_n 3, 1) := by decide +kernel
theorem x113_51 {d : Nat} {l0 l1 l2 : Option Value} {st : List Value} {x : Int32} {h : Hp} : ex (d) 113 51 [l0, l1, l2, some (.int x)] st h = ex d 113 52 [l0, l1, l2, some (.int x)] (.int x :: st) h := (ex_of d113_51 (d) [l0, l1, l2, some (.int x)] st h).trans (rfl)
theorem d113_52 : decode (mB 113) 52 = .ok (.aaload, 1) := by decide +kernel
theorem x113_52 {d : Nat} {L : Lc} {st : List Value} {a j : Nat} {h : Hp} (ht : 21 ≤ (h.2.1 a).1 ∧ (h.2.1 a).1 ≤ 26) (hj : j < (h.2.1 a).2) (hb : j < 2147483648) : ex (d) 113 52 L (.int (nI j) :: .ref a :: st) h = ex d 113 53 L (h.1 a j :: st) h := (ex_of d113_52 (d) L (.int (nI j) :: .ref a :: st) h).trans (fin_aaload ht hj hb)
theorem d113_53 : decode (mB 113) 53 = .ok (.iload_n 1, 1) := by decide +kernel
theorem x113_53 {d : Nat} {l0 l2 l3 : Option Value} {st : List Value} {x : Int32} {h : Hp} : ex (d) 113 53 [l0, some (.int x), l2, l3] st h = ex d 113 54 [l0, some (.int x), l2, l3] (.int x :: st) h := (ex_of d113_53 (d) [l0, some (.int x), l2, l3] st h).trans (rfl)
theorem d113_54 : decode (mB 113) 54 = .ok (.iconst 1, 1) := by decide +kernel
theorem x113_54 {d : Nat} {L : Lc} {st : List Value} {h : Hp} : ex (d) 113 54 L st h = ex d 113 55 L (.int (nI 1) :: st) h := (ex_of d113_54 (d) L st h).trans (rfl)
theorem d113_55 : decode (mB 113) 55 = .ok (.iadd, 1) := by decide +kernel
theorem x113_55 {d : Nat} {L : Lc} {st : List Value} {x y : Int32} {h : Hp} : ex (d) 113 55 L (.int y :: .int x :: st) h = ex d 113 56 L (.int (x + y) :: st) h := (ex_of d113_55 (d) L (.int y :: .int x :: st) h).trans (rfl)
theorem d113_56 : decode (mB 113) 56 = .ok (.invokestatic 372, 3) := by decide +kernel
theorem x113_56 {d : Nat} {L : Lc} {s0 : Value}  {v0 : Value} {v1 : Int32} {h : Hp} (hv0 : isR v0 = true) : ex (d + 1) 113 56 L (.int v1 :: v0 :: [s0]) h = bnd (ex d 113 0 [some v0, some (.int v1), none, none] [] h) (fun v h' => ex (d + 1) 113 59 L (v.toList ++ [s0]) h') := (ex_of d113_56 (d + 1) L (.int v1 :: v0 :: [s0]) h).trans (fin_st (mi := 113) i10_372 (Or.inl rfl) (by simp) (by simp [cat1_i, cat1_r, isR_cat1 hv0]) (by simp) (Nat.le_of_ble_eq_true rfl))
theorem d113_59 : decode (mB 113) 59 = .ok (.invokestatic 386, 3) := by decide +kernel
theorem x113_59 {d : Nat} {L : Lc} {x y : Int32} {h : Hp} : ex (d) 113 59 L (.int y :: .int x :: []) h = ex d 113 62 L (.int (if x < y then y else x) :: []) h := (ex_of d113_59 (d) L (.int y :: .int x :: []) h).trans (fin_max (mi := 113) i10_386 (by simp))
theorem d113_62 : decode (mB 113) 62 = .ok (.istore_n 2, 1) := by decide +kernel
theorem x113_62 {d : Nat} {l0 l1 l2 l3 : Option Value} {st : List Value} {x : Int32} {h : Hp} : ex (d) 113 62 [l0, l1, l2, l3] (.int x :: st) h = ex d 113 63 [l0, clr l1, some (.int x), l3] st h := (ex_of d113_62 (d) [l0, l1, l2, l3] (.int x :: st) h).trans (rfl)
theorem d113_63 : decode (mB 113) 63 = .ok (.iinc 3 1, 3) := by decide +kernel
theorem x113_63 {d : Nat} {l0 l1 l2 : Option Value} {st : List Value} {x : Int32} {h : Hp} : ex (d) 113 63 [l0, l1, l2, some (.int x)] st h = ex d 113 66 [l0, l1, clr l2, some (.int (x + (nI 1)))] st h := (ex_of d113_63 (d) [l0, l1, l2, some (.int x)] st h).trans (rfl)
theorem d113_66 : decode (mB 113) 66 = .ok (.goto (-35), 3) := by decide +kernel
theorem x113_66 {d : Nat} {L : Lc} {st : List Value} {h : Hp} : ex (d) 113 66 L st h = ex d 113 31 L st h := (ex_of d113_66 (d) L st h).trans (rfl)
theorem d113_69 : decode (mB 113) 69 = .ok (.iload_n 2, 1) := by decide +kernel
theorem x113_69 {d : Nat} {l0 l1 l3 : Option Value} {st : List Value} {x : Int32} {h : Hp} : ex (d) 113 69 [l0, l1, some (.int x), l3] st h = ex d 113 70 [l0, l1, some (.int x), l3] (.int x :: st) h := (ex_of d113_69 (d) [l0, l1, some (.int x), l3] st h).trans (rfl)
theorem d113_70 : decode (mB 113) 70 = .ok (.iconst 1, 1) := by decide +kernel
theorem x113_70 {d : Nat} {L : Lc} {st : List Value} {h : Hp} : ex (d) 113 70 L st h = ex d 113 71 L (.int (nI 1) :: st) h := (ex_of d113_70 (d) L st h).trans (rfl)
theorem d113_71 : decode (mB 113) 71 = .ok (.iadd, 1) := by decide +kernel
theorem x113_71 {d : Nat} {L : Lc} {st : List Value} {x y : Int32} {h : Hp} : ex (d) 113 71 L (.int y :: .int x :: st) h = ex d 113 72 L (.int (x + y) :: st) h := (ex_of d113_71 (d) L (.int y :: .int x :: st) h).trans (rfl)
theorem d113_72 : decode (mB 113) 72 = .ok (.ireturn, 1) := by decide +kernel
theorem x113_72 {d : Nat} {L : Lc} {x : Int32} {h : Hp} : ex (d) 113 72 L [.int x] h = some (some (.int x), h) := (ex_of d113_72 (d) L [.int x] h).trans (rfl)
theorem d114_0 : decode (mB 114) 0 = .ok (.aload_n 0, 1) := by decide +kernel
theorem x114_0 {d : Nat} {l1 l2 l3 : Option Value} {st : List Value} {a : Nat} {h : Hp} : ex (d) 114 0 [some (.ref a), l1, l2, l3] st h = ex d 114 1 [some (.ref a), l1, l2, l3] (.ref a :: st) h := (ex_of d114_0 (d) [some (.ref a), l1, l2, l3] st h).trans (rfl)
theorem x114_0n {d : Nat} {l1 l2 l3 : Option Value} {st : List Value} {h : Hp} : ex (d) 114 0 [some .null, l1, l2, l3] st h = ex d 114 1 [some .null, l1, l2, l3] (.null :: st) h := (ex_of d114_0 (d) [some .null, l1, l2, l3] st h).trans (rfl)
theorem x114_0q {d : Nat} {l1 l2 l3 : Option Value} {st : List Value} {a : Option Nat} {h : Hp} : ex (d) 114 0 [some (va_rf a), l1, l2, l3] st h = ex d 114 1 [some (va_rf a), l1, l2, l3] (va_rf a :: st) h := (ex_of d114_0 (d) [some (va_rf a), l1, l2, l3] st h).trans (by cases a <;> rfl)
theorem d114_1 : decode (mB 114) 1 = .ok (.astore_n 2, 1) := by decide +kernel
theorem x114_1 {d : Nat} {l0 l1 l2 l3 : Option Value} {st : List Value} {a : Nat} {h : Hp} : ex (d) 114 1 [l0, l1, l2, l3] (.ref a :: st) h = ex d 114 2 [l0, clr l1, some (.ref a), l3] st h := (ex_of d114_1 (d) [l0, l1, l2, l3] (.ref a :: st) h).trans (rfl)
theorem x114_1n {d : Nat} {l0 l1 l2 l3 : Option Value} {st : List Value} {h : Hp} : ex (d) 114 1 [l0, l1, l2, l3] (.null :: st) h = ex d 114 2 [l0, clr l1, some .null, l3] st h := (ex_of d114_1 (d) [l0, l1, l2, l3] (.null :: st) h).trans (rfl)
theorem x114_1q {d : Nat} {l0 l1 l2 l3 : Option Value} {st : List Value} {a : Option Nat} {h : Hp} : ex (d) 114 1 [l0, l1, l2, l3] (va_rf a :: st) h = ex d 114 2 [l0, clr l1, some (va_rf a), l3] st h := (ex_of d114_1 (d) [l0, l1, l2, l3] (va_rf a :: st) h).trans (by cases a <;> rfl)
theorem d114_2 : decode (mB 114) 2 = .ok (.iconst 0, 1) := by decide +kernel
theorem x114_2 {d : Nat} {L : Lc} {st : List Value} {h : Hp} : ex (d) 114 2 L st h = ex d 114 3 L (.int (nI 0) :: st) h := (ex_of d114_2 (d) L st h).trans (rfl)
theorem d114_3 : decode (mB 114) 3 = .ok (.istore_n 3, 1) := by decide +kernel
theorem x114_3 {d : Nat} {l0 l1 l2 l3 : Option Value} {st : List Value} {x : Int32} {h : Hp} : ex (d) 114 3 [l0, l1, l2, l3] (.int x :: st) h = ex d 114 4 [l0, l1, clr l2, some (.int x)] st h := (ex_of d114_3 (d) [l0, l1, l2, l3] (.int x :: st) h).trans (rfl)
theorem d114_4 : decode (mB 114) 4 = .ok (.iload_n 3, 1) := by decide +kernel
theorem x114_4 {d : Nat} {l0 l1 l2 : Option Value} {st : List Value} {x : Int32} {h : Hp} : ex (d) 114 4 [l0, l1, l2, some (.int x)] st h = ex d 114 5 [l0, l1, l2, some (.int x)] (.int x :: st) h := (ex_of d114_4 (d) [l0, l1, l2, some (.int x)] st h).trans (rfl)
theorem d114_5 : decode (mB 114) 5 = .ok (.bipush 8, 2) := by decide +kernel
theorem x114_5 {d : Nat} {L : Lc} {st : List Value} {h : Hp} : ex (d) 114 5 L st h = ex d 114 7 L (.int (nI 8) :: st) h := (ex_of d114_5 (d) L st h).trans (rfl)
theorem d114_7 : decode (mB 114) 7 = .ok (.if_icmp .ge 28, 3) := by decide +kernel
theorem x114_7 {d : Nat} {L : Lc} {st : List Value} {x y : Int32} {h : Hp} : ex (d) 114 7 L (.int y :: .int x :: st) h = if y ≤ x then ex d 114 35 L st h else ex d 114 10 L st h := (ex_of d114_7 (d) L (.int y :: .int x :: st) h).trans (fin_brq (off := 28) (tgt := 35) rfl (by decide))
theorem d114_10 : decode (mB 114) 10 = .ok (.aload_n 2, 1) := by decide +kernel
theorem x114_10 {d : Nat} {l0 l1 l3 : Option Value} {st : List Value} {a : Nat} {h : Hp} : ex (d) 114 10 [l0, l1, some (.ref a), l3] st h = ex d 114 11 [l0, l1, some (.ref a), l3] (.ref a :: st) h := (ex_of d114_10 (d) [l0, l1, some (.ref a), l3] st h).trans (rfl)
theorem x114_10n {d : Nat} {l0 l1 l3 : Option Value} {st : List Value} {h : Hp} : ex (d) 114 10 [l0, l1, some .null, l3] st h = ex d 114 11 [l0, l1, some .null, l3] (.null :: st) h := (ex_of d114_10 (d) [l0, l1, some .null, l3] st h).trans (rfl)
theorem x114_10q {d : Nat} {l0 l1 l3 : Option Value} {st : List Value} {a : Option Nat} {h : Hp} : ex (d) 114 10 [l0, l1, some (va_rf a), l3] st h = ex d 114 11 [l0, l1, some (va_rf a), l3] (va_rf a :: st) h := (ex_of d114_10 (d) [l0, l1, some (va_rf a), l3] st h).trans (by cases a <;> rfl)
theorem d114_11 : decode (mB 114) 11 = .ok (.ifnull 24, 3) := by decide +kernel
theorem x114_11n {d : Nat} {L : Lc} {st : List Value} {h : Hp} : ex (d) 114 11 L (.null :: st) h = ex d 114 35 L st h := (ex_of d114_11 (d) L (.null :: st) h).trans (rfl)
theorem x114_11 {d : Nat} {L : Lc} {st : List Value} {a : Nat} {h : Hp} : ex (d) 114 11 L (.ref a :: st) h = ex d 114 14 L st h := (ex_of d114_11 (d) L (.ref a :: st) h).trans (rfl)
theorem d114_14 : decode (mB 114) 14 = .ok (.aload_n 2, 1) := by decide +kernel
theorem x114_14 {d : Nat} {l0 l1 l3 : Option Value} {st : List Value} {a : Nat} {h : Hp} : ex (d) 114 14 [l0, l1, some (.ref a), l3] st h = ex d 114 15 [l0, l1, some (.ref a), l3] (.ref a :: st) h := (ex_of d114_14 (d) [l0, l1, some (.ref a), l3] st h).trans (rfl)
theorem x114_14n {d : Nat} {l0 l1 l3 : Option Value} {st : List Value} {h : Hp} : ex (d) 114 14 [l0, l1, some .null, l3] st h = ex d 114 15 [l0, l1, some .null, l3] (.null :: st) h := (ex_of d114_14 (d) [l0, l1, some .null, l3] st h).trans (rfl)
theorem x114_14q {d : Nat} {l0 l1 l3 : Option Value} {st : List Value} {a : Option Nat} {h : Hp} : ex (d) 114 14 [l0, l1, some (va_rf a), l3] st h = ex d 114 15 [l0, l1, some (va_rf a), l3] (va_rf a :: st) h := (ex_of d114_14 (d) [l0, l1, some (va_rf a), l3] st h).trans (by cases a <;> rfl)
theorem d114_15 : decode (mB 114) 15 = .ok (.getfield 389, 3) := by decide +kernel
theorem x114_15 {d : Nat} {L : Lc} {st : List Value} {a : Nat} {h : Hp} (ht : (h.2.1 a).1 = 3) : ex (d) 114 15 L (.ref a :: st) h = ex d 114 18 L (h.1 a 1 :: st) h := (ex_of d114_15 (d) L (.ref a :: st) h).trans (fin_get (mi := 114) f10_389 (tg1 ht rfl))
theorem d114_18 : decode (mB 114) 18 = .ok (.aload_n 1, 1) := by decide +kernel
theorem x114_18 {d : Nat} {l0 l2 l3 : Option Value} {st : List Value} {a : Nat} {h : Hp} : ex (d) 114 18 [l0, some (.ref a), l2, l3] st h = ex d 114 19 [l0, some (.ref a), l2, l3] (.ref a :: st) h := (ex_of d114_18 (d) [l0, some (.ref a), l2, l3] st h).trans (rfl)
theorem x114_18n {d : Nat} {l0 l2 l3 : Option Value} {st : List Value} {h : Hp} : ex (d) 114 18 [l0, some .null, l2, l3] st h = ex d 114 19 [l0, some .null, l2, l3] (.null :: st) h := (ex_of d114_18 (d) [l0, some .null, l2, l3] st h).trans (rfl)
theorem x114_18q {d : Nat} {l0 l2 l3 : Option Value} {st : List Value} {a : Option Nat} {h : Hp} : ex (d) 114 18 [l0, some (va_rf a), l2, l3] st h = ex d 114 19 [l0, some (va_rf a), l2, l3] (va_rf a :: st) h := (ex_of d114_18 (d) [l0, some (va_rf a), l2, l3] st h).trans (by cases a <;> rfl)
theorem d114_19 : decode (mB 114) 19 = .ok (.if_acmp .ne 5, 3) := by decide +kernel
theorem x114_19 {d : Nat} {L : Lc} {st : List Value} {v w : Value} {h : Hp} (hv : isR v = true) (hw : isR w = true) : ex (d) 114 19 L (w :: v :: st) h = if ¬ v = w then ex d 114 24 L st h else ex d 114 22 L st h := (ex_of d114_19 (d) L (w :: v :: st) h).trans (fin_acmpN (off := 5) (tgt := 24) rfl hv hw (by decide))
theorem d114_22 : decode (mB 114) 22 = .ok (.iconst 1, 1) := by decide +kernel
theorem x114_22 {d : Nat} {L : Lc} {st : List Value} {h : Hp} : ex (d) 114 22 L st h = ex d 114 23 L (.int (nI 1) :: st) h := (ex_of d114_22 (d) L st h).trans (rfl)
theorem d114_23 : decode (mB 114) 23 = .ok (.ireturn, 1) := by decide +kernel
theorem x114_23 {d : Nat} {L : Lc} {x : Int32} {h : Hp} (hx : x = 0 ∨ x = 1) : ex (d) 114 23 L [.int x] h = some (some (.int x), h) := (ex_of d114_23 (d) L [.int x] h).trans (fin_retb rfl hx)
theorem d114_24 : decode (mB 114) 24 = .ok (.aload_n 2, 1) := by decide +kernel
theorem x114_24 {d : Nat} {l0 l1 l3 : Option Value} {st : List Value} {a : Nat} {h : Hp} : ex (d) 114 24 [l0, l1, some (.ref a), l3] st h = ex d 114 25 [l0, l1, some (.ref a), l3] (.ref a :: st) h := (ex_of d114_24 (d) [l0, l1, some (.ref a), l3] st h).trans (rfl)
theorem x114_24n {d : Nat} {l0 l1 l3 : Option Value} {st : List Value} {h : Hp} : ex (d) 114 24 [l0, l1, some .null, l3] st h = ex d 114 25 [l0, l1, some .null, l3] (.null :: st) h := (ex_of d114_24 (d) [l0, l1, some .null, l3] st h).trans (rfl)
theorem x114_24q {d : Nat} {l0 l1 l3 : Option Value} {st : List Value} {a : Option Nat} {h : Hp} : ex (d) 114 24 [l0, l1, some (va_rf a), l3] st h = ex d 114 25 [l0, l1, some (va_rf a), l3] (va_rf a :: st) h := (ex_of d114_24 (d) [l0, l1, some (va_rf a), l3] st h).trans (by cases a <;> rfl)
theorem d114_25 : decode (mB 114) 25 = .ok (.invokevirtual 382, 3) := by decide +kernel
theorem x114_25 {d : Nat} {L : Lc} {a : Nat} {h : Hp} (ht : (h.2.1 a).1 = 3) : ex (d + 1) 114 25 L (.ref a :: []) h = bnd (ex d 10 0 [some (.ref a)] [] h) (fun v h' => ex (d + 1) 114 28 L (v.toList ++ []) h') := (ex_of d114_25 (d + 1) L (.ref a :: []) h).trans (fin_vi (mi := 114) i10_382 ht rfl rfl (by simp [cat1_i, cat1_r]) (by simp) (Nat.le_of_ble_eq_true rfl))
theorem d114_28 : decode (mB 114) 28 = .ok (.astore_n 2, 1) := by decide +kernel
theorem x114_28 {d : Nat} {l0 l1 l2 l3 : Option Value} {st : List Value} {a : Nat} {h : Hp} : ex (d) 114 28 [l0, l1, l2, l3] (.ref a :: st) h = ex d 114 29 [l0, clr l1, some (.ref a), l3] st h := (ex_of d114_28 (d) [l0, l1, l2, l3] (.ref a :: st) h).trans (rfl)
theorem x114_28n {d : Nat} {l0 l1 l2 l3 : Option Value} {st : List Value} {h : Hp} : ex (d) 114 28 [l0, l1, l2, l3] (.null :: st) h = ex d 114 29 [l0, clr l1, some .null, l3] st h := (ex_of d114_28 (d) [l0, l1, l2, l3] (.null :: st) h).trans (rfl)
theorem x114_28q {d : Nat} {l0 l1 l2 l3 : Option Value} {st : List Value} {a : Option Nat} {h : Hp} : ex (d) 114 28 [l0, l1, l2, l3] (va_rf a :: st) h = ex d 114 29 [l0, clr l1, some (va_rf a), l3] st h := (ex_of d114_28 (d) [l0, l1, l2, l3] (va_rf a :: st) h).trans (by cases a <;> rfl)
theorem d114_29 : decode (mB 114) 29 = .ok (.iinc 3 1, 3) := by decide +kernel
theorem x114_29 {d : Nat} {l0 l1 l2 : Option Value} {st : List Value} {x : Int32} {h : Hp} : ex (d) 114 29 [l0, l1, l2, some (.int x)] st h = ex d 114 32 [l0, l1, clr l2, some (.int (x + (nI 1)))] st h := (ex_of d114_29 (d) [l0, l1, l2, some (.int x)] st h).trans (rfl)
theorem d114_32 : decode (mB 114) 32 = .ok (.goto (-28), 3) := by decide +kernel
theorem x114_32 {d : Nat} {L : Lc} {st : List Value} {h : Hp} : ex (d) 114 32 L st h = ex d 114 4 L st h := (ex_of d114_32 (d) L st h).trans (rfl)
theorem d114_35 : decode (mB 114) 35 = .ok (.iconst 0, 1) := by decide +kernel
theorem x114_35 {d : Nat} {L : Lc} {st : List Value} {h : Hp} : ex (d) 114 35 L st h = ex d 114 36 L (.int (nI 0) :: st) h := (ex_of d114_35 (d) L st h).trans (rfl)
theorem d114_36 : decode (mB 114) 36 = .ok (.ireturn, 1) := by decide +kernel
theorem x114_36 {d : Nat} {L : Lc} {x : Int32} {h : Hp} (hx : x = 0 ∨ x = 1) : ex (d) 114 36 L [.int x] h = some (some (.int x), h) := (ex_of d114_36 (d) L [.int x] h).trans (fin_retb rfl hx)
theorem d115_0 : decode (mB 115) 0 = .ok (.aload_n 0, 1) := by decide +kernel
theorem x115_0 {d : Nat} {l1 : Option Value} {st : List Value} {a : Nat} {h : Hp} : ex (d) 115 0 [some (.ref a), l1] st h = ex d 115 1 [some (.ref a), l1] (.ref a :: st) h := (ex_of d115_0 (d) [some (.ref a), l1] st h).trans (rfl)
theorem d115_1 : decode (mB 115) 1 = .ok (.getfield 297, 3) := by decide +kernel
theorem x115_1 {d : Nat} {L : Lc} {st : List Value} {a : Nat} {h : Hp} (ht : (h.2.1 a).1 = 10) : ex (d) 115 1 L (.ref a :: st) h = ex d 115 4 L (h.1 a 9 :: st) h := (ex_of d115_1 (d) L (.ref a :: st) h).trans (fin_get (mi := 115) f10_297 (tg1 ht rfl))
theorem d115_4 : decode (mB 115) 4 = .ok (.sipush 512, 3) := by decide +kernel
theorem x115_4 {d : Nat} {L : Lc} {st : List Value} {h : Hp} : ex (d) 115 4 L st h = ex d 115 7 L (.int (nI 512) :: st) h := (ex_of d115_4 (d) L st h).trans (rfl)
theorem d115_7 : decode (mB 115) 7 = .ok (.if_icmp .lt 8, 3) := by decide +kernel
theorem x115_7 {d : Nat} {L : Lc} {st : List Value} {x y : Int32} {h : Hp} : ex (d) 115 7 L (.int y :: .int x :: st) h = if x < y then ex d 115 15 L st h else ex d 115 10 L st h := (ex_of d115_7 (d) L (.int y :: .int x :: st) h).trans (fin_brq (off := 8) (tgt := 15) rfl (by decide))
theorem d115_10 : decode (mB 115) 10 = .ok (.aload_n 0, 1) := by decide +kernel
theorem x115_10 {d : Nat} {l1 : Option Value} {st : List Value} {a : Nat} {h : Hp} : ex (d) 115 10 [some (.ref a), l1] st h = ex d 115 11 [some (.ref a), l1] (.ref a :: st) h := (ex_of d115_10 (d) [some (.ref a), l1] st h).trans (rfl)
theorem d115_11 : decode (mB 115) 11 = .ok (.iconst 0, 1) := by decide +kernel
theorem x115_11 {d : Nat} {L : Lc} {st : List Value} {h : Hp} : ex (d) 115 11 L st h = ex d 115 12 L (.int (nI 0) :: st) h := (ex_of d115_11 (d) L st h).trans (rfl)
theorem d115_12 : decode (mB 115) 12 = .ok (.putfield 297, 3) := by decide +kernel
theorem x115_12 {d : Nat} {L : Lc} {st : List Value} {a : Nat} {x : Int32} {h : Hp} (ht : (h.2.1 a).1 = 10) : ex (d) 115 12 L (.int x :: .ref a :: st) h = ex d 115 15 L st (mup h.1 a 9 (.int x), h.2) := (ex_of d115_12 (d) L (.int x :: .ref a :: st) h).trans (fin_put (mi := 115) f10_297 ht rfl rfl (by decide +kernel))
theorem d115_15 : decode (mB 115) 15 = .ok (.aload_n 0, 1) := by decide +kernel
theorem x115_15 {d : Nat} {l1 : Option Value} {st : List Value} {a : Nat} {h : Hp} : ex (d) 115 15 [some (.ref a), l1] st h = ex d 115 16 [some (.ref a), l1] (.ref a :: st) h := (ex_of d115_15 (d) [some (.ref a), l1] st h).trans (rfl)
theorem d115_16 : decode (mB 115) 16 = .ok (.getfield 35, 3) := by decide +kernel
theorem x115_16 {d : Nat} {L : Lc} {st : List Value} {a : Nat} {h : Hp} (ht : (h.2.1 a).1 = 10) : ex (d) 115 16 L (.ref a :: st) h = ex d 115 19 L (h.1 a 8 :: st) h := (ex_of d115_16 (d) L (.ref a :: st) h).trans (fin_get (mi := 115) f10_35 (tg1 ht rfl))
theorem d115_19 : decode (mB 115) 19 = .ok (.aload_n 0, 1) := by decide +kernel
theorem x115_19 {d : Nat} {l1 : Option Value} {st : List Value} {a : Nat} {h : Hp} : ex (d) 115 19 [some (.ref a), l1] st h = ex d 115 20 [some (.ref a), l1] (.ref a :: st) h := (ex_of d115_19 (d) [some (.ref a), l1] st h).trans (rfl)
theorem d115_20 : decode (mB 115) 20 = .ok (.getfield 297, 3) := by decide +kernel
theorem x115_20 {d : Nat} {L : Lc} {st : List Value} {a : Nat} {h : Hp} (ht : (h.2.1 a).1 = 10) : ex (d) 115 20 L (.ref a :: st) h = ex d 115 23 L (h.1 a 9 :: st) h := (ex_of d115_20 (d) L (.ref a :: st) h).trans (fin_get (mi := 115) f10_297 (tg1 ht rfl))
theorem d115_23 : decode (mB 115) 23 = .ok (.aload_n 1, 1) := by decide +kernel
theorem x115_23 {d : Nat} {l0 : Option Value} {st : List Value} {a : Nat} {h : Hp} : ex (d) 115 23 [l0, some (.ref a)] st h = ex d 115 24 [l0, some (.ref a)] (.ref a :: st) h := (ex_of d115_23 (d) [l0, some (.ref a)] st h).trans (rfl)
theorem x115_23n {d : Nat} {l0 : Option Value} {st : List Value} {h : Hp} : ex (d) 115 23 [l0, some .null] st h = ex d 115 24 [l0, some .null] (.null :: st) h := (ex_of d115_23 (d) [l0, some .null] st h).trans (rfl)
theorem x115_23q {d : Nat} {l0 : Option Value} {st : List Value} {a : Option Nat} {h : Hp} : ex (d) 115 23 [l0, some (va_rf a)] st h = ex d 115 24 [l0, some (va_rf a)] (va_rf a :: st) h := (ex_of d115_23 (d) [l0, some (va_rf a)] st h).trans (by cases a <;> rfl)
theorem d115_24 : decode (mB 115) 24 = .ok (.aastore, 1) := by decide +kernel
theorem x115_24 {d : Nat} {L : Lc} {st : List Value} {a j v : Nat} {h : Hp} (ht : 21 ≤ (h.2.1 a).1 ∧ (h.2.1 a).1 ≤ 25) (hc : casts.contains ((h.2.1 v).1, elT (h.2.1 a).1) = true) (hj : j < (h.2.1 a).2) (hb : j < 2147483648) : ex (d) 115 24 L (.ref v :: .int (nI j) :: .ref a :: st) h = ex d 115 25 L st (mup h.1 a j (.ref v), h.2) := (ex_of d115_24 (d) L (.ref v :: .int (nI j) :: .ref a :: st) h).trans (fin_aastore ht hc hj hb)
theorem x115_24n {d : Nat} {L : Lc} {st : List Value} {a j : Nat} {h : Hp} (ht : 21 ≤ (h.2.1 a).1 ∧ (h.2.1 a).1 ≤ 25) (hj : j < (h.2.1 a).2) (hb : j < 2147483648) : ex (d) 115 24 L (.null :: .int (nI j) :: .ref a :: st) h = ex d 115 25 L st (mup h.1 a j .null, h.2) := (ex_of d115_24 (d) L (.null :: .int (nI j) :: .ref a :: st) h).trans (fin_aastoreN ht hj hb)
theorem d115_25 : decode (mB 115) 25 = .ok (.aload_n 0, 1) := by decide +kernel
theorem x115_25 {d : Nat} {l1 : Option Value} {st : List Value} {a : Nat} {h : Hp} : ex (d) 115 25 [some (.ref a), l1] st h = ex d 115 26 [some (.ref a), l1] (.ref a :: st) h := (ex_of d115_25 (d) [some (.ref a), l1] st h).trans (rfl)
theorem d115_26 : decode (mB 115) 26 = .ok (.dup, 1) := by decide +kernel
theorem x115_26 {d : Nat} {L : Lc} {st : List Value} {a : Nat} {h : Hp} : ex (d) 115 26 L (.ref a :: st) h = ex d 115 27 L (.ref a :: .ref a :: st) h := (ex_of d115_26 (d) L (.ref a :: st) h).trans (rfl)
theorem x115_26i {d : Nat} {L : Lc} {st : List Value} {x : Int32} {h : Hp} : ex (d) 115 26 L (.int x :: st) h = ex d 115 27 L (.int x :: .int x :: st) h := (ex_of d115_26 (d) L (.int x :: st) h).trans (rfl)
theorem d115_27 : decode (mB 115) 27 = .ok (.getfield 297, 3) := by decide +kernel
theorem x115_27 {d : Nat} {L : Lc} {st : List Value} {a : Nat} {h : Hp} (ht : (h.2.1 a).1 = 10) : ex (d) 115 27 L (.ref a :: st) h = ex d 115 30 L (h.1 a 9 :: st) h := (ex_of d115_27 (d) L (.ref a :: st) h).trans (fin_get (mi := 115) f10_297 (tg1 ht rfl))
theorem d115_30 : decode (mB 115) 30 = .ok (.iconst 1, 1) := by decide +kernel
theorem x115_30 {d : Nat} {L : Lc} {st : List Value} {h : Hp} : ex (d) 115 30 L st h = ex d 115 31 L (.int (nI 1) :: st) h := (ex_of d115_30 (d) L st h).trans (rfl)
theorem d115_31 : decode (mB 115) 31 = .ok (.iadd, 1) := by decide +kernel
theorem x115_31 {d : Nat} {L : Lc} {st : List Value} {x y : Int32} {h : Hp} : ex (d) 115 31 L (.int y :: .int x :: st) h = ex d 115 32 L (.int (x + y) :: st) h := (ex_of d115_31 (d) L (.int y :: .int x :: st) h).trans (rfl)
theorem d115_32 : decode (mB 115) 32 = .ok (.putfield 297, 3) := by decide +kernel
theorem x115_32 {d : Nat} {L : Lc} {st : List Value} {a : Nat} {x : Int32} {h : Hp} (ht : (h.2.1 a).1 = 10) : ex (d) 115 32 L (.int x :: .ref a :: st) h = ex d 115 35 L st (mup h.1 a 9 (.int x), h.2) := (ex_of d115_32 (d) L (.int x :: .ref a :: st) h).trans (fin_put (mi := 115) f10_297 ht rfl rfl (by decide +kernel))
theorem d115_35 : decode (mB 115) 35 = .ok (.return_, 1) := by decide +kernel
theorem x115_35 {d : Nat} {L : Lc}  {h : Hp} : ex (d) 115 35 L [] h = some (none, h) := (ex_of d115_35 (d) L [] h).trans (rfl)
theorem d116_0 : decode (mB 116) 0 = .ok (.aload_n 1, 1) := by decide +kernel
theorem x116_0 {d : Nat} {l0 l2 l3 l4 l5 l6 : Option Value} {st : List Value} {a : Nat} {h : Hp} : ex (d) 116 0 [l0, some (.ref a), l2, l3, l4, l5, l6] st h = ex d 116 1 [l0, some (.ref a), l2, l3, l4, l5, l6] (.ref a :: st) h := (ex_of d116_0 (d) [l0, some (.ref a), l2, l3, l4, l5, l6] st h).trans (rfl)
theorem x116_0n {d : Nat} {l0 l2 l3 l4 l5 l6 : Option Value} {st : List Value} {h : Hp} : ex (d) 116 0 [l0, some .null, l2, l3, l4, l5, l6] st h = ex d 116 1 [l0, some .null, l2, l3, l4, l5, l6] (.null :: st) h := (ex_of d116_0 (d) [l0, some .null, l2, l3, l4, l5, l6] st h).trans (rfl)
theorem x116_0q {d : Nat} {l0 l2 l3 l4 l5 l6 : Option Value} {st : List Value} {a : Option Nat} {h : Hp} : ex (d) 116 0 [l0, some (va_rf a), l2, l3, l4, l5, l6] st h = ex d 116 1 [l0, some (va_rf a), l2, l3, l4, l5, l6] (va_rf a :: st) h := (ex_of d116_0 (d) [l0, some (va_rf a), l2, l3, l4, l5, l6] st h).trans (by cases a <;> rfl)
theorem d116_1 : decode (mB 116) 1 = .ok (.instanceof 71, 3) := by decide +kernel
theorem x116_1 {d : Nat} {L : Lc} {st : List Value} {a : Nat} {h : Hp} (ht : casts.contains ((h.2.1 a).1, 1) = true) : ex (d) 116 1 L (.ref a :: st) h = ex d 116 4 L (.int (nI 1) :: st) h := (ex_of d116_1 (d) L (.ref a :: st) h).trans (fin_ins (mi := 116) k10_71 rfl ht)
theorem x116_1o {d : Nat} {L : Lc} {st : List Value} {a : Nat} {h : Hp} (ht : nocasts.contains ((h.2.1 a).1, 1) = true) : ex (d) 116 1 L (.ref a :: st) h = ex d 116 4 L (.int (nI 0) :: st) h := (ex_of d116_1 (d) L (.ref a :: st) h).trans (fin_inso (mi := 116) k10_71 rfl ht)
theorem x116_1n {d : Nat} {L : Lc} {st : List Value} {h : Hp} : ex (d) 116 1 L (.null :: st) h = ex d 116 4 L (.int (nI 0) :: st) h := (ex_of d116_1 (d) L (.null :: st) h).trans (fin_insn (mi := 116) k10_71)
theorem d116_4 : decode (mB 116) 4 = .ok (.ifCond .eq 14, 3) := by decide +kernel
theorem x116_4 {d : Nat} {L : Lc} {st : List Value} {x : Int32} {h : Hp} : ex (d) 116 4 L (.int x :: st) h = if x = 0 then ex d 116 18 L st h else ex d 116 7 L st h := (ex_of d116_4 (d) L (.int x :: st) h).trans (fin_brq (off := 14) (tgt := 18) rfl (by decide))
theorem d116_7 : decode (mB 116) 7 = .ok (.aload_n 1, 1) := by decide +kernel
theorem x116_7 {d : Nat} {l0 l2 l3 l4 l5 l6 : Option Value} {st : List Value} {a : Nat} {h : Hp} : ex (d) 116 7 [l0, some (.ref a), l2, l3, l4, l5, l6] st h = ex d 116 8 [l0, some (.ref a), l2, l3, l4, l5, l6] (.ref a :: st) h := (ex_of d116_7 (d) [l0, some (.ref a), l2, l3, l4, l5, l6] st h).trans (rfl)
theorem x116_7n {d : Nat} {l0 l2 l3 l4 l5 l6 : Option Value} {st : List Value} {h : Hp} : ex (d) 116 7 [l0, some .null, l2, l3, l4, l5, l6] st h = ex d 116 8 [l0, some .null, l2, l3, l4, l5, l6] (.null :: st) h := (ex_of d116_7 (d) [l0, some .null, l2, l3, l4, l5, l6] st h).trans (rfl)
theorem x116_7q {d : Nat} {l0 l2 l3 l4 l5 l6 : Option Value} {st : List Value} {a : Option Nat} {h : Hp} : ex (d) 116 7 [l0, some (va_rf a), l2, l3, l4, l5, l6] st h = ex d 116 8 [l0, some (va_rf a), l2, l3, l4, l5, l6] (va_rf a :: st) h := (ex_of d116_7 (d) [l0, some (va_rf a), l2, l3, l4, l5, l6] st h).trans (by cases a <;> rfl)
theorem d116_8 : decode (mB 116) 8 = .ok (.checkcast 71, 3) := by decide +kernel
theorem x116_8 {d : Nat} {L : Lc} {st : List Value} {a : Nat} {h : Hp} (ht : casts.contains ((h.2.1 a).1, 1) = true) : ex (d) 116 8 L (.ref a :: st) h = ex d 116 11 L (.ref a :: st) h := (ex_of d116_8 (d) L (.ref a :: st) h).trans (fin_ckc (mi := 116) k10_71 rfl ht)
theorem d116_11 : decode (mB 116) 11 = .ok (.astore_n 2, 1) := by decide +kernel
theorem x116_11 {d : Nat} {l0 l1 l2 l3 l4 l5 l6 : Option Value} {st : List Value} {a : Nat} {h : Hp} : ex (d) 116 11 [l0, l1, l2, l3, l4, l5, l6] (.ref a :: st) h = ex d 116 12 [l0, clr l1, some (.ref a), l3, l4, l5, l6] st h := (ex_of d116_11 (d) [l0, l1, l2, l3, l4, l5, l6] (.ref a :: st) h).trans (rfl)
theorem x116_11n {d : Nat} {l0 l1 l2 l3 l4 l5 l6 : Option Value} {st : List Value} {h : Hp} : ex (d) 116 11 [l0, l1, l2, l3, l4, l5, l6] (.null :: st) h = ex d 116 12 [l0, clr l1, some .null, l3, l4, l5, l6] st h := (ex_of d116_11 (d) [l0, l1, l2, l3, l4, l5, l6] (.null :: st) h).trans (rfl)
theorem x116_11q {d : Nat} {l0 l1 l2 l3 l4 l5 l6 : Option Value} {st : List Value} {a : Option Nat} {h : Hp} : ex (d) 116 11 [l0, l1, l2, l3, l4, l5, l6] (va_rf a :: st) h = ex d 116 12 [l0, clr l1, some (va_rf a), l3, l4, l5, l6] st h := (ex_of d116_11 (d) [l0, l1, l2, l3, l4, l5, l6] (va_rf a :: st) h).trans (by cases a <;> rfl)
theorem d116_12 : decode (mB 116) 12 = .ok (.aload_n 0, 1) := by decide +kernel
theorem x116_12 {d : Nat} {l1 l2 l3 l4 l5 l6 : Option Value} {st : List Value} {a : Nat} {h : Hp} : ex (d) 116 12 [some (.ref a), l1, l2, l3, l4, l5, l6] st h = ex d 116 13 [some (.ref a), l1, l2, l3, l4, l5, l6] (.ref a :: st) h := (ex_of d116_12 (d) [some (.ref a), l1, l2, l3, l4, l5, l6] st h).trans (rfl)
theorem x116_12n {d : Nat} {l1 l2 l3 l4 l5 l6 : Option Value} {st : List Value} {h : Hp} : ex (d) 116 12 [some .null, l1, l2, l3, l4, l5, l6] st h = ex d 116 13 [some .null, l1, l2, l3, l4, l5, l6] (.null :: st) h := (ex_of d116_12 (d) [some .null, l1, l2, l3, l4, l5, l6] st h).trans (rfl)
theorem x116_12q {d : Nat} {l1 l2 l3 l4 l5 l6 : Option Value} {st : List Value} {a : Option Nat} {h : Hp} : ex (d) 116 12 [some (va_rf a), l1, l2, l3, l4, l5, l6] st h = ex d 116 13 [some (va_rf a), l1, l2, l3, l4, l5, l6] (va_rf a :: st) h := (ex_of d116_12 (d) [some (va_rf a), l1, l2, l3, l4, l5, l6] st h).trans (by cases a <;> rfl)
theorem d116_13 : decode (mB 116) 13 = .ok (.aload_n 2, 1) := by decide +kernel
theorem x116_13 {d : Nat} {l0 l1 l3 l4 l5 l6 : Option Value} {st : List Value} {a : Nat} {h : Hp} : ex (d) 116 13 [l0, l1, some (.ref a), l3, l4, l5, l6] st h = ex d 116 14 [l0, l1, some (.ref a), l3, l4, l5, l6] (.ref a :: st) h := (ex_of d116_13 (d) [l0, l1, some (.ref a), l3, l4, l5, l6] st h).trans (rfl)
theorem x116_13n {d : Nat} {l0 l1 l3 l4 l5 l6 : Option Value} {st : List Value} {h : Hp} : ex (d) 116 13 [l0, l1, some .null, l3, l4, l5, l6] st h = ex d 116 14 [l0, l1, some .null, l3, l4, l5, l6] (.null :: st) h := (ex_of d116_13 (d) [l0, l1, some .null, l3, l4, l5, l6] st h).trans (rfl)
theorem x116_13q {d : Nat} {l0 l1 l3 l4 l5 l6 : Option Value} {st : List Value} {a : Option Nat} {h : Hp} : ex (d) 116 13 [l0, l1, some (va_rf a), l3, l4, l5, l6] st h = ex d 116 14 [l0, l1, some (va_rf a), l3, l4, l5, l6] (va_rf a :: st) h := (ex_of d116_13 (d) [l0, l1, some (va_rf a), l3, l4, l5, l6] st h).trans (by cases a <;> rfl)
theorem d116_14 : decode (mB 116) 14 = .ok (.invokestatic 392, 3) := by decide +kernel
theorem x116_14 {d : Nat} {L : Lc}  {v0 : Value} {v1 : Value} {h : Hp} (hv0 : isR v0 = true) (hv1 : isR v1 = true) : ex (d + 1) 116 14 L (v1 :: v0 :: []) h = bnd (ex d 117 0 [some v0, some v1, none, none] [] h) (fun v h' => ex (d + 1) 116 17 L (v.toList ++ []) h') := (ex_of d116_14 (d + 1) L (v1 :: v0 :: []) h).trans (fin_st (mi := 116) i10_392 (Or.inl rfl) (by simp) (by simp [cat1_i, cat1_r, isR_cat1 hv0, isR_cat1 hv1]) (by simp) (Nat.le_of_ble_eq_true rfl))
theorem d116_17 : decode (mB 116) 17 = .ok (.ireturn, 1) := by decide +kernel
theorem x116_17 {d : Nat} {L : Lc} {x : Int32} {h : Hp} : ex (d) 116 17 L [.int x] h = some (some (.int x), h) := (ex_of d116_17 (d) L [.int x] h).trans (rfl)
theorem d116_18 : decode (mB 116) 18 = .ok (.aload_n 1, 1) := by decide +kernel
theorem x116_18 {d : Nat} {l0 l2 l3 l4 l5 l6 : Option Value} {st : List Value} {a : Nat} {h : Hp} : ex (d) 116 18 [l0, some (.ref a), l2, l3, l4, l5, l6] st h = ex d 116 19 [l0, some (.ref a), l2, l3, l4, l5, l6] (.ref a :: st) h := (ex_of d116_18 (d) [l0, some (.ref a), l2, l3, l4, l5, l6] st h).trans (rfl)
theorem x116_18n {d : Nat} {l0 l2 l3 l4 l5 l6 : Option Value} {st : List Value} {h : Hp} : ex (d) 116 18 [l0, some .null, l2, l3, l4, l5, l6] st h = ex d 116 19 [l0, some .null, l2, l3, l4, l5, l6] (.null :: st) h := (ex_of d116_18 (d) [l0, some .null, l2, l3, l4, l5, l6] st h).trans (rfl)
theorem x116_18q {d : Nat} {l0 l2 l3 l4 l5 l6 : Option Value} {st : List Value} {a : Option Nat} {h : Hp} : ex (d) 116 18 [l0, some (va_rf a), l2, l3, l4, l5, l6] st h = ex d 116 19 [l0, some (va_rf a), l2, l3, l4, l5, l6] (va_rf a :: st) h := (ex_of d116_18 (d) [l0, some (va_rf a), l2, l3, l4, l5, l6] st h).trans (by cases a <;> rfl)
theorem d116_19 : decode (mB 116) 19 = .ok (.getfield 320, 3) := by decide +kernel
theorem x116_19 {d : Nat} {L : Lc} {st : List Value} {a : Nat} {h : Hp} (ht : isTh (h.2.1 a).1 = true) : ex (d) 116 19 L (.ref a :: st) h = ex d 116 22 L (h.1 a 5 :: st) h := (ex_of d116_19 (d) L (.ref a :: st) h).trans (fin_get (mi := 116) f10_320 ht)
theorem d116_22 : decode (mB 116) 22 = .ok (.ifnonnull 5, 3) := by decide +kernel
theorem x116_22n {d : Nat} {L : Lc} {st : List Value} {h : Hp} : ex (d) 116 22 L (.null :: st) h = ex d 116 25 L st h := (ex_of d116_22 (d) L (.null :: st) h).trans (rfl)
theorem x116_22 {d : Nat} {L : Lc} {st : List Value} {a : Nat} {h : Hp} : ex (d) 116 22 L (.ref a :: st) h = ex d 116 27 L st h := (ex_of d116_22 (d) L (.ref a :: st) h).trans (rfl)
theorem d116_25 : decode (mB 116) 25 = .ok (.iconst 2, 1) := by decide +kernel
theorem x116_25 {d : Nat} {L : Lc} {st : List Value} {h : Hp} : ex (d) 116 25 L st h = ex d 116 26 L (.int (nI 2) :: st) h := (ex_of d116_25 (d) L st h).trans (rfl)
theorem d116_26 : decode (mB 116) 26 = .ok (.ireturn, 1) := by decide +kernel
theorem x116_26 {d : Nat} {L : Lc} {x : Int32} {h : Hp} : ex (d) 116 26 L [.int x] h = some (some (.int x), h) := (ex_of d116_26 (d) L [.int x] h).trans (rfl)
theorem d116_27 : decode (mB 116) 27 = .ok (.iconst 1, 1) := by decide +kernel
theorem x116_27 {d : Nat} {L : Lc} {st : List Value} {h : Hp} : ex (d) 116 27 L st h = ex d 116 28 L (.int (nI 1) :: st) h := (ex_of d116_27 (d) L st h).trans (rfl)
theorem d116_28 : decode (mB 116) 28 = .ok (.istore_n 2, 1) := by decide +kernel
theorem x116_28 {d : Nat} {l0 l1 l2 l3 l4 l5 l6 : Option Value} {st : List Value} {x : Int32} {h : Hp} : ex (d) 116 28 [l0, l1, l2, l3, l4, l5, l6] (.int x :: st) h = ex d 116 29 [l0, clr l1, some (.int x), l3, l4, l5, l6] st h := (ex_of d116_28 (d) [l0, l1, l2, l3, l4, l5, l6] (.int x :: st) h).trans (rfl)
theorem d116_29 : decode (mB 116) 29 = .ok (.iconst 1, 1) := by decide +kernel
theorem x116_29 {d : Nat} {L : Lc} {st : List Value} {h : Hp} : ex (d) 116 29 L st h = ex d 116 30 L (.int (nI 1) :: st) h := (ex_of d116_29 (d) L st h).trans (rfl)
theorem d116_30 : decode (mB 116) 30 = .ok (.istore_n 3, 1) := by decide +kernel
theorem x116_30 {d : Nat} {l0 l1 l2 l3 l4 l5 l6 : Option Value} {st : List Value} {x : Int32} {h : Hp} : ex (d) 116 30 [l0, l1, l2, l3, l4, l5, l6] (.int x :: st) h = ex d 116 31 [l0, l1, clr l2, some (.int x), l4, l5, l6] st h := (ex_of d116_30 (d) [l0, l1, l2, l3, l4, l5, l6] (.int x :: st) h).trans (rfl)
theorem d116_31 : decode (mB 116) 31 = .ok (.iconst 0, 1) := by decide +kernel
theorem x116_31 {d : Nat} {L : Lc} {st : List Value} {h : Hp} : ex (d) 116 31 L st h = ex d 116 32 L (.int (nI 0) :: st) h := (ex_of d116_31 (d) L st h).trans (rfl)
theorem d116_32 : decode (mB 116) 32 = .ok (.istore 4, 2) := by decide +kernel
theorem x116_32 {d : Nat} {l0 l1 l2 l3 l4 l5 l6 : Option Value} {st : List Value} {x : Int32} {h : Hp} : ex (d) 116 32 [l0, l1, l2, l3, l4, l5, l6] (.int x :: st) h = ex d 116 34 [l0, l1, l2, clr l3, some (.int x), l5, l6] st h := (ex_of d116_32 (d) [l0, l1, l2, l3, l4, l5, l6] (.int x :: st) h).trans (rfl)
theorem d116_34 : decode (mB 116) 34 = .ok (.iload 4, 2) := by decide +kernel
theorem x116_34 {d : Nat} {l0 l1 l2 l3 l5 l6 : Option Value} {st : List Value} {x : Int32} {h : Hp} : ex (d) 116 34 [l0, l1, l2, l3, some (.int x), l5, l6] st h = ex d 116 36 [l0, l1, l2, l3, some (.int x), l5, l6] (.int x :: st) h := (ex_of d116_34 (d) [l0, l1, l2, l3, some (.int x), l5, l6] st h).trans (rfl)
theorem d116_36 : decode (mB 116) 36 = .ok (.aload_n 1, 1) := by decide +kernel
theorem x116_36 {d : Nat} {l0 l2 l3 l4 l5 l6 : Option Value} {st : List Value} {a : Nat} {h : Hp} : ex (d) 116 36 [l0, some (.ref a), l2, l3, l4, l5, l6] st h = ex d 116 37 [l0, some (.ref a), l2, l3, l4, l5, l6] (.ref a :: st) h := (ex_of d116_36 (d) [l0, some (.ref a), l2, l3, l4, l5, l6] st h).trans (rfl)
theorem x116_36n {d : Nat} {l0 l2 l3 l4 l5 l6 : Option Value} {st : List Value} {h : Hp} : ex (d) 116 36 [l0, some .null, l2, l3, l4, l5, l6] st h = ex d 116 37 [l0, some .null, l2, l3, l4, l5, l6] (.null :: st) h := (ex_of d116_36 (d) [l0, some .null, l2, l3, l4, l5, l6] st h).trans (rfl)
theorem x116_36q {d : Nat} {l0 l2 l3 l4 l5 l6 : Option Value} {st : List Value} {a : Option Nat} {h : Hp} : ex (d) 116 36 [l0, some (va_rf a), l2, l3, l4, l5, l6] st h = ex d 116 37 [l0, some (va_rf a), l2, l3, l4, l5, l6] (va_rf a :: st) h := (ex_of d116_36 (d) [l0, some (va_rf a), l2, l3, l4, l5, l6] st h).trans (by cases a <;> rfl)
theorem d116_37 : decode (mB 116) 37 = .ok (.getfield 320, 3) := by decide +kernel
theorem x116_37 {d : Nat} {L : Lc} {st : List Value} {a : Nat} {h : Hp} (ht : isTh (h.2.1 a).1 = true) : ex (d) 116 37 L (.ref a :: st) h = ex d 116 40 L (h.1 a 5 :: st) h := (ex_of d116_37 (d) L (.ref a :: st) h).trans (fin_get (mi := 116) f10_320 ht)
theorem d116_40 : decode (mB 116) 40 = .ok (.getfield 351, 3) := by decide +kernel
theorem x116_40 {d : Nat} {L : Lc} {st : List Value} {a : Nat} {h : Hp} (ht : (h.2.1 a).1 = 3) : ex (d) 116 40 L (.ref a :: st) h = ex d 116 43 L (h.1 a 2 :: st) h := (ex_of d116_40 (d) L (.ref a :: st) h).trans (fin_get (mi := 116) f10_351 (tg1 ht rfl))
theorem d116_43 : decode (mB 116) 43 = .ok (.arraylength, 1) := by decide +kernel
theorem x116_43 {d : Nat} {L : Lc} {st : List Value} {a : Nat} {h : Hp} (ht : 20 ≤ (h.2.1 a).1 ∧ (h.2.1 a).1 ≤ 30) : ex (d) 116 43 L (.ref a :: st) h = ex d 116 44 L (.int (nI (h.2.1 a).2) :: st) h := (ex_of d116_43 (d) L (.ref a :: st) h).trans (fin_alen ht)
theorem d116_44 : decode (mB 116) 44 = .ok (.if_icmp .ge 49, 3) := by decide +kernel
theorem x116_44 {d : Nat} {L : Lc} {st : List Value} {x y : Int32} {h : Hp} : ex (d) 116 44 L (.int y :: .int x :: st) h = if y ≤ x then ex d 116 93 L st h else ex d 116 47 L st h := (ex_of d116_44 (d) L (.int y :: .int x :: st) h).trans (fin_brq (off := 49) (tgt := 93) rfl (by decide))
theorem d116_47 : decode (mB 116) 47 = .ok (.aload_n 1, 1) := by decide +kernel
theorem x116_47 {d : Nat} {l0 l2 l3 l4 l5 l6 : Option Value} {st : List Value} {a : Nat} {h : Hp} : ex (d) 116 47 [l0, some (.ref a), l2, l3, l4, l5, l6] st h = ex d 116 48 [l0, some (.ref a), l2, l3, l4, l5, l6] (.ref a :: st) h := (ex_of d116_47 (d) [l0, some (.ref a), l2, l3, l4, l5, l6] st h).trans (rfl)
theorem x116_47n {d : Nat} {l0 l2 l3 l4 l5 l6 : Option Value} {st : List Value} {h : Hp} : ex (d) 116 47 [l0, some .null, l2, l3, l4, l5, l6] st h = ex d 116 48 [l0, some .null, l2, l3, l4, l5, l6] (.null :: st) h := (ex_of d116_47 (d) [l0, some .null, l2, l3, l4, l5, l6] st h).trans (rfl)
theorem x116_47q {d : Nat} {l0 l2 l3 l4 l5 l6 : Option Value} {st : List Value} {a : Option Nat} {h : Hp} : ex (d) 116 47 [l0, some (va_rf a), l2, l3, l4, l5, l6] st h = ex d 116 48 [l0, some (va_rf a), l2, l3, l4, l5, l6] (va_rf a :: st) h := (ex_of d116_47 (d) [l0, some (va_rf a), l2, l3, l4, l5, l6] st h).trans (by cases a <;> rfl)
theorem d116_48 : decode (mB 116) 48 = .ok (.getfield 320, 3) := by decide +kernel
theorem x116_48 {d : Nat} {L : Lc} {st : List Value} {a : Nat} {h : Hp} (ht : isTh (h.2.1 a).1 = true) : ex (d) 116 48 L (.ref a :: st) h = ex d 116 51 L (h.1 a 5 :: st) h := (ex_of d116_48 (d) L (.ref a :: st) h).trans (fin_get (mi := 116) f10_320 ht)
theorem d116_51 : decode (mB 116) 51 = .ok (.getfield 351, 3) := by decide +kernel
theorem x116_51 {d : Nat} {L : Lc} {st : List Value} {a : Nat} {h : Hp} (ht : (h.2.1 a).1 = 3) : ex (d) 116 51 L (.ref a :: st) h = ex d 116 54 L (h.1 a 2 :: st) h := (ex_of d116_51 (d) L (.ref a :: st) h).trans (fin_get (mi := 116) f10_351 (tg1 ht rfl))
theorem d116_54 : decode (mB 116) 54 = .ok (.iload 4, 2) := by decide +kernel
theorem x116_54 {d : Nat} {l0 l1 l2 l3 l5 l6 : Option Value} {st : List Value} {x : Int32} {h : Hp} : ex (d) 116 54 [l0, l1, l2, l3, some (.int x), l5, l6] st h = ex d 116 56 [l0, l1, l2, l3, some (.int x), l5, l6] (.int x :: st) h := (ex_of d116_54 (d) [l0, l1, l2, l3, some (.int x), l5, l6] st h).trans (rfl)
theorem d116_56 : decode (mB 116) 56 = .ok (.aaload, 1) := by decide +kernel
theorem x116_56 {d : Nat} {L : Lc} {st : List Value} {a j : Nat} {h : Hp} (ht : 21 ≤ (h.2.1 a).1 ∧ (h.2.1 a).1 ≤ 26) (hj : j < (h.2.1 a).2) (hb : j < 2147483648) : ex (d) 116 56 L (.int (nI j) :: .ref a :: st) h = ex d 116 57 L (h.1 a j :: st) h := (ex_of d116_56 (d) L (.int (nI j) :: .ref a :: st) h).trans (fin_aaload ht hj hb)
theorem d116_57 : decode (mB 116) 57 = .ok (.astore 6, 2) := by decide +kernel
theorem x116_57 {d : Nat} {l0 l1 l2 l3 l4 l5 l6 : Option Value} {st : List Value} {a : Nat} {h : Hp} : ex (d) 116 57 [l0, l1, l2, l3, l4, l5, l6] (.ref a :: st) h = ex d 116 59 [l0, l1, l2, l3, l4, clr l5, some (.ref a)] st h := (ex_of d116_57 (d) [l0, l1, l2, l3, l4, l5, l6] (.ref a :: st) h).trans (rfl)
theorem x116_57n {d : Nat} {l0 l1 l2 l3 l4 l5 l6 : Option Value} {st : List Value} {h : Hp} : ex (d) 116 57 [l0, l1, l2, l3, l4, l5, l6] (.null :: st) h = ex d 116 59 [l0, l1, l2, l3, l4, clr l5, some .null] st h := (ex_of d116_57 (d) [l0, l1, l2, l3, l4, l5, l6] (.null :: st) h).trans (rfl)
theorem x116_57q {d : Nat} {l0 l1 l2 l3 l4 l5 l6 : Option Value} {st : List Value} {a : Option Nat} {h : Hp} : ex (d) 116 57 [l0, l1, l2, l3, l4, l5, l6] (va_rf a :: st) h = ex d 116 59 [l0, l1, l2, l3, l4, clr l5, some (va_rf a)] st h := (ex_of d116_57 (d) [l0, l1, l2, l3, l4, l5, l6] (va_rf a :: st) h).trans (by cases a <;> rfl)
theorem d116_59 : decode (mB 116) 59 = .ok (.aload 6, 2) := by decide +kernel
theorem x116_59 {d : Nat} {l0 l1 l2 l3 l4 l5 : Option Value} {st : List Value} {a : Nat} {h : Hp} : ex (d) 116 59 [l0, l1, l2, l3, l4, l5, some (.ref a)] st h = ex d 116 61 [l0, l1, l2, l3, l4, l5, some (.ref a)] (.ref a :: st) h := (ex_of d116_59 (d) [l0, l1, l2, l3, l4, l5, some (.ref a)] st h).trans (rfl)
theorem x116_59n {d : Nat} {l0 l1 l2 l3 l4 l5 : Option Value} {st : List Value} {h : Hp} : ex (d) 116 59 [l0, l1, l2, l3, l4, l5, some .null] st h = ex d 116 61 [l0, l1, l2, l3, l4, l5, some .null] (.null :: st) h := (ex_of d116_59 (d) [l0, l1, l2, l3, l4, l5, some .null] st h).trans (rfl)
theorem x116_59q {d : Nat} {l0 l1 l2 l3 l4 l5 : Option Value} {st : List Value} {a : Option Nat} {h : Hp} : ex (d) 116 59 [l0, l1, l2, l3, l4, l5, some (va_rf a)] st h = ex d 116 61 [l0, l1, l2, l3, l4, l5, some (va_rf a)] (va_rf a :: st) h := (ex_of d116_59 (d) [l0, l1, l2, l3, l4, l5, some (va_rf a)] st h).trans (by cases a <;> rfl)
theorem d116_61 : decode (mB 116) 61 = .ok (.instanceof 71, 3) := by decide +kernel
theorem x116_61 {d : Nat} {L : Lc} {st : List Value} {a : Nat} {h : Hp} (ht : casts.contains ((h.2.1 a).1, 1) = true) : ex (d) 116 61 L (.ref a :: st) h = ex d 116 64 L (.int (nI 1) :: st) h := (ex_of d116_61 (d) L (.ref a :: st) h).trans (fin_ins (mi := 116) k10_71 rfl ht)
theorem x116_61o {d : Nat} {L : Lc} {st : List Value} {a : Nat} {h : Hp} (ht : nocasts.contains ((h.2.1 a).1, 1) = true) : ex (d) 116 61 L (.ref a :: st) h = ex d 116 64 L (.int (nI 0) :: st) h := (ex_of d116_61 (d) L (.ref a :: st) h).trans (fin_inso (mi := 116) k10_71 rfl ht)
theorem x116_61n {d : Nat} {L : Lc} {st : List Value} {h : Hp} : ex (d) 116 61 L (.null :: st) h = ex d 116 64 L (.int (nI 0) :: st) h := (ex_of d116_61 (d) L (.null :: st) h).trans (fin_insn (mi := 116) k10_71)
theorem d116_64 : decode (mB 116) 64 = .ok (.ifCond .eq 23, 3) := by decide +kernel
theorem x116_64 {d : Nat} {L : Lc} {st : List Value} {x : Int32} {h : Hp} : ex (d) 116 64 L (.int x :: st) h = if x = 0 then ex d 116 87 L st h else ex d 116 67 L st h := (ex_of d116_64 (d) L (.int x :: st) h).trans (fin_brq (off := 23) (tgt := 87) rfl (by decide))
theorem d116_67 : decode (mB 116) 67 = .ok (.aload 6, 2) := by decide +kernel
theorem x116_67 {d : Nat} {l0 l1 l2 l3 l4 l5 : Option Value} {st : List Value} {a : Nat} {h : Hp} : ex (d) 116 67 [l0, l1, l2, l3, l4, l5, some (.ref a)] st h = ex d 116 69 [l0, l1, l2, l3, l4, l5, some (.ref a)] (.ref a :: st) h := (ex_of d116_67 (d) [l0, l1, l2, l3, l4, l5, some (.ref a)] st h).trans (rfl)
theorem x116_67n {d : Nat} {l0 l1 l2 l3 l4 l5 : Option Value} {st : List Value} {h : Hp} : ex (d) 116 67 [l0, l1, l2, l3, l4, l5, some .null] st h = ex d 116 69 [l0, l1, l2, l3, l4, l5, some .null] (.null :: st) h := (ex_of d116_67 (d) [l0, l1, l2, l3, l4, l5, some .null] st h).trans (rfl)
theorem x116_67q {d : Nat} {l0 l1 l2 l3 l4 l5 : Option Value} {st : List Value} {a : Option Nat} {h : Hp} : ex (d) 116 67 [l0, l1, l2, l3, l4, l5, some (va_rf a)] st h = ex d 116 69 [l0, l1, l2, l3, l4, l5, some (va_rf a)] (va_rf a :: st) h := (ex_of d116_67 (d) [l0, l1, l2, l3, l4, l5, some (va_rf a)] st h).trans (by cases a <;> rfl)
theorem d116_69 : decode (mB 116) 69 = .ok (.checkcast 71, 3) := by decide +kernel
theorem x116_69 {d : Nat} {L : Lc} {st : List Value} {a : Nat} {h : Hp} (ht : casts.contains ((h.2.1 a).1, 1) = true) : ex (d) 116 69 L (.ref a :: st) h = ex d 116 72 L (.ref a :: st) h := (ex_of d116_69 (d) L (.ref a :: st) h).trans (fin_ckc (mi := 116) k10_71 rfl ht)
theorem d116_72 : decode (mB 116) 72 = .ok (.astore 5, 2) := by decide +kernel
theorem x116_72 {d : Nat} {l0 l1 l2 l3 l4 l5 l6 : Option Value} {st : List Value} {a : Nat} {h : Hp} : ex (d) 116 72 [l0, l1, l2, l3, l4, l5, l6] (.ref a :: st) h = ex d 116 74 [l0, l1, l2, l3, clr l4, some (.ref a), l6] st h := (ex_of d116_72 (d) [l0, l1, l2, l3, l4, l5, l6] (.ref a :: st) h).trans (rfl)
theorem x116_72n {d : Nat} {l0 l1 l2 l3 l4 l5 l6 : Option Value} {st : List Value} {h : Hp} : ex (d) 116 72 [l0, l1, l2, l3, l4, l5, l6] (.null :: st) h = ex d 116 74 [l0, l1, l2, l3, clr l4, some .null, l6] st h := (ex_of d116_72 (d) [l0, l1, l2, l3, l4, l5, l6] (.null :: st) h).trans (rfl)
theorem x116_72q {d : Nat} {l0 l1 l2 l3 l4 l5 l6 : Option Value} {st : List Value} {a : Option Nat} {h : Hp} : ex (d) 116 72 [l0, l1, l2, l3, l4, l5, l6] (va_rf a :: st) h = ex d 116 74 [l0, l1, l2, l3, clr l4, some (va_rf a), l6] st h := (ex_of d116_72 (d) [l0, l1, l2, l3, l4, l5, l6] (va_rf a :: st) h).trans (by cases a <;> rfl)
theorem d116_74 : decode (mB 116) 74 = .ok (.iconst 0, 1) := by decide +kernel
theorem x116_74 {d : Nat} {L : Lc} {st : List Value} {h : Hp} : ex (d) 116 74 L st h = ex d 116 75 L (.int (nI 0) :: st) h := (ex_of d116_74 (d) L st h).trans (rfl)
theorem d116_75 : decode (mB 116) 75 = .ok (.istore_n 3, 1) := by decide +kernel
theorem x116_75 {d : Nat} {l0 l1 l2 l3 l4 l5 l6 : Option Value} {st : List Value} {x : Int32} {h : Hp} : ex (d) 116 75 [l0, l1, l2, l3, l4, l5, l6] (.int x :: st) h = ex d 116 76 [l0, l1, clr l2, some (.int x), l4, l5, l6] st h := (ex_of d116_75 (d) [l0, l1, l2, l3, l4, l5, l6] (.int x :: st) h).trans (rfl)
theorem d116_76 : decode (mB 116) 76 = .ok (.iload_n 2, 1) := by decide +kernel
theorem x116_76 {d : Nat} {l0 l1 l3 l4 l5 l6 : Option Value} {st : List Value} {x : Int32} {h : Hp} : ex (d) 116 76 [l0, l1, some (.int x), l3, l4, l5, l6] st h = ex d 116 77 [l0, l1, some (.int x), l3, l4, l5, l6] (.int x :: st) h := (ex_of d116_76 (d) [l0, l1, some (.int x), l3, l4, l5, l6] st h).trans (rfl)
theorem d116_77 : decode (mB 116) 77 = .ok (.aload_n 0, 1) := by decide +kernel
theorem x116_77 {d : Nat} {l1 l2 l3 l4 l5 l6 : Option Value} {st : List Value} {a : Nat} {h : Hp} : ex (d) 116 77 [some (.ref a), l1, l2, l3, l4, l5, l6] st h = ex d 116 78 [some (.ref a), l1, l2, l3, l4, l5, l6] (.ref a :: st) h := (ex_of d116_77 (d) [some (.ref a), l1, l2, l3, l4, l5, l6] st h).trans (rfl)
theorem x116_77n {d : Nat} {l1 l2 l3 l4 l5 l6 : Option Value} {st : List Value} {h : Hp} : ex (d) 116 77 [some .null, l1, l2, l3, l4, l5, l6] st h = ex d 116 78 [some .null, l1, l2, l3, l4, l5, l6] (.null :: st) h := (ex_of d116_77 (d) [some .null, l1, l2, l3, l4, l5, l6] st h).trans (rfl)
theorem x116_77q {d : Nat} {l1 l2 l3 l4 l5 l6 : Option Value} {st : List Value} {a : Option Nat} {h : Hp} : ex (d) 116 77 [some (va_rf a), l1, l2, l3, l4, l5, l6] st h = ex d 116 78 [some (va_rf a), l1, l2, l3, l4, l5, l6] (va_rf a :: st) h := (ex_of d116_77 (d) [some (va_rf a), l1, l2, l3, l4, l5, l6] st h).trans (by cases a <;> rfl)
theorem d116_78 : decode (mB 116) 78 = .ok (.aload 5, 2) := by decide +kernel
theorem x116_78 {d : Nat} {l0 l1 l2 l3 l4 l6 : Option Value} {st : List Value} {a : Nat} {h : Hp} : ex (d) 116 78 [l0, l1, l2, l3, l4, some (.ref a), l6] st h = ex d 116 80 [l0, l1, l2, l3, l4, some (.ref a), l6] (.ref a :: st) h := (ex_of d116_78 (d) [l0, l1, l2, l3, l4, some (.ref a), l6] st h).trans (rfl)
theorem x116_78n {d : Nat} {l0 l1 l2 l3 l4 l6 : Option Value} {st : List Value} {h : Hp} : ex (d) 116 78 [l0, l1, l2, l3, l4, some .null, l6] st h = ex d 116 80 [l0, l1, l2, l3, l4, some .null, l6] (.null :: st) h := (ex_of d116_78 (d) [l0, l1, l2, l3, l4, some .null, l6] st h).trans (rfl)
theorem x116_78q {d : Nat} {l0 l1 l2 l3 l4 l6 : Option Value} {st : List Value} {a : Option Nat} {h : Hp} : ex (d) 116 78 [l0, l1, l2, l3, l4, some (va_rf a), l6] st h = ex d 116 80 [l0, l1, l2, l3, l4, some (va_rf a), l6] (va_rf a :: st) h := (ex_of d116_78 (d) [l0, l1, l2, l3, l4, some (va_rf a), l6] st h).trans (by cases a <;> rfl)
theorem d116_80 : decode (mB 116) 80 = .ok (.invokestatic 392, 3) := by decide +kernel
theorem x116_80 {d : Nat} {L : Lc} {s0 : Value}  {v0 : Value} {v1 : Value} {h : Hp} (hv0 : isR v0 = true) (hv1 : isR v1 = true) : ex (d + 1) 116 80 L (v1 :: v0 :: [s0]) h = bnd (ex d 117 0 [some v0, some v1, none, none] [] h) (fun v h' => ex (d + 1) 116 83 L (v.toList ++ [s0]) h') := (ex_of d116_80 (d + 1) L (v1 :: v0 :: [s0]) h).trans (fin_st (mi := 116) i10_392 (Or.inl rfl) (by simp) (by simp [cat1_i, cat1_r, isR_cat1 hv0, isR_cat1 hv1]) (by simp) (Nat.le_of_ble_eq_true rfl))
theorem d116_83 : decode (mB 116) 83 = .ok (.invokestatic 396, 3) := by decide +kernel
theorem x116_83 {d : Nat} {L : Lc}  {v0 : Int32} {v1 : Int32} {h : Hp} : ex (d + 1) 116 83 L (.int v1 :: .int v0 :: []) h = bnd (ex d 119 0 [some (.int v0), some (.int v1)] [] h) (fun v h' => ex (d + 1) 116 86 L (v.toList ++ []) h') := (ex_of d116_83 (d + 1) L (.int v1 :: .int v0 :: []) h).trans (fin_st (mi := 116) i10_396 (Or.inl rfl) (by simp) (by simp [cat1_i, cat1_r]) (by simp) (Nat.le_of_ble_eq_true rfl))
theorem d116_86 : decode (mB 116) 86 = .ok (.istore_n 2, 1) := by decide +kernel
theorem x116_86 {d : Nat} {l0 l1 l2 l3 l4 l5 l6 : Option Value} {st : List Value} {x : Int32} {h : Hp} : ex (d) 116 86 [l0, l1, l2, l3, l4, l5, l6] (.int x :: st) h = ex d 116 87 [l0, clr l1, some (.int x), l3, l4, l5, l6] st h := (ex_of d116_86 (d) [l0, l1, l2, l3, l4, l5, l6] (.int x :: st) h).trans (rfl)
theorem d116_87 : decode (mB 116) 87 = .ok (.iinc 4 1, 3) := by decide +kernel
theorem x116_87 {d : Nat} {l0 l1 l2 l3 l5 l6 : Option Value} {st : List Value} {x : Int32} {h : Hp} : ex (d) 116 87 [l0, l1, l2, l3, some (.int x), l5, l6] st h = ex d 116 90 [l0, l1, l2, clr l3, some (.int (x + (nI 1))), l5, l6] st h := (ex_of d116_87 (d) [l0, l1, l2, l3, some (.int x), l5, l6] st h).trans (rfl)
theorem d116_90 : decode (mB 116) 90 = .ok (.goto (-56), 3) := by decide +kernel
theorem x116_90 {d : Nat} {L : Lc} {st : List Value} {h : Hp} : ex (d) 116 90 L st h = ex d 116 34 L st h := (ex_of d116_90 (d) L st h).trans (rfl)
theorem d116_93 : decode (mB 116) 93 = .ok (.iload_n 3, 1) := by decide +kernel
theorem x116_93 {d : Nat} {l0 l1 l2 l4 l5 l6 : Option Value} {st : List Value} {x : Int32} {h : Hp} : ex (d) 116 93 [l0, l1, l2, some (.int x), l4, l5, l6] st h = ex d 116 94 [l0, l1, l2, some (.int x), l4, l5, l6] (.int x :: st) h := (ex_of d116_93 (d) [l0, l1, l2, some (.int x), l4, l5, l6] st h).trans (rfl)
theorem d116_94 : decode (mB 116) 94 = .ok (.ifCond .eq 7, 3) := by decide +kernel
theorem x116_94 {d : Nat} {L : Lc} {st : List Value} {x : Int32} {h : Hp} : ex (d) 116 94 L (.int x :: st) h = if x = 0 then ex d 116 101 L st h else ex d 116 97 L st h := (ex_of d116_94 (d) L (.int x :: st) h).trans (fin_brq (off := 7) (tgt := 101) rfl (by decide))
theorem d116_97 : decode (mB 116) 97 = .ok (.iconst 2, 1) := by decide +kernel
theorem x116_97 {d : Nat} {L : Lc} {st : List Value} {h : Hp} : ex (d) 116 97 L st h = ex d 116 98 L (.int (nI 2) :: st) h := (ex_of d116_97 (d) L st h).trans (rfl)
theorem d116_98 : decode (mB 116) 98 = .ok (.goto 4, 3) := by decide +kernel
theorem x116_98 {d : Nat} {L : Lc} {st : List Value} {h : Hp} : ex (d) 116 98 L st h = ex d 116 102 L st h := (ex_of d116_98 (d) L st h).trans (rfl)
theorem d116_101 : decode (mB 116) 101 = .ok (.iload_n 2, 1) := by decide +kernel
theorem x116_101 {d : Nat} {l0 l1 l3 l4 l5 l6 : Option Value} {st : List Value} {x : Int32} {h : Hp} : ex (d) 116 101 [l0, l1, some (.int x), l3, l4, l5, l6] st h = ex d 116 102 [l0, l1, some (.int x), l3, l4, l5, l6] (.int x :: st) h := (ex_of d116_101 (d) [l0, l1, some (.int x), l3, l4, l5, l6] st h).trans (rfl)
theorem d116_102 : decode (mB 116) 102 = .ok (.ireturn, 1) := by decide +kernel
theorem x116_102 {d : Nat} {L : Lc} {x : Int32} {h : Hp} : ex (d) 116 102 L [.int x] h = some (some (.int x), h) := (ex_of d116_102 (d) L [.int x] h).trans (rfl)
theorem d117_0 : decode (mB 117) 0 = .ok (.iconst 1, 1) := by decide +kernel
theorem x117_0 {d : Nat} {L : Lc} {st : List Value} {h : Hp} : ex (d) 117 0 L st h = ex d 117 1 L (.int (nI 1) :: st) h := (ex_of d117_0 (d) L st h).trans (rfl)
theorem d117_1 : decode (mB 117) 1 = .ok (.istore_n 2, 1) := by decide +kernel
theorem x117_1 {d : Nat} {l0 l1 l2 l3 : Option Value} {st : List Value} {x : Int32} {h : Hp} : ex (d) 117 1 [l0, l1, l2, l3] (.int x :: st) h = ex d 117 2 [l0, clr l1, some (.int x), l3] st h := (ex_of d117_1 (d) [l0, l1, l2, l3] (.int x :: st) h).trans (rfl)
theorem d117_2 : decode (mB 117) 2 = .ok (.iconst 0, 1) := by decide +kernel
theorem x117_2 {d : Nat} {L : Lc} {st : List Value} {h : Hp} : ex (d) 117 2 L st h = ex d 117 3 L (.int (nI 0) :: st) h := (ex_of d117_2 (d) L st h).trans (rfl)
theorem d117_3 : decode (mB 117) 3 = .ok (.istore_n 3, 1) := by decide +kernel
theorem x117_3 {d : Nat} {l0 l1 l2 l3 : Option Value} {st : List Value} {x : Int32} {h : Hp} : ex (d) 117 3 [l0, l1, l2, l3] (.int x :: st) h = ex d 117 4 [l0, l1, clr l2, some (.int x)] st h := (ex_of d117_3 (d) [l0, l1, l2, l3] (.int x :: st) h).trans (rfl)
theorem d117_4 : decode (mB 117) 4 = .ok (.iload_n 3, 1) := by decide +kernel
theorem x117_4 {d : Nat} {l0 l1 l2 : Option Value} {st : List Value} {x : Int32} {h : Hp} : ex (d) 117 4 [l0, l1, l2, some (.int x)] st h = ex d 117 5 [l0, l1, l2, some (.int x)] (.int x :: st) h := (ex_of d117_4 (d) [l0, l1, l2, some (.int x)] st h).trans (rfl)
theorem d117_5 : decode (mB 117) 5 = .ok (.bipush 6, 2) := by decide +kernel
theorem x117_5 {d : Nat} {L : Lc} {st : List Value} {h : Hp} : ex (d) 117 5 L st h = ex d 117 7 L (.int (nI 6) :: st) h := (ex_of d117_5 (d) L st h).trans (rfl)
theorem d117_7 : decode (mB 117) 7 = .ok (.if_icmp .ge 31, 3) := by decide +kernel
theorem x117_7 {d : Nat} {L : Lc} {st : List Value} {x y : Int32} {h : Hp} : ex (d) 117 7 L (.int y :: .int x :: st) h = if y ≤ x then ex d 117 38 L st h else ex d 117 10 L st h := (ex_of d117_7 (d) L (.int y :: .int x :: st) h).trans (fin_brq (off := 31) (tgt := 38) rfl (by decide))
theorem d117_10 : decode (mB 117) 10 = .ok (.aload_n 1, 1) := by decide +kernel
theorem x117_10 {d : Nat} {l0 l2 l3 : Option Value} {st : List Value} {a : Nat} {h : Hp} : ex (d) 117 10 [l0, some (.ref a), l2, l3] st h = ex d 117 11 [l0, some (.ref a), l2, l3] (.ref a :: st) h := (ex_of d117_10 (d) [l0, some (.ref a), l2, l3] st h).trans (rfl)
theorem x117_10n {d : Nat} {l0 l2 l3 : Option Value} {st : List Value} {h : Hp} : ex (d) 117 10 [l0, some .null, l2, l3] st h = ex d 117 11 [l0, some .null, l2, l3] (.null :: st) h := (ex_of d117_10 (d) [l0, some .null, l2, l3] st h).trans (rfl)
theorem x117_10q {d : Nat} {l0 l2 l3 : Option Value} {st : List Value} {a : Option Nat} {h : Hp} : ex (d) 117 10 [l0, some (va_rf a), l2, l3] st h = ex d 117 11 [l0, some (va_rf a), l2, l3] (va_rf a :: st) h := (ex_of d117_10 (d) [l0, some (va_rf a), l2, l3] st h).trans (by cases a <;> rfl)
theorem d117_11 : decode (mB 117) 11 = .ok (.getfield 176, 3) := by decide +kernel
theorem x117_11 {d : Nat} {L : Lc} {st : List Value} {a : Nat} {h : Hp} (ht : (h.2.1 a).1 = 1) : ex (d) 117 11 L (.ref a :: st) h = ex d 117 14 L (h.1 a 1 :: st) h := (ex_of d117_11 (d) L (.ref a :: st) h).trans (fin_get (mi := 117) f10_176 (tg1 ht rfl))
theorem d117_14 : decode (mB 117) 14 = .ok (.iload_n 3, 1) := by decide +kernel
theorem x117_14 {d : Nat} {l0 l1 l2 : Option Value} {st : List Value} {x : Int32} {h : Hp} : ex (d) 117 14 [l0, l1, l2, some (.int x)] st h = ex d 117 15 [l0, l1, l2, some (.int x)] (.int x :: st) h := (ex_of d117_14 (d) [l0, l1, l2, some (.int x)] st h).trans (rfl)
theorem d117_15 : decode (mB 117) 15 = .ok (.invokestatic 399, 3) := by decide +kernel
theorem x117_15 {d : Nat} {L : Lc}  {v0 : Int32} {v1 : Int32} {h : Hp} : ex (d + 1) 117 15 L (.int v1 :: .int v0 :: []) h = bnd (ex d 121 0 [some (.int v0), some (.int v1)] [] h) (fun v h' => ex (d + 1) 117 18 L (v.toList ++ []) h') := (ex_of d117_15 (d + 1) L (.int v1 :: .int v0 :: []) h).trans (fin_st (mi := 117) i10_399 (Or.inl rfl) (by simp) (by simp [cat1_i, cat1_r]) (by simp) (Nat.le_of_ble_eq_true rfl))
theorem d117_18 : decode (mB 117) 18 = .ok (.ifCond .eq 14, 3) := by decide +kernel
theorem x117_18 {d : Nat} {L : Lc} {st : List Value} {x : Int32} {h : Hp} : ex (d) 117 18 L (.int x :: st) h = if x = 0 then ex d 117 32 L st h else ex d 117 21 L st h := (ex_of d117_18 (d) L (.int x :: st) h).trans (fin_brq (off := 14) (tgt := 32) rfl (by decide))
theorem d117_21 : decode (mB 117) 21 = .ok (.iload_n 2, 1) := by decide +kernel
theorem x117_21 {d : Nat} {l0 l1 l3 : Option Value} {st : List Value} {x : Int32} {h : Hp} : ex (d) 117 21 [l0, l1, some (.int x), l3] st h = ex d 117 22 [l0, l1, some (.int x), l3] (.int x :: st) h := (ex_of d117_21 (d) [l0, l1, some (.int x), l3] st h).trans (rfl)
theorem d117_22 : decode (mB 117) 22 = .ok (.aload_n 0, 1) := by decide +kernel
theorem x117_22 {d : Nat} {l1 l2 l3 : Option Value} {st : List Value} {a : Nat} {h : Hp} : ex (d) 117 22 [some (.ref a), l1, l2, l3] st h = ex d 117 23 [some (.ref a), l1, l2, l3] (.ref a :: st) h := (ex_of d117_22 (d) [some (.ref a), l1, l2, l3] st h).trans (rfl)
theorem x117_22n {d : Nat} {l1 l2 l3 : Option Value} {st : List Value} {h : Hp} : ex (d) 117 22 [some .null, l1, l2, l3] st h = ex d 117 23 [some .null, l1, l2, l3] (.null :: st) h := (ex_of d117_22 (d) [some .null, l1, l2, l3] st h).trans (rfl)
theorem x117_22q {d : Nat} {l1 l2 l3 : Option Value} {st : List Value} {a : Option Nat} {h : Hp} : ex (d) 117 22 [some (va_rf a), l1, l2, l3] st h = ex d 117 23 [some (va_rf a), l1, l2, l3] (va_rf a :: st) h := (ex_of d117_22 (d) [some (va_rf a), l1, l2, l3] st h).trans (by cases a <;> rfl)
theorem d117_23 : decode (mB 117) 23 = .ok (.aload_n 1, 1) := by decide +kernel
theorem x117_23 {d : Nat} {l0 l2 l3 : Option Value} {st : List Value} {a : Nat} {h : Hp} : ex (d) 117 23 [l0, some (.ref a), l2, l3] st h = ex d 117 24 [l0, some (.ref a), l2, l3] (.ref a :: st) h := (ex_of d117_23 (d) [l0, some (.ref a), l2, l3] st h).trans (rfl)
theorem x117_23n {d : Nat} {l0 l2 l3 : Option Value} {st : List Value} {h : Hp} : ex (d) 117 23 [l0, some .null, l2, l3] st h = ex d 117 24 [l0, some .null, l2, l3] (.null :: st) h := (ex_of d117_23 (d) [l0, some .null, l2, l3] st h).trans (rfl)
theorem x117_23q {d : Nat} {l0 l2 l3 : Option Value} {st : List Value} {a : Option Nat} {h : Hp} : ex (d) 117 23 [l0, some (va_rf a), l2, l3] st h = ex d 117 24 [l0, some (va_rf a), l2, l3] (va_rf a :: st) h := (ex_of d117_23 (d) [l0, some (va_rf a), l2, l3] st h).trans (by cases a <;> rfl)
theorem d117_24 : decode (mB 117) 24 = .ok (.iload_n 3, 1) := by decide +kernel
theorem x117_24 {d : Nat} {l0 l1 l2 : Option Value} {st : List Value} {x : Int32} {h : Hp} : ex (d) 117 24 [l0, l1, l2, some (.int x)] st h = ex d 117 25 [l0, l1, l2, some (.int x)] (.int x :: st) h := (ex_of d117_24 (d) [l0, l1, l2, some (.int x)] st h).trans (rfl)
theorem d117_25 : decode (mB 117) 25 = .ok (.invokestatic 402, 3) := by decide +kernel
theorem x117_25 {d : Nat} {L : Lc} {s0 : Value}  {v0 : Value} {v1 : Value} {v2 : Int32} {h : Hp} (hv0 : isR v0 = true) (hv1 : isR v1 = true) : ex (d + 1) 117 25 L (.int v2 :: v1 :: v0 :: [s0]) h = bnd (ex d 118 0 [some v0, some v1, some (.int v2), none, none, none, none] [] h) (fun v h' => ex (d + 1) 117 28 L (v.toList ++ [s0]) h') := (ex_of d117_25 (d + 1) L (.int v2 :: v1 :: v0 :: [s0]) h).trans (fin_st (mi := 117) i10_402 (Or.inl rfl) (by simp) (by simp [cat1_i, cat1_r, isR_cat1 hv0, isR_cat1 hv1]) (by simp) (Nat.le_of_ble_eq_true rfl))
theorem d117_28 : decode (mB 117) 28 = .ok (.invokestatic 396, 3) := by decide +kernel
theorem x117_28 {d : Nat} {L : Lc}  {v0 : Int32} {v1 : Int32} {h : Hp} : ex (d + 1) 117 28 L (.int v1 :: .int v0 :: []) h = bnd (ex d 119 0 [some (.int v0), some (.int v1)] [] h) (fun v h' => ex (d + 1) 117 31 L (v.toList ++ []) h') := (ex_of d117_28 (d + 1) L (.int v1 :: .int v0 :: []) h).trans (fin_st (mi := 117) i10_396 (Or.inl rfl) (by simp) (by simp [cat1_i, cat1_r]) (by simp) (Nat.le_of_ble_eq_true rfl))
theorem d117_31 : decode (mB 117) 31 = .ok (.istore_n 2, 1) := by decide +kernel
theorem x117_31 {d : Nat} {l0 l1 l2 l3 : Option Value} {st : List Value} {x : Int32} {h : Hp} : ex (d) 117 31 [l0, l1, l2, l3] (.int x :: st) h = ex d 117 32 [l0, clr l1, some (.int x), l3] st h := (ex_of d117_31 (d) [l0, l1, l2, l3] (.int x :: st) h).trans (rfl)
theorem d117_32 : decode (mB 117) 32 = .ok (.iinc 3 1, 3) := by decide +kernel
theorem x117_32 {d : Nat} {l0 l1 l2 : Option Value} {st : List Value} {x : Int32} {h : Hp} : ex (d) 117 32 [l0, l1, l2, some (.int x)] st h = ex d 117 35 [l0, l1, clr l2, some (.int (x + (nI 1)))] st h := (ex_of d117_32 (d) [l0, l1, l2, some (.int x)] st h).trans (rfl)
theorem d117_35 : decode (mB 117) 35 = .ok (.goto (-31), 3) := by decide +kernel
theorem x117_35 {d : Nat} {L : Lc} {st : List Value} {h : Hp} : ex (d) 117 35 L st h = ex d 117 4 L st h := (ex_of d117_35 (d) L st h).trans (rfl)
theorem d117_38 : decode (mB 117) 38 = .ok (.iload_n 2, 1) := by decide +kernel
theorem x117_38 {d : Nat} {l0 l1 l3 : Option Value} {st : List Value} {x : Int32} {h : Hp} : ex (d) 117 38 [l0, l1, some (.int x), l3] st h = ex d 117 39 [l0, l1, some (.int x), l3] (.int x :: st) h := (ex_of d117_38 (d) [l0, l1, some (.int x), l3] st h).trans (rfl)
theorem d117_39 : decode (mB 117) 39 = .ok (.ireturn, 1) := by decide +kernel
theorem x117_39 {d : Nat} {L : Lc} {x : Int32} {h : Hp} : ex (d) 117 39 L [.int x] h = some (some (.int x), h) := (ex_of d117_39 (d) L [.int x] h).trans (rfl)
theorem d118_0 : decode (mB 118) 0 = .ok (.aload_n 0, 1) := by decide +kernel
theorem x118_0 {d : Nat} {l1 l2 l3 l4 l5 l6 : Option Value} {st : List Value} {a : Nat} {h : Hp} : ex (d) 118 0 [some (.ref a), l1, l2, l3, l4, l5, l6] st h = ex d 118 1 [some (.ref a), l1, l2, l3, l4, l5, l6] (.ref a :: st) h := (ex_of d118_0 (d) [some (.ref a), l1, l2, l3, l4, l5, l6] st h).trans (rfl)
theorem x118_0n {d : Nat} {l1 l2 l3 l4 l5 l6 : Option Value} {st : List Value} {h : Hp} : ex (d) 118 0 [some .null, l1, l2, l3, l4, l5, l6] st h = ex d 118 1 [some .null, l1, l2, l3, l4, l5, l6] (.null :: st) h := (ex_of d118_0 (d) [some .null, l1, l2, l3, l4, l5, l6] st h).trans (rfl)
theorem x118_0q {d : Nat} {l1 l2 l3 l4 l5 l6 : Option Value} {st : List Value} {a : Option Nat} {h : Hp} : ex (d) 118 0 [some (va_rf a), l1, l2, l3, l4, l5, l6] st h = ex d 118 1 [some (va_rf a), l1, l2, l3, l4, l5, l6] (va_rf a :: st) h := (ex_of d118_0 (d) [some (va_rf a), l1, l2, l3, l4, l5, l6] st h).trans (by cases a <;> rfl)
theorem d118_1 : decode (mB 118) 1 = .ok (.getfield 202, 3) := by decide +kernel
theorem x118_1 {d : Nat} {L : Lc} {st : List Value} {a : Nat} {h : Hp} (ht : (h.2.1 a).1 = 0) : ex (d) 118 1 L (.ref a :: st) h = ex d 118 4 L (h.1 a 0 :: st) h := (ex_of d118_1 (d) L (.ref a :: st) h).trans (fin_get (mi := 118) f10_202 (tg1 ht rfl))
theorem d118_4 : decode (mB 118) 4 = .ok (.iload_n 2, 1) := by decide +kernel
theorem x118_4 {d : Nat} {l0 l1 l3 l4 l5 l6 : Option Value} {st : List Value} {x : Int32} {h : Hp} : ex (d) 118 4 [l0, l1, some (.int x), l3, l4, l5, l6] st h = ex d 118 5 [l0, l1, some (.int x), l3, l4, l5, l6] (.int x :: st) h := (ex_of d118_4 (d) [l0, l1, some (.int x), l3, l4, l5, l6] st h).trans (rfl)
theorem d118_5 : decode (mB 118) 5 = .ok (.iaload, 1) := by decide +kernel
theorem x118_5 {d : Nat} {L : Lc} {st : List Value} {a j : Nat} {h : Hp} (ht : (h.2.1 a).1 = 20) (hj : j < (h.2.1 a).2) (hb : j < 2147483648) : ex (d) 118 5 L (.int (nI j) :: .ref a :: st) h = ex d 118 6 L (h.1 a j :: st) h := (ex_of d118_5 (d) L (.int (nI j) :: .ref a :: st) h).trans (fin_iaload (Or.inl ht) hj hb)
theorem d118_6 : decode (mB 118) 6 = .ok (.istore_n 3, 1) := by decide +kernel
theorem x118_6 {d : Nat} {l0 l1 l2 l3 l4 l5 l6 : Option Value} {st : List Value} {x : Int32} {h : Hp} : ex (d) 118 6 [l0, l1, l2, l3, l4, l5, l6] (.int x :: st) h = ex d 118 7 [l0, l1, clr l2, some (.int x), l4, l5, l6] st h := (ex_of d118_6 (d) [l0, l1, l2, l3, l4, l5, l6] (.int x :: st) h).trans (rfl)
theorem d118_7 : decode (mB 118) 7 = .ok (.aload_n 1, 1) := by decide +kernel
theorem x118_7 {d : Nat} {l0 l2 l3 l4 l5 l6 : Option Value} {st : List Value} {a : Nat} {h : Hp} : ex (d) 118 7 [l0, some (.ref a), l2, l3, l4, l5, l6] st h = ex d 118 8 [l0, some (.ref a), l2, l3, l4, l5, l6] (.ref a :: st) h := (ex_of d118_7 (d) [l0, some (.ref a), l2, l3, l4, l5, l6] st h).trans (rfl)
theorem x118_7n {d : Nat} {l0 l2 l3 l4 l5 l6 : Option Value} {st : List Value} {h : Hp} : ex (d) 118 7 [l0, some .null, l2, l3, l4, l5, l6] st h = ex d 118 8 [l0, some .null, l2, l3, l4, l5, l6] (.null :: st) h := (ex_of d118_7 (d) [l0, some .null, l2, l3, l4, l5, l6] st h).trans (rfl)
theorem x118_7q {d : Nat} {l0 l2 l3 l4 l5 l6 : Option Value} {st : List Value} {a : Option Nat} {h : Hp} : ex (d) 118 7 [l0, some (va_rf a), l2, l3, l4, l5, l6] st h = ex d 118 8 [l0, some (va_rf a), l2, l3, l4, l5, l6] (va_rf a :: st) h := (ex_of d118_7 (d) [l0, some (va_rf a), l2, l3, l4, l5, l6] st h).trans (by cases a <;> rfl)
theorem d118_8 : decode (mB 118) 8 = .ok (.getfield 151, 3) := by decide +kernel
theorem x118_8 {d : Nat} {L : Lc} {st : List Value} {a : Nat} {h : Hp} (ht : (h.2.1 a).1 = 1) : ex (d) 118 8 L (.ref a :: st) h = ex d 118 11 L (h.1 a 6 :: st) h := (ex_of d118_8 (d) L (.ref a :: st) h).trans (fin_get (mi := 118) f10_151 (tg1 ht rfl))
theorem d118_11 : decode (mB 118) 11 = .ok (.iload_n 2, 1) := by decide +kernel
theorem x118_11 {d : Nat} {l0 l1 l3 l4 l5 l6 : Option Value} {st : List Value} {x : Int32} {h : Hp} : ex (d) 118 11 [l0, l1, some (.int x), l3, l4, l5, l6] st h = ex d 118 12 [l0, l1, some (.int x), l3, l4, l5, l6] (.int x :: st) h := (ex_of d118_11 (d) [l0, l1, some (.int x), l3, l4, l5, l6] st h).trans (rfl)
theorem d118_12 : decode (mB 118) 12 = .ok (.iaload, 1) := by decide +kernel
theorem x118_12 {d : Nat} {L : Lc} {st : List Value} {a j : Nat} {h : Hp} (ht : (h.2.1 a).1 = 20) (hj : j < (h.2.1 a).2) (hb : j < 2147483648) : ex (d) 118 12 L (.int (nI j) :: .ref a :: st) h = ex d 118 13 L (h.1 a j :: st) h := (ex_of d118_12 (d) L (.int (nI j) :: .ref a :: st) h).trans (fin_iaload (Or.inl ht) hj hb)
theorem d118_13 : decode (mB 118) 13 = .ok (.istore 4, 2) := by decide +kernel
theorem x118_13 {d : Nat} {l0 l1 l2 l3 l4 l5 l6 : Option Value} {st : List Value} {x : Int32} {h : Hp} : ex (d) 118 13 [l0, l1, l2, l3, l4, l5, l6] (.int x :: st) h = ex d 118 15 [l0, l1, l2, clr l3, some (.int x), l5, l6] st h := (ex_of d118_13 (d) [l0, l1, l2, l3, l4, l5, l6] (.int x :: st) h).trans (rfl)
theorem d118_15 : decode (mB 118) 15 = .ok (.iload_n 3, 1) := by decide +kernel
theorem x118_15 {d : Nat} {l0 l1 l2 l4 l5 l6 : Option Value} {st : List Value} {x : Int32} {h : Hp} : ex (d) 118 15 [l0, l1, l2, some (.int x), l4, l5, l6] st h = ex d 118 16 [l0, l1, l2, some (.int x), l4, l5, l6] (.int x :: st) h := (ex_of d118_15 (d) [l0, l1, l2, some (.int x), l4, l5, l6] st h).trans (rfl)
theorem d118_16 : decode (mB 118) 16 = .ok (.bipush (-2), 2) := by decide +kernel
theorem x118_16 {d : Nat} {L : Lc} {st : List Value} {h : Hp} : ex (d) 118 16 L st h = ex d 118 18 L (.int (-2) :: st) h := (ex_of d118_16 (d) L st h).trans (rfl)
theorem d118_18 : decode (mB 118) 18 = .ok (.if_icmp .ne 5, 3) := by decide +kernel
theorem x118_18 {d : Nat} {L : Lc} {st : List Value} {x y : Int32} {h : Hp} : ex (d) 118 18 L (.int y :: .int x :: st) h = if ¬ x = y then ex d 118 23 L st h else ex d 118 21 L st h := (ex_of d118_18 (d) L (.int y :: .int x :: st) h).trans (fin_brq (off := 5) (tgt := 23) rfl (by decide))
theorem d118_21 : decode (mB 118) 21 = .ok (.iconst 0, 1) := by decide +kernel
theorem x118_21 {d : Nat} {L : Lc} {st : List Value} {h : Hp} : ex (d) 118 21 L st h = ex d 118 22 L (.int (nI 0) :: st) h := (ex_of d118_21 (d) L st h).trans (rfl)
theorem d118_22 : decode (mB 118) 22 = .ok (.ireturn, 1) := by decide +kernel
theorem x118_22 {d : Nat} {L : Lc} {x : Int32} {h : Hp} : ex (d) 118 22 L [.int x] h = some (some (.int x), h) := (ex_of d118_22 (d) L [.int x] h).trans (rfl)
theorem d118_23 : decode (mB 118) 23 = .ok (.iload 4, 2) := by decide +kernel
theorem x118_23 {d : Nat} {l0 l1 l2 l3 l5 l6 : Option Value} {st : List Value} {x : Int32} {h : Hp} : ex (d) 118 23 [l0, l1, l2, l3, some (.int x), l5, l6] st h = ex d 118 25 [l0, l1, l2, l3, some (.int x), l5, l6] (.int x :: st) h := (ex_of d118_23 (d) [l0, l1, l2, l3, some (.int x), l5, l6] st h).trans (rfl)
theorem d118_25 : decode (mB 118) 25 = .ok (.ifCond .eq 8, 3) := by decide +kernel
theorem x118_25 {d : Nat} {L : Lc} {st : List Value} {x : Int32} {h : Hp} : ex (d) 118 25 L (.int x :: st) h = if x = 0 then ex d 118 33 L st h else ex d 118 28 L st h := (ex_of d118_25 (d) L (.int x :: st) h).trans (fin_brq (off := 8) (tgt := 33) rfl (by decide))
theorem d118_28 : decode (mB 118) 28 = .ok (.iload_n 3, 1) := by decide +kernel
theorem x118_28 {d : Nat} {l0 l1 l2 l4 l5 l6 : Option Value} {st : List Value} {x : Int32} {h : Hp} : ex (d) 118 28 [l0, l1, l2, some (.int x), l4, l5, l6] st h = ex d 118 29 [l0, l1, l2, some (.int x), l4, l5, l6] (.int x :: st) h := (ex_of d118_28 (d) [l0, l1, l2, some (.int x), l4, l5, l6] st h).trans (rfl)
theorem d118_29 : decode (mB 118) 29 = .ok (.iconst (-1), 1) := by decide +kernel
theorem x118_29 {d : Nat} {L : Lc} {st : List Value} {h : Hp} : ex (d) 118 29 L st h = ex d 118 30 L (.int (-1) :: st) h := (ex_of d118_29 (d) L st h).trans (rfl)
theorem d118_30 : decode (mB 118) 30 = .ok (.if_icmp .ne 5, 3) := by decide +kernel
theorem x118_30 {d : Nat} {L : Lc} {st : List Value} {x y : Int32} {h : Hp} : ex (d) 118 30 L (.int y :: .int x :: st) h = if ¬ x = y then ex d 118 35 L st h else ex d 118 33 L st h := (ex_of d118_30 (d) L (.int y :: .int x :: st) h).trans (fin_brq (off := 5) (tgt := 35) rfl (by decide))
theorem d118_33 : decode (mB 118) 33 = .ok (.iconst 2, 1) := by decide +kernel
theorem x118_33 {d : Nat} {L : Lc} {st : List Value} {h : Hp} : ex (d) 118 33 L st h = ex d 118 34 L (.int (nI 2) :: st) h := (ex_of d118_33 (d) L st h).trans (rfl)
theorem d118_34 : decode (mB 118) 34 = .ok (.ireturn, 1) := by decide +kernel
theorem x118_34 {d : Nat} {L : Lc} {x : Int32} {h : Hp} : ex (d) 118 34 L [.int x] h = some (some (.int x), h) := (ex_of d118_34 (d) L [.int x] h).trans (rfl)
theorem d118_35 : decode (mB 118) 35 = .ok (.iload_n 3, 1) := by decide +kernel
theorem x118_35 {d : Nat} {l0 l1 l2 l4 l5 l6 : Option Value} {st : List Value} {x : Int32} {h : Hp} : ex (d) 118 35 [l0, l1, l2, some (.int x), l4, l5, l6] st h = ex d 118 36 [l0, l1, l2, some (.int x), l4, l5, l6] (.int x :: st) h := (ex_of d118_35 (d) [l0, l1, l2, some (.int x), l4, l5, l6] st h).trans (rfl)
theorem d118_36 : decode (mB 118) 36 = .ok (.invokestatic 406, 3) := by decide +kernel
theorem x118_36 {d : Nat} {L : Lc}  {v0 : Int32} {h : Hp} : ex (d + 1) 118 36 L (.int v0 :: []) h = bnd (ex d 120 0 [some (.int v0)] [] h) (fun v h' => ex (d + 1) 118 39 L (v.toList ++ []) h') := (ex_of d118_36 (d + 1) L (.int v0 :: []) h).trans (fin_st (mi := 118) i10_406 (Or.inl rfl) (by simp) (by simp [cat1_i, cat1_r]) (by simp) (Nat.le_of_ble_eq_true rfl))
theorem d118_39 : decode (mB 118) 39 = .ok (.istore 5, 2) := by decide +kernel
theorem x118_39 {d : Nat} {l0 l1 l2 l3 l4 l5 l6 : Option Value} {st : List Value} {x : Int32} {h : Hp} : ex (d) 118 39 [l0, l1, l2, l3, l4, l5, l6] (.int x :: st) h = ex d 118 41 [l0, l1, l2, l3, clr l4, some (.int x), l6] st h := (ex_of d118_39 (d) [l0, l1, l2, l3, l4, l5, l6] (.int x :: st) h).trans (rfl)
theorem d118_41 : decode (mB 118) 41 = .ok (.iload 5, 2) := by decide +kernel
theorem x118_41 {d : Nat} {l0 l1 l2 l3 l4 l6 : Option Value} {st : List Value} {x : Int32} {h : Hp} : ex (d) 118 41 [l0, l1, l2, l3, l4, some (.int x), l6] st h = ex d 118 43 [l0, l1, l2, l3, l4, some (.int x), l6] (.int x :: st) h := (ex_of d118_41 (d) [l0, l1, l2, l3, l4, some (.int x), l6] st h).trans (rfl)
theorem d118_43 : decode (mB 118) 43 = .ok (.iload 4, 2) := by decide +kernel
theorem x118_43 {d : Nat} {l0 l1 l2 l3 l5 l6 : Option Value} {st : List Value} {x : Int32} {h : Hp} : ex (d) 118 43 [l0, l1, l2, l3, some (.int x), l5, l6] st h = ex d 118 45 [l0, l1, l2, l3, some (.int x), l5, l6] (.int x :: st) h := (ex_of d118_43 (d) [l0, l1, l2, l3, some (.int x), l5, l6] st h).trans (rfl)
theorem d118_45 : decode (mB 118) 45 = .ok (.aload_n 1, 1) := by decide +kernel
theorem x118_45 {d : Nat} {l0 l2 l3 l4 l5 l6 : Option Value} {st : List Value} {a : Nat} {h : Hp} : ex (d) 118 45 [l0, some (.ref a), l2, l3, l4, l5, l6] st h = ex d 118 46 [l0, some (.ref a), l2, l3, l4, l5, l6] (.ref a :: st) h := (ex_of d118_45 (d) [l0, some (.ref a), l2, l3, l4, l5, l6] st h).trans (rfl)
theorem x118_45n {d : Nat} {l0 l2 l3 l4 l5 l6 : Option Value} {st : List Value} {h : Hp} : ex (d) 118 45 [l0, some .null, l2, l3, l4, l5, l6] st h = ex d 118 46 [l0, some .null, l2, l3, l4, l5, l6] (.null :: st) h := (ex_of d118_45 (d) [l0, some .null, l2, l3, l4, l5, l6] st h).trans (rfl)
theorem x118_45q {d : Nat} {l0 l2 l3 l4 l5 l6 : Option Value} {st : List Value} {a : Option Nat} {h : Hp} : ex (d) 118 45 [l0, some (va_rf a), l2, l3, l4, l5, l6] st h = ex d 118 46 [l0, some (va_rf a), l2, l3, l4, l5, l6] (va_rf a :: st) h := (ex_of d118_45 (d) [l0, some (va_rf a), l2, l3, l4, l5, l6] st h).trans (by cases a <;> rfl)
theorem d118_46 : decode (mB 118) 46 = .ok (.getfield 166, 3) := by decide +kernel
theorem x118_46 {d : Nat} {L : Lc} {st : List Value} {a : Nat} {h : Hp} (ht : (h.2.1 a).1 = 1) : ex (d) 118 46 L (.ref a :: st) h = ex d 118 49 L (h.1 a 7 :: st) h := (ex_of d118_46 (d) L (.ref a :: st) h).trans (fin_get (mi := 118) f10_166 (tg1 ht rfl))
theorem d118_49 : decode (mB 118) 49 = .ok (.iload_n 2, 1) := by decide +kernel
theorem x118_49 {d : Nat} {l0 l1 l3 l4 l5 l6 : Option Value} {st : List Value} {x : Int32} {h : Hp} : ex (d) 118 49 [l0, l1, some (.int x), l3, l4, l5, l6] st h = ex d 118 50 [l0, l1, some (.int x), l3, l4, l5, l6] (.int x :: st) h := (ex_of d118_49 (d) [l0, l1, some (.int x), l3, l4, l5, l6] st h).trans (rfl)
theorem d118_50 : decode (mB 118) 50 = .ok (.iaload, 1) := by decide +kernel
theorem x118_50 {d : Nat} {L : Lc} {st : List Value} {a j : Nat} {h : Hp} (ht : (h.2.1 a).1 = 20) (hj : j < (h.2.1 a).2) (hb : j < 2147483648) : ex (d) 118 50 L (.int (nI j) :: .ref a :: st) h = ex d 118 51 L (h.1 a j :: st) h := (ex_of d118_50 (d) L (.int (nI j) :: .ref a :: st) h).trans (fin_iaload (Or.inl ht) hj hb)
theorem d118_51 : decode (mB 118) 51 = .ok (.isub, 1) := by decide +kernel
theorem x118_51 {d : Nat} {L : Lc} {st : List Value} {x y : Int32} {h : Hp} : ex (d) 118 51 L (.int y :: .int x :: st) h = ex d 118 52 L (.int (x - y) :: st) h := (ex_of d118_51 (d) L (.int y :: .int x :: st) h).trans (rfl)
theorem d118_52 : decode (mB 118) 52 = .ok (.if_icmp .lt 17, 3) := by decide +kernel
theorem x118_52 {d : Nat} {L : Lc} {st : List Value} {x y : Int32} {h : Hp} : ex (d) 118 52 L (.int y :: .int x :: st) h = if x < y then ex d 118 69 L st h else ex d 118 55 L st h := (ex_of d118_52 (d) L (.int y :: .int x :: st) h).trans (fin_brq (off := 17) (tgt := 69) rfl (by decide))
theorem d118_55 : decode (mB 118) 55 = .ok (.iload 5, 2) := by decide +kernel
theorem x118_55 {d : Nat} {l0 l1 l2 l3 l4 l6 : Option Value} {st : List Value} {x : Int32} {h : Hp} : ex (d) 118 55 [l0, l1, l2, l3, l4, some (.int x), l6] st h = ex d 118 57 [l0, l1, l2, l3, l4, some (.int x), l6] (.int x :: st) h := (ex_of d118_55 (d) [l0, l1, l2, l3, l4, some (.int x), l6] st h).trans (rfl)
theorem d118_57 : decode (mB 118) 57 = .ok (.iload 4, 2) := by decide +kernel
theorem x118_57 {d : Nat} {l0 l1 l2 l3 l5 l6 : Option Value} {st : List Value} {x : Int32} {h : Hp} : ex (d) 118 57 [l0, l1, l2, l3, some (.int x), l5, l6] st h = ex d 118 59 [l0, l1, l2, l3, some (.int x), l5, l6] (.int x :: st) h := (ex_of d118_57 (d) [l0, l1, l2, l3, some (.int x), l5, l6] st h).trans (rfl)
theorem d118_59 : decode (mB 118) 59 = .ok (.aload_n 1, 1) := by decide +kernel
theorem x118_59 {d : Nat} {l0 l2 l3 l4 l5 l6 : Option Value} {st : List Value} {a : Nat} {h : Hp} : ex (d) 118 59 [l0, some (.ref a), l2, l3, l4, l5, l6] st h = ex d 118 60 [l0, some (.ref a), l2, l3, l4, l5, l6] (.ref a :: st) h := (ex_of d118_59 (d) [l0, some (.ref a), l2, l3, l4, l5, l6] st h).trans (rfl)
theorem x118_59n {d : Nat} {l0 l2 l3 l4 l5 l6 : Option Value} {st : List Value} {h : Hp} : ex (d) 118 59 [l0, some .null, l2, l3, l4, l5, l6] st h = ex d 118 60 [l0, some .null, l2, l3, l4, l5, l6] (.null :: st) h := (ex_of d118_59 (d) [l0, some .null, l2, l3, l4, l5, l6] st h).trans (rfl)
theorem x118_59q {d : Nat} {l0 l2 l3 l4 l5 l6 : Option Value} {st : List Value} {a : Option Nat} {h : Hp} : ex (d) 118 59 [l0, some (va_rf a), l2, l3, l4, l5, l6] st h = ex d 118 60 [l0, some (va_rf a), l2, l3, l4, l5, l6] (va_rf a :: st) h := (ex_of d118_59 (d) [l0, some (va_rf a), l2, l3, l4, l5, l6] st h).trans (by cases a <;> rfl)
theorem d118_60 : decode (mB 118) 60 = .ok (.getfield 169, 3) := by decide +kernel
theorem x118_60 {d : Nat} {L : Lc} {st : List Value} {a : Nat} {h : Hp} (ht : (h.2.1 a).1 = 1) : ex (d) 118 60 L (.ref a :: st) h = ex d 118 63 L (h.1 a 8 :: st) h := (ex_of d118_60 (d) L (.ref a :: st) h).trans (fin_get (mi := 118) f10_169 (tg1 ht rfl))
theorem d118_63 : decode (mB 118) 63 = .ok (.iload_n 2, 1) := by decide +kernel
theorem x118_63 {d : Nat} {l0 l1 l3 l4 l5 l6 : Option Value} {st : List Value} {x : Int32} {h : Hp} : ex (d) 118 63 [l0, l1, some (.int x), l3, l4, l5, l6] st h = ex d 118 64 [l0, l1, some (.int x), l3, l4, l5, l6] (.int x :: st) h := (ex_of d118_63 (d) [l0, l1, some (.int x), l3, l4, l5, l6] st h).trans (rfl)
theorem d118_64 : decode (mB 118) 64 = .ok (.iaload, 1) := by decide +kernel
theorem x118_64 {d : Nat} {L : Lc} {st : List Value} {a j : Nat} {h : Hp} (ht : (h.2.1 a).1 = 20) (hj : j < (h.2.1 a).2) (hb : j < 2147483648) : ex (d) 118 64 L (.int (nI j) :: .ref a :: st) h = ex d 118 65 L (h.1 a j :: st) h := (ex_of d118_64 (d) L (.int (nI j) :: .ref a :: st) h).trans (fin_iaload (Or.inl ht) hj hb)
theorem d118_65 : decode (mB 118) 65 = .ok (.iadd, 1) := by decide +kernel
theorem x118_65 {d : Nat} {L : Lc} {st : List Value} {x y : Int32} {h : Hp} : ex (d) 118 65 L (.int y :: .int x :: st) h = ex d 118 66 L (.int (x + y) :: st) h := (ex_of d118_65 (d) L (.int y :: .int x :: st) h).trans (rfl)
theorem d118_66 : decode (mB 118) 66 = .ok (.if_icmp .le 7, 3) := by decide +kernel
theorem x118_66 {d : Nat} {L : Lc} {st : List Value} {x y : Int32} {h : Hp} : ex (d) 118 66 L (.int y :: .int x :: st) h = if x ≤ y then ex d 118 73 L st h else ex d 118 69 L st h := (ex_of d118_66 (d) L (.int y :: .int x :: st) h).trans (fin_brq (off := 7) (tgt := 73) rfl (by decide))
theorem d118_69 : decode (mB 118) 69 = .ok (.iconst 1, 1) := by decide +kernel
theorem x118_69 {d : Nat} {L : Lc} {st : List Value} {h : Hp} : ex (d) 118 69 L st h = ex d 118 70 L (.int (nI 1) :: st) h := (ex_of d118_69 (d) L st h).trans (rfl)
theorem d118_70 : decode (mB 118) 70 = .ok (.goto 4, 3) := by decide +kernel
theorem x118_70 {d : Nat} {L : Lc} {st : List Value} {h : Hp} : ex (d) 118 70 L st h = ex d 118 74 L st h := (ex_of d118_70 (d) L st h).trans (rfl)
theorem d118_73 : decode (mB 118) 73 = .ok (.iconst 0, 1) := by decide +kernel
theorem x118_73 {d : Nat} {L : Lc} {st : List Value} {h : Hp} : ex (d) 118 73 L st h = ex d 118 74 L (.int (nI 0) :: st) h := (ex_of d118_73 (d) L st h).trans (rfl)
theorem d118_74 : decode (mB 118) 74 = .ok (.istore 6, 2) := by decide +kernel
theorem x118_74 {d : Nat} {l0 l1 l2 l3 l4 l5 l6 : Option Value} {st : List Value} {x : Int32} {h : Hp} : ex (d) 118 74 [l0, l1, l2, l3, l4, l5, l6] (.int x :: st) h = ex d 118 76 [l0, l1, l2, l3, l4, clr l5, some (.int x)] st h := (ex_of d118_74 (d) [l0, l1, l2, l3, l4, l5, l6] (.int x :: st) h).trans (rfl)
theorem d118_76 : decode (mB 118) 76 = .ok (.iload 6, 2) := by decide +kernel
theorem x118_76 {d : Nat} {l0 l1 l2 l3 l4 l5 : Option Value} {st : List Value} {x : Int32} {h : Hp} : ex (d) 118 76 [l0, l1, l2, l3, l4, l5, some (.int x)] st h = ex d 118 78 [l0, l1, l2, l3, l4, l5, some (.int x)] (.int x :: st) h := (ex_of d118_76 (d) [l0, l1, l2, l3, l4, l5, some (.int x)] st h).trans (rfl)
theorem d118_78 : decode (mB 118) 78 = .ok (.ifCond .eq 7, 3) := by decide +kernel
theorem x118_78 {d : Nat} {L : Lc} {st : List Value} {x : Int32} {h : Hp} : ex (d) 118 78 L (.int x :: st) h = if x = 0 then ex d 118 85 L st h else ex d 118 81 L st h := (ex_of d118_78 (d) L (.int x :: st) h).trans (fin_brq (off := 7) (tgt := 85) rfl (by decide))
theorem d118_81 : decode (mB 118) 81 = .ok (.iconst 0, 1) := by decide +kernel
theorem x118_81 {d : Nat} {L : Lc} {st : List Value} {h : Hp} : ex (d) 118 81 L st h = ex d 118 82 L (.int (nI 0) :: st) h := (ex_of d118_81 (d) L st h).trans (rfl)
theorem d118_82 : decode (mB 118) 82 = .ok (.goto 4, 3) := by decide +kernel
theorem x118_82 {d : Nat} {L : Lc} {st : List Value} {h : Hp} : ex (d) 118 82 L st h = ex d 118 86 L st h := (ex_of d118_82 (d) L st h).trans (rfl)
theorem d118_85 : decode (mB 118) 85 = .ok (.iconst 1, 1) := by decide +kernel
theorem x118_85 {d : Nat} {L : Lc} {st : List Value} {h : Hp} : ex (d) 118 85 L st h = ex d 118 86 L (.int (nI 1) :: st) h := (ex_of d118_85 (d) L st h).trans (rfl)
theorem d118_86 : decode (mB 118) 86 = .ok (.ireturn, 1) := by decide +kernel
theorem x118_86 {d : Nat} {L : Lc} {x : Int32} {h : Hp} : ex (d) 118 86 L [.int x] h = some (some (.int x), h) := (ex_of d118_86 (d) L [.int x] h).trans (rfl)
theorem d119_0 : decode (mB 119) 0 = .ok (.iload_n 0, 1) := by decide +kernel
theorem x119_0 {d : Nat} {l1 : Option Value} {st : List Value} {x : Int32} {h : Hp} : ex (d) 119 0 [some (.int x), l1] st h = ex d 119 1 [some (.int x), l1] (.int x :: st) h := (ex_of d119_0 (d) [some (.int x), l1] st h).trans (rfl)
theorem d119_1 : decode (mB 119) 1 = .ok (.ifCond .eq 7, 3) := by decide +kernel
theorem x119_1 {d : Nat} {L : Lc} {st : List Value} {x : Int32} {h : Hp} : ex (d) 119 1 L (.int x :: st) h = if x = 0 then ex d 119 8 L st h else ex d 119 4 L st h := (ex_of d119_1 (d) L (.int x :: st) h).trans (fin_brq (off := 7) (tgt := 8) rfl (by decide))
theorem d119_4 : decode (mB 119) 4 = .ok (.iload_n 1, 1) := by decide +kernel
theorem x119_4 {d : Nat} {l0 : Option Value} {st : List Value} {x : Int32} {h : Hp} : ex (d) 119 4 [l0, some (.int x)] st h = ex d 119 5 [l0, some (.int x)] (.int x :: st) h := (ex_of d119_4 (d) [l0, some (.int x)] st h).trans (rfl)
theorem d119_5 : decode (mB 119) 5 = .ok (.ifCond .ne 5, 3) := by decide +kernel
theorem x119_5 {d : Nat} {L : Lc} {st : List Value} {x : Int32} {h : Hp} : ex (d) 119 5 L (.int x :: st) h = if ¬ x = 0 then ex d 119 10 L st h else ex d 119 8 L st h := (ex_of d119_5 (d) L (.int x :: st) h).trans (fin_brq (off := 5) (tgt := 10) rfl (by decide))
theorem d119_8 : decode (mB 119) 8 = .ok (.iconst 0, 1) := by decide +kernel
theorem x119_8 {d : Nat} {L : Lc} {st : List Value} {h : Hp} : ex (d) 119 8 L st h = ex d 119 9 L (.int (nI 0) :: st) h := (ex_of d119_8 (d) L st h).trans (rfl)
theorem d119_9 : decode (mB 119) 9 = .ok (.ireturn, 1) := by decide +kernel
theorem x119_9 {d : Nat} {L : Lc} {x : Int32} {h : Hp} : ex (d) 119 9 L [.int x] h = some (some (.int x), h) := (ex_of d119_9 (d) L [.int x] h).trans (rfl)
theorem d119_10 : decode (mB 119) 10 = .ok (.iload_n 0, 1) := by decide +kernel
theorem x119_10 {d : Nat} {l1 : Option Value} {st : List Value} {x : Int32} {h : Hp} : ex (d) 119 10 [some (.int x), l1] st h = ex d 119 11 [some (.int x), l1] (.int x :: st) h := (ex_of d119_10 (d) [some (.int x), l1] st h).trans (rfl)
theorem d119_11 : decode (mB 119) 11 = .ok (.iconst 2, 1) := by decide +kernel
theorem x119_11 {d : Nat} {L : Lc} {st : List Value} {h : Hp} : ex (d) 119 11 L st h = ex d 119 12 L (.int (nI 2) :: st) h := (ex_of d119_11 (d) L st h).trans (rfl)
theorem d119_12 : decode (mB 119) 12 = .ok (.if_icmp .eq 8, 3) := by decide +kernel
theorem x119_12 {d : Nat} {L : Lc} {st : List Value} {x y : Int32} {h : Hp} : ex (d) 119 12 L (.int y :: .int x :: st) h = if x = y then ex d 119 20 L st h else ex d 119 15 L st h := (ex_of d119_12 (d) L (.int y :: .int x :: st) h).trans (fin_brq (off := 8) (tgt := 20) rfl (by decide))
theorem d119_15 : decode (mB 119) 15 = .ok (.iload_n 1, 1) := by decide +kernel
theorem x119_15 {d : Nat} {l0 : Option Value} {st : List Value} {x : Int32} {h : Hp} : ex (d) 119 15 [l0, some (.int x)] st h = ex d 119 16 [l0, some (.int x)] (.int x :: st) h := (ex_of d119_15 (d) [l0, some (.int x)] st h).trans (rfl)
theorem d119_16 : decode (mB 119) 16 = .ok (.iconst 2, 1) := by decide +kernel
theorem x119_16 {d : Nat} {L : Lc} {st : List Value} {h : Hp} : ex (d) 119 16 L st h = ex d 119 17 L (.int (nI 2) :: st) h := (ex_of d119_16 (d) L st h).trans (rfl)
theorem d119_17 : decode (mB 119) 17 = .ok (.if_icmp .ne 7, 3) := by decide +kernel
theorem x119_17 {d : Nat} {L : Lc} {st : List Value} {x y : Int32} {h : Hp} : ex (d) 119 17 L (.int y :: .int x :: st) h = if ¬ x = y then ex d 119 24 L st h else ex d 119 20 L st h := (ex_of d119_17 (d) L (.int y :: .int x :: st) h).trans (fin_brq (off := 7) (tgt := 24) rfl (by decide))
theorem d119_20 : decode (mB 119) 20 = .ok (.iconst 2, 1) := by decide +kernel
theorem x119_20 {d : Nat} {L : Lc} {st : List Value} {h : Hp} : ex (d) 119 20 L st h = ex d 119 21 L (.int (nI 2) :: st) h := (ex_of d119_20 (d) L st h).trans (rfl)
theorem d119_21 : decode (mB 119) 21 = .ok (.goto 4, 3) := by decide +kernel
theorem x119_21 {d : Nat} {L : Lc} {st : List Value} {h : Hp} : ex (d) 119 21 L st h = ex d 119 25 L st h := (ex_of d119_21 (d) L st h).trans (rfl)
theorem d119_24 : decode (mB 119) 24 = .ok (.iconst 1, 1) := by decide +kernel
theorem x119_24 {d : Nat} {L : Lc} {st : List Value} {h : Hp} : ex (d) 119 24 L st h = ex d 119 25 L (.int (nI 1) :: st) h := (ex_of d119_24 (d) L st h).trans (rfl)
theorem d119_25 : decode (mB 119) 25 = .ok (.ireturn, 1) := by decide +kernel
theorem x119_25 {d : Nat} {L : Lc} {x : Int32} {h : Hp} : ex (d) 119 25 L [.int x] h = some (some (.int x), h) := (ex_of d119_25 (d) L [.int x] h).trans (rfl)
theorem d120_0 : decode (mB 120) 0 = .ok (.iload_n 0, 1) := by decide +kernel
theorem x120_0 {d : Nat} {st : List Value} {x : Int32} {h : Hp} : ex (d) 120 0 [some (.int x)] st h = ex d 120 1 [some (.int x)] (.int x :: st) h := (ex_of d120_0 (d) [some (.int x)] st h).trans (rfl)
theorem d120_1 : decode (mB 120) 1 = .ok (.iconst 4, 1) := by decide +kernel
theorem x120_1 {d : Nat} {L : Lc} {st : List Value} {h : Hp} : ex (d) 120 1 L st h = ex d 120 2 L (.int (nI 4) :: st) h := (ex_of d120_1 (d) L st h).trans (rfl)
theorem d120_2 : decode (mB 120) 2 = .ok (.iadd, 1) := by decide +kernel
theorem x120_2 {d : Nat} {L : Lc} {st : List Value} {x y : Int32} {h : Hp} : ex (d) 120 2 L (.int y :: .int x :: st) h = ex d 120 3 L (.int (x + y) :: st) h := (ex_of d120_2 (d) L (.int y :: .int x :: st) h).trans (rfl)
theorem d120_3 : decode (mB 120) 3 = .ok (.iconst 5, 1) := by decide +kernel
theorem x120_3 {d : Nat} {L : Lc} {st : List Value} {h : Hp} : ex (d) 120 3 L st h = ex d 120 4 L (.int (nI 5) :: st) h := (ex_of d120_3 (d) L st h).trans (rfl)
theorem d120_4 : decode (mB 120) 4 = .ok (.idiv, 1) := by decide +kernel
theorem x120_4 {d : Nat} {L : Lc} {st : List Value} {x y : Int32} {h : Hp} (hy : ¬ y = 0) : ex (d) 120 4 L (.int y :: .int x :: st) h = ex d 120 5 L (.int (x / y) :: st) h := (ex_of d120_4 (d) L (.int y :: .int x :: st) h).trans (fin_div hy)
theorem d120_5 : decode (mB 120) 5 = .ok (.ireturn, 1) := by decide +kernel
theorem x120_5 {d : Nat} {L : Lc} {x : Int32} {h : Hp} : ex (d) 120 5 L [.int x] h = some (some (.int x), h) := (ex_of d120_5 (d) L [.int x] h).trans (rfl)
theorem d121_0 : decode (mB 121) 0 = .ok (.iload_n 0, 1) := by decide +kernel
theorem x121_0 {d : Nat} {l1 : Option Value} {st : List Value} {x : Int32} {h : Hp} : ex (d) 121 0 [some (.int x), l1] st h = ex d 121 1 [some (.int x), l1] (.int x :: st) h := (ex_of d121_0 (d) [some (.int x), l1] st h).trans (rfl)
theorem d121_1 : decode (mB 121) 1 = .ok (.tableswitch 100 0 2 #[27, 53, 74], 27) := by decide +kernel
theorem x121_1_0 {d : Nat} {L : Lc} {st : List Value} {h : Hp} : ex (d) 121 1 L (.int (nI 0) :: st) h = ex d 121 28 L st h := (ex_of d121_1 (d) L (.int (nI 0) :: st) h).trans (rfl)
theorem x121_1_1 {d : Nat} {L : Lc} {st : List Value} {h : Hp} : ex (d) 121 1 L (.int (nI 1) :: st) h = ex d 121 54 L st h := (ex_of d121_1 (d) L (.int (nI 1) :: st) h).trans (rfl)
theorem x121_1_2 {d : Nat} {L : Lc} {st : List Value} {h : Hp} : ex (d) 121 1 L (.int (nI 2) :: st) h = ex d 121 75 L st h := (ex_of d121_1 (d) L (.int (nI 2) :: st) h).trans (rfl)
theorem x121_1_o {d : Nat} {L : Lc} {st : List Value} {x : Int32} {h : Hp} (hx : x.toInt < 0 ∨ 2 < x.toInt) : ex (d) 121 1 L (.int x :: st) h = ex d 121 101 L st h := by
  refine (ex_of d121_1 _ _ _ _).trans ?_
  simp only [stp]
  rw [if_pos hx]
  rfl
theorem d121_28 : decode (mB 121) 28 = .ok (.iload_n 1, 1) := by decide +kernel
theorem x121_28 {d : Nat} {l0 : Option Value} {st : List Value} {x : Int32} {h : Hp} : ex (d) 121 28 [l0, some (.int x)] st h = ex d 121 29 [l0, some (.int x)] (.int x :: st) h := (ex_of d121_28 (d) [l0, some (.int x)] st h).trans (rfl)
theorem d121_29 : decode (mB 121) 29 = .ok (.iconst 1, 1) := by decide +kernel
theorem x121_29 {d : Nat} {L : Lc} {st : List Value} {h : Hp} : ex (d) 121 29 L st h = ex d 121 30 L (.int (nI 1) :: st) h := (ex_of d121_29 (d) L st h).trans (rfl)
theorem d121_30 : decode (mB 121) 30 = .ok (.if_icmp .eq 18, 3) := by decide +kernel
theorem x121_30 {d : Nat} {L : Lc} {st : List Value} {x y : Int32} {h : Hp} : ex (d) 121 30 L (.int y :: .int x :: st) h = if x = y then ex d 121 48 L st h else ex d 121 33 L st h := (ex_of d121_30 (d) L (.int y :: .int x :: st) h).trans (fin_brq (off := 18) (tgt := 48) rfl (by decide))
theorem d121_33 : decode (mB 121) 33 = .ok (.iload_n 1, 1) := by decide +kernel
theorem x121_33 {d : Nat} {l0 : Option Value} {st : List Value} {x : Int32} {h : Hp} : ex (d) 121 33 [l0, some (.int x)] st h = ex d 121 34 [l0, some (.int x)] (.int x :: st) h := (ex_of d121_33 (d) [l0, some (.int x)] st h).trans (rfl)
theorem d121_34 : decode (mB 121) 34 = .ok (.iconst 2, 1) := by decide +kernel
theorem x121_34 {d : Nat} {L : Lc} {st : List Value} {h : Hp} : ex (d) 121 34 L st h = ex d 121 35 L (.int (nI 2) :: st) h := (ex_of d121_34 (d) L st h).trans (rfl)
theorem d121_35 : decode (mB 121) 35 = .ok (.if_icmp .eq 13, 3) := by decide +kernel
theorem x121_35 {d : Nat} {L : Lc} {st : List Value} {x y : Int32} {h : Hp} : ex (d) 121 35 L (.int y :: .int x :: st) h = if x = y then ex d 121 48 L st h else ex d 121 38 L st h := (ex_of d121_35 (d) L (.int y :: .int x :: st) h).trans (fin_brq (off := 13) (tgt := 48) rfl (by decide))
theorem d121_38 : decode (mB 121) 38 = .ok (.iload_n 1, 1) := by decide +kernel
theorem x121_38 {d : Nat} {l0 : Option Value} {st : List Value} {x : Int32} {h : Hp} : ex (d) 121 38 [l0, some (.int x)] st h = ex d 121 39 [l0, some (.int x)] (.int x :: st) h := (ex_of d121_38 (d) [l0, some (.int x)] st h).trans (rfl)
theorem d121_39 : decode (mB 121) 39 = .ok (.iconst 3, 1) := by decide +kernel
theorem x121_39 {d : Nat} {L : Lc} {st : List Value} {h : Hp} : ex (d) 121 39 L st h = ex d 121 40 L (.int (nI 3) :: st) h := (ex_of d121_39 (d) L st h).trans (rfl)
theorem d121_40 : decode (mB 121) 40 = .ok (.if_icmp .eq 8, 3) := by decide +kernel
theorem x121_40 {d : Nat} {L : Lc} {st : List Value} {x y : Int32} {h : Hp} : ex (d) 121 40 L (.int y :: .int x :: st) h = if x = y then ex d 121 48 L st h else ex d 121 43 L st h := (ex_of d121_40 (d) L (.int y :: .int x :: st) h).trans (fin_brq (off := 8) (tgt := 48) rfl (by decide))
theorem d121_43 : decode (mB 121) 43 = .ok (.iload_n 1, 1) := by decide +kernel
theorem x121_43 {d : Nat} {l0 : Option Value} {st : List Value} {x : Int32} {h : Hp} : ex (d) 121 43 [l0, some (.int x)] st h = ex d 121 44 [l0, some (.int x)] (.int x :: st) h := (ex_of d121_43 (d) [l0, some (.int x)] st h).trans (rfl)
theorem d121_44 : decode (mB 121) 44 = .ok (.iconst 5, 1) := by decide +kernel
theorem x121_44 {d : Nat} {L : Lc} {st : List Value} {h : Hp} : ex (d) 121 44 L st h = ex d 121 45 L (.int (nI 5) :: st) h := (ex_of d121_44 (d) L st h).trans (rfl)
theorem d121_45 : decode (mB 121) 45 = .ok (.if_icmp .ne 7, 3) := by decide +kernel
theorem x121_45 {d : Nat} {L : Lc} {st : List Value} {x y : Int32} {h : Hp} : ex (d) 121 45 L (.int y :: .int x :: st) h = if ¬ x = y then ex d 121 52 L st h else ex d 121 48 L st h := (ex_of d121_45 (d) L (.int y :: .int x :: st) h).trans (fin_brq (off := 7) (tgt := 52) rfl (by decide))
theorem d121_48 : decode (mB 121) 48 = .ok (.iconst 1, 1) := by decide +kernel
theorem x121_48 {d : Nat} {L : Lc} {st : List Value} {h : Hp} : ex (d) 121 48 L st h = ex d 121 49 L (.int (nI 1) :: st) h := (ex_of d121_48 (d) L st h).trans (rfl)
theorem d121_49 : decode (mB 121) 49 = .ok (.goto 4, 3) := by decide +kernel
theorem x121_49 {d : Nat} {L : Lc} {st : List Value} {h : Hp} : ex (d) 121 49 L st h = ex d 121 53 L st h := (ex_of d121_49 (d) L st h).trans (rfl)
theorem d121_52 : decode (mB 121) 52 = .ok (.iconst 0, 1) := by decide +kernel
theorem x121_52 {d : Nat} {L : Lc} {st : List Value} {h : Hp} : ex (d) 121 52 L st h = ex d 121 53 L (.int (nI 0) :: st) h := (ex_of d121_52 (d) L st h).trans (rfl)
theorem d121_53 : decode (mB 121) 53 = .ok (.ireturn, 1) := by decide +kernel
theorem x121_53 {d : Nat} {L : Lc} {x : Int32} {h : Hp} (hx : x = 0 ∨ x = 1) : ex (d) 121 53 L [.int x] h = some (some (.int x), h) := (ex_of d121_53 (d) L [.int x] h).trans (fin_retb rfl hx)
theorem d121_54 : decode (mB 121) 54 = .ok (.iload_n 1, 1) := by decide +kernel
theorem x121_54 {d : Nat} {l0 : Option Value} {st : List Value} {x : Int32} {h : Hp} : ex (d) 121 54 [l0, some (.int x)] st h = ex d 121 55 [l0, some (.int x)] (.int x :: st) h := (ex_of d121_54 (d) [l0, some (.int x)] st h).trans (rfl)
theorem d121_55 : decode (mB 121) 55 = .ok (.iconst 1, 1) := by decide +kernel
theorem x121_55 {d : Nat} {L : Lc} {st : List Value} {h : Hp} : ex (d) 121 55 L st h = ex d 121 56 L (.int (nI 1) :: st) h := (ex_of d121_55 (d) L st h).trans (rfl)
theorem d121_56 : decode (mB 121) 56 = .ok (.if_icmp .eq 13, 3) := by decide +kernel
theorem x121_56 {d : Nat} {L : Lc} {st : List Value} {x y : Int32} {h : Hp} : ex (d) 121 56 L (.int y :: .int x :: st) h = if x = y then ex d 121 69 L st h else ex d 121 59 L st h := (ex_of d121_56 (d) L (.int y :: .int x :: st) h).trans (fin_brq (off := 13) (tgt := 69) rfl (by decide))
theorem d121_59 : decode (mB 121) 59 = .ok (.iload_n 1, 1) := by decide +kernel
theorem x121_59 {d : Nat} {l0 : Option Value} {st : List Value} {x : Int32} {h : Hp} : ex (d) 121 59 [l0, some (.int x)] st h = ex d 121 60 [l0, some (.int x)] (.int x :: st) h := (ex_of d121_59 (d) [l0, some (.int x)] st h).trans (rfl)
theorem d121_60 : decode (mB 121) 60 = .ok (.iconst 2, 1) := by decide +kernel
theorem x121_60 {d : Nat} {L : Lc} {st : List Value} {h : Hp} : ex (d) 121 60 L st h = ex d 121 61 L (.int (nI 2) :: st) h := (ex_of d121_60 (d) L st h).trans (rfl)
theorem d121_61 : decode (mB 121) 61 = .ok (.if_icmp .eq 8, 3) := by decide +kernel
theorem x121_61 {d : Nat} {L : Lc} {st : List Value} {x y : Int32} {h : Hp} : ex (d) 121 61 L (.int y :: .int x :: st) h = if x = y then ex d 121 69 L st h else ex d 121 64 L st h := (ex_of d121_61 (d) L (.int y :: .int x :: st) h).trans (fin_brq (off := 8) (tgt := 69) rfl (by decide))
theorem d121_64 : decode (mB 121) 64 = .ok (.iload_n 1, 1) := by decide +kernel
theorem x121_64 {d : Nat} {l0 : Option Value} {st : List Value} {x : Int32} {h : Hp} : ex (d) 121 64 [l0, some (.int x)] st h = ex d 121 65 [l0, some (.int x)] (.int x :: st) h := (ex_of d121_64 (d) [l0, some (.int x)] st h).trans (rfl)
theorem d121_65 : decode (mB 121) 65 = .ok (.iconst 4, 1) := by decide +kernel
theorem x121_65 {d : Nat} {L : Lc} {st : List Value} {h : Hp} : ex (d) 121 65 L st h = ex d 121 66 L (.int (nI 4) :: st) h := (ex_of d121_65 (d) L st h).trans (rfl)
theorem d121_66 : decode (mB 121) 66 = .ok (.if_icmp .ne 7, 3) := by decide +kernel
theorem x121_66 {d : Nat} {L : Lc} {st : List Value} {x y : Int32} {h : Hp} : ex (d) 121 66 L (.int y :: .int x :: st) h = if ¬ x = y then ex d 121 73 L st h else ex d 121 69 L st h := (ex_of d121_66 (d) L (.int y :: .int x :: st) h).trans (fin_brq (off := 7) (tgt := 73) rfl (by decide))
theorem d121_69 : decode (mB 121) 69 = .ok (.iconst 1, 1) := by decide +kernel
theorem x121_69 {d : Nat} {L : Lc} {st : List Value} {h : Hp} : ex (d) 121 69 L st h = ex d 121 70 L (.int (nI 1) :: st) h := (ex_of d121_69 (d) L st h).trans (rfl)
theorem d121_70 : decode (mB 121) 70 = .ok (.goto 4, 3) := by decide +kernel
theorem x121_70 {d : Nat} {L : Lc} {st : List Value} {h : Hp} : ex (d) 121 70 L st h = ex d 121 74 L st h := (ex_of d121_70 (d) L st h).trans (rfl)
theorem d121_73 : decode (mB 121) 73 = .ok (.iconst 0, 1) := by decide +kernel
theorem x121_73 {d : Nat} {L : Lc} {st : List Value} {h : Hp} : ex (d) 121 73 L st h = ex d 121 74 L (.int (nI 0) :: st) h := (ex_of d121_73 (d) L st h).trans (rfl)
theorem d121_74 : decode (mB 121) 74 = .ok (.ireturn, 1) := by decide +kernel
theorem x121_74 {d : Nat} {L : Lc} {x : Int32} {h : Hp} (hx : x = 0 ∨ x = 1) : ex (d) 121 74 L [.int x] h = some (some (.int x), h) := (ex_of d121_74 (d) L [.int x] h).trans (fin_retb rfl hx)
theorem d121_75 : decode (mB 121) 75 = .ok (.iload_n 1, 1) := by decide +kernel
theorem x121_75 {d : Nat} {l0 : Option Value} {st : List Value} {x : Int32} {h : Hp} : ex (d) 121 75 [l0, some (.int x)] st h = ex d 121 76 [l0, some (.int x)] (.int x :: st) h := (ex_of d121_75 (d) [l0, some (.int x)] st h).trans (rfl)
theorem d121_76 : decode (mB 121) 76 = .ok (.iconst 1, 1) := by decide +kernel
theorem x121_76 {d : Nat} {L : Lc} {st : List Value} {h : Hp} : ex (d) 121 76 L st h = ex d 121 77 L (.int (nI 1) :: st) h := (ex_of d121_76 (d) L st h).trans (rfl)
theorem d121_77 : decode (mB 121) 77 = .ok (.if_icmp .eq 18, 3) := by decide +kernel
theorem x121_77 {d : Nat} {L : Lc} {st : List Value} {x y : Int32} {h : Hp} : ex (d) 121 77 L (.int y :: .int x :: st) h = if x = y then ex d 121 95 L st h else ex d 121 80 L st h := (ex_of d121_77 (d) L (.int y :: .int x :: st) h).trans (fin_brq (off := 18) (tgt := 95) rfl (by decide))
theorem d121_80 : decode (mB 121) 80 = .ok (.iload_n 1, 1) := by decide +kernel
theorem x121_80 {d : Nat} {l0 : Option Value} {st : List Value} {x : Int32} {h : Hp} : ex (d) 121 80 [l0, some (.int x)] st h = ex d 121 81 [l0, some (.int x)] (.int x :: st) h := (ex_of d121_80 (d) [l0, some (.int x)] st h).trans (rfl)
theorem d121_81 : decode (mB 121) 81 = .ok (.iconst 2, 1) := by decide +kernel
theorem x121_81 {d : Nat} {L : Lc} {st : List Value} {h : Hp} : ex (d) 121 81 L st h = ex d 121 82 L (.int (nI 2) :: st) h := (ex_of d121_81 (d) L st h).trans (rfl)
theorem d121_82 : decode (mB 121) 82 = .ok (.if_icmp .eq 13, 3) := by decide +kernel
theorem x121_82 {d : Nat} {L : Lc} {st : List Value} {x y : Int32} {h : Hp} : ex (d) 121 82 L (.int y :: .int x :: st) h = if x = y then ex d 121 95 L st h else ex d 121 85 L st h := (ex_of d121_82 (d) L (.int y :: .int x :: st) h).trans (fin_brq (off := 13) (tgt := 95) rfl (by decide))
theorem d121_85 : decode (mB 121) 85 = .ok (.iload_n 1, 1) := by decide +kernel
theorem x121_85 {d : Nat} {l0 : Option Value} {st : List Value} {x : Int32} {h : Hp} : ex (d) 121 85 [l0, some (.int x)] st h = ex d 121 86 [l0, some (.int x)] (.int x :: st) h := (ex_of d121_85 (d) [l0, some (.int x)] st h).trans (rfl)
theorem d121_86 : decode (mB 121) 86 = .ok (.iconst 4, 1) := by decide +kernel
theorem x121_86 {d : Nat} {L : Lc} {st : List Value} {h : Hp} : ex (d) 121 86 L st h = ex d 121 87 L (.int (nI 4) :: st) h := (ex_of d121_86 (d) L st h).trans (rfl)
theorem d121_87 : decode (mB 121) 87 = .ok (.if_icmp .eq 8, 3) := by decide +kernel
theorem x121_87 {d : Nat} {L : Lc} {st : List Value} {x y : Int32} {h : Hp} : ex (d) 121 87 L (.int y :: .int x :: st) h = if x = y then ex d 121 95 L st h else ex d 121 90 L st h := (ex_of d121_87 (d) L (.int y :: .int x :: st) h).trans (fin_brq (off := 8) (tgt := 95) rfl (by decide))
theorem d121_90 : decode (mB 121) 90 = .ok (.iload_n 1, 1) := by decide +kernel
theorem x121_90 {d : Nat} {l0 : Option Value} {st : List Value} {x : Int32} {h : Hp} : ex (d) 121 90 [l0, some (.int x)] st h = ex d 121 91 [l0, some (.int x)] (.int x :: st) h := (ex_of d121_90 (d) [l0, some (.int x)] st h).trans (rfl)
theorem d121_91 : decode (mB 121) 91 = .ok (.iconst 5, 1) := by decide +kernel
theorem x121_91 {d : Nat} {L : Lc} {st : List Value} {h : Hp} : ex (d) 121 91 L st h = ex d 121 92 L (.int (nI 5) :: st) h := (ex_of d121_91 (d) L st h).trans (rfl)
theorem d121_92 : decode (mB 121) 92 = .ok (.if_icmp .ne 7, 3) := by decide +kernel
theorem x121_92 {d : Nat} {L : Lc} {st : List Value} {x y : Int32} {h : Hp} : ex (d) 121 92 L (.int y :: .int x :: st) h = if ¬ x = y then ex d 121 99 L st h else ex d 121 95 L st h := (ex_of d121_92 (d) L (.int y :: .int x :: st) h).trans (fin_brq (off := 7) (tgt := 99) rfl (by decide))
theorem d121_95 : decode (mB 121) 95 = .ok (.iconst 1, 1) := by decide +kernel
theorem x121_95 {d : Nat} {L : Lc} {st : List Value} {h : Hp} : ex (d) 121 95 L st h = ex d 121 96 L (.int (nI 1) :: st) h := (ex_of d121_95 (d) L st h).trans (rfl)
theorem d121_96 : decode (mB 121) 96 = .ok (.goto 4, 3) := by decide +kernel
theorem x121_96 {d : Nat} {L : Lc} {st : List Value} {h : Hp} : ex (d) 121 96 L st h = ex d 121 100 L st h := (ex_of d121_96 (d) L st h).trans (rfl)
theorem d121_99 : decode (mB 121) 99 = .ok (.iconst 0, 1) := by decide +kernel
theorem x121_99 {d : Nat} {L : Lc} {st : List Value} {h : Hp} : ex (d) 121 99 L st h = ex d 121 100 L (.int (nI 0) :: st) h := (ex_of d121_99 (d) L st h).trans (rfl)
theorem d121_100 : decode (mB 121) 100 = .ok (.ireturn, 1) := by decide +kernel
theorem x121_100 {d : Nat} {L : Lc} {x : Int32} {h : Hp} (hx : x = 0 ∨ x = 1) : ex (d) 121 100 L [.int x] h = some (some (.int x), h) := (ex_of d121_100 (d) L [.int x] h).trans (fin_retb rfl hx)
theorem d121_101 : decode (mB 121) 101 = .ok (.iload_n 1, 1) := by decide +kernel
theorem x121_101 {d : Nat} {l0 : Option Value} {st : List Value} {x : Int32} {h : Hp} : ex (d) 121 101 [l0, some (.int x)] st h = ex d 121 102 [l0, some (.int x)] (.int x :: st) h := (ex_of d121_101 (d) [l0, some (.int x)] st h).trans (rfl)
theorem d121_102 : decode (mB 121) 102 = .ok (.ifCond .ne 7, 3) := by decide +kernel
theorem x121_102 {d : Nat} {L : Lc} {st : List Value} {x : Int32} {h : Hp} : ex (d) 121 102 L (.int x :: st) h = if ¬ x = 0 then ex d 121 109 L st h else ex d 121 105 L st h := (ex_of d121_102 (d) L (.int x :: st) h).trans (fin_brq (off := 7) (tgt := 109) rfl (by decide))
theorem d121_105 : decode (mB 121) 105 = .ok (.iconst 1, 1) := by decide +kernel
theorem x121_105 {d : Nat} {L : Lc} {st : List Value} {h : Hp} : ex (d) 121 105 L st h = ex d 121 106 L (.int (nI 1) :: st) h := (ex_of d121_105 (d) L st h).trans (rfl)
theorem d121_106 : decode (mB 121) 106 = .ok (.goto 4, 3) := by decide +kernel
theorem x121_106 {d : Nat} {L : Lc} {st : List Value} {h : Hp} : ex (d) 121 106 L st h = ex d 121 110 L st h := (ex_of d121_106 (d) L st h).trans (rfl)
theorem d121_109 : decode (mB 121) 109 = .ok (.iconst 0, 1) := by decide +kernel
theorem x121_109 {d : Nat} {L : Lc} {st : List Value} {h : Hp} : ex (d) 121 109 L st h = ex d 121 110 L (.int (nI 0) :: st) h := (ex_of d121_109 (d) L st h).trans (rfl)
theorem d121_110 : decode (mB 121) 110 = .ok (.ireturn, 1) := by decide +kernel
theorem x121_110 {d : Nat} {L : Lc} {x : Int32} {h : Hp} (hx : x = 0 ∨ x = 1) : ex (d) 121 110 L [.int x] h = some (some (.int x), h) := (ex_of d121_110 (d) L [.int x] h).trans (fin_retb rfl hx)
theorem d122_0 : decode (mB 122) 0 = .ok (.aload_n 1, 1) := by decide +kernel
theorem x122_0 {d : Nat} {l0 l2 l3 l4 l5 : Option Value} {st : List Value} {a : Nat} {h : Hp} : ex (d) 122 0 [l0, some (.ref a), l2, l3, l4, l5] st h = ex d 122 1 [l0, some (.ref a), l2, l3, l4, l5] (.ref a :: st) h := (ex_of d122_0 (d) [l0, some (.ref a), l2, l3, l4, l5] st h).trans (rfl)
theorem x122_0n {d : Nat} {l0 l2 l3 l4 l5 : Option Value} {st : List Value} {h : Hp} : ex (d) 122 0 [l0, some .null, l2, l3, l4, l5] st h = ex d 122 1 [l0, some .null, l2, l3, l4, l5] (.null :: st) h := (ex_of d122_0 (d) [l0, some .null, l2, l3, l4, l5] st h).trans (rfl)
theorem x122_0q {d : Nat} {l0 l2 l3 l4 l5 : Option Value} {st : List Value} {a : Option Nat} {h : Hp} : ex (d) 122 0 [l0, some (va_rf a), l2, l3, l4, l5] st h = ex d 122 1 [l0, some (va_rf a), l2, l3, l4, l5] (va_rf a :: st) h := (ex_of d122_0 (d) [l0, some (va_rf a), l2, l3, l4, l5] st h).trans (by cases a <;> rfl)
theorem d122_1 : decode (mB 122) 1 = .ok (.instanceof 71, 3) := by decide +kernel
theorem x122_1 {d : Nat} {L : Lc} {st : List Value} {a : Nat} {h : Hp} (ht : casts.contains ((h.2.1 a).1, 1) = true) : ex (d) 122 1 L (.ref a :: st) h = ex d 122 4 L (.int (nI 1) :: st) h := (ex_of d122_1 (d) L (.ref a :: st) h).trans (fin_ins (mi := 122) k10_71 rfl ht)
theorem x122_1o {d : Nat} {L : Lc} {st : List Value} {a : Nat} {h : Hp} (ht : nocasts.contains ((h.2.1 a).1, 1) = true) : ex (d) 122 1 L (.ref a :: st) h = ex d 122 4 L (.int (nI 0) :: st) h := (ex_of d122_1 (d) L (.ref a :: st) h).trans (fin_inso (mi := 122) k10_71 rfl ht)
theorem x122_1n {d : Nat} {L : Lc} {st : List Value} {h : Hp} : ex (d) 122 1 L (.null :: st) h = ex d 122 4 L (.int (nI 0) :: st) h := (ex_of d122_1 (d) L (.null :: st) h).trans (fin_insn (mi := 122) k10_71)
theorem d122_4 : decode (mB 122) 4 = .ok (.ifCond .eq 14, 3) := by decide +kernel
theorem x122_4 {d : Nat} {L : Lc} {st : List Value} {x : Int32} {h : Hp} : ex (d) 122 4 L (.int x :: st) h = if x = 0 then ex d 122 18 L st h else ex d 122 7 L st h := (ex_of d122_4 (d) L (.int x :: st) h).trans (fin_brq (off := 14) (tgt := 18) rfl (by decide))
theorem d122_7 : decode (mB 122) 7 = .ok (.aload_n 1, 1) := by decide +kernel
theorem x122_7 {d : Nat} {l0 l2 l3 l4 l5 : Option Value} {st : List Value} {a : Nat} {h : Hp} : ex (d) 122 7 [l0, some (.ref a), l2, l3, l4, l5] st h = ex d 122 8 [l0, some (.ref a), l2, l3, l4, l5] (.ref a :: st) h := (ex_of d122_7 (d) [l0, some (.ref a), l2, l3, l4, l5] st h).trans (rfl)
theorem x122_7n {d : Nat} {l0 l2 l3 l4 l5 : Option Value} {st : List Value} {h : Hp} : ex (d) 122 7 [l0, some .null, l2, l3, l4, l5] st h = ex d 122 8 [l0, some .null, l2, l3, l4, l5] (.null :: st) h := (ex_of d122_7 (d) [l0, some .null, l2, l3, l4, l5] st h).trans (rfl)
theorem x122_7q {d : Nat} {l0 l2 l3 l4 l5 : Option Value} {st : List Value} {a : Option Nat} {h : Hp} : ex (d) 122 7 [l0, some (va_rf a), l2, l3, l4, l5] st h = ex d 122 8 [l0, some (va_rf a), l2, l3, l4, l5] (va_rf a :: st) h := (ex_of d122_7 (d) [l0, some (va_rf a), l2, l3, l4, l5] st h).trans (by cases a <;> rfl)
theorem d122_8 : decode (mB 122) 8 = .ok (.checkcast 71, 3) := by decide +kernel
theorem x122_8 {d : Nat} {L : Lc} {st : List Value} {a : Nat} {h : Hp} (ht : casts.contains ((h.2.1 a).1, 1) = true) : ex (d) 122 8 L (.ref a :: st) h = ex d 122 11 L (.ref a :: st) h := (ex_of d122_8 (d) L (.ref a :: st) h).trans (fin_ckc (mi := 122) k10_71 rfl ht)
theorem d122_11 : decode (mB 122) 11 = .ok (.astore_n 2, 1) := by decide +kernel
theorem x122_11 {d : Nat} {l0 l1 l2 l3 l4 l5 : Option Value} {st : List Value} {a : Nat} {h : Hp} : ex (d) 122 11 [l0, l1, l2, l3, l4, l5] (.ref a :: st) h = ex d 122 12 [l0, clr l1, some (.ref a), l3, l4, l5] st h := (ex_of d122_11 (d) [l0, l1, l2, l3, l4, l5] (.ref a :: st) h).trans (rfl)
theorem x122_11n {d : Nat} {l0 l1 l2 l3 l4 l5 : Option Value} {st : List Value} {h : Hp} : ex (d) 122 11 [l0, l1, l2, l3, l4, l5] (.null :: st) h = ex d 122 12 [l0, clr l1, some .null, l3, l4, l5] st h := (ex_of d122_11 (d) [l0, l1, l2, l3, l4, l5] (.null :: st) h).trans (rfl)
theorem x122_11q {d : Nat} {l0 l1 l2 l3 l4 l5 : Option Value} {st : List Value} {a : Option Nat} {h : Hp} : ex (d) 122 11 [l0, l1, l2, l3, l4, l5] (va_rf a :: st) h = ex d 122 12 [l0, clr l1, some (va_rf a), l3, l4, l5] st h := (ex_of d122_11 (d) [l0, l1, l2, l3, l4, l5] (va_rf a :: st) h).trans (by cases a <;> rfl)
theorem d122_12 : decode (mB 122) 12 = .ok (.aload_n 0, 1) := by decide +kernel
theorem x122_12 {d : Nat} {l1 l2 l3 l4 l5 : Option Value} {st : List Value} {a : Nat} {h : Hp} : ex (d) 122 12 [some (.ref a), l1, l2, l3, l4, l5] st h = ex d 122 13 [some (.ref a), l1, l2, l3, l4, l5] (.ref a :: st) h := (ex_of d122_12 (d) [some (.ref a), l1, l2, l3, l4, l5] st h).trans (rfl)
theorem x122_12n {d : Nat} {l1 l2 l3 l4 l5 : Option Value} {st : List Value} {h : Hp} : ex (d) 122 12 [some .null, l1, l2, l3, l4, l5] st h = ex d 122 13 [some .null, l1, l2, l3, l4, l5] (.null :: st) h := (ex_of d122_12 (d) [some .null, l1, l2, l3, l4, l5] st h).trans (rfl)
theorem x122_12q {d : Nat} {l1 l2 l3 l4 l5 : Option Value} {st : List Value} {a : Option Nat} {h : Hp} : ex (d) 122 12 [some (va_rf a), l1, l2, l3, l4, l5] st h = ex d 122 13 [some (va_rf a), l1, l2, l3, l4, l5] (va_rf a :: st) h := (ex_of d122_12 (d) [some (va_rf a), l1, l2, l3, l4, l5] st h).trans (by cases a <;> rfl)
theorem d122_13 : decode (mB 122) 13 = .ok (.aload_n 2, 1) := by decide +kernel
theorem x122_13 {d : Nat} {l0 l1 l3 l4 l5 : Option Value} {st : List Value} {a : Nat} {h : Hp} : ex (d) 122 13 [l0, l1, some (.ref a), l3, l4, l5] st h = ex d 122 14 [l0, l1, some (.ref a), l3, l4, l5] (.ref a :: st) h := (ex_of d122_13 (d) [l0, l1, some (.ref a), l3, l4, l5] st h).trans (rfl)
theorem x122_13n {d : Nat} {l0 l1 l3 l4 l5 : Option Value} {st : List Value} {h : Hp} : ex (d) 122 13 [l0, l1, some .null, l3, l4, l5] st h = ex d 122 14 [l0, l1, some .null, l3, l4, l5] (.null :: st) h := (ex_of d122_13 (d) [l0, l1, some .null, l3, l4, l5] st h).trans (rfl)
theorem x122_13q {d : Nat} {l0 l1 l3 l4 l5 : Option Value} {st : List Value} {a : Option Nat} {h : Hp} : ex (d) 122 13 [l0, l1, some (va_rf a), l3, l4, l5] st h = ex d 122 14 [l0, l1, some (va_rf a), l3, l4, l5] (va_rf a :: st) h := (ex_of d122_13 (d) [l0, l1, some (va_rf a), l3, l4, l5] st h).trans (by cases a <;> rfl)
theorem d122_14 : decode (mB 122) 14 = .ok (.invokestatic 409, 3) := by decide +kernel
theorem x122_14 {d : Nat} {L : Lc}  {v0 : Value} {v1 : Value} {h : Hp} (hv0 : isR v0 = true) (hv1 : isR v1 = true) : ex (d + 1) 122 14 L (v1 :: v0 :: []) h = bnd (ex d 123 0 [some v0, some v1, none, none] [] h) (fun v h' => ex (d + 1) 122 17 L (v.toList ++ []) h') := (ex_of d122_14 (d + 1) L (v1 :: v0 :: []) h).trans (fin_st (mi := 122) i10_409 (Or.inl rfl) (by simp) (by simp [cat1_i, cat1_r, isR_cat1 hv0, isR_cat1 hv1]) (by simp) (Nat.le_of_ble_eq_true rfl))
theorem d122_17 : decode (mB 122) 17 = .ok (.ireturn, 1) := by decide +kernel
theorem x122_17 {d : Nat} {L : Lc} {x : Int32} {h : Hp} : ex (d) 122 17 L [.int x] h = some (some (.int x), h) := (ex_of d122_17 (d) L [.int x] h).trans (rfl)
theorem d122_18 : decode (mB 122) 18 = .ok (.iconst 0, 1) := by decide +kernel
theorem x122_18 {d : Nat} {L : Lc} {st : List Value} {h : Hp} : ex (d) 122 18 L st h = ex d 122 19 L (.int (nI 0) :: st) h := (ex_of d122_18 (d) L st h).trans (rfl)
theorem d122_19 : decode (mB 122) 19 = .ok (.istore_n 2, 1) := by decide +kernel
theorem x122_19 {d : Nat} {l0 l1 l2 l3 l4 l5 : Option Value} {st : List Value} {x : Int32} {h : Hp} : ex (d) 122 19 [l0, l1, l2, l3, l4, l5] (.int x :: st) h = ex d 122 20 [l0, clr l1, some (.int x), l3, l4, l5] st h := (ex_of d122_19 (d) [l0, l1, l2, l3, l4, l5] (.int x :: st) h).trans (rfl)
theorem d122_20 : decode (mB 122) 20 = .ok (.aload_n 1, 1) := by decide +kernel
theorem x122_20 {d : Nat} {l0 l2 l3 l4 l5 : Option Value} {st : List Value} {a : Nat} {h : Hp} : ex (d) 122 20 [l0, some (.ref a), l2, l3, l4, l5] st h = ex d 122 21 [l0, some (.ref a), l2, l3, l4, l5] (.ref a :: st) h := (ex_of d122_20 (d) [l0, some (.ref a), l2, l3, l4, l5] st h).trans (rfl)
theorem x122_20n {d : Nat} {l0 l2 l3 l4 l5 : Option Value} {st : List Value} {h : Hp} : ex (d) 122 20 [l0, some .null, l2, l3, l4, l5] st h = ex d 122 21 [l0, some .null, l2, l3, l4, l5] (.null :: st) h := (ex_of d122_20 (d) [l0, some .null, l2, l3, l4, l5] st h).trans (rfl)
theorem x122_20q {d : Nat} {l0 l2 l3 l4 l5 : Option Value} {st : List Value} {a : Option Nat} {h : Hp} : ex (d) 122 20 [l0, some (va_rf a), l2, l3, l4, l5] st h = ex d 122 21 [l0, some (va_rf a), l2, l3, l4, l5] (va_rf a :: st) h := (ex_of d122_20 (d) [l0, some (va_rf a), l2, l3, l4, l5] st h).trans (by cases a <;> rfl)
theorem d122_21 : decode (mB 122) 21 = .ok (.getfield 320, 3) := by decide +kernel
theorem x122_21 {d : Nat} {L : Lc} {st : List Value} {a : Nat} {h : Hp} (ht : isTh (h.2.1 a).1 = true) : ex (d) 122 21 L (.ref a :: st) h = ex d 122 24 L (h.1 a 5 :: st) h := (ex_of d122_21 (d) L (.ref a :: st) h).trans (fin_get (mi := 122) f10_320 ht)
theorem d122_24 : decode (mB 122) 24 = .ok (.ifnull 58, 3) := by decide +kernel
theorem x122_24n {d : Nat} {L : Lc} {st : List Value} {h : Hp} : ex (d) 122 24 L (.null :: st) h = ex d 122 82 L st h := (ex_of d122_24 (d) L (.null :: st) h).trans (rfl)
theorem x122_24 {d : Nat} {L : Lc} {st : List Value} {a : Nat} {h : Hp} : ex (d) 122 24 L (.ref a :: st) h = ex d 122 27 L st h := (ex_of d122_24 (d) L (.ref a :: st) h).trans (rfl)
theorem d122_27 : decode (mB 122) 27 = .ok (.iconst 0, 1) := by decide +kernel
theorem x122_27 {d : Nat} {L : Lc} {st : List Value} {h : Hp} : ex (d) 122 27 L st h = ex d 122 28 L (.int (nI 0) :: st) h := (ex_of d122_27 (d) L st h).trans (rfl)
theorem d122_28 : decode (mB 122) 28 = .ok (.istore_n 3, 1) := by decide +kernel
theorem x122_28 {d : Nat} {l0 l1 l2 l3 l4 l5 : Option Value} {st : List Value} {x : Int32} {h : Hp} : ex (d) 122 28 [l0, l1, l2, l3, l4, l5] (.int x :: st) h = ex d 122 29 [l0, l1, clr l2, some (.int x), l4, l5] st h := (ex_of d122_28 (d) [l0, l1, l2, l3, l4, l5] (.int x :: st) h).trans (rfl)
theorem d122_29 : decode (mB 122) 29 = .ok (.iload_n 3, 1) := by decide +kernel
theorem x122_29 {d : Nat} {l0 l1 l2 l4 l5 : Option Value} {st : List Value} {x : Int32} {h : Hp} : ex (d) 122 29 [l0, l1, l2, some (.int x), l4, l5] st h = ex d 122 30 [l0, l1, l2, some (.int x), l4, l5] (.int x :: st) h := (ex_of d122_29 (d) [l0, l1, l2, some (.int x), l4, l5] st h).trans (rfl)
theorem d122_30 : decode (mB 122) 30 = .ok (.aload_n 1, 1) := by decide +kernel
theorem x122_30 {d : Nat} {l0 l2 l3 l4 l5 : Option Value} {st : List Value} {a : Nat} {h : Hp} : ex (d) 122 30 [l0, some (.ref a), l2, l3, l4, l5] st h = ex d 122 31 [l0, some (.ref a), l2, l3, l4, l5] (.ref a :: st) h := (ex_of d122_30 (d) [l0, some (.ref a), l2, l3, l4, l5] st h).trans (rfl)
theorem x122_30n {d : Nat} {l0 l2 l3 l4 l5 : Option Value} {st : List Value} {h : Hp} : ex (d) 122 30 [l0, some .null, l2, l3, l4, l5] st h = ex d 122 31 [l0, some .null, l2, l3, l4, l5] (.null :: st) h := (ex_of d122_30 (d) [l0, some .null, l2, l3, l4, l5] st h).trans (rfl)
theorem x122_30q {d : Nat} {l0 l2 l3 l4 l5 : Option Value} {st : List Value} {a : Option Nat} {h : Hp} : ex (d) 122 30 [l0, some (va_rf a), l2, l3, l4, l5] st h = ex d 122 31 [l0, some (va_rf a), l2, l3, l4, l5] (va_rf a :: st) h := (ex_of d122_30 (d) [l0, some (va_rf a), l2, l3, l4, l5] st h).trans (by cases a <;> rfl)
theorem d122_31 : decode (mB 122) 31 = .ok (.getfield 320, 3) := by decide +kernel
theorem x122_31 {d : Nat} {L : Lc} {st : List Value} {a : Nat} {h : Hp} (ht : isTh (h.2.1 a).1 = true) : ex (d) 122 31 L (.ref a :: st) h = ex d 122 34 L (h.1 a 5 :: st) h := (ex_of d122_31 (d) L (.ref a :: st) h).trans (fin_get (mi := 122) f10_320 ht)
theorem d122_34 : decode (mB 122) 34 = .ok (.getfield 351, 3) := by decide +kernel
theorem x122_34 {d : Nat} {L : Lc} {st : List Value} {a : Nat} {h : Hp} (ht : (h.2.1 a).1 = 3) : ex (d) 122 34 L (.ref a :: st) h = ex d 122 37 L (h.1 a 2 :: st) h := (ex_of d122_34 (d) L (.ref a :: st) h).trans (fin_get (mi := 122) f10_351 (tg1 ht rfl))
theorem d122_37 : decode (mB 122) 37 = .ok (.arraylength, 1) := by decide +kernel
theorem x122_37 {d : Nat} {L : Lc} {st : List Value} {a : Nat} {h : Hp} (ht : 20 ≤ (h.2.1 a).1 ∧ (h.2.1 a).1 ≤ 30) : ex (d) 122 37 L (.ref a :: st) h = ex d 122 38 L (.int (nI (h.2.1 a).2) :: st) h := (ex_of d122_37 (d) L (.ref a :: st) h).trans (fin_alen ht)
theorem d122_38 : decode (mB 122) 38 = .ok (.if_icmp .ge 44, 3) := by decide +kernel
theorem x122_38 {d : Nat} {L : Lc} {st : List Value} {x y : Int32} {h : Hp} : ex (d) 122 38 L (.int y :: .int x :: st) h = if y ≤ x then ex d 122 82 L st h else ex d 122 41 L st h := (ex_of d122_38 (d) L (.int y :: .int x :: st) h).trans (fin_brq (off := 44) (tgt := 82) rfl (by decide))
theorem d122_41 : decode (mB 122) 41 = .ok (.aload_n 1, 1) := by decide +kernel
theorem x122_41 {d : Nat} {l0 l2 l3 l4 l5 : Option Value} {st : List Value} {a : Nat} {h : Hp} : ex (d) 122 41 [l0, some (.ref a), l2, l3, l4, l5] st h = ex d 122 42 [l0, some (.ref a), l2, l3, l4, l5] (.ref a :: st) h := (ex_of d122_41 (d) [l0, some (.ref a), l2, l3, l4, l5] st h).trans (rfl)
theorem x122_41n {d : Nat} {l0 l2 l3 l4 l5 : Option Value} {st : List Value} {h : Hp} : ex (d) 122 41 [l0, some .null, l2, l3, l4, l5] st h = ex d 122 42 [l0, some .null, l2, l3, l4, l5] (.null :: st) h := (ex_of d122_41 (d) [l0, some .null, l2, l3, l4, l5] st h).trans (rfl)
theorem x122_41q {d : Nat} {l0 l2 l3 l4 l5 : Option Value} {st : List Value} {a : Option Nat} {h : Hp} : ex (d) 122 41 [l0, some (va_rf a), l2, l3, l4, l5] st h = ex d 122 42 [l0, some (va_rf a), l2, l3, l4, l5] (va_rf a :: st) h := (ex_of d122_41 (d) [l0, some (va_rf a), l2, l3, l4, l5] st h).trans (by cases a <;> rfl)
theorem d122_42 : decode (mB 122) 42 = .ok (.getfield 320, 3) := by decide +kernel
theorem x122_42 {d : Nat} {L : Lc} {st : List Value} {a : Nat} {h : Hp} (ht : isTh (h.2.1 a).1 = true) : ex (d) 122 42 L (.ref a :: st) h = ex d 122 45 L (h.1 a 5 :: st) h := (ex_of d122_42 (d) L (.ref a :: st) h).trans (fin_get (mi := 122) f10_320 ht)
theorem d122_45 : decode (mB 122) 45 = .ok (.getfield 351, 3) := by decide +kernel
theorem x122_45 {d : Nat} {L : Lc} {st : List Value} {a : Nat} {h : Hp} (ht : (h.2.1 a).1 = 3) : ex (d) 122 45 L (.ref a :: st) h = ex d 122 48 L (h.1 a 2 :: st) h := (ex_of d122_45 (d) L (.ref a :: st) h).trans (fin_get (mi := 122) f10_351 (tg1 ht rfl))
theorem d122_48 : decode (mB 122) 48 = .ok (.iload_n 3, 1) := by decide +kernel
theorem x122_48 {d : Nat} {l0 l1 l2 l4 l5 : Option Value} {st : List Value} {x : Int32} {h : Hp} : ex (d) 122 48 [l0, l1, l2, some (.int x), l4, l5] st h = ex d 122 49 [l0, l1, l2, some (.int x), l4, l5] (.int x :: st) h := (ex_of d122_48 (d) [l0, l1, l2, some (.int x), l4, l5] st h).trans (rfl)
theorem d122_49 : decode (mB 122) 49 = .ok (.aaload, 1) := by decide +kernel
theorem x122_49 {d : Nat} {L : Lc} {st : List Value} {a j : Nat} {h : Hp} (ht : 21 ≤ (h.2.1 a).1 ∧ (h.2.1 a).1 ≤ 26) (hj : j < (h.2.1 a).2) (hb : j < 2147483648) : ex (d) 122 49 L (.int (nI j) :: .ref a :: st) h = ex d 122 50 L (h.1 a j :: st) h := (ex_of d122_49 (d) L (.int (nI j) :: .ref a :: st) h).trans (fin_aaload ht hj hb)
theorem d122_50 : decode (mB 122) 50 = .ok (.astore 5, 2) := by decide +kernel
theorem x122_50 {d : Nat} {l0 l1 l2 l3 l4 l5 : Option Value} {st : List Value} {a : Nat} {h : Hp} : ex (d) 122 50 [l0, l1, l2, l3, l4, l5] (.ref a :: st) h = ex d 122 52 [l0, l1, l2, l3, clr l4, some (.ref a)] st h := (ex_of d122_50 (d) [l0, l1, l2, l3, l4, l5] (.ref a :: st) h).trans (rfl)
theorem x122_50n {d : Nat} {l0 l1 l2 l3 l4 l5 : Option Value} {st : List Value} {h : Hp} : ex (d) 122 50 [l0, l1, l2, l3, l4, l5] (.null :: st) h = ex d 122 52 [l0, l1, l2, l3, clr l4, some .null] st h := (ex_of d122_50 (d) [l0, l1, l2, l3, l4, l5] (.null :: st) h).trans (rfl)
theorem x122_50q {d : Nat} {l0 l1 l2 l3 l4 l5 : Option Value} {st : List Value} {a : Option Nat} {h : Hp} : ex (d) 122 50 [l0, l1, l2, l3, l4, l5] (va_rf a :: st) h = ex d 122 52 [l0, l1, l2, l3, clr l4, some (va_rf a)] st h := (ex_of d122_50 (d) [l0, l1, l2, l3, l4, l5] (va_rf a :: st) h).trans (by cases a <;> rfl)
theorem d122_52 : decode (mB 122) 52 = .ok (.aload 5, 2) := by decide +kernel
theorem x122_52 {d : Nat} {l0 l1 l2 l3 l4 : Option Value} {st : List Value} {a : Nat} {h : Hp} : ex (d) 122 52 [l0, l1, l2, l3, l4, some (.ref a)] st h = ex d 122 54 [l0, l1, l2, l3, l4, some (.ref a)] (.ref a :: st) h := (ex_of d122_52 (d) [l0, l1, l2, l3, l4, some (.ref a)] st h).trans (rfl)
theorem x122_52n {d : Nat} {l0 l1 l2 l3 l4 : Option Value} {st : List Value} {h : Hp} : ex (d) 122 52 [l0, l1, l2, l3, l4, some .null] st h = ex d 122 54 [l0, l1, l2, l3, l4, some .null] (.null :: st) h := (ex_of d122_52 (d) [l0, l1, l2, l3, l4, some .null] st h).trans (rfl)
theorem x122_52q {d : Nat} {l0 l1 l2 l3 l4 : Option Value} {st : List Value} {a : Option Nat} {h : Hp} : ex (d) 122 52 [l0, l1, l2, l3, l4, some (va_rf a)] st h = ex d 122 54 [l0, l1, l2, l3, l4, some (va_rf a)] (va_rf a :: st) h := (ex_of d122_52 (d) [l0, l1, l2, l3, l4, some (va_rf a)] st h).trans (by cases a <;> rfl)
theorem d122_54 : decode (mB 122) 54 = .ok (.instanceof 71, 3) := by decide +kernel
theorem x122_54 {d : Nat} {L : Lc} {st : List Value} {a : Nat} {h : Hp} (ht : casts.contains ((h.2.1 a).1, 1) = true) : ex (d) 122 54 L (.ref a :: st) h = ex d 122 57 L (.int (nI 1) :: st) h := (ex_of d122_54 (d) L (.ref a :: st) h).trans (fin_ins (mi := 122) k10_71 rfl ht)
theorem x122_54o {d : Nat} {L : Lc} {st : List Value} {a : Nat} {h : Hp} (ht : nocasts.contains ((h.2.1 a).1, 1) = true) : ex (d) 122 54 L (.ref a :: st) h = ex d 122 57 L (.int (nI 0) :: st) h := (ex_of d122_54 (d) L (.ref a :: st) h).trans (fin_inso (mi := 122) k10_71 rfl ht)
theorem x122_54n {d : Nat} {L : Lc} {st : List Value} {h : Hp} : ex (d) 122 54 L (.null :: st) h = ex d 122 57 L (.int (nI 0) :: st) h := (ex_of d122_54 (d) L (.null :: st) h).trans (fin_insn (mi := 122) k10_71)
theorem d122_57 : decode (mB 122) 57 = .ok (.ifCond .eq 19, 3) := by decide +kernel
theorem x122_57 {d : Nat} {L : Lc} {st : List Value} {x : Int32} {h : Hp} : ex (d) 122 57 L (.int x :: st) h = if x = 0 then ex d 122 76 L st h else ex d 122 60 L st h := (ex_of d122_57 (d) L (.int x :: st) h).trans (fin_brq (off := 19) (tgt := 76) rfl (by decide))
theorem d122_60 : decode (mB 122) 60 = .ok (.aload 5, 2) := by decide +kernel
theorem x122_60 {d : Nat} {l0 l1 l2 l3 l4 : Option Value} {st : List Value} {a : Nat} {h : Hp} : ex (d) 122 60 [l0, l1, l2, l3, l4, some (.ref a)] st h = ex d 122 62 [l0, l1, l2, l3, l4, some (.ref a)] (.ref a :: st) h := (ex_of d122_60 (d) [l0, l1, l2, l3, l4, some (.ref a)] st h).trans (rfl)
theorem x122_60n {d : Nat} {l0 l1 l2 l3 l4 : Option Value} {st : List Value} {h : Hp} : ex (d) 122 60 [l0, l1, l2, l3, l4, some .null] st h = ex d 122 62 [l0, l1, l2, l3, l4, some .null] (.null :: st) h := (ex_of d122_60 (d) [l0, l1, l2, l3, l4, some .null] st h).trans (rfl)
theorem x122_60q {d : Nat} {l0 l1 l2 l3 l4 : Option Value} {st : List Value} {a : Option Nat} {h : Hp} : ex (d) 122 60 [l0, l1, l2, l3, l4, some (va_rf a)] st h = ex d 122 62 [l0, l1, l2, l3, l4, some (va_rf a)] (va_rf a :: st) h := (ex_of d122_60 (d) [l0, l1, l2, l3, l4, some (va_rf a)] st h).trans (by cases a <;> rfl)
theorem d122_62 : decode (mB 122) 62 = .ok (.checkcast 71, 3) := by decide +kernel
theorem x122_62 {d : Nat} {L : Lc} {st : List Value} {a : Nat} {h : Hp} (ht : casts.contains ((h.2.1 a).1, 1) = true) : ex (d) 122 62 L (.ref a :: st) h = ex d 122 65 L (.ref a :: st) h := (ex_of d122_62 (d) L (.ref a :: st) h).trans (fin_ckc (mi := 122) k10_71 rfl ht)
theorem d122_65 : decode (mB 122) 65 = .ok (.astore 4, 2) := by decide +kernel
theorem x122_65 {d : Nat} {l0 l1 l2 l3 l4 l5 : Option Value} {st : List Value} {a : Nat} {h : Hp} : ex (d) 122 65 [l0, l1, l2, l3, l4, l5] (.ref a :: st) h = ex d 122 67 [l0, l1, l2, clr l3, some (.ref a), l5] st h := (ex_of d122_65 (d) [l0, l1, l2, l3, l4, l5] (.ref a :: st) h).trans (rfl)
theorem x122_65n {d : Nat} {l0 l1 l2 l3 l4 l5 : Option Value} {st : List Value} {h : Hp} : ex (d) 122 65 [l0, l1, l2, l3, l4, l5] (.null :: st) h = ex d 122 67 [l0, l1, l2, clr l3, some .null, l5] st h := (ex_of d122_65 (d) [l0, l1, l2, l3, l4, l5] (.null :: st) h).trans (rfl)
theorem x122_65q {d : Nat} {l0 l1 l2 l3 l4 l5 : Option Value} {st : List Value} {a : Option Nat} {h : Hp} : ex (d) 122 65 [l0, l1, l2, l3, l4, l5] (va_rf a :: st) h = ex d 122 67 [l0, l1, l2, clr l3, some (va_rf a), l5] st h := (ex_of d122_65 (d) [l0, l1, l2, l3, l4, l5] (va_rf a :: st) h).trans (by cases a <;> rfl)
theorem d122_67 : decode (mB 122) 67 = .ok (.iload_n 2, 1) := by decide +kernel
theorem x122_67 {d : Nat} {l0 l1 l3 l4 l5 : Option Value} {st : List Value} {x : Int32} {h : Hp} : ex (d) 122 67 [l0, l1, some (.int x), l3, l4, l5] st h = ex d 122 68 [l0, l1, some (.int x), l3, l4, l5] (.int x :: st) h := (ex_of d122_67 (d) [l0, l1, some (.int x), l3, l4, l5] st h).trans (rfl)
theorem d122_68 : decode (mB 122) 68 = .ok (.aload_n 0, 1) := by decide +kernel
theorem x122_68 {d : Nat} {l1 l2 l3 l4 l5 : Option Value} {st : List Value} {a : Nat} {h : Hp} : ex (d) 122 68 [some (.ref a), l1, l2, l3, l4, l5] st h = ex d 122 69 [some (.ref a), l1, l2, l3, l4, l5] (.ref a :: st) h := (ex_of d122_68 (d) [some (.ref a), l1, l2, l3, l4, l5] st h).trans (rfl)
theorem x122_68n {d : Nat} {l1 l2 l3 l4 l5 : Option Value} {st : List Value} {h : Hp} : ex (d) 122 68 [some .null, l1, l2, l3, l4, l5] st h = ex d 122 69 [some .null, l1, l2, l3, l4, l5] (.null :: st) h := (ex_of d122_68 (d) [some .null, l1, l2, l3, l4, l5] st h).trans (rfl)
theorem x122_68q {d : Nat} {l1 l2 l3 l4 l5 : Option Value} {st : List Value} {a : Option Nat} {h : Hp} : ex (d) 122 68 [some (va_rf a), l1, l2, l3, l4, l5] st h = ex d 122 69 [some (va_rf a), l1, l2, l3, l4, l5] (va_rf a :: st) h := (ex_of d122_68 (d) [some (va_rf a), l1, l2, l3, l4, l5] st h).trans (by cases a <;> rfl)
theorem d122_69 : decode (mB 122) 69 = .ok (.aload 4, 2) := by decide +kernel
theorem x122_69 {d : Nat} {l0 l1 l2 l3 l5 : Option Value} {st : List Value} {a : Nat} {h : Hp} : ex (d) 122 69 [l0, l1, l2, l3, some (.ref a), l5] st h = ex d 122 71 [l0, l1, l2, l3, some (.ref a), l5] (.ref a :: st) h := (ex_of d122_69 (d) [l0, l1, l2, l3, some (.ref a), l5] st h).trans (rfl)
theorem x122_69n {d : Nat} {l0 l1 l2 l3 l5 : Option Value} {st : List Value} {h : Hp} : ex (d) 122 69 [l0, l1, l2, l3, some .null, l5] st h = ex d 122 71 [l0, l1, l2, l3, some .null, l5] (.null :: st) h := (ex_of d122_69 (d) [l0, l1, l2, l3, some .null, l5] st h).trans (rfl)
theorem x122_69q {d : Nat} {l0 l1 l2 l3 l5 : Option Value} {st : List Value} {a : Option Nat} {h : Hp} : ex (d) 122 69 [l0, l1, l2, l3, some (va_rf a), l5] st h = ex d 122 71 [l0, l1, l2, l3, some (va_rf a), l5] (va_rf a :: st) h := (ex_of d122_69 (d) [l0, l1, l2, l3, some (va_rf a), l5] st h).trans (by cases a <;> rfl)
theorem d122_71 : decode (mB 122) 71 = .ok (.invokestatic 409, 3) := by decide +kernel
theorem x122_71 {d : Nat} {L : Lc} {s0 : Value}  {v0 : Value} {v1 : Value} {h : Hp} (hv0 : isR v0 = true) (hv1 : isR v1 = true) : ex (d + 1) 122 71 L (v1 :: v0 :: [s0]) h = bnd (ex d 123 0 [some v0, some v1, none, none] [] h) (fun v h' => ex (d + 1) 122 74 L (v.toList ++ [s0]) h') := (ex_of d122_71 (d + 1) L (v1 :: v0 :: [s0]) h).trans (fin_st (mi := 122) i10_409 (Or.inl rfl) (by simp) (by simp [cat1_i, cat1_r, isR_cat1 hv0, isR_cat1 hv1]) (by simp) (Nat.le_of_ble_eq_true rfl))
theorem d122_74 : decode (mB 122) 74 = .ok (.iadd, 1) := by decide +kernel
theorem x122_74 {d : Nat} {L : Lc} {st : List Value} {x y : Int32} {h : Hp} : ex (d) 122 74 L (.int y :: .int x :: st) h = ex d 122 75 L (.int (x + y) :: st) h := (ex_of d122_74 (d) L (.int y :: .int x :: st) h).trans (rfl)
theorem d122_75 : decode (mB 122) 75 = .ok (.istore_n 2, 1) := by decide +kernel
theorem x122_75 {d : Nat} {l0 l1 l2 l3 l4 l5 : Option Value} {st : List Value} {x : Int32} {h : Hp} : ex (d) 122 75 [l0, l1, l2, l3, l4, l5] (.int x :: st) h = ex d 122 76 [l0, clr l1, some (.int x), l3, l4, l5] st h := (ex_of d122_75 (d) [l0, l1, l2, l3, l4, l5] (.int x :: st) h).trans (rfl)
theorem d122_76 : decode (mB 122) 76 = .ok (.iinc 3 1, 3) := by decide +kernel
theorem x122_76 {d : Nat} {l0 l1 l2 l4 l5 : Option Value} {st : List Value} {x : Int32} {h : Hp} : ex (d) 122 76 [l0, l1, l2, some (.int x), l4, l5] st h = ex d 122 79 [l0, l1, clr l2, some (.int (x + (nI 1))), l4, l5] st h := (ex_of d122_76 (d) [l0, l1, l2, some (.int x), l4, l5] st h).trans (rfl)
theorem d122_79 : decode (mB 122) 79 = .ok (.goto (-50), 3) := by decide +kernel
theorem x122_79 {d : Nat} {L : Lc} {st : List Value} {h : Hp} : ex (d) 122 79 L st h = ex d 122 29 L st h := (ex_of d122_79 (d) L st h).trans (rfl)
theorem d122_82 : decode (mB 122) 82 = .ok (.iload_n 2, 1) := by decide +kernel
theorem x122_82 {d : Nat} {l0 l1 l3 l4 l5 : Option Value} {st : List Value} {x : Int32} {h : Hp} : ex (d) 122 82 [l0, l1, some (.int x), l3, l4, l5] st h = ex d 122 83 [l0, l1, some (.int x), l3, l4, l5] (.int x :: st) h := (ex_of d122_82 (d) [l0, l1, some (.int x), l3, l4, l5] st h).trans (rfl)
theorem d122_83 : decode (mB 122) 83 = .ok (.ireturn, 1) := by decide +kernel
theorem x122_83 {d : Nat} {L : Lc} {x : Int32} {h : Hp} : ex (d) 122 83 L [.int x] h = some (some (.int x), h) := (ex_of d122_83 (d) L [.int x] h).trans (rfl)
theorem d123_0 : decode (mB 123) 0 = .ok (.iconst 0, 1) := by decide +kernel
theorem x123_0 {d : Nat} {L : Lc} {st : List Value} {h : Hp} : ex (d) 123 0 L st h = ex d 123 1 L (.int (nI 0) :: st) h := (ex_of d123_0 (d) L st h).trans (rfl)
theorem d123_1 : decode (mB 123) 1 = .ok (.istore_n 2, 1) := by decide +kernel
theorem x123_1 {d : Nat} {l0 l1 l2 l3 : Option Value} {st : List Value} {x : Int32} {h : Hp} : ex (d) 123 1 [l0, l1, l2, l3] (.int x :: st) h = ex d 123 2 [l0, clr l1, some (.int x), l3] st h := (ex_of d123_1 (d) [l0, l1, l2, l3] (.int x :: st) h).trans (rfl)
theorem d123_2 : decode (mB 123) 2 = .ok (.iconst 0, 1) := by decide +kernel
theorem x123_2 {d : Nat} {L : Lc} {st : List Value} {h : Hp} : ex (d) 123 2 L st h = ex d 123 3 L (.int (nI 0) :: st) h := (ex_of d123_2 (d) L st h).trans (rfl)
theorem d123_3 : decode (mB 123) 3 = .ok (.istore_n 3, 1) := by decide +kernel
theorem x123_3 {d : Nat} {l0 l1 l2 l3 : Option Value} {st : List Value} {x : Int32} {h : Hp} : ex (d) 123 3 [l0, l1, l2, l3] (.int x :: st) h = ex d 123 4 [l0, l1, clr l2, some (.int x)] st h := (ex_of d123_3 (d) [l0, l1, l2, l3] (.int x :: st) h).trans (rfl)
theorem d123_4 : decode (mB 123) 4 = .ok (.iload_n 3, 1) := by decide +kernel
theorem x123_4 {d : Nat} {l0 l1 l2 : Option Value} {st : List Value} {x : Int32} {h : Hp} : ex (d) 123 4 [l0, l1, l2, some (.int x)] st h = ex d 123 5 [l0, l1, l2, some (.int x)] (.int x :: st) h := (ex_of d123_4 (d) [l0, l1, l2, some (.int x)] st h).trans (rfl)
theorem d123_5 : decode (mB 123) 5 = .ok (.bipush 6, 2) := by decide +kernel
theorem x123_5 {d : Nat} {L : Lc} {st : List Value} {h : Hp} : ex (d) 123 5 L st h = ex d 123 7 L (.int (nI 6) :: st) h := (ex_of d123_5 (d) L st h).trans (rfl)
theorem d123_7 : decode (mB 123) 7 = .ok (.if_icmp .ge 42, 3) := by decide +kernel
theorem x123_7 {d : Nat} {L : Lc} {st : List Value} {x y : Int32} {h : Hp} : ex (d) 123 7 L (.int y :: .int x :: st) h = if y ≤ x then ex d 123 49 L st h else ex d 123 10 L st h := (ex_of d123_7 (d) L (.int y :: .int x :: st) h).trans (fin_brq (off := 42) (tgt := 49) rfl (by decide))
theorem d123_10 : decode (mB 123) 10 = .ok (.aload_n 1, 1) := by decide +kernel
theorem x123_10 {d : Nat} {l0 l2 l3 : Option Value} {st : List Value} {a : Nat} {h : Hp} : ex (d) 123 10 [l0, some (.ref a), l2, l3] st h = ex d 123 11 [l0, some (.ref a), l2, l3] (.ref a :: st) h := (ex_of d123_10 (d) [l0, some (.ref a), l2, l3] st h).trans (rfl)
theorem x123_10n {d : Nat} {l0 l2 l3 : Option Value} {st : List Value} {h : Hp} : ex (d) 123 10 [l0, some .null, l2, l3] st h = ex d 123 11 [l0, some .null, l2, l3] (.null :: st) h := (ex_of d123_10 (d) [l0, some .null, l2, l3] st h).trans (rfl)
theorem x123_10q {d : Nat} {l0 l2 l3 : Option Value} {st : List Value} {a : Option Nat} {h : Hp} : ex (d) 123 10 [l0, some (va_rf a), l2, l3] st h = ex d 123 11 [l0, some (va_rf a), l2, l3] (va_rf a :: st) h := (ex_of d123_10 (d) [l0, some (va_rf a), l2, l3] st h).trans (by cases a <;> rfl)
theorem d123_11 : decode (mB 123) 11 = .ok (.getfield 176, 3) := by decide +kernel
theorem x123_11 {d : Nat} {L : Lc} {st : List Value} {a : Nat} {h : Hp} (ht : (h.2.1 a).1 = 1) : ex (d) 123 11 L (.ref a :: st) h = ex d 123 14 L (h.1 a 1 :: st) h := (ex_of d123_11 (d) L (.ref a :: st) h).trans (fin_get (mi := 123) f10_176 (tg1 ht rfl))
theorem d123_14 : decode (mB 123) 14 = .ok (.iload_n 3, 1) := by decide +kernel
theorem x123_14 {d : Nat} {l0 l1 l2 : Option Value} {st : List Value} {x : Int32} {h : Hp} : ex (d) 123 14 [l0, l1, l2, some (.int x)] st h = ex d 123 15 [l0, l1, l2, some (.int x)] (.int x :: st) h := (ex_of d123_14 (d) [l0, l1, l2, some (.int x)] st h).trans (rfl)
theorem d123_15 : decode (mB 123) 15 = .ok (.invokestatic 399, 3) := by decide +kernel
theorem x123_15 {d : Nat} {L : Lc}  {v0 : Int32} {v1 : Int32} {h : Hp} : ex (d + 1) 123 15 L (.int v1 :: .int v0 :: []) h = bnd (ex d 121 0 [some (.int v0), some (.int v1)] [] h) (fun v h' => ex (d + 1) 123 18 L (v.toList ++ []) h') := (ex_of d123_15 (d + 1) L (.int v1 :: .int v0 :: []) h).trans (fin_st (mi := 123) i10_399 (Or.inl rfl) (by simp) (by simp [cat1_i, cat1_r]) (by simp) (Nat.le_of_ble_eq_true rfl))
theorem d123_18 : decode (mB 123) 18 = .ok (.ifCond .eq 25, 3) := by decide +kernel
theorem x123_18 {d : Nat} {L : Lc} {st : List Value} {x : Int32} {h : Hp} : ex (d) 123 18 L (.int x :: st) h = if x = 0 then ex d 123 43 L st h else ex d 123 21 L st h := (ex_of d123_18 (d) L (.int x :: st) h).trans (fin_brq (off := 25) (tgt := 43) rfl (by decide))
theorem d123_21 : decode (mB 123) 21 = .ok (.iload_n 2, 1) := by decide +kernel
theorem x123_21 {d : Nat} {l0 l1 l3 : Option Value} {st : List Value} {x : Int32} {h : Hp} : ex (d) 123 21 [l0, l1, some (.int x), l3] st h = ex d 123 22 [l0, l1, some (.int x), l3] (.int x :: st) h := (ex_of d123_21 (d) [l0, l1, some (.int x), l3] st h).trans (rfl)
theorem d123_22 : decode (mB 123) 22 = .ok (.aload_n 0, 1) := by decide +kernel
theorem x123_22 {d : Nat} {l1 l2 l3 : Option Value} {st : List Value} {a : Nat} {h : Hp} : ex (d) 123 22 [some (.ref a), l1, l2, l3] st h = ex d 123 23 [some (.ref a), l1, l2, l3] (.ref a :: st) h := (ex_of d123_22 (d) [some (.ref a), l1, l2, l3] st h).trans (rfl)
theorem x123_22n {d : Nat} {l1 l2 l3 : Option Value} {st : List Value} {h : Hp} : ex (d) 123 22 [some .null, l1, l2, l3] st h = ex d 123 23 [some .null, l1, l2, l3] (.null :: st) h := (ex_of d123_22 (d) [some .null, l1, l2, l3] st h).trans (rfl)
theorem x123_22q {d : Nat} {l1 l2 l3 : Option Value} {st : List Value} {a : Option Nat} {h : Hp} : ex (d) 123 22 [some (va_rf a), l1, l2, l3] st h = ex d 123 23 [some (va_rf a), l1, l2, l3] (va_rf a :: st) h := (ex_of d123_22 (d) [some (va_rf a), l1, l2, l3] st h).trans (by cases a <;> rfl)
theorem d123_23 : decode (mB 123) 23 = .ok (.getfield 202, 3) := by decide +kernel
theorem x123_23 {d : Nat} {L : Lc} {st : List Value} {a : Nat} {h : Hp} (ht : (h.2.1 a).1 = 0) : ex (d) 123 23 L (.ref a :: st) h = ex d 123 26 L (h.1 a 0 :: st) h := (ex_of d123_23 (d) L (.ref a :: st) h).trans (fin_get (mi := 123) f10_202 (tg1 ht rfl))
theorem d123_26 : decode (mB 123) 26 = .ok (.iload_n 3, 1) := by decide +kernel
theorem x123_26 {d : Nat} {l0 l1 l2 : Option Value} {st : List Value} {x : Int32} {h : Hp} : ex (d) 123 26 [l0, l1, l2, some (.int x)] st h = ex d 123 27 [l0, l1, l2, some (.int x)] (.int x :: st) h := (ex_of d123_26 (d) [l0, l1, l2, some (.int x)] st h).trans (rfl)
theorem d123_27 : decode (mB 123) 27 = .ok (.iaload, 1) := by decide +kernel
theorem x123_27 {d : Nat} {L : Lc} {st : List Value} {a j : Nat} {h : Hp} (ht : (h.2.1 a).1 = 20) (hj : j < (h.2.1 a).2) (hb : j < 2147483648) : ex (d) 123 27 L (.int (nI j) :: .ref a :: st) h = ex d 123 28 L (h.1 a j :: st) h := (ex_of d123_27 (d) L (.int (nI j) :: .ref a :: st) h).trans (fin_iaload (Or.inl ht) hj hb)
theorem d123_28 : decode (mB 123) 28 = .ok (.invokestatic 406, 3) := by decide +kernel
theorem x123_28 {d : Nat} {L : Lc} {s0 : Value}  {v0 : Int32} {h : Hp} : ex (d + 1) 123 28 L (.int v0 :: [s0]) h = bnd (ex d 120 0 [some (.int v0)] [] h) (fun v h' => ex (d + 1) 123 31 L (v.toList ++ [s0]) h') := (ex_of d123_28 (d + 1) L (.int v0 :: [s0]) h).trans (fin_st (mi := 123) i10_406 (Or.inl rfl) (by simp) (by simp [cat1_i, cat1_r]) (by simp) (Nat.le_of_ble_eq_true rfl))
theorem d123_31 : decode (mB 123) 31 = .ok (.aload_n 1, 1) := by decide +kernel
theorem x123_31 {d : Nat} {l0 l2 l3 : Option Value} {st : List Value} {a : Nat} {h : Hp} : ex (d) 123 31 [l0, some (.ref a), l2, l3] st h = ex d 123 32 [l0, some (.ref a), l2, l3] (.ref a :: st) h := (ex_of d123_31 (d) [l0, some (.ref a), l2, l3] st h).trans (rfl)
theorem x123_31n {d : Nat} {l0 l2 l3 : Option Value} {st : List Value} {h : Hp} : ex (d) 123 31 [l0, some .null, l2, l3] st h = ex d 123 32 [l0, some .null, l2, l3] (.null :: st) h := (ex_of d123_31 (d) [l0, some .null, l2, l3] st h).trans (rfl)
theorem x123_31q {d : Nat} {l0 l2 l3 : Option Value} {st : List Value} {a : Option Nat} {h : Hp} : ex (d) 123 31 [l0, some (va_rf a), l2, l3] st h = ex d 123 32 [l0, some (va_rf a), l2, l3] (va_rf a :: st) h := (ex_of d123_31 (d) [l0, some (va_rf a), l2, l3] st h).trans (by cases a <;> rfl)
theorem d123_32 : decode (mB 123) 32 = .ok (.getfield 151, 3) := by decide +kernel
theorem x123_32 {d : Nat} {L : Lc} {st : List Value} {a : Nat} {h : Hp} (ht : (h.2.1 a).1 = 1) : ex (d) 123 32 L (.ref a :: st) h = ex d 123 35 L (h.1 a 6 :: st) h := (ex_of d123_32 (d) L (.ref a :: st) h).trans (fin_get (mi := 123) f10_151 (tg1 ht rfl))
theorem d123_35 : decode (mB 123) 35 = .ok (.iload_n 3, 1) := by decide +kernel
theorem x123_35 {d : Nat} {l0 l1 l2 : Option Value} {st : List Value} {x : Int32} {h : Hp} : ex (d) 123 35 [l0, l1, l2, some (.int x)] st h = ex d 123 36 [l0, l1, l2, some (.int x)] (.int x :: st) h := (ex_of d123_35 (d) [l0, l1, l2, some (.int x)] st h).trans (rfl)
theorem d123_36 : decode (mB 123) 36 = .ok (.iaload, 1) := by decide +kernel
theorem x123_36 {d : Nat} {L : Lc} {st : List Value} {a j : Nat} {h : Hp} (ht : (h.2.1 a).1 = 20) (hj : j < (h.2.1 a).2) (hb : j < 2147483648) : ex (d) 123 36 L (.int (nI j) :: .ref a :: st) h = ex d 123 37 L (h.1 a j :: st) h := (ex_of d123_36 (d) L (.int (nI j) :: .ref a :: st) h).trans (fin_iaload (Or.inl ht) hj hb)
theorem d123_37 : decode (mB 123) 37 = .ok (.isub, 1) := by decide +kernel
theorem x123_37 {d : Nat} {L : Lc} {st : List Value} {x y : Int32} {h : Hp} : ex (d) 123 37 L (.int y :: .int x :: st) h = ex d 123 38 L (.int (x - y) :: st) h := (ex_of d123_37 (d) L (.int y :: .int x :: st) h).trans (rfl)
theorem d123_38 : decode (mB 123) 38 = .ok (.invokestatic 177, 3) := by decide +kernel
theorem x123_38 {d : Nat} {L : Lc} {s0 : Value} {x : Int32} {h : Hp} : ex (d) 123 38 L (.int x :: [s0]) h = ex d 123 41 L (.int (if 0 ≤ x then x else 0 - x) :: [s0]) h := (ex_of d123_38 (d) L (.int x :: [s0]) h).trans (rfl)
theorem d123_41 : decode (mB 123) 41 = .ok (.iadd, 1) := by decide +kernel
theorem x123_41 {d : Nat} {L : Lc} {st : List Value} {x y : Int32} {h : Hp} : ex (d) 123 41 L (.int y :: .int x :: st) h = ex d 123 42 L (.int (x + y) :: st) h := (ex_of d123_41 (d) L (.int y :: .int x :: st) h).trans (rfl)
theorem d123_42 : decode (mB 123) 42 = .ok (.istore_n 2, 1) := by decide +kernel
theorem x123_42 {d : Nat} {l0 l1 l2 l3 : Option Value} {st : List Value} {x : Int32} {h : Hp} : ex (d) 123 42 [l0, l1, l2, l3] (.int x :: st) h = ex d 123 43 [l0, clr l1, some (.int x), l3] st h := (ex_of d123_42 (d) [l0, l1, l2, l3] (.int x :: st) h).trans (rfl)
theorem d123_43 : decode (mB 123) 43 = .ok (.iinc 3 1, 3) := by decide +kernel
theorem x123_43 {d : Nat} {l0 l1 l2 : Option Value} {st : List Value} {x : Int32} {h : Hp} : ex (d) 123 43 [l0, l1, l2, some (.int x)] st h = ex d 123 46 [l0, l1, clr l2, some (.int (x + (nI 1)))] st h := (ex_of d123_43 (d) [l0, l1, l2, some (.int x)] st h).trans (rfl)
theorem d123_46 : decode (mB 123) 46 = .ok (.goto (-42), 3) := by decide +kernel
theorem x123_46 {d : Nat} {L : Lc} {st : List Value} {h : Hp} : ex (d) 123 46 L st h = ex d 123 4 L st h := (ex_of d123_46 (d) L st h).trans (rfl)
theorem d123_49 : decode (mB 123) 49 = .ok (.aload_n 1, 1) := by decide +kernel
theorem x123_49 {d : Nat} {l0 l2 l3 : Option Value} {st : List Value} {a : Nat} {h : Hp} : ex (d) 123 49 [l0, some (.ref a), l2, l3] st h = ex d 123 50 [l0, some (.ref a), l2, l3] (.ref a :: st) h := (ex_of d123_49 (d) [l0, some (.ref a), l2, l3] st h).trans (rfl)
theorem x123_49n {d : Nat} {l0 l2 l3 : Option Value} {st : List Value} {h : Hp} : ex (d) 123 49 [l0, some .null, l2, l3] st h = ex d 123 50 [l0, some .null, l2, l3] (.null :: st) h := (ex_of d123_49 (d) [l0, some .null, l2, l3] st h).trans (rfl)
theorem x123_49q {d : Nat} {l0 l2 l3 : Option Value} {st : List Value} {a : Option Nat} {h : Hp} : ex (d) 123 49 [l0, some (va_rf a), l2, l3] st h = ex d 123 50 [l0, some (va_rf a), l2, l3] (va_rf a :: st) h := (ex_of d123_49 (d) [l0, some (va_rf a), l2, l3] st h).trans (by cases a <;> rfl)
theorem d123_50 : decode (mB 123) 50 = .ok (.getfield 176, 3) := by decide +kernel
theorem x123_50 {d : Nat} {L : Lc} {st : List Value} {a : Nat} {h : Hp} (ht : (h.2.1 a).1 = 1) : ex (d) 123 50 L (.ref a :: st) h = ex d 123 53 L (h.1 a 1 :: st) h := (ex_of d123_50 (d) L (.ref a :: st) h).trans (fin_get (mi := 123) f10_176 (tg1 ht rfl))
theorem d123_53 : decode (mB 123) 53 = .ok (.iload_n 2, 1) := by decide +kernel
theorem x123_53 {d : Nat} {l0 l1 l3 : Option Value} {st : List Value} {x : Int32} {h : Hp} : ex (d) 123 53 [l0, l1, some (.int x), l3] st h = ex d 123 54 [l0, l1, some (.int x), l3] (.int x :: st) h := (ex_of d123_53 (d) [l0, l1, some (.int x), l3] st h).trans (rfl)
theorem d123_54 : decode (mB 123) 54 = .ok (.invokestatic 182, 3) := by decide +kernel
theorem x123_54 {d : Nat} {L : Lc}  {v0 : Int32} {v1 : Int32} {h : Hp} : ex (d + 1) 123 54 L (.int v1 :: .int v0 :: []) h = bnd (ex d 124 0 [some (.int v0), some (.int v1)] [] h) (fun v h' => ex (d + 1) 123 57 L (v.toList ++ []) h') := (ex_of d123_54 (d + 1) L (.int v1 :: .int v0 :: []) h).trans (fin_st (mi := 123) i10_182 (Or.inl rfl) (by simp) (by simp [cat1_i, cat1_r]) (by simp) (Nat.le_of_ble_eq_true rfl))
theorem d123_57 : decode (mB 123) 57 = .ok (.ireturn, 1) := by decide +kernel
theorem x123_57 {d : Nat} {L : Lc} {x : Int32} {h : Hp} : ex (d) 123 57 L [.int x] h = some (some (.int x), h) := (ex_of d123_57 (d) L [.int x] h).trans (rfl)
theorem d124_0 : decode (mB 124) 0 = .ok (.iload_n 1, 1) := by decide +kernel
theorem x124_0 {d : Nat} {l0 : Option Value} {st : List Value} {x : Int32} {h : Hp} : ex (d) 124 0 [l0, some (.int x)] st h = ex d 124 1 [l0, some (.int x)] (.int x :: st) h := (ex_of d124_0 (d) [l0, some (.int x)] st h).trans (rfl)
theorem d124_1 : decode (mB 124) 1 = .ok (.ifCond .ne 5, 3) := by decide +kernel
theorem x124_1 {d : Nat} {L : Lc} {st : List Value} {x : Int32} {h : Hp} : ex (d) 124 1 L (.int x :: st) h = if ¬ x = 0 then ex d 124 6 L st h else ex d 124 4 L st h := (ex_of d124_1 (d) L (.int x :: st) h).trans (fin_brq (off := 5) (tgt := 6) rfl (by decide))
theorem d124_4 : decode (mB 124) 4 = .ok (.iconst 0, 1) := by decide +kernel
theorem x124_4 {d : Nat} {L : Lc} {st : List Value} {h : Hp} : ex (d) 124 4 L st h = ex d 124 5 L (.int (nI 0) :: st) h := (ex_of d124_4 (d) L st h).trans (rfl)
theorem d124_5 : decode (mB 124) 5 = .ok (.ireturn, 1) := by decide +kernel
theorem x124_5 {d : Nat} {L : Lc} {x : Int32} {h : Hp} : ex (d) 124 5 L [.int x] h = some (some (.int x), h) := (ex_of d124_5 (d) L [.int x] h).trans (rfl)
theorem d124_6 : decode (mB 124) 6 = .ok (.iload_n 0, 1) := by decide +kernel
theorem x124_6 {d : Nat} {l1 : Option Value} {st : List Value} {x : Int32} {h : Hp} : ex (d) 124 6 [some (.int x), l1] st h = ex d 124 7 [some (.int x), l1] (.int x :: st) h := (ex_of d124_6 (d) [some (.int x), l1] st h).trans (rfl)
theorem d124_7 : decode (mB 124) 7 = .ok (.tableswitch 41 0 2 #[25, 29, 35], 25) := by decide +kernel
theorem x124_7_0 {d : Nat} {L : Lc} {st : List Value} {h : Hp} : ex (d) 124 7 L (.int (nI 0) :: st) h = ex d 124 32 L st h := (ex_of d124_7 (d) L (.int (nI 0) :: st) h).trans (rfl)
theorem x124_7_1 {d : Nat} {L : Lc} {st : List Value} {h : Hp} : ex (d) 124 7 L (.int (nI 1) :: st) h = ex d 124 36 L st h := (ex_of d124_7 (d) L (.int (nI 1) :: st) h).trans (rfl)
theorem x124_7_2 {d : Nat} {L : Lc} {st : List Value} {h : Hp} : ex (d) 124 7 L (.int (nI 2) :: st) h = ex d 124 42 L st h := (ex_of d124_7 (d) L (.int (nI 2) :: st) h).trans (rfl)
theorem x124_7_o {d : Nat} {L : Lc} {st : List Value} {x : Int32} {h : Hp} (hx : x.toInt < 0 ∨ 2 < x.toInt) : ex (d) 124 7 L (.int x :: st) h = ex d 124 48 L st h := by
  refine (ex_of d124_7 _ _ _ _).trans ?_
  simp only [stp]
  rw [if_pos hx]
  rfl
theorem d124_32 : decode (mB 124) 32 = .ok (.iconst 2, 1) := by decide +kernel
theorem x124_32 {d : Nat} {L : Lc} {st : List Value} {h : Hp} : ex (d) 124 32 L st h = ex d 124 33 L (.int (nI 2) :: st) h := (ex_of d124_32 (d) L st h).trans (rfl)
theorem d124_33 : decode (mB 124) 33 = .ok (.iload_n 1, 1) := by decide +kernel
theorem x124_33 {d : Nat} {l0 : Option Value} {st : List Value} {x : Int32} {h : Hp} : ex (d) 124 33 [l0, some (.int x)] st h = ex d 124 34 [l0, some (.int x)] (.int x :: st) h := (ex_of d124_33 (d) [l0, some (.int x)] st h).trans (rfl)
theorem d124_34 : decode (mB 124) 34 = .ok (.imul, 1) := by decide +kernel
theorem x124_34 {d : Nat} {L : Lc} {st : List Value} {x y : Int32} {h : Hp} : ex (d) 124 34 L (.int y :: .int x :: st) h = ex d 124 35 L (.int (x * y) :: st) h := (ex_of d124_34 (d) L (.int y :: .int x :: st) h).trans (rfl)
theorem d124_35 : decode (mB 124) 35 = .ok (.ireturn, 1) := by decide +kernel
theorem x124_35 {d : Nat} {L : Lc} {x : Int32} {h : Hp} : ex (d) 124 35 L [.int x] h = some (some (.int x), h) := (ex_of d124_35 (d) L [.int x] h).trans (rfl)
theorem d124_36 : decode (mB 124) 36 = .ok (.iconst 2, 1) := by decide +kernel
theorem x124_36 {d : Nat} {L : Lc} {st : List Value} {h : Hp} : ex (d) 124 36 L st h = ex d 124 37 L (.int (nI 2) :: st) h := (ex_of d124_36 (d) L st h).trans (rfl)
theorem d124_37 : decode (mB 124) 37 = .ok (.iload_n 1, 1) := by decide +kernel
theorem x124_37 {d : Nat} {l0 : Option Value} {st : List Value} {x : Int32} {h : Hp} : ex (d) 124 37 [l0, some (.int x)] st h = ex d 124 38 [l0, some (.int x)] (.int x :: st) h := (ex_of d124_37 (d) [l0, some (.int x)] st h).trans (rfl)
theorem d124_38 : decode (mB 124) 38 = .ok (.imul, 1) := by decide +kernel
theorem x124_38 {d : Nat} {L : Lc} {st : List Value} {x y : Int32} {h : Hp} : ex (d) 124 38 L (.int y :: .int x :: st) h = ex d 124 39 L (.int (x * y) :: st) h := (ex_of d124_38 (d) L (.int y :: .int x :: st) h).trans (rfl)
theorem d124_39 : decode (mB 124) 39 = .ok (.iconst 4, 1) := by decide +kernel
theorem x124_39 {d : Nat} {L : Lc} {st : List Value} {h : Hp} : ex (d) 124 39 L st h = ex d 124 40 L (.int (nI 4) :: st) h := (ex_of d124_39 (d) L st h).trans (rfl)
theorem d124_40 : decode (mB 124) 40 = .ok (.iadd, 1) := by decide +kernel
theorem x124_40 {d : Nat} {L : Lc} {st : List Value} {x y : Int32} {h : Hp} : ex (d) 124 40 L (.int y :: .int x :: st) h = ex d 124 41 L (.int (x + y) :: st) h := (ex_of d124_40 (d) L (.int y :: .int x :: st) h).trans (rfl)
theorem d124_41 : decode (mB 124) 41 = .ok (.ireturn, 1) := by decide +kernel
theorem x124_41 {d : Nat} {L : Lc} {x : Int32} {h : Hp} : ex (d) 124 41 L [.int x] h = some (some (.int x), h) := (ex_of d124_41 (d) L [.int x] h).trans (rfl)
theorem d124_42 : decode (mB 124) 42 = .ok (.iconst 3, 1) := by decide +kernel
theorem x124_42 {d : Nat} {L : Lc} {st : List Value} {h : Hp} : ex (d) 124 42 L st h = ex d 124 43 L (.int (nI 3) :: st) h := (ex_of d124_42 (d) L st h).trans (rfl)
theorem d124_43 : decode (mB 124) 43 = .ok (.iload_n 1, 1) := by decide +kernel
theorem x124_43 {d : Nat} {l0 : Option Value} {st : List Value} {x : Int32} {h : Hp} : ex (d) 124 43 [l0, some (.int x)] st h = ex d 124 44 [l0, some (.int x)] (.int x :: st) h := (ex_of d124_43 (d) [l0, some (.int x)] st h).trans (rfl)
theorem d124_44 : decode (mB 124) 44 = .ok (.imul, 1) := by decide +kernel
theorem x124_44 {d : Nat} {L : Lc} {st : List Value} {x y : Int32} {h : Hp} : ex (d) 124 44 L (.int y :: .int x :: st) h = ex d 124 45 L (.int (x * y) :: st) h := (ex_of d124_44 (d) L (.int y :: .int x :: st) h).trans (rfl)
theorem d124_45 : decode (mB 124) 45 = .ok (.iconst 4, 1) := by decide +kernel
theorem x124_45 {d : Nat} {L : Lc} {st : List Value} {h : Hp} : ex (d) 124 45 L st h = ex d 124 46 L (.int (nI 4) :: st) h := (ex_of d124_45 (d) L st h).trans (rfl)
theorem d124_46 : decode (mB 124) 46 = .ok (.iadd, 1) := by decide +kernel
theorem x124_46 {d : Nat} {L : Lc} {st : List Value} {x y : Int32} {h : Hp} : ex (d) 124 46 L (.int y :: .int x :: st) h = ex d 124 47 L (.int (x + y) :: st) h := (ex_of d124_46 (d) L (.int y :: .int x :: st) h).trans (rfl)
theorem d124_47 : decode (mB 124) 47 = .ok (.ireturn, 1) := by decide +kernel
theorem x124_47 {d : Nat} {L : Lc} {x : Int32} {h : Hp} : ex (d) 124 47 L [.int x] h = some (some (.int x), h) := (ex_of d124_47 (d) L [.int x] h).trans (rfl)
theorem d124_48 : decode (mB 124) 48 = .ok (.iconst 5, 1) := by decide +kernel
theorem x124_48 {d : Nat} {L : Lc} {st : List Value} {h : Hp} : ex (d) 124 48 L st h = ex d 124 49 L (.int (nI 5) :: st) h := (ex_of d124_48 (d) L st h).trans (rfl)
theorem d124_49 : decode (mB 124) 49 = .ok (.iload_n 1, 1) := by decide +kernel
theorem x124_49 {d : Nat} {l0 : Option Value} {st : List Value} {x : Int32} {h : Hp} : ex (d) 124 49 [l0, some (.int x)] st h = ex d 124 50 [l0, some (.int x)] (.int x :: st) h := (ex_of d124_49 (d) [l0, some (.int x)] st h).trans (rfl)
theorem d124_50 : decode (mB 124) 50 = .ok (.imul, 1) := by decide +kernel
theorem x124_50 {d : Nat} {L : Lc} {st : List Value} {x y : Int32} {h : Hp} : ex (d) 124 50 L (.int y :: .int x :: st) h = ex d 124 51 L (.int (x * y) :: st) h := (ex_of d124_50 (d) L (.int y :: .int x :: st) h).trans (rfl)
theorem d124_51 : decode (mB 124) 51 = .ok (.ireturn, 1) := by decide +kernel
theorem x124_51 {d : Nat} {L : Lc} {x : Int32} {h : Hp} : ex (d) 124 51 L [.int x] h = some (some (.int x), h) := (ex_of d124_51 (d) L [.int x] h).trans (rfl)
theorem d125_0 : decode (mB 125) 0 = .ok (.aload_n 0, 1) := by decide +kernel
theorem x125_0 {d : Nat} {l1 l2 l3 : Option Value} {st : List Value} {a : Nat} {h : Hp} : ex (d) 125 0 [some (.ref a), l1, l2, l3] st h = ex d 125 1 [some (.ref a), l1, l2, l3] (.ref a :: st) h := (ex_of d125_0 (d) [some (.ref a), l1, l2, l3] st h).trans (rfl)
theorem x125_0n {d : Nat} {l1 l2 l3 : Option Value} {st : List Value} {h : Hp} : ex (d) 125 0 [some .null, l1, l2, l3] st h = ex d 125 1 [some .null, l1, l2, l3] (.null :: st) h := (ex_of d125_0 (d) [some .null, l1, l2, l3] st h).trans (rfl)
theorem x125_0q {d : Nat} {l1 l2 l3 : Option Value} {st : List Value} {a : Option Nat} {h : Hp} : ex (d) 125 0 [some (va_rf a), l1, l2, l3] st h = ex d 125 1 [some (va_rf a), l1, l2, l3] (va_rf a :: st) h := (ex_of d125_0 (d) [some (va_rf a), l1, l2, l3] st h).trans (by cases a <;> rfl)
theorem d125_1 : decode (mB 125) 1 = .ok (.getfield 320, 3) := by decide +kernel
theorem x125_1 {d : Nat} {L : Lc} {st : List Value} {a : Nat} {h : Hp} (ht : isTh (h.2.1 a).1 = true) : ex (d) 125 1 L (.ref a :: st) h = ex d 125 4 L (h.1 a 5 :: st) h := (ex_of d125_1 (d) L (.ref a :: st) h).trans (fin_get (mi := 125) f10_320 ht)
theorem d125_4 : decode (mB 125) 4 = .ok (.ifnonnull 11, 3) := by decide +kernel
theorem x125_4n {d : Nat} {L : Lc} {st : List Value} {h : Hp} : ex (d) 125 4 L (.null :: st) h = ex d 125 7 L st h := (ex_of d125_4 (d) L (.null :: st) h).trans (rfl)
theorem x125_4 {d : Nat} {L : Lc} {st : List Value} {a : Nat} {h : Hp} : ex (d) 125 4 L (.ref a :: st) h = ex d 125 15 L st h := (ex_of d125_4 (d) L (.ref a :: st) h).trans (rfl)
theorem d125_7 : decode (mB 125) 7 = .ok (.aload_n 0, 1) := by decide +kernel
theorem x125_7 {d : Nat} {l1 l2 l3 : Option Value} {st : List Value} {a : Nat} {h : Hp} : ex (d) 125 7 [some (.ref a), l1, l2, l3] st h = ex d 125 8 [some (.ref a), l1, l2, l3] (.ref a :: st) h := (ex_of d125_7 (d) [some (.ref a), l1, l2, l3] st h).trans (rfl)
theorem x125_7n {d : Nat} {l1 l2 l3 : Option Value} {st : List Value} {h : Hp} : ex (d) 125 7 [some .null, l1, l2, l3] st h = ex d 125 8 [some .null, l1, l2, l3] (.null :: st) h := (ex_of d125_7 (d) [some .null, l1, l2, l3] st h).trans (rfl)
theorem x125_7q {d : Nat} {l1 l2 l3 : Option Value} {st : List Value} {a : Option Nat} {h : Hp} : ex (d) 125 7 [some (va_rf a), l1, l2, l3] st h = ex d 125 8 [some (va_rf a), l1, l2, l3] (va_rf a :: st) h := (ex_of d125_7 (d) [some (va_rf a), l1, l2, l3] st h).trans (by cases a <;> rfl)
theorem d125_8 : decode (mB 125) 8 = .ok (.getfield 115, 3) := by decide +kernel
theorem x125_8 {d : Nat} {L : Lc} {st : List Value} {a : Nat} {h : Hp} (ht : isTh (h.2.1 a).1 = true) : ex (d) 125 8 L (.ref a :: st) h = ex d 125 11 L (h.1 a 1 :: st) h := (ex_of d125_8 (d) L (.ref a :: st) h).trans (fin_get (mi := 125) f10_115 ht)
theorem d125_11 : decode (mB 125) 11 = .ok (.invokestatic 412, 3) := by decide +kernel
theorem x125_11 {d : Nat} {L : Lc}  {v0 : Int32} {h : Hp} : ex (d + 1) 125 11 L (.int v0 :: []) h = bnd (ex d 126 0 [some (.int v0)] [] h) (fun v h' => ex (d + 1) 125 14 L (v.toList ++ []) h') := (ex_of d125_11 (d + 1) L (.int v0 :: []) h).trans (fin_st (mi := 125) i10_412 (Or.inl rfl) (by simp) (by simp [cat1_i, cat1_r]) (by simp) (Nat.le_of_ble_eq_true rfl))
theorem d125_14 : decode (mB 125) 14 = .ok (.ireturn, 1) := by decide +kernel
theorem x125_14 {d : Nat} {L : Lc} {x : Int32} {h : Hp} : ex (d) 125 14 L [.int x] h = some (some (.int x), h) := (ex_of d125_14 (d) L [.int x] h).trans (rfl)
theorem d125_15 : decode (mB 125) 15 = .ok (.iconst 0, 1) := by decide +kernel
theorem x125_15 {d : Nat} {L : Lc} {st : List Value} {h : Hp} : ex (d) 125 15 L st h = ex d 125 16 L (.int (nI 0) :: st) h := (ex_of d125_15 (d) L st h).trans (rfl)
theorem d125_16 : decode (mB 125) 16 = .ok (.istore_n 1, 1) := by decide +kernel
theorem x125_16 {d : Nat} {l0 l1 l2 l3 : Option Value} {st : List Value} {x : Int32} {h : Hp} : ex (d) 125 16 [l0, l1, l2, l3] (.int x :: st) h = ex d 125 17 [clr l0, some (.int x), l2, l3] st h := (ex_of d125_16 (d) [l0, l1, l2, l3] (.int x :: st) h).trans (rfl)
theorem d125_17 : decode (mB 125) 17 = .ok (.iconst 0, 1) := by decide +kernel
theorem x125_17 {d : Nat} {L : Lc} {st : List Value} {h : Hp} : ex (d) 125 17 L st h = ex d 125 18 L (.int (nI 0) :: st) h := (ex_of d125_17 (d) L st h).trans (rfl)
theorem d125_18 : decode (mB 125) 18 = .ok (.istore_n 2, 1) := by decide +kernel
theorem x125_18 {d : Nat} {l0 l1 l2 l3 : Option Value} {st : List Value} {x : Int32} {h : Hp} : ex (d) 125 18 [l0, l1, l2, l3] (.int x :: st) h = ex d 125 19 [l0, clr l1, some (.int x), l3] st h := (ex_of d125_18 (d) [l0, l1, l2, l3] (.int x :: st) h).trans (rfl)
theorem d125_19 : decode (mB 125) 19 = .ok (.iload_n 2, 1) := by decide +kernel
theorem x125_19 {d : Nat} {l0 l1 l3 : Option Value} {st : List Value} {x : Int32} {h : Hp} : ex (d) 125 19 [l0, l1, some (.int x), l3] st h = ex d 125 20 [l0, l1, some (.int x), l3] (.int x :: st) h := (ex_of d125_19 (d) [l0, l1, some (.int x), l3] st h).trans (rfl)
theorem d125_20 : decode (mB 125) 20 = .ok (.aload_n 0, 1) := by decide +kernel
theorem x125_20 {d : Nat} {l1 l2 l3 : Option Value} {st : List Value} {a : Nat} {h : Hp} : ex (d) 125 20 [some (.ref a), l1, l2, l3] st h = ex d 125 21 [some (.ref a), l1, l2, l3] (.ref a :: st) h := (ex_of d125_20 (d) [some (.ref a), l1, l2, l3] st h).trans (rfl)
theorem x125_20n {d : Nat} {l1 l2 l3 : Option Value} {st : List Value} {h : Hp} : ex (d) 125 20 [some .null, l1, l2, l3] st h = ex d 125 21 [some .null, l1, l2, l3] (.null :: st) h := (ex_of d125_20 (d) [some .null, l1, l2, l3] st h).trans (rfl)
theorem x125_20q {d : Nat} {l1 l2 l3 : Option Value} {st : List Value} {a : Option Nat} {h : Hp} : ex (d) 125 20 [some (va_rf a), l1, l2, l3] st h = ex d 125 21 [some (va_rf a), l1, l2, l3] (va_rf a :: st) h := (ex_of d125_20 (d) [some (va_rf a), l1, l2, l3] st h).trans (by cases a <;> rfl)
theorem d125_21 : decode (mB 125) 21 = .ok (.getfield 320, 3) := by decide +kernel
theorem x125_21 {d : Nat} {L : Lc} {st : List Value} {a : Nat} {h : Hp} (ht : isTh (h.2.1 a).1 = true) : ex (d) 125 21 L (.ref a :: st) h = ex d 125 24 L (h.1 a 5 :: st) h := (ex_of d125_21 (d) L (.ref a :: st) h).trans (fin_get (mi := 125) f10_320 ht)
theorem d125_24 : decode (mB 125) 24 = .ok (.getfield 351, 3) := by decide +kernel
theorem x125_24 {d : Nat} {L : Lc} {st : List Value} {a : Nat} {h : Hp} (ht : (h.2.1 a).1 = 3) : ex (d) 125 24 L (.ref a :: st) h = ex d 125 27 L (h.1 a 2 :: st) h := (ex_of d125_24 (d) L (.ref a :: st) h).trans (fin_get (mi := 125) f10_351 (tg1 ht rfl))
theorem d125_27 : decode (mB 125) 27 = .ok (.arraylength, 1) := by decide +kernel
theorem x125_27 {d : Nat} {L : Lc} {st : List Value} {a : Nat} {h : Hp} (ht : 20 ≤ (h.2.1 a).1 ∧ (h.2.1 a).1 ≤ 30) : ex (d) 125 27 L (.ref a :: st) h = ex d 125 28 L (.int (nI (h.2.1 a).2) :: st) h := (ex_of d125_27 (d) L (.ref a :: st) h).trans (fin_alen ht)
theorem d125_28 : decode (mB 125) 28 = .ok (.if_icmp .ge 33, 3) := by decide +kernel
theorem x125_28 {d : Nat} {L : Lc} {st : List Value} {x y : Int32} {h : Hp} : ex (d) 125 28 L (.int y :: .int x :: st) h = if y ≤ x then ex d 125 61 L st h else ex d 125 31 L st h := (ex_of d125_28 (d) L (.int y :: .int x :: st) h).trans (fin_brq (off := 33) (tgt := 61) rfl (by decide))
theorem d125_31 : decode (mB 125) 31 = .ok (.aload_n 0, 1) := by decide +kernel
theorem x125_31 {d : Nat} {l1 l2 l3 : Option Value} {st : List Value} {a : Nat} {h : Hp} : ex (d) 125 31 [some (.ref a), l1, l2, l3] st h = ex d 125 32 [some (.ref a), l1, l2, l3] (.ref a :: st) h := (ex_of d125_31 (d) [some (.ref a), l1, l2, l3] st h).trans (rfl)
theorem x125_31n {d : Nat} {l1 l2 l3 : Option Value} {st : List Value} {h : Hp} : ex (d) 125 31 [some .null, l1, l2, l3] st h = ex d 125 32 [some .null, l1, l2, l3] (.null :: st) h := (ex_of d125_31 (d) [some .null, l1, l2, l3] st h).trans (rfl)
theorem x125_31q {d : Nat} {l1 l2 l3 : Option Value} {st : List Value} {a : Option Nat} {h : Hp} : ex (d) 125 31 [some (va_rf a), l1, l2, l3] st h = ex d 125 32 [some (va_rf a), l1, l2, l3] (va_rf a :: st) h := (ex_of d125_31 (d) [some (va_rf a), l1, l2, l3] st h).trans (by cases a <;> rfl)
theorem d125_32 : decode (mB 125) 32 = .ok (.getfield 320, 3) := by decide +kernel
theorem x125_32 {d : Nat} {L : Lc} {st : List Value} {a : Nat} {h : Hp} (ht : isTh (h.2.1 a).1 = true) : ex (d) 125 32 L (.ref a :: st) h = ex d 125 35 L (h.1 a 5 :: st) h := (ex_of d125_32 (d) L (.ref a :: st) h).trans (fin_get (mi := 125) f10_320 ht)
theorem d125_35 : decode (mB 125) 35 = .ok (.getfield 351, 3) := by decide +kernel
theorem x125_35 {d : Nat} {L : Lc} {st : List Value} {a : Nat} {h : Hp} (ht : (h.2.1 a).1 = 3) : ex (d) 125 35 L (.ref a :: st) h = ex d 125 38 L (h.1 a 2 :: st) h := (ex_of d125_35 (d) L (.ref a :: st) h).trans (fin_get (mi := 125) f10_351 (tg1 ht rfl))
theorem d125_38 : decode (mB 125) 38 = .ok (.iload_n 2, 1) := by decide +kernel
theorem x125_38 {d : Nat} {l0 l1 l3 : Option Value} {st : List Value} {x : Int32} {h : Hp} : ex (d) 125 38 [l0, l1, some (.int x), l3] st h = ex d 125 39 [l0, l1, some (.int x), l3] (.int x :: st) h := (ex_of d125_38 (d) [l0, l1, some (.int x), l3] st h).trans (rfl)
theorem d125_39 : decode (mB 125) 39 = .ok (.aaload, 1) := by decide +kernel
theorem x125_39 {d : Nat} {L : Lc} {st : List Value} {a j : Nat} {h : Hp} (ht : 21 ≤ (h.2.1 a).1 ∧ (h.2.1 a).1 ≤ 26) (hj : j < (h.2.1 a).2) (hb : j < 2147483648) : ex (d) 125 39 L (.int (nI j) :: .ref a :: st) h = ex d 125 40 L (h.1 a j :: st) h := (ex_of d125_39 (d) L (.int (nI j) :: .ref a :: st) h).trans (fin_aaload ht hj hb)
theorem d125_40 : decode (mB 125) 40 = .ok (.astore_n 3, 1) := by decide +kernel
theorem x125_40 {d : Nat} {l0 l1 l2 l3 : Option Value} {st : List Value} {a : Nat} {h : Hp} : ex (d) 125 40 [l0, l1, l2, l3] (.ref a :: st) h = ex d 125 41 [l0, l1, clr l2, some (.ref a)] st h := (ex_of d125_40 (d) [l0, l1, l2, l3] (.ref a :: st) h).trans (rfl)
theorem x125_40n {d : Nat} {l0 l1 l2 l3 : Option Value} {st : List Value} {h : Hp} : ex (d) 125 40 [l0, l1, l2, l3] (.null :: st) h = ex d 125 41 [l0, l1, clr l2, some .null] st h := (ex_of d125_40 (d) [l0, l1, l2, l3] (.null :: st) h).trans (rfl)
theorem x125_40q {d : Nat} {l0 l1 l2 l3 : Option Value} {st : List Value} {a : Option Nat} {h : Hp} : ex (d) 125 40 [l0, l1, l2, l3] (va_rf a :: st) h = ex d 125 41 [l0, l1, clr l2, some (va_rf a)] st h := (ex_of d125_40 (d) [l0, l1, l2, l3] (va_rf a :: st) h).trans (by cases a <;> rfl)
theorem d125_41 : decode (mB 125) 41 = .ok (.aload_n 3, 1) := by decide +kernel
theorem x125_41 {d : Nat} {l0 l1 l2 : Option Value} {st : List Value} {a : Nat} {h : Hp} : ex (d) 125 41 [l0, l1, l2, some (.ref a)] st h = ex d 125 42 [l0, l1, l2, some (.ref a)] (.ref a :: st) h := (ex_of d125_41 (d) [l0, l1, l2, some (.ref a)] st h).trans (rfl)
theorem x125_41n {d : Nat} {l0 l1 l2 : Option Value} {st : List Value} {h : Hp} : ex (d) 125 41 [l0, l1, l2, some .null] st h = ex d 125 42 [l0, l1, l2, some .null] (.null :: st) h := (ex_of d125_41 (d) [l0, l1, l2, some .null] st h).trans (rfl)
theorem x125_41q {d : Nat} {l0 l1 l2 : Option Value} {st : List Value} {a : Option Nat} {h : Hp} : ex (d) 125 41 [l0, l1, l2, some (va_rf a)] st h = ex d 125 42 [l0, l1, l2, some (va_rf a)] (va_rf a :: st) h := (ex_of d125_41 (d) [l0, l1, l2, some (va_rf a)] st h).trans (by cases a <;> rfl)
theorem d125_42 : decode (mB 125) 42 = .ok (.ifnull 13, 3) := by decide +kernel
theorem x125_42n {d : Nat} {L : Lc} {st : List Value} {h : Hp} : ex (d) 125 42 L (.null :: st) h = ex d 125 55 L st h := (ex_of d125_42 (d) L (.null :: st) h).trans (rfl)
theorem x125_42 {d : Nat} {L : Lc} {st : List Value} {a : Nat} {h : Hp} : ex (d) 125 42 L (.ref a :: st) h = ex d 125 45 L st h := (ex_of d125_42 (d) L (.ref a :: st) h).trans (rfl)
theorem d125_45 : decode (mB 125) 45 = .ok (.iload_n 1, 1) := by decide +kernel
theorem x125_45 {d : Nat} {l0 l2 l3 : Option Value} {st : List Value} {x : Int32} {h : Hp} : ex (d) 125 45 [l0, some (.int x), l2, l3] st h = ex d 125 46 [l0, some (.int x), l2, l3] (.int x :: st) h := (ex_of d125_45 (d) [l0, some (.int x), l2, l3] st h).trans (rfl)
theorem d125_46 : decode (mB 125) 46 = .ok (.aload_n 3, 1) := by decide +kernel
theorem x125_46 {d : Nat} {l0 l1 l2 : Option Value} {st : List Value} {a : Nat} {h : Hp} : ex (d) 125 46 [l0, l1, l2, some (.ref a)] st h = ex d 125 47 [l0, l1, l2, some (.ref a)] (.ref a :: st) h := (ex_of d125_46 (d) [l0, l1, l2, some (.ref a)] st h).trans (rfl)
theorem x125_46n {d : Nat} {l0 l1 l2 : Option Value} {st : List Value} {h : Hp} : ex (d) 125 46 [l0, l1, l2, some .null] st h = ex d 125 47 [l0, l1, l2, some .null] (.null :: st) h := (ex_of d125_46 (d) [l0, l1, l2, some .null] st h).trans (rfl)
theorem x125_46q {d : Nat} {l0 l1 l2 : Option Value} {st : List Value} {a : Option Nat} {h : Hp} : ex (d) 125 46 [l0, l1, l2, some (va_rf a)] st h = ex d 125 47 [l0, l1, l2, some (va_rf a)] (va_rf a :: st) h := (ex_of d125_46 (d) [l0, l1, l2, some (va_rf a)] st h).trans (by cases a <;> rfl)
theorem d125_47 : decode (mB 125) 47 = .ok (.getfield 115, 3) := by decide +kernel
theorem x125_47 {d : Nat} {L : Lc} {st : List Value} {a : Nat} {h : Hp} (ht : isTh (h.2.1 a).1 = true) : ex (d) 125 47 L (.ref a :: st) h = ex d 125 50 L (h.1 a 1 :: st) h := (ex_of d125_47 (d) L (.ref a :: st) h).trans (fin_get (mi := 125) f10_115 ht)
theorem d125_50 : decode (mB 125) 50 = .ok (.invokestatic 412, 3) := by decide +kernel
theorem x125_50 {d : Nat} {L : Lc} {s0 : Value}  {v0 : Int32} {h : Hp} : ex (d + 1) 125 50 L (.int v0 :: [s0]) h = bnd (ex d 126 0 [some (.int v0)] [] h) (fun v h' => ex (d + 1) 125 53 L (v.toList ++ [s0]) h') := (ex_of d125_50 (d + 1) L (.int v0 :: [s0]) h).trans (fin_st (mi := 125) i10_412 (Or.inl rfl) (by simp) (by simp [cat1_i, cat1_r]) (by simp) (Nat.le_of_ble_eq_true rfl))
theorem d125_53 : decode (mB 125) 53 = .ok (.iadd, 1) := by decide +kernel
theorem x125_53 {d : Nat} {L : Lc} {st : List Value} {x y : Int32} {h : Hp} : ex (d) 125 53 L (.int y :: .int x :: st) h = ex d 125 54 L (.int (x + y) :: st) h := (ex_of d125_53 (d) L (.int y :: .int x :: st) h).trans (rfl)
theorem d125_54 : decode (mB 125) 54 = .ok (.istore_n 1, 1) := by decide +kernel
theorem x125_54 {d : Nat} {l0 l1 l2 l3 : Option Value} {st : List Value} {x : Int32} {h : Hp} : ex (d) 125 54 [l0, l1, l2, l3] (.int x :: st) h = ex d 125 55 [clr l0, some (.int x), l2, l3] st h := (ex_of d125_54 (d) [l0, l1, l2, l3] (.int x :: st) h).trans (rfl)
theorem d125_55 : decode (mB 125) 55 = .ok (.iinc 2 1, 3) := by decide +kernel
theorem x125_55 {d : Nat} {l0 l1 l3 : Option Value} {st : List Value} {x : Int32} {h : Hp} : ex (d) 125 55 [l0, l1, some (.int x), l3] st h = ex d 125 58 [l0, clr l1, some (.int (x + (nI 1))), l3] st h := (ex_of d125_55 (d) [l0, l1, some (.int x), l3] st h).trans (rfl)
theorem d125_58 : decode (mB 125) 58 = .ok (.goto (-39), 3) := by decide +kernel
theorem x125_58 {d : Nat} {L : Lc} {st : List Value} {h : Hp} : ex (d) 125 58 L st h = ex d 125 19 L st h := (ex_of d125_58 (d) L st h).trans (rfl)
theorem d125_61 : decode (mB 125) 61 = .ok (.iload_n 1, 1) := by decide +kernel
theorem x125_61 {d : Nat} {l0 l2 l3 : Option Value} {st : List Value} {x : Int32} {h : Hp} : ex (d) 125 61 [l0, some (.int x), l2, l3] st h = ex d 125 62 [l0, some (.int x), l2, l3] (.int x :: st) h := (ex_of d125_61 (d) [l0, some (.int x), l2, l3] st h).trans (rfl)
theorem d125_62 : decode (mB 125) 62 = .ok (.ireturn, 1) := by decide +kernel
theorem x125_62 {d : Nat} {L : Lc} {x : Int32} {h : Hp} : ex (d) 125 62 L [.int x] h = some (some (.int x), h) := (ex_of d125_62 (d) L [.int x] h).trans (rfl)
theorem d126_0 : decode (mB 126) 0 = .ok (.iload_n 0, 1) := by decide +kernel
theorem x126_0 {d : Nat} {st : List Value} {x : Int32} {h : Hp} : ex (d) 126 0 [some (.int x)] st h = ex d 126 1 [some (.int x)] (.int x :: st) h := (ex_of d126_0 (d) [some (.int x)] st h).trans (rfl)
theorem d126_1 : decode (mB 126) 1 = .ok (.lookupswitch 32 #[(1, 27), (2, 29)], 27) := by decide +kernel
theorem x126_1 {d : Nat} {L : Lc} {st : List Value} {x : Int32} {h : Hp} : ex (d) 126 1 L (.int x :: st) h = if x = (nI 1) then ex d 126 28 L st h else if x = (nI 2) then ex d 126 30 L st h else ex d 126 33 L st h := by
  refine (ex_of d126_1 _ _ _ _).trans ?_
  simp only [stp]
  rw [if_pos (by decide +kernel)]
  simp only [swq]
  (repeat' split) <;> first | rfl | (simp_all [nI] <;> contradiction)
theorem d126_28 : decode (mB 126) 28 = .ok (.iconst 1, 1) := by decide +kernel
theorem x126_28 {d : Nat} {L : Lc} {st : List Value} {h : Hp} : ex (d) 126 28 L st h = ex d 126 29 L (.int (nI 1) :: st) h := (ex_of d126_28 (d) L st h).trans (rfl)
theorem d126_29 : decode (mB 126) 29 = .ok (.ireturn, 1) := by decide +kernel
theorem x126_29 {d : Nat} {L : Lc} {x : Int32} {h : Hp} : ex (d) 126 29 L [.int x] h = some (some (.int x), h) := (ex_of d126_29 (d) L [.int x] h).trans (rfl)
theorem d126_30 : decode (mB 126) 30 = .ok (.bipush 6, 2) := by decide +kernel
theorem x126_30 {d : Nat} {L : Lc} {st : List Value} {h : Hp} : ex (d) 126 30 L st h = ex d 126 32 L (.int (nI 6) :: st) h := (ex_of d126_30 (d) L st h).trans (rfl)
theorem d126_32 : decode (mB 126) 32 = .ok (.ireturn, 1) := by decide +kernel
theorem x126_32 {d : Nat} {L : Lc} {x : Int32} {h : Hp} : ex (d) 126 32 L [.int x] h = some (some (.int x), h) := (ex_of d126_32 (d) L [.int x] h).trans (rfl)
theorem d126_33 : decode (mB 126) 33 = .ok (.iconst 3, 1) := by decide +kernel
theorem x126_33 {d : Nat} {L : Lc} {st : List Value} {h : Hp} : ex (d) 126 33 L st h = ex d 126 34 L (.int (nI 3) :: st) h := (ex_of d126_33 (d) L st h).trans (rfl)
theorem d126_34 : decode (mB 126) 34 = .ok (.ireturn, 1) := by decide +kernel
theorem x126_34 {d : Nat} {L : Lc} {x : Int32} {h : Hp} : ex (d) 126 34 L [.int x] h = some (some (.int x), h) := (ex_of d126_34 (d) L [.int x] h).trans (rfl)
theorem d127_0 : decode (mB 127) 0 = .ok (.iconst 0, 1) := by decide +kernel
theorem x127_0 {d : Nat} {L : Lc} {st : List Value} {h : Hp} : ex (d) 127 0 L st h = ex d 127 1 L (.int (nI 0) :: st) h := (ex_of d127_0 (d) L st h).trans (rfl)
theorem d127_1 : decode (mB 127) 1 = .ok (.istore_n 1, 1) := by decide +kernel
theorem x127_1 {d : Nat} {l0 l1 l2 l3 : Option Value} {st : List Value} {x : Int32} {h : Hp} : ex (d) 127 1 [l0, l1, l2, l3] (.int x :: st) h = ex d 127 2 [clr l0, some (.int x), l2, l3] st h := (ex_of d127_1 (d) [l0, l1, l2, l3] (.int x :: st) h).trans (rfl)
theorem d127_2 : decode (mB 127) 2 = .ok (.aload_n 0, 1) := by decide +kernel
theorem x127_2 {d : Nat} {l1 l2 l3 : Option Value} {st : List Value} {a : Nat} {h : Hp} : ex (d) 127 2 [some (.ref a), l1, l2, l3] st h = ex d 127 3 [some (.ref a), l1, l2, l3] (.ref a :: st) h := (ex_of d127_2 (d) [some (.ref a), l1, l2, l3] st h).trans (rfl)
theorem x127_2n {d : Nat} {l1 l2 l3 : Option Value} {st : List Value} {h : Hp} : ex (d) 127 2 [some .null, l1, l2, l3] st h = ex d 127 3 [some .null, l1, l2, l3] (.null :: st) h := (ex_of d127_2 (d) [some .null, l1, l2, l3] st h).trans (rfl)
theorem x127_2q {d : Nat} {l1 l2 l3 : Option Value} {st : List Value} {a : Option Nat} {h : Hp} : ex (d) 127 2 [some (va_rf a), l1, l2, l3] st h = ex d 127 3 [some (va_rf a), l1, l2, l3] (va_rf a :: st) h := (ex_of d127_2 (d) [some (va_rf a), l1, l2, l3] st h).trans (by cases a <;> rfl)
theorem d127_3 : decode (mB 127) 3 = .ok (.getfield 320, 3) := by decide +kernel
theorem x127_3 {d : Nat} {L : Lc} {st : List Value} {a : Nat} {h : Hp} (ht : isTh (h.2.1 a).1 = true) : ex (d) 127 3 L (.ref a :: st) h = ex d 127 6 L (h.1 a 5 :: st) h := (ex_of d127_3 (d) L (.ref a :: st) h).trans (fin_get (mi := 127) f10_320 ht)
theorem d127_6 : decode (mB 127) 6 = .ok (.ifnull 57, 3) := by decide +kernel
theorem x127_6n {d : Nat} {L : Lc} {st : List Value} {h : Hp} : ex (d) 127 6 L (.null :: st) h = ex d 127 63 L st h := (ex_of d127_6 (d) L (.null :: st) h).trans (rfl)
theorem x127_6 {d : Nat} {L : Lc} {st : List Value} {a : Nat} {h : Hp} : ex (d) 127 6 L (.ref a :: st) h = ex d 127 9 L st h := (ex_of d127_6 (d) L (.ref a :: st) h).trans (rfl)
theorem d127_9 : decode (mB 127) 9 = .ok (.iconst 0, 1) := by decide +kernel
theorem x127_9 {d : Nat} {L : Lc} {st : List Value} {h : Hp} : ex (d) 127 9 L st h = ex d 127 10 L (.int (nI 0) :: st) h := (ex_of d127_9 (d) L st h).trans (rfl)
theorem d127_10 : decode (mB 127) 10 = .ok (.istore_n 2, 1) := by decide +kernel
theorem x127_10 {d : Nat} {l0 l1 l2 l3 : Option Value} {st : List Value} {x : Int32} {h : Hp} : ex (d) 127 10 [l0, l1, l2, l3] (.int x :: st) h = ex d 127 11 [l0, clr l1, some (.int x), l3] st h := (ex_of d127_10 (d) [l0, l1, l2, l3] (.int x :: st) h).trans (rfl)
theorem d127_11 : decode (mB 127) 11 = .ok (.iload_n 2, 1) := by decide +kernel
theorem x127_11 {d : Nat} {l0 l1 l3 : Option Value} {st : List Value} {x : Int32} {h : Hp} : ex (d) 127 11 [l0, l1, some (.int x), l3] st h = ex d 127 12 [l0, l1, some (.int x), l3] (.int x :: st) h := (ex_of d127_11 (d) [l0, l1, some (.int x), l3] st h).trans (rfl)
theorem d127_12 : decode (mB 127) 12 = .ok (.aload_n 0, 1) := by decide +kernel
theorem x127_12 {d : Nat} {l1 l2 l3 : Option Value} {st : List Value} {a : Nat} {h : Hp} : ex (d) 127 12 [some (.ref a), l1, l2, l3] st h = ex d 127 13 [some (.ref a), l1, l2, l3] (.ref a :: st) h := (ex_of d127_12 (d) [some (.ref a), l1, l2, l3] st h).trans (rfl)
theorem x127_12n {d : Nat} {l1 l2 l3 : Option Value} {st : List Value} {h : Hp} : ex (d) 127 12 [some .null, l1, l2, l3] st h = ex d 127 13 [some .null, l1, l2, l3] (.null :: st) h := (ex_of d127_12 (d) [some .null, l1, l2, l3] st h).trans (rfl)
theorem x127_12q {d : Nat} {l1 l2 l3 : Option Value} {st : List Value} {a : Option Nat} {h : Hp} : ex (d) 127 12 [some (va_rf a), l1, l2, l3] st h = ex d 127 13 [some (va_rf a), l1, l2, l3] (va_rf a :: st) h := (ex_of d127_12 (d) [some (va_rf a), l1, l2, l3] st h).trans (by cases a <;> rfl)
theorem d127_13 : decode (mB 127) 13 = .ok (.getfield 320, 3) := by decide +kernel
theorem x127_13 {d : Nat} {L : Lc} {st : List Value} {a : Nat} {h : Hp} (ht : isTh (h.2.1 a).1 = true) : ex (d) 127 13 L (.ref a :: st) h = ex d 127 16 L (h.1 a 5 :: st) h := (ex_of d127_13 (d) L (.ref a :: st) h).trans (fin_get (mi := 127) f10_320 ht)
theorem d127_16 : decode (mB 127) 16 = .ok (.getfield 351, 3) := by decide +kernel
theorem x127_16 {d : Nat} {L : Lc} {st : List Value} {a : Nat} {h : Hp} (ht : (h.2.1 a).1 = 3) : ex (d) 127 16 L (.ref a :: st) h = ex d 127 19 L (h.1 a 2 :: st) h := (ex_of d127_16 (d) L (.ref a :: st) h).trans (fin_get (mi := 127) f10_351 (tg1 ht rfl))
theorem d127_19 : decode (mB 127) 19 = .ok (.arraylength, 1) := by decide +kernel
theorem x127_19 {d : Nat} {L : Lc} {st : List Value} {a : Nat} {h : Hp} (ht : 20 ≤ (h.2.1 a).1 ∧ (h.2.1 a).1 ≤ 30) : ex (d) 127 19 L (.ref a :: st) h = ex d 127 20 L (.int (nI (h.2.1 a).2) :: st) h := (ex_of d127_19 (d) L (.ref a :: st) h).trans (fin_alen ht)
theorem d127_20 : decode (mB 127) 20 = .ok (.if_icmp .ge 43, 3) := by decide +kernel
theorem x127_20 {d : Nat} {L : Lc} {st : List Value} {x y : Int32} {h : Hp} : ex (d) 127 20 L (.int y :: .int x :: st) h = if y ≤ x then ex d 127 63 L st h else ex d 127 23 L st h := (ex_of d127_20 (d) L (.int y :: .int x :: st) h).trans (fin_brq (off := 43) (tgt := 63) rfl (by decide))
theorem d127_23 : decode (mB 127) 23 = .ok (.aload_n 0, 1) := by decide +kernel
theorem x127_23 {d : Nat} {l1 l2 l3 : Option Value} {st : List Value} {a : Nat} {h : Hp} : ex (d) 127 23 [some (.ref a), l1, l2, l3] st h = ex d 127 24 [some (.ref a), l1, l2, l3] (.ref a :: st) h := (ex_of d127_23 (d) [some (.ref a), l1, l2, l3] st h).trans (rfl)
theorem x127_23n {d : Nat} {l1 l2 l3 : Option Value} {st : List Value} {h : Hp} : ex (d) 127 23 [some .null, l1, l2, l3] st h = ex d 127 24 [some .null, l1, l2, l3] (.null :: st) h := (ex_of d127_23 (d) [some .null, l1, l2, l3] st h).trans (rfl)
theorem x127_23q {d : Nat} {l1 l2 l3 : Option Value} {st : List Value} {a : Option Nat} {h : Hp} : ex (d) 127 23 [some (va_rf a), l1, l2, l3] st h = ex d 127 24 [some (va_rf a), l1, l2, l3] (va_rf a :: st) h := (ex_of d127_23 (d) [some (va_rf a), l1, l2, l3] st h).trans (by cases a <;> rfl)
theorem d127_24 : decode (mB 127) 24 = .ok (.getfield 320, 3) := by decide +kernel
theorem x127_24 {d : Nat} {L : Lc} {st : List Value} {a : Nat} {h : Hp} (ht : isTh (h.2.1 a).1 = true) : ex (d) 127 24 L (.ref a :: st) h = ex d 127 27 L (h.1 a 5 :: st) h := (ex_of d127_24 (d) L (.ref a :: st) h).trans (fin_get (mi := 127) f10_320 ht)
theorem d127_27 : decode (mB 127) 27 = .ok (.getfield 351, 3) := by decide +kernel
theorem x127_27 {d : Nat} {L : Lc} {st : List Value} {a : Nat} {h : Hp} (ht : (h.2.1 a).1 = 3) : ex (d) 127 27 L (.ref a :: st) h = ex d 127 30 L (h.1 a 2 :: st) h := (ex_of d127_27 (d) L (.ref a :: st) h).trans (fin_get (mi := 127) f10_351 (tg1 ht rfl))
theorem d127_30 : decode (mB 127) 30 = .ok (.iload_n 2, 1) := by decide +kernel
theorem x127_30 {d : Nat} {l0 l1 l3 : Option Value} {st : List Value} {x : Int32} {h : Hp} : ex (d) 127 30 [l0, l1, some (.int x), l3] st h = ex d 127 31 [l0, l1, some (.int x), l3] (.int x :: st) h := (ex_of d127_30 (d) [l0, l1, some (.int x), l3] st h).trans (rfl)
theorem d127_31 : decode (mB 127) 31 = .ok (.aaload, 1) := by decide +kernel
theorem x127_31 {d : Nat} {L : Lc} {st : List Value} {a j : Nat} {h : Hp} (ht : 21 ≤ (h.2.1 a).1 ∧ (h.2.1 a).1 ≤ 26) (hj : j < (h.2.1 a).2) (hb : j < 2147483648) : ex (d) 127 31 L (.int (nI j) :: .ref a :: st) h = ex d 127 32 L (h.1 a j :: st) h := (ex_of d127_31 (d) L (.int (nI j) :: .ref a :: st) h).trans (fin_aaload ht hj hb)
theorem d127_32 : decode (mB 127) 32 = .ok (.astore_n 3, 1) := by decide +kernel
theorem x127_32 {d : Nat} {l0 l1 l2 l3 : Option Value} {st : List Value} {a : Nat} {h : Hp} : ex (d) 127 32 [l0, l1, l2, l3] (.ref a :: st) h = ex d 127 33 [l0, l1, clr l2, some (.ref a)] st h := (ex_of d127_32 (d) [l0, l1, l2, l3] (.ref a :: st) h).trans (rfl)
theorem x127_32n {d : Nat} {l0 l1 l2 l3 : Option Value} {st : List Value} {h : Hp} : ex (d) 127 32 [l0, l1, l2, l3] (.null :: st) h = ex d 127 33 [l0, l1, clr l2, some .null] st h := (ex_of d127_32 (d) [l0, l1, l2, l3] (.null :: st) h).trans (rfl)
theorem x127_32q {d : Nat} {l0 l1 l2 l3 : Option Value} {st : List Value} {a : Option Nat} {h : Hp} : ex (d) 127 32 [l0, l1, l2, l3] (va_rf a :: st) h = ex d 127 33 [l0, l1, clr l2, some (va_rf a)] st h := (ex_of d127_32 (d) [l0, l1, l2, l3] (va_rf a :: st) h).trans (by cases a <;> rfl)
theorem d127_33 : decode (mB 127) 33 = .ok (.aload_n 3, 1) := by decide +kernel
theorem x127_33 {d : Nat} {l0 l1 l2 : Option Value} {st : List Value} {a : Nat} {h : Hp} : ex (d) 127 33 [l0, l1, l2, some (.ref a)] st h = ex d 127 34 [l0, l1, l2, some (.ref a)] (.ref a :: st) h := (ex_of d127_33 (d) [l0, l1, l2, some (.ref a)] st h).trans (rfl)
theorem x127_33n {d : Nat} {l0 l1 l2 : Option Value} {st : List Value} {h : Hp} : ex (d) 127 33 [l0, l1, l2, some .null] st h = ex d 127 34 [l0, l1, l2, some .null] (.null :: st) h := (ex_of d127_33 (d) [l0, l1, l2, some .null] st h).trans (rfl)
theorem x127_33q {d : Nat} {l0 l1 l2 : Option Value} {st : List Value} {a : Option Nat} {h : Hp} : ex (d) 127 33 [l0, l1, l2, some (va_rf a)] st h = ex d 127 34 [l0, l1, l2, some (va_rf a)] (va_rf a :: st) h := (ex_of d127_33 (d) [l0, l1, l2, some (va_rf a)] st h).trans (by cases a <;> rfl)
theorem d127_34 : decode (mB 127) 34 = .ok (.ifnull 23, 3) := by decide +kernel
theorem x127_34n {d : Nat} {L : Lc} {st : List Value} {h : Hp} : ex (d) 127 34 L (.null :: st) h = ex d 127 57 L st h := (ex_of d127_34 (d) L (.null :: st) h).trans (rfl)
theorem x127_34 {d : Nat} {L : Lc} {st : List Value} {a : Nat} {h : Hp} : ex (d) 127 34 L (.ref a :: st) h = ex d 127 37 L st h := (ex_of d127_34 (d) L (.ref a :: st) h).trans (rfl)
theorem d127_37 : decode (mB 127) 37 = .ok (.aload_n 3, 1) := by decide +kernel
theorem x127_37 {d : Nat} {l0 l1 l2 : Option Value} {st : List Value} {a : Nat} {h : Hp} : ex (d) 127 37 [l0, l1, l2, some (.ref a)] st h = ex d 127 38 [l0, l1, l2, some (.ref a)] (.ref a :: st) h := (ex_of d127_37 (d) [l0, l1, l2, some (.ref a)] st h).trans (rfl)
theorem x127_37n {d : Nat} {l0 l1 l2 : Option Value} {st : List Value} {h : Hp} : ex (d) 127 37 [l0, l1, l2, some .null] st h = ex d 127 38 [l0, l1, l2, some .null] (.null :: st) h := (ex_of d127_37 (d) [l0, l1, l2, some .null] st h).trans (rfl)
theorem x127_37q {d : Nat} {l0 l1 l2 : Option Value} {st : List Value} {a : Option Nat} {h : Hp} : ex (d) 127 37 [l0, l1, l2, some (va_rf a)] st h = ex d 127 38 [l0, l1, l2, some (va_rf a)] (va_rf a :: st) h := (ex_of d127_37 (d) [l0, l1, l2, some (va_rf a)] st h).trans (by cases a <;> rfl)
theorem d127_38 : decode (mB 127) 38 = .ok (.getfield 115, 3) := by decide +kernel
theorem x127_38 {d : Nat} {L : Lc} {st : List Value} {a : Nat} {h : Hp} (ht : isTh (h.2.1 a).1 = true) : ex (d) 127 38 L (.ref a :: st) h = ex d 127 41 L (h.1 a 1 :: st) h := (ex_of d127_38 (d) L (.ref a :: st) h).trans (fin_get (mi := 127) f10_115 ht)
theorem d127_41 : decode (mB 127) 41 = .ok (.iconst 3, 1) := by decide +kernel
theorem x127_41 {d : Nat} {L : Lc} {st : List Value} {h : Hp} : ex (d) 127 41 L st h = ex d 127 42 L (.int (nI 3) :: st) h := (ex_of d127_41 (d) L st h).trans (rfl)
theorem d127_42 : decode (mB 127) 42 = .ok (.if_icmp .eq 15, 3) := by decide +kernel
theorem x127_42 {d : Nat} {L : Lc} {st : List Value} {x y : Int32} {h : Hp} : ex (d) 127 42 L (.int y :: .int x :: st) h = if x = y then ex d 127 57 L st h else ex d 127 45 L st h := (ex_of d127_42 (d) L (.int y :: .int x :: st) h).trans (fin_brq (off := 15) (tgt := 57) rfl (by decide))
theorem d127_45 : decode (mB 127) 45 = .ok (.iload_n 1, 1) := by decide +kernel
theorem x127_45 {d : Nat} {l0 l2 l3 : Option Value} {st : List Value} {x : Int32} {h : Hp} : ex (d) 127 45 [l0, some (.int x), l2, l3] st h = ex d 127 46 [l0, some (.int x), l2, l3] (.int x :: st) h := (ex_of d127_45 (d) [l0, some (.int x), l2, l3] st h).trans (rfl)
theorem d127_46 : decode (mB 127) 46 = .ok (.aload_n 3, 1) := by decide +kernel
theorem x127_46 {d : Nat} {l0 l1 l2 : Option Value} {st : List Value} {a : Nat} {h : Hp} : ex (d) 127 46 [l0, l1, l2, some (.ref a)] st h = ex d 127 47 [l0, l1, l2, some (.ref a)] (.ref a :: st) h := (ex_of d127_46 (d) [l0, l1, l2, some (.ref a)] st h).trans (rfl)
theorem x127_46n {d : Nat} {l0 l1 l2 : Option Value} {st : List Value} {h : Hp} : ex (d) 127 46 [l0, l1, l2, some .null] st h = ex d 127 47 [l0, l1, l2, some .null] (.null :: st) h := (ex_of d127_46 (d) [l0, l1, l2, some .null] st h).trans (rfl)
theorem x127_46q {d : Nat} {l0 l1 l2 : Option Value} {st : List Value} {a : Option Nat} {h : Hp} : ex (d) 127 46 [l0, l1, l2, some (va_rf a)] st h = ex d 127 47 [l0, l1, l2, some (va_rf a)] (va_rf a :: st) h := (ex_of d127_46 (d) [l0, l1, l2, some (va_rf a)] st h).trans (by cases a <;> rfl)
theorem d127_47 : decode (mB 127) 47 = .ok (.getfield 115, 3) := by decide +kernel
theorem x127_47 {d : Nat} {L : Lc} {st : List Value} {a : Nat} {h : Hp} (ht : isTh (h.2.1 a).1 = true) : ex (d) 127 47 L (.ref a :: st) h = ex d 127 50 L (h.1 a 1 :: st) h := (ex_of d127_47 (d) L (.ref a :: st) h).trans (fin_get (mi := 127) f10_115 ht)
theorem d127_50 : decode (mB 127) 50 = .ok (.invokestatic 221, 3) := by decide +kernel
theorem x127_50 {d : Nat} {L : Lc} {s0 : Value}  {v0 : Int32} {h : Hp} : ex (d + 1) 127 50 L (.int v0 :: [s0]) h = bnd (ex d 128 0 [some (.int v0)] [] h) (fun v h' => ex (d + 1) 127 53 L (v.toList ++ [s0]) h') := (ex_of d127_50 (d + 1) L (.int v0 :: [s0]) h).trans (fin_st (mi := 127) i10_221 (Or.inl rfl) (by simp) (by simp [cat1_i, cat1_r]) (by simp) (Nat.le_of_ble_eq_true rfl))
theorem d127_53 : decode (mB 127) 53 = .ok (.invokestatic 386, 3) := by decide +kernel
theorem x127_53 {d : Nat} {L : Lc} {x y : Int32} {h : Hp} : ex (d) 127 53 L (.int y :: .int x :: []) h = ex d 127 56 L (.int (if x < y then y else x) :: []) h := (ex_of d127_53 (d) L (.int y :: .int x :: []) h).trans (fin_max (mi := 127) i10_386 (by simp))
theorem d127_56 : decode (mB 127) 56 = .ok (.istore_n 1, 1) := by decide +kernel
theorem x127_56 {d : Nat} {l0 l1 l2 l3 : Option Value} {st : List Value} {x : Int32} {h : Hp} : ex (d) 127 56 [l0, l1, l2, l3] (.int x :: st) h = ex d 127 57 [clr l0, some (.int x), l2, l3] st h := (ex_of d127_56 (d) [l0, l1, l2, l3] (.int x :: st) h).trans (rfl)
theorem d127_57 : decode (mB 127) 57 = .ok (.iinc 2 1, 3) := by decide +kernel
theorem x127_57 {d : Nat} {l0 l1 l3 : Option Value} {st : List Value} {x : Int32} {h : Hp} : ex (d) 127 57 [l0, l1, some (.int x), l3] st h = ex d 127 60 [l0, clr l1, some (.int (x + (nI 1))), l3] st h := (ex_of d127_57 (d) [l0, l1, some (.int x), l3] st h).trans (rfl)
theorem d127_60 : decode (mB 127) 60 = .ok (.goto (-49), 3) := by decide +kernel
theorem x127_60 {d : Nat} {L : Lc} {st : List Value} {h : Hp} : ex (d) 127 60 L st h = ex d 127 11 L st h := (ex_of d127_60 (d) L st h).trans (rfl)
theorem d127_63 : decode (mB 127) 63 = .ok (.iload_n 1, 1) := by decide +kernel
theorem x127_63 {d : Nat} {l0 l2 l3 : Option Value} {st : List Value} {x : Int32} {h : Hp} : ex (d) 127 63 [l0, some (.int x), l2, l3] st h = ex d 127 64 [l0, some (.int x), l2, l3] (.int x :: st) h := (ex_of d127_63 (d) [l0, some (.int x), l2, l3] st h).trans (rfl)
theorem d127_64 : decode (mB 127) 64 = .ok (.iconst 1, 1) := by decide +kernel
theorem x127_64 {d : Nat} {L : Lc} {st : List Value} {h : Hp} : ex (d) 127 64 L st h = ex d 127 65 L (.int (nI 1) :: st) h := (ex_of d127_64 (d) L st h).trans (rfl)
theorem d127_65 : decode (mB 127) 65 = .ok (.iadd, 1) := by decide +kernel
theorem x127_65 {d : Nat} {L : Lc} {st : List Value} {x y : Int32} {h : Hp} : ex (d) 127 65 L (.int y :: .int x :: st) h = ex d 127 66 L (.int (x + y) :: st) h := (ex_of d127_65 (d) L (.int y :: .int x :: st) h).trans (rfl)
theorem d127_66 : decode (mB 127) 66 = .ok (.ireturn, 1) := by decide +kernel
theorem x127_66 {d : Nat} {L : Lc} {x : Int32} {h : Hp} : ex (d) 127 66 L [.int x] h = some (some (.int x), h) := (ex_of d127_66 (d) L [.int x] h).trans (rfl)
theorem d128_0 : decode (mB 128) 0 = .ok (.iload_n 0, 1) := by decide +kernel
theorem x128_0 {d : Nat} {st : List Value} {x : Int32} {h : Hp} : ex (d) 128 0 [some (.int x)] st h = ex d 128 1 [some (.int x)] (.int x :: st) h := (ex_of d128_0 (d) [some (.int x)] st h).trans (rfl)
theorem d128_1 : decode (mB 128) 1 = .ok (.lookupswitch 32 #[(1, 27), (2, 29)], 27) := by decide +kernel
theorem x128_1 {d : Nat} {L : Lc} {st : List Value} {x : Int32} {h : Hp} : ex (d) 128 1 L (.int x :: st) h = if x = (nI 1) then ex d 128 28 L st h else if x = (nI 2) then ex d 128 30 L st h else ex d 128 33 L st h := by
  refine (ex_of d128_1 _ _ _ _).trans ?_
  simp only [stp]
  rw [if_pos (by decide +kernel)]
  simp only [swq]
  (repeat' split) <;> first | rfl | (simp_all [nI] <;> contradiction)
theorem d128_28 : decode (mB 128) 28 = .ok (.iconst 5, 1) := by decide +kernel
theorem x128_28 {d : Nat} {L : Lc} {st : List Value} {h : Hp} : ex (d) 128 28 L st h = ex d 128 29 L (.int (nI 5) :: st) h := (ex_of d128_28 (d) L st h).trans (rfl)
theorem d128_29 : decode (mB 128) 29 = .ok (.ireturn, 1) := by decide +kernel
theorem x128_29 {d : Nat} {L : Lc} {x : Int32} {h : Hp} : ex (d) 128 29 L [.int x] h = some (some (.int x), h) := (ex_of d128_29 (d) L [.int x] h).trans (rfl)
theorem d128_30 : decode (mB 128) 30 = .ok (.bipush 6, 2) := by decide +kernel
theorem x128_30 {d : Nat} {L : Lc} {st : List Value} {h : Hp} : ex (d) 128 30 L st h = ex d 128 32 L (.int (nI 6) :: st) h := (ex_of d128_30 (d) L st h).trans (rfl)
theorem d128_32 : decode (mB 128) 32 = .ok (.ireturn, 1) := by decide +kernel
theorem x128_32 {d : Nat} {L : Lc} {x : Int32} {h : Hp} : ex (d) 128 32 L [.int x] h = some (some (.int x), h) := (ex_of d128_32 (d) L [.int x] h).trans (rfl)
theorem d128_33 : decode (mB 128) 33 = .ok (.iconst 2, 1) := by decide +kernel
theorem x128_33 {d : Nat} {L : Lc} {st : List Value} {h : Hp} : ex (d) 128 33 L st h = ex d 128 34 L (.int (nI 2) :: st) h := (ex_of d128_33 (d) L st h).trans (rfl)
theorem d128_34 : decode (mB 128) 34 = .ok (.ireturn, 1) := by decide +kernel
theorem x128_34 {d : Nat} {L : Lc} {x : Int32} {h : Hp} : ex (d) 128 34 L [.int x] h = some (some (.int x), h) := (ex_of d128_34 (d) L [.int x] h).trans (rfl)
theorem d129_0 : decode (mB 129) 0 = .ok (.aload_n 1, 1) := by decide +kernel
theorem x129_0 {d : Nat} {l0 l2 l3 l4 l5 l6 l7 l8 : Option Value} {st : List Value} {a : Nat} {h : Hp} : ex (d) 129 0 [l0, some (.ref a), l2, l3, l4, l5, l6, l7, l8] st h = ex d 129 1 [l0, some (.ref a), l2, l3, l4, l5, l6, l7, l8] (.ref a :: st) h := (ex_of d129_0 (d) [l0, some (.ref a), l2, l3, l4, l5, l6, l7, l8] st h).trans (rfl)
theorem x129_0n {d : Nat} {l0 l2 l3 l4 l5 l6 l7 l8 : Option Value} {st : List Value} {h : Hp} : ex (d) 129 0 [l0, some .null, l2, l3, l4, l5, l6, l7, l8] st h = ex d 129 1 [l0, some .null, l2, l3, l4, l5, l6, l7, l8] (.null :: st) h := (ex_of d129_0 (d) [l0, some .null, l2, l3, l4, l5, l6, l7, l8] st h).trans (rfl)
theorem x129_0q {d : Nat} {l0 l2 l3 l4 l5 l6 l7 l8 : Option Value} {st : List Value} {a : Option Nat} {h : Hp} : ex (d) 129 0 [l0, some (va_rf a), l2, l3, l4, l5, l6, l7, l8] st h = ex d 129 1 [l0, some (va_rf a), l2, l3, l4, l5, l6, l7, l8] (va_rf a :: st) h := (ex_of d129_0 (d) [l0, some (va_rf a), l2, l3, l4, l5, l6, l7, l8] st h).trans (by cases a <;> rfl)
theorem d129_1 : decode (mB 129) 1 = .ok (.ifnull 10, 3) := by decide +kernel
theorem x129_1n {d : Nat} {L : Lc} {st : List Value} {h : Hp} : ex (d) 129 1 L (.null :: st) h = ex d 129 11 L st h := (ex_of d129_1 (d) L (.null :: st) h).trans (rfl)
theorem x129_1 {d : Nat} {L : Lc} {st : List Value} {a : Nat} {h : Hp} : ex (d) 129 1 L (.ref a :: st) h = ex d 129 4 L st h := (ex_of d129_1 (d) L (.ref a :: st) h).trans (rfl)
theorem d129_4 : decode (mB 129) 4 = .ok (.iload 4, 2) := by decide +kernel
theorem x129_4 {d : Nat} {l0 l1 l2 l3 l5 l6 l7 l8 : Option Value} {st : List Value} {x : Int32} {h : Hp} : ex (d) 129 4 [l0, l1, l2, l3, some (.int x), l5, l6, l7, l8] st h = ex d 129 6 [l0, l1, l2, l3, some (.int x), l5, l6, l7, l8] (.int x :: st) h := (ex_of d129_4 (d) [l0, l1, l2, l3, some (.int x), l5, l6, l7, l8] st h).trans (rfl)
theorem d129_6 : decode (mB 129) 6 = .ok (.bipush 8, 2) := by decide +kernel
theorem x129_6 {d : Nat} {L : Lc} {st : List Value} {h : Hp} : ex (d) 129 6 L st h = ex d 129 8 L (.int (nI 8) :: st) h := (ex_of d129_6 (d) L st h).trans (rfl)
theorem d129_8 : decode (mB 129) 8 = .ok (.if_icmp .le 5, 3) := by decide +kernel
theorem x129_8 {d : Nat} {L : Lc} {st : List Value} {x y : Int32} {h : Hp} : ex (d) 129 8 L (.int y :: .int x :: st) h = if x ≤ y then ex d 129 13 L st h else ex d 129 11 L st h := (ex_of d129_8 (d) L (.int y :: .int x :: st) h).trans (fin_brq (off := 5) (tgt := 13) rfl (by decide))
theorem d129_11 : decode (mB 129) 11 = .ok (.aconst_null, 1) := by decide +kernel
theorem x129_11 {d : Nat} {L : Lc} {st : List Value} {h : Hp} : ex (d) 129 11 L st h = ex d 129 12 L (.null :: st) h := (ex_of d129_11 (d) L st h).trans (rfl)
theorem d129_12 : decode (mB 129) 12 = .ok (.areturn, 1) := by decide +kernel
theorem x129_12 {d : Nat} {L : Lc} {a : Nat} {h : Hp} : ex (d) 129 12 L [.ref a] h = some (some (.ref a), h) := (ex_of d129_12 (d) L [.ref a] h).trans (rfl)
theorem x129_12n {d : Nat} {L : Lc}  {h : Hp} : ex (d) 129 12 L [.null] h = some (some .null, h) := (ex_of d129_12 (d) L [.null] h).trans (rfl)
theorem x129_12q {d : Nat} {L : Lc} {a : Option Nat} {h : Hp} : ex (d) 129 12 L [va_rf a] h = some (some (va_rf a), h) := (ex_of d129_12 (d) L [va_rf a] h).trans (by cases a <;> rfl)
theorem d129_13 : decode (mB 129) 13 = .ok (.aload_n 0, 1) := by decide +kernel
theorem x129_13 {d : Nat} {l1 l2 l3 l4 l5 l6 l7 l8 : Option Value} {st : List Value} {a : Nat} {h : Hp} : ex (d) 129 13 [some (.ref a), l1, l2, l3, l4, l5, l6, l7, l8] st h = ex d 129 14 [some (.ref a), l1, l2, l3, l4, l5, l6, l7, l8] (.ref a :: st) h := (ex_of d129_13 (d) [some (.ref a), l1, l2, l3, l4, l5, l6, l7, l8] st h).trans (rfl)
theorem d129_14 : decode (mB 129) 14 = .ok (.invokevirtual 333, 3) := by decide +kernel
theorem x129_14 {d : Nat} {L : Lc} {a : Nat} {h : Hp} (ht : (h.2.1 a).1 = 10) : ex (d + 1) 129 14 L (.ref a :: []) h = bnd (ex d 100 0 [some (.ref a)] [] h) (fun v h' => ex (d + 1) 129 17 L (v.toList ++ []) h') := (ex_of d129_14 (d + 1) L (.ref a :: []) h).trans (fin_vi (mi := 129) i10_333 ht rfl rfl (by simp [cat1_i, cat1_r]) (by simp) (Nat.le_of_ble_eq_true rfl))
theorem d129_17 : decode (mB 129) 17 = .ok (.aconst_null, 1) := by decide +kernel
theorem x129_17 {d : Nat} {L : Lc} {st : List Value} {h : Hp} : ex (d) 129 17 L st h = ex d 129 18 L (.null :: st) h := (ex_of d129_17 (d) L st h).trans (rfl)
theorem d129_18 : decode (mB 129) 18 = .ok (.astore 5, 2) := by decide +kernel
theorem x129_18 {d : Nat} {l0 l1 l2 l3 l4 l5 l6 l7 l8 : Option Value} {st : List Value} {a : Nat} {h : Hp} : ex (d) 129 18 [l0, l1, l2, l3, l4, l5, l6, l7, l8] (.ref a :: st) h = ex d 129 20 [l0, l1, l2, l3, clr l4, some (.ref a), l6, l7, l8] st h := (ex_of d129_18 (d) [l0, l1, l2, l3, l4, l5, l6, l7, l8] (.ref a :: st) h).trans (rfl)
theorem x129_18n {d : Nat} {l0 l1 l2 l3 l4 l5 l6 l7 l8 : Option Value} {st : List Value} {h : Hp} : ex (d) 129 18 [l0, l1, l2, l3, l4, l5, l6, l7, l8] (.null :: st) h = ex d 129 20 [l0, l1, l2, l3, clr l4, some .null, l6, l7, l8] st h := (ex_of d129_18 (d) [l0, l1, l2, l3, l4, l5, l6, l7, l8] (.null :: st) h).trans (rfl)
theorem x129_18q {d : Nat} {l0 l1 l2 l3 l4 l5 l6 l7 l8 : Option Value} {st : List Value} {a : Option Nat} {h : Hp} : ex (d) 129 18 [l0, l1, l2, l3, l4, l5, l6, l7, l8] (va_rf a :: st) h = ex d 129 20 [l0, l1, l2, l3, clr l4, some (va_rf a), l6, l7, l8] st h := (ex_of d129_18 (d) [l0, l1, l2, l3, l4, l5, l6, l7, l8] (va_rf a :: st) h).trans (by cases a <;> rfl)
theorem d129_20 : decode (mB 129) 20 = .ok (.iconst 0, 1) := by decide +kernel
theorem x129_20 {d : Nat} {L : Lc} {st : List Value} {h : Hp} : ex (d) 129 20 L st h = ex d 129 21 L (.int (nI 0) :: st) h := (ex_of d129_20 (d) L st h).trans (rfl)
theorem d129_21 : decode (mB 129) 21 = .ok (.istore 6, 2) := by decide +kernel
theorem x129_21 {d : Nat} {l0 l1 l2 l3 l4 l5 l6 l7 l8 : Option Value} {st : List Value} {x : Int32} {h : Hp} : ex (d) 129 21 [l0, l1, l2, l3, l4, l5, l6, l7, l8] (.int x :: st) h = ex d 129 23 [l0, l1, l2, l3, l4, clr l5, some (.int x), l7, l8] st h := (ex_of d129_21 (d) [l0, l1, l2, l3, l4, l5, l6, l7, l8] (.int x :: st) h).trans (rfl)
theorem d129_23 : decode (mB 129) 23 = .ok (.iload 6, 2) := by decide +kernel
theorem x129_23 {d : Nat} {l0 l1 l2 l3 l4 l5 l7 l8 : Option Value} {st : List Value} {x : Int32} {h : Hp} : ex (d) 129 23 [l0, l1, l2, l3, l4, l5, some (.int x), l7, l8] st h = ex d 129 25 [l0, l1, l2, l3, l4, l5, some (.int x), l7, l8] (.int x :: st) h := (ex_of d129_23 (d) [l0, l1, l2, l3, l4, l5, some (.int x), l7, l8] st h).trans (rfl)
theorem d129_25 : decode (mB 129) 25 = .ok (.aload_n 1, 1) := by decide +kernel
theorem x129_25 {d : Nat} {l0 l2 l3 l4 l5 l6 l7 l8 : Option Value} {st : List Value} {a : Nat} {h : Hp} : ex (d) 129 25 [l0, some (.ref a), l2, l3, l4, l5, l6, l7, l8] st h = ex d 129 26 [l0, some (.ref a), l2, l3, l4, l5, l6, l7, l8] (.ref a :: st) h := (ex_of d129_25 (d) [l0, some (.ref a), l2, l3, l4, l5, l6, l7, l8] st h).trans (rfl)
theorem x129_25n {d : Nat} {l0 l2 l3 l4 l5 l6 l7 l8 : Option Value} {st : List Value} {h : Hp} : ex (d) 129 25 [l0, some .null, l2, l3, l4, l5, l6, l7, l8] st h = ex d 129 26 [l0, some .null, l2, l3, l4, l5, l6, l7, l8] (.null :: st) h := (ex_of d129_25 (d) [l0, some .null, l2, l3, l4, l5, l6, l7, l8] st h).trans (rfl)
theorem x129_25q {d : Nat} {l0 l2 l3 l4 l5 l6 l7 l8 : Option Value} {st : List Value} {a : Option Nat} {h : Hp} : ex (d) 129 25 [l0, some (va_rf a), l2, l3, l4, l5, l6, l7, l8] st h = ex d 129 26 [l0, some (va_rf a), l2, l3, l4, l5, l6, l7, l8] (va_rf a :: st) h := (ex_of d129_25 (d) [l0, some (va_rf a), l2, l3, l4, l5, l6, l7, l8] st h).trans (by cases a <;> rfl)
theorem d129_26 : decode (mB 129) 26 = .ok (.getfield 351, 3) := by decide +kernel
theorem x129_26 {d : Nat} {L : Lc} {st : List Value} {a : Nat} {h : Hp} (ht : (h.2.1 a).1 = 3) : ex (d) 129 26 L (.ref a :: st) h = ex d 129 29 L (h.1 a 2 :: st) h := (ex_of d129_26 (d) L (.ref a :: st) h).trans (fin_get (mi := 129) f10_351 (tg1 ht rfl))
theorem d129_29 : decode (mB 129) 29 = .ok (.arraylength, 1) := by decide +kernel
theorem x129_29 {d : Nat} {L : Lc} {st : List Value} {a : Nat} {h : Hp} (ht : 20 ≤ (h.2.1 a).1 ∧ (h.2.1 a).1 ≤ 30) : ex (d) 129 29 L (.ref a :: st) h = ex d 129 30 L (.int (nI (h.2.1 a).2) :: st) h := (ex_of d129_29 (d) L (.ref a :: st) h).trans (fin_alen ht)
theorem d129_30 : decode (mB 129) 30 = .ok (.if_icmp .ge 85, 3) := by decide +kernel
theorem x129_30 {d : Nat} {L : Lc} {st : List Value} {x y : Int32} {h : Hp} : ex (d) 129 30 L (.int y :: .int x :: st) h = if y ≤ x then ex d 129 115 L st h else ex d 129 33 L st h := (ex_of d129_30 (d) L (.int y :: .int x :: st) h).trans (fin_brq (off := 85) (tgt := 115) rfl (by decide))
theorem d129_33 : decode (mB 129) 33 = .ok (.aload 5, 2) := by decide +kernel
theorem x129_33 {d : Nat} {l0 l1 l2 l3 l4 l6 l7 l8 : Option Value} {st : List Value} {a : Nat} {h : Hp} : ex (d) 129 33 [l0, l1, l2, l3, l4, some (.ref a), l6, l7, l8] st h = ex d 129 35 [l0, l1, l2, l3, l4, some (.ref a), l6, l7, l8] (.ref a :: st) h := (ex_of d129_33 (d) [l0, l1, l2, l3, l4, some (.ref a), l6, l7, l8] st h).trans (rfl)
theorem x129_33n {d : Nat} {l0 l1 l2 l3 l4 l6 l7 l8 : Option Value} {st : List Value} {h : Hp} : ex (d) 129 33 [l0, l1, l2, l3, l4, some .null, l6, l7, l8] st h = ex d 129 35 [l0, l1, l2, l3, l4, some .null, l6, l7, l8] (.null :: st) h := (ex_of d129_33 (d) [l0, l1, l2, l3, l4, some .null, l6, l7, l8] st h).trans (rfl)
theorem x129_33q {d : Nat} {l0 l1 l2 l3 l4 l6 l7 l8 : Option Value} {st : List Value} {a : Option Nat} {h : Hp} : ex (d) 129 33 [l0, l1, l2, l3, l4, some (va_rf a), l6, l7, l8] st h = ex d 129 35 [l0, l1, l2, l3, l4, some (va_rf a), l6, l7, l8] (va_rf a :: st) h := (ex_of d129_33 (d) [l0, l1, l2, l3, l4, some (va_rf a), l6, l7, l8] st h).trans (by cases a <;> rfl)
theorem d129_35 : decode (mB 129) 35 = .ok (.ifnonnull 80, 3) := by decide +kernel
theorem x129_35n {d : Nat} {L : Lc} {st : List Value} {h : Hp} : ex (d) 129 35 L (.null :: st) h = ex d 129 38 L st h := (ex_of d129_35 (d) L (.null :: st) h).trans (rfl)
theorem x129_35 {d : Nat} {L : Lc} {st : List Value} {a : Nat} {h : Hp} : ex (d) 129 35 L (.ref a :: st) h = ex d 129 115 L st h := (ex_of d129_35 (d) L (.ref a :: st) h).trans (rfl)
theorem d129_38 : decode (mB 129) 38 = .ok (.aload_n 1, 1) := by decide +kernel
theorem x129_38 {d : Nat} {l0 l2 l3 l4 l5 l6 l7 l8 : Option Value} {st : List Value} {a : Nat} {h : Hp} : ex (d) 129 38 [l0, some (.ref a), l2, l3, l4, l5, l6, l7, l8] st h = ex d 129 39 [l0, some (.ref a), l2, l3, l4, l5, l6, l7, l8] (.ref a :: st) h := (ex_of d129_38 (d) [l0, some (.ref a), l2, l3, l4, l5, l6, l7, l8] st h).trans (rfl)
theorem x129_38n {d : Nat} {l0 l2 l3 l4 l5 l6 l7 l8 : Option Value} {st : List Value} {h : Hp} : ex (d) 129 38 [l0, some .null, l2, l3, l4, l5, l6, l7, l8] st h = ex d 129 39 [l0, some .null, l2, l3, l4, l5, l6, l7, l8] (.null :: st) h := (ex_of d129_38 (d) [l0, some .null, l2, l3, l4, l5, l6, l7, l8] st h).trans (rfl)
theorem x129_38q {d : Nat} {l0 l2 l3 l4 l5 l6 l7 l8 : Option Value} {st : List Value} {a : Option Nat} {h : Hp} : ex (d) 129 38 [l0, some (va_rf a), l2, l3, l4, l5, l6, l7, l8] st h = ex d 129 39 [l0, some (va_rf a), l2, l3, l4, l5, l6, l7, l8] (va_rf a :: st) h := (ex_of d129_38 (d) [l0, some (va_rf a), l2, l3, l4, l5, l6, l7, l8] st h).trans (by cases a <;> rfl)
theorem d129_39 : decode (mB 129) 39 = .ok (.getfield 351, 3) := by decide +kernel
theorem x129_39 {d : Nat} {L : Lc} {st : List Value} {a : Nat} {h : Hp} (ht : (h.2.1 a).1 = 3) : ex (d) 129 39 L (.ref a :: st) h = ex d 129 42 L (h.1 a 2 :: st) h := (ex_of d129_39 (d) L (.ref a :: st) h).trans (fin_get (mi := 129) f10_351 (tg1 ht rfl))
theorem d129_42 : decode (mB 129) 42 = .ok (.iload 6, 2) := by decide +kernel
theorem x129_42 {d : Nat} {l0 l1 l2 l3 l4 l5 l7 l8 : Option Value} {st : List Value} {x : Int32} {h : Hp} : ex (d) 129 42 [l0, l1, l2, l3, l4, l5, some (.int x), l7, l8] st h = ex d 129 44 [l0, l1, l2, l3, l4, l5, some (.int x), l7, l8] (.int x :: st) h := (ex_of d129_42 (d) [l0, l1, l2, l3, l4, l5, some (.int x), l7, l8] st h).trans (rfl)
theorem d129_44 : decode (mB 129) 44 = .ok (.aaload, 1) := by decide +kernel
theorem x129_44 {d : Nat} {L : Lc} {st : List Value} {a j : Nat} {h : Hp} (ht : 21 ≤ (h.2.1 a).1 ∧ (h.2.1 a).1 ≤ 26) (hj : j < (h.2.1 a).2) (hb : j < 2147483648) : ex (d) 129 44 L (.int (nI j) :: .ref a :: st) h = ex d 129 45 L (h.1 a j :: st) h := (ex_of d129_44 (d) L (.int (nI j) :: .ref a :: st) h).trans (fin_aaload ht hj hb)
theorem d129_45 : decode (mB 129) 45 = .ok (.astore 7, 2) := by decide +kernel
theorem x129_45 {d : Nat} {l0 l1 l2 l3 l4 l5 l6 l7 l8 : Option Value} {st : List Value} {a : Nat} {h : Hp} : ex (d) 129 45 [l0, l1, l2, l3, l4, l5, l6, l7, l8] (.ref a :: st) h = ex d 129 47 [l0, l1, l2, l3, l4, l5, clr l6, some (.ref a), l8] st h := (ex_of d129_45 (d) [l0, l1, l2, l3, l4, l5, l6, l7, l8] (.ref a :: st) h).trans (rfl)
theorem x129_45n {d : Nat} {l0 l1 l2 l3 l4 l5 l6 l7 l8 : Option Value} {st : List Value} {h : Hp} : ex (d) 129 45 [l0, l1, l2, l3, l4, l5, l6, l7, l8] (.null :: st) h = ex d 129 47 [l0, l1, l2, l3, l4, l5, clr l6, some .null, l8] st h := (ex_of d129_45 (d) [l0, l1, l2, l3, l4, l5, l6, l7, l8] (.null :: st) h).trans (rfl)
theorem x129_45q {d : Nat} {l0 l1 l2 l3 l4 l5 l6 l7 l8 : Option Value} {st : List Value} {a : Option Nat} {h : Hp} : ex (d) 129 45 [l0, l1, l2, l3, l4, l5, l6, l7, l8] (va_rf a :: st) h = ex d 129 47 [l0, l1, l2, l3, l4, l5, clr l6, some (va_rf a), l8] st h := (ex_of d129_45 (d) [l0, l1, l2, l3, l4, l5, l6, l7, l8] (va_rf a :: st) h).trans (by cases a <;> rfl)
theorem d129_47 : decode (mB 129) 47 = .ok (.aload 7, 2) := by decide +kernel
theorem x129_47 {d : Nat} {l0 l1 l2 l3 l4 l5 l6 l8 : Option Value} {st : List Value} {a : Nat} {h : Hp} : ex (d) 129 47 [l0, l1, l2, l3, l4, l5, l6, some (.ref a), l8] st h = ex d 129 49 [l0, l1, l2, l3, l4, l5, l6, some (.ref a), l8] (.ref a :: st) h := (ex_of d129_47 (d) [l0, l1, l2, l3, l4, l5, l6, some (.ref a), l8] st h).trans (rfl)
theorem x129_47n {d : Nat} {l0 l1 l2 l3 l4 l5 l6 l8 : Option Value} {st : List Value} {h : Hp} : ex (d) 129 47 [l0, l1, l2, l3, l4, l5, l6, some .null, l8] st h = ex d 129 49 [l0, l1, l2, l3, l4, l5, l6, some .null, l8] (.null :: st) h := (ex_of d129_47 (d) [l0, l1, l2, l3, l4, l5, l6, some .null, l8] st h).trans (rfl)
theorem x129_47q {d : Nat} {l0 l1 l2 l3 l4 l5 l6 l8 : Option Value} {st : List Value} {a : Option Nat} {h : Hp} : ex (d) 129 47 [l0, l1, l2, l3, l4, l5, l6, some (va_rf a), l8] st h = ex d 129 49 [l0, l1, l2, l3, l4, l5, l6, some (va_rf a), l8] (va_rf a :: st) h := (ex_of d129_47 (d) [l0, l1, l2, l3, l4, l5, l6, some (va_rf a), l8] st h).trans (by cases a <;> rfl)
theorem d129_49 : decode (mB 129) 49 = .ok (.ifnull 60, 3) := by decide +kernel
theorem x129_49n {d : Nat} {L : Lc} {st : List Value} {h : Hp} : ex (d) 129 49 L (.null :: st) h = ex d 129 109 L st h := (ex_of d129_49 (d) L (.null :: st) h).trans (rfl)
theorem x129_49 {d : Nat} {L : Lc} {st : List Value} {a : Nat} {h : Hp} : ex (d) 129 49 L (.ref a :: st) h = ex d 129 52 L st h := (ex_of d129_49 (d) L (.ref a :: st) h).trans (rfl)
theorem d129_52 : decode (mB 129) 52 = .ok (.aload 7, 2) := by decide +kernel
theorem x129_52 {d : Nat} {l0 l1 l2 l3 l4 l5 l6 l8 : Option Value} {st : List Value} {a : Nat} {h : Hp} : ex (d) 129 52 [l0, l1, l2, l3, l4, l5, l6, some (.ref a), l8] st h = ex d 129 54 [l0, l1, l2, l3, l4, l5, l6, some (.ref a), l8] (.ref a :: st) h := (ex_of d129_52 (d) [l0, l1, l2, l3, l4, l5, l6, some (.ref a), l8] st h).trans (rfl)
theorem x129_52n {d : Nat} {l0 l1 l2 l3 l4 l5 l6 l8 : Option Value} {st : List Value} {h : Hp} : ex (d) 129 52 [l0, l1, l2, l3, l4, l5, l6, some .null, l8] st h = ex d 129 54 [l0, l1, l2, l3, l4, l5, l6, some .null, l8] (.null :: st) h := (ex_of d129_52 (d) [l0, l1, l2, l3, l4, l5, l6, some .null, l8] st h).trans (rfl)
theorem x129_52q {d : Nat} {l0 l1 l2 l3 l4 l5 l6 l8 : Option Value} {st : List Value} {a : Option Nat} {h : Hp} : ex (d) 129 52 [l0, l1, l2, l3, l4, l5, l6, some (va_rf a), l8] st h = ex d 129 54 [l0, l1, l2, l3, l4, l5, l6, some (va_rf a), l8] (va_rf a :: st) h := (ex_of d129_52 (d) [l0, l1, l2, l3, l4, l5, l6, some (va_rf a), l8] st h).trans (by cases a <;> rfl)
theorem d129_54 : decode (mB 129) 54 = .ok (.iload_n 3, 1) := by decide +kernel
theorem x129_54 {d : Nat} {l0 l1 l2 l4 l5 l6 l7 l8 : Option Value} {st : List Value} {x : Int32} {h : Hp} : ex (d) 129 54 [l0, l1, l2, some (.int x), l4, l5, l6, l7, l8] st h = ex d 129 55 [l0, l1, l2, some (.int x), l4, l5, l6, l7, l8] (.int x :: st) h := (ex_of d129_54 (d) [l0, l1, l2, some (.int x), l4, l5, l6, l7, l8] st h).trans (rfl)
theorem d129_55 : decode (mB 129) 55 = .ok (.invokevirtual 415, 3) := by decide +kernel
theorem x129_55 {d : Nat} {L : Lc} {a : Nat} {v0 : Int32} {h : Hp} (ht : isTh (h.2.1 a).1 = true) : ex (d + 1) 129 55 L (.int v0 :: .ref a :: []) h = bnd (ex d 40 0 [some (.ref a), some (.int v0)] [] h) (fun v h' => ex (d + 1) 129 58 L (v.toList ++ []) h') := (ex_of d129_55 (d + 1) L (.int v0 :: .ref a :: []) h).trans (fin_viT (mi := 129) i10_415 ht (by decide +kernel) rfl (by simp [cat1_i, cat1_r]) (by simp) (Nat.le_of_ble_eq_true rfl))
theorem d129_58 : decode (mB 129) 58 = .ok (.ifCond .eq 21, 3) := by decide +kernel
theorem x129_58 {d : Nat} {L : Lc} {st : List Value} {x : Int32} {h : Hp} : ex (d) 129 58 L (.int x :: st) h = if x = 0 then ex d 129 79 L st h else ex d 129 61 L st h := (ex_of d129_58 (d) L (.int x :: st) h).trans (fin_brq (off := 21) (tgt := 79) rfl (by decide))
theorem d129_61 : decode (mB 129) 61 = .ok (.aload_n 2, 1) := by decide +kernel
theorem x129_61 {d : Nat} {l0 l1 l3 l4 l5 l6 l7 l8 : Option Value} {st : List Value} {a : Nat} {h : Hp} : ex (d) 129 61 [l0, l1, some (.ref a), l3, l4, l5, l6, l7, l8] st h = ex d 129 62 [l0, l1, some (.ref a), l3, l4, l5, l6, l7, l8] (.ref a :: st) h := (ex_of d129_61 (d) [l0, l1, some (.ref a), l3, l4, l5, l6, l7, l8] st h).trans (rfl)
theorem x129_61n {d : Nat} {l0 l1 l3 l4 l5 l6 l7 l8 : Option Value} {st : List Value} {h : Hp} : ex (d) 129 61 [l0, l1, some .null, l3, l4, l5, l6, l7, l8] st h = ex d 129 62 [l0, l1, some .null, l3, l4, l5, l6, l7, l8] (.null :: st) h := (ex_of d129_61 (d) [l0, l1, some .null, l3, l4, l5, l6, l7, l8] st h).trans (rfl)
theorem x129_61q {d : Nat} {l0 l1 l3 l4 l5 l6 l7 l8 : Option Value} {st : List Value} {a : Option Nat} {h : Hp} : ex (d) 129 61 [l0, l1, some (va_rf a), l3, l4, l5, l6, l7, l8] st h = ex d 129 62 [l0, l1, some (va_rf a), l3, l4, l5, l6, l7, l8] (va_rf a :: st) h := (ex_of d129_61 (d) [l0, l1, some (va_rf a), l3, l4, l5, l6, l7, l8] st h).trans (by cases a <;> rfl)
theorem d129_62 : decode (mB 129) 62 = .ok (.ifnull 13, 3) := by decide +kernel
theorem x129_62n {d : Nat} {L : Lc} {st : List Value} {h : Hp} : ex (d) 129 62 L (.null :: st) h = ex d 129 75 L st h := (ex_of d129_62 (d) L (.null :: st) h).trans (rfl)
theorem x129_62 {d : Nat} {L : Lc} {st : List Value} {a : Nat} {h : Hp} : ex (d) 129 62 L (.ref a :: st) h = ex d 129 65 L st h := (ex_of d129_62 (d) L (.ref a :: st) h).trans (rfl)
theorem d129_65 : decode (mB 129) 65 = .ok (.aload_n 2, 1) := by decide +kernel
theorem x129_65 {d : Nat} {l0 l1 l3 l4 l5 l6 l7 l8 : Option Value} {st : List Value} {a : Nat} {h : Hp} : ex (d) 129 65 [l0, l1, some (.ref a), l3, l4, l5, l6, l7, l8] st h = ex d 129 66 [l0, l1, some (.ref a), l3, l4, l5, l6, l7, l8] (.ref a :: st) h := (ex_of d129_65 (d) [l0, l1, some (.ref a), l3, l4, l5, l6, l7, l8] st h).trans (rfl)
theorem x129_65n {d : Nat} {l0 l1 l3 l4 l5 l6 l7 l8 : Option Value} {st : List Value} {h : Hp} : ex (d) 129 65 [l0, l1, some .null, l3, l4, l5, l6, l7, l8] st h = ex d 129 66 [l0, l1, some .null, l3, l4, l5, l6, l7, l8] (.null :: st) h := (ex_of d129_65 (d) [l0, l1, some .null, l3, l4, l5, l6, l7, l8] st h).trans (rfl)
theorem x129_65q {d : Nat} {l0 l1 l3 l4 l5 l6 l7 l8 : Option Value} {st : List Value} {a : Option Nat} {h : Hp} : ex (d) 129 65 [l0, l1, some (va_rf a), l3, l4, l5, l6, l7, l8] st h = ex d 129 66 [l0, l1, some (va_rf a), l3, l4, l5, l6, l7, l8] (va_rf a :: st) h := (ex_of d129_65 (d) [l0, l1, some (va_rf a), l3, l4, l5, l6, l7, l8] st h).trans (by cases a <;> rfl)
theorem d129_66 : decode (mB 129) 66 = .ok (.aload 7, 2) := by decide +kernel
theorem x129_66 {d : Nat} {l0 l1 l2 l3 l4 l5 l6 l8 : Option Value} {st : List Value} {a : Nat} {h : Hp} : ex (d) 129 66 [l0, l1, l2, l3, l4, l5, l6, some (.ref a), l8] st h = ex d 129 68 [l0, l1, l2, l3, l4, l5, l6, some (.ref a), l8] (.ref a :: st) h := (ex_of d129_66 (d) [l0, l1, l2, l3, l4, l5, l6, some (.ref a), l8] st h).trans (rfl)
theorem x129_66n {d : Nat} {l0 l1 l2 l3 l4 l5 l6 l8 : Option Value} {st : List Value} {h : Hp} : ex (d) 129 66 [l0, l1, l2, l3, l4, l5, l6, some .null, l8] st h = ex d 129 68 [l0, l1, l2, l3, l4, l5, l6, some .null, l8] (.null :: st) h := (ex_of d129_66 (d) [l0, l1, l2, l3, l4, l5, l6, some .null, l8] st h).trans (rfl)
theorem x129_66q {d : Nat} {l0 l1 l2 l3 l4 l5 l6 l8 : Option Value} {st : List Value} {a : Option Nat} {h : Hp} : ex (d) 129 66 [l0, l1, l2, l3, l4, l5, l6, some (va_rf a), l8] st h = ex d 129 68 [l0, l1, l2, l3, l4, l5, l6, some (va_rf a), l8] (va_rf a :: st) h := (ex_of d129_66 (d) [l0, l1, l2, l3, l4, l5, l6, some (va_rf a), l8] st h).trans (by cases a <;> rfl)
theorem d129_68 : decode (mB 129) 68 = .ok (.invokestatic 208, 3) := by decide +kernel
theorem x129_68 {d : Nat} {L : Lc}  {v0 : Value} {v1 : Value} {h : Hp} (hv0 : isR v0 = true) (hv1 : isR v1 = true) : ex (d + 1) 129 68 L (v1 :: v0 :: []) h = bnd (ex d 116 0 [some v0, some v1, none, none, none, none, none] [] h) (fun v h' => ex (d + 1) 129 71 L (v.toList ++ []) h') := (ex_of d129_68 (d + 1) L (v1 :: v0 :: []) h).trans (fin_st (mi := 129) i10_208 (Or.inl rfl) (by simp) (by simp [cat1_i, cat1_r, isR_cat1 hv0, isR_cat1 hv1]) (by simp) (Nat.le_of_ble_eq_true rfl))
theorem d129_71 : decode (mB 129) 71 = .ok (.iconst 1, 1) := by decide +kernel
theorem x129_71 {d : Nat} {L : Lc} {st : List Value} {h : Hp} : ex (d) 129 71 L st h = ex d 129 72 L (.int (nI 1) :: st) h := (ex_of d129_71 (d) L st h).trans (rfl)
theorem d129_72 : decode (mB 129) 72 = .ok (.if_icmp .ne 7, 3) := by decide +kernel
theorem x129_72 {d : Nat} {L : Lc} {st : List Value} {x y : Int32} {h : Hp} : ex (d) 129 72 L (.int y :: .int x :: st) h = if ¬ x = y then ex d 129 79 L st h else ex d 129 75 L st h := (ex_of d129_72 (d) L (.int y :: .int x :: st) h).trans (fin_brq (off := 7) (tgt := 79) rfl (by decide))
theorem d129_75 : decode (mB 129) 75 = .ok (.iconst 1, 1) := by decide +kernel
theorem x129_75 {d : Nat} {L : Lc} {st : List Value} {h : Hp} : ex (d) 129 75 L st h = ex d 129 76 L (.int (nI 1) :: st) h := (ex_of d129_75 (d) L st h).trans (rfl)
theorem d129_76 : decode (mB 129) 76 = .ok (.goto 4, 3) := by decide +kernel
theorem x129_76 {d : Nat} {L : Lc} {st : List Value} {h : Hp} : ex (d) 129 76 L st h = ex d 129 80 L st h := (ex_of d129_76 (d) L st h).trans (rfl)
theorem d129_79 : decode (mB 129) 79 = .ok (.iconst 0, 1) := by decide +kernel
theorem x129_79 {d : Nat} {L : Lc} {st : List Value} {h : Hp} : ex (d) 129 79 L st h = ex d 129 80 L (.int (nI 0) :: st) h := (ex_of d129_79 (d) L st h).trans (rfl)
theorem d129_80 : decode (mB 129) 80 = .ok (.istore 8, 2) := by decide +kernel
theorem x129_80 {d : Nat} {l0 l1 l2 l3 l4 l5 l6 l7 l8 : Option Value} {st : List Value} {x : Int32} {h : Hp} : ex (d) 129 80 [l0, l1, l2, l3, l4, l5, l6, l7, l8] (.int x :: st) h = ex d 129 82 [l0, l1, l2, l3, l4, l5, l6, clr l7, some (.int x)] st h := (ex_of d129_80 (d) [l0, l1, l2, l3, l4, l5, l6, l7, l8] (.int x :: st) h).trans (rfl)
theorem d129_82 : decode (mB 129) 82 = .ok (.iload 8, 2) := by decide +kernel
theorem x129_82 {d : Nat} {l0 l1 l2 l3 l4 l5 l6 l7 : Option Value} {st : List Value} {x : Int32} {h : Hp} : ex (d) 129 82 [l0, l1, l2, l3, l4, l5, l6, l7, some (.int x)] st h = ex d 129 84 [l0, l1, l2, l3, l4, l5, l6, l7, some (.int x)] (.int x :: st) h := (ex_of d129_82 (d) [l0, l1, l2, l3, l4, l5, l6, l7, some (.int x)] st h).trans (rfl)
theorem d129_84 : decode (mB 129) 84 = .ok (.ifCond .eq 8, 3) := by decide +kernel
theorem x129_84 {d : Nat} {L : Lc} {st : List Value} {x : Int32} {h : Hp} : ex (d) 129 84 L (.int x :: st) h = if x = 0 then ex d 129 92 L st h else ex d 129 87 L st h := (ex_of d129_84 (d) L (.int x :: st) h).trans (fin_brq (off := 8) (tgt := 92) rfl (by decide))
theorem d129_87 : decode (mB 129) 87 = .ok (.aload 7, 2) := by decide +kernel
theorem x129_87 {d : Nat} {l0 l1 l2 l3 l4 l5 l6 l8 : Option Value} {st : List Value} {a : Nat} {h : Hp} : ex (d) 129 87 [l0, l1, l2, l3, l4, l5, l6, some (.ref a), l8] st h = ex d 129 89 [l0, l1, l2, l3, l4, l5, l6, some (.ref a), l8] (.ref a :: st) h := (ex_of d129_87 (d) [l0, l1, l2, l3, l4, l5, l6, some (.ref a), l8] st h).trans (rfl)
theorem x129_87n {d : Nat} {l0 l1 l2 l3 l4 l5 l6 l8 : Option Value} {st : List Value} {h : Hp} : ex (d) 129 87 [l0, l1, l2, l3, l4, l5, l6, some .null, l8] st h = ex d 129 89 [l0, l1, l2, l3, l4, l5, l6, some .null, l8] (.null :: st) h := (ex_of d129_87 (d) [l0, l1, l2, l3, l4, l5, l6, some .null, l8] st h).trans (rfl)
theorem x129_87q {d : Nat} {l0 l1 l2 l3 l4 l5 l6 l8 : Option Value} {st : List Value} {a : Option Nat} {h : Hp} : ex (d) 129 87 [l0, l1, l2, l3, l4, l5, l6, some (va_rf a), l8] st h = ex d 129 89 [l0, l1, l2, l3, l4, l5, l6, some (va_rf a), l8] (va_rf a :: st) h := (ex_of d129_87 (d) [l0, l1, l2, l3, l4, l5, l6, some (va_rf a), l8] st h).trans (by cases a <;> rfl)
theorem d129_89 : decode (mB 129) 89 = .ok (.goto 18, 3) := by decide +kernel
theorem x129_89 {d : Nat} {L : Lc} {st : List Value} {h : Hp} : ex (d) 129 89 L st h = ex d 129 107 L st h := (ex_of d129_89 (d) L st h).trans (rfl)
theorem d129_92 : decode (mB 129) 92 = .ok (.aload_n 0, 1) := by decide +kernel
theorem x129_92 {d : Nat} {l1 l2 l3 l4 l5 l6 l7 l8 : Option Value} {st : List Value} {a : Nat} {h : Hp} : ex (d) 129 92 [some (.ref a), l1, l2, l3, l4, l5, l6, l7, l8] st h = ex d 129 93 [some (.ref a), l1, l2, l3, l4, l5, l6, l7, l8] (.ref a :: st) h := (ex_of d129_92 (d) [some (.ref a), l1, l2, l3, l4, l5, l6, l7, l8] st h).trans (rfl)
theorem d129_93 : decode (mB 129) 93 = .ok (.aload 7, 2) := by decide +kernel
theorem x129_93 {d : Nat} {l0 l1 l2 l3 l4 l5 l6 l8 : Option Value} {st : List Value} {a : Nat} {h : Hp} : ex (d) 129 93 [l0, l1, l2, l3, l4, l5, l6, some (.ref a), l8] st h = ex d 129 95 [l0, l1, l2, l3, l4, l5, l6, some (.ref a), l8] (.ref a :: st) h := (ex_of d129_93 (d) [l0, l1, l2, l3, l4, l5, l6, some (.ref a), l8] st h).trans (rfl)
theorem x129_93n {d : Nat} {l0 l1 l2 l3 l4 l5 l6 l8 : Option Value} {st : List Value} {h : Hp} : ex (d) 129 93 [l0, l1, l2, l3, l4, l5, l6, some .null, l8] st h = ex d 129 95 [l0, l1, l2, l3, l4, l5, l6, some .null, l8] (.null :: st) h := (ex_of d129_93 (d) [l0, l1, l2, l3, l4, l5, l6, some .null, l8] st h).trans (rfl)
theorem x129_93q {d : Nat} {l0 l1 l2 l3 l4 l5 l6 l8 : Option Value} {st : List Value} {a : Option Nat} {h : Hp} : ex (d) 129 93 [l0, l1, l2, l3, l4, l5, l6, some (va_rf a), l8] st h = ex d 129 95 [l0, l1, l2, l3, l4, l5, l6, some (va_rf a), l8] (va_rf a :: st) h := (ex_of d129_93 (d) [l0, l1, l2, l3, l4, l5, l6, some (va_rf a), l8] st h).trans (by cases a <;> rfl)
theorem d129_95 : decode (mB 129) 95 = .ok (.getfield 320, 3) := by decide +kernel
theorem x129_95 {d : Nat} {L : Lc} {st : List Value} {a : Nat} {h : Hp} (ht : isTh (h.2.1 a).1 = true) : ex (d) 129 95 L (.ref a :: st) h = ex d 129 98 L (h.1 a 5 :: st) h := (ex_of d129_95 (d) L (.ref a :: st) h).trans (fin_get (mi := 129) f10_320 ht)
theorem d129_98 : decode (mB 129) 98 = .ok (.aload_n 2, 1) := by decide +kernel
theorem x129_98 {d : Nat} {l0 l1 l3 l4 l5 l6 l7 l8 : Option Value} {st : List Value} {a : Nat} {h : Hp} : ex (d) 129 98 [l0, l1, some (.ref a), l3, l4, l5, l6, l7, l8] st h = ex d 129 99 [l0, l1, some (.ref a), l3, l4, l5, l6, l7, l8] (.ref a :: st) h := (ex_of d129_98 (d) [l0, l1, some (.ref a), l3, l4, l5, l6, l7, l8] st h).trans (rfl)
theorem x129_98n {d : Nat} {l0 l1 l3 l4 l5 l6 l7 l8 : Option Value} {st : List Value} {h : Hp} : ex (d) 129 98 [l0, l1, some .null, l3, l4, l5, l6, l7, l8] st h = ex d 129 99 [l0, l1, some .null, l3, l4, l5, l6, l7, l8] (.null :: st) h := (ex_of d129_98 (d) [l0, l1, some .null, l3, l4, l5, l6, l7, l8] st h).trans (rfl)
theorem x129_98q {d : Nat} {l0 l1 l3 l4 l5 l6 l7 l8 : Option Value} {st : List Value} {a : Option Nat} {h : Hp} : ex (d) 129 98 [l0, l1, some (va_rf a), l3, l4, l5, l6, l7, l8] st h = ex d 129 99 [l0, l1, some (va_rf a), l3, l4, l5, l6, l7, l8] (va_rf a :: st) h := (ex_of d129_98 (d) [l0, l1, some (va_rf a), l3, l4, l5, l6, l7, l8] st h).trans (by cases a <;> rfl)
theorem d129_99 : decode (mB 129) 99 = .ok (.iload_n 3, 1) := by decide +kernel
theorem x129_99 {d : Nat} {l0 l1 l2 l4 l5 l6 l7 l8 : Option Value} {st : List Value} {x : Int32} {h : Hp} : ex (d) 129 99 [l0, l1, l2, some (.int x), l4, l5, l6, l7, l8] st h = ex d 129 100 [l0, l1, l2, some (.int x), l4, l5, l6, l7, l8] (.int x :: st) h := (ex_of d129_99 (d) [l0, l1, l2, some (.int x), l4, l5, l6, l7, l8] st h).trans (rfl)
theorem d129_100 : decode (mB 129) 100 = .ok (.iload 4, 2) := by decide +kernel
theorem x129_100 {d : Nat} {l0 l1 l2 l3 l5 l6 l7 l8 : Option Value} {st : List Value} {x : Int32} {h : Hp} : ex (d) 129 100 [l0, l1, l2, l3, some (.int x), l5, l6, l7, l8] st h = ex d 129 102 [l0, l1, l2, l3, some (.int x), l5, l6, l7, l8] (.int x :: st) h := (ex_of d129_100 (d) [l0, l1, l2, l3, some (.int x), l5, l6, l7, l8] st h).trans (rfl)
theorem d129_102 : decode (mB 129) 102 = .ok (.iconst 1, 1) := by decide +kernel
theorem x129_102 {d : Nat} {L : Lc} {st : List Value} {h : Hp} : ex (d) 129 102 L st h = ex d 129 103 L (.int (nI 1) :: st) h := (ex_of d129_102 (d) L st h).trans (rfl)
theorem d129_103 : decode (mB 129) 103 = .ok (.iadd, 1) := by decide +kernel
theorem x129_103 {d : Nat} {L : Lc} {st : List Value} {x y : Int32} {h : Hp} : ex (d) 129 103 L (.int y :: .int x :: st) h = ex d 129 104 L (.int (x + y) :: st) h := (ex_of d129_103 (d) L (.int y :: .int x :: st) h).trans (rfl)
theorem d129_104 : decode (mB 129) 104 = .ok (.invokevirtual 286, 3) := by decide +kernel
theorem x129_104 {d : Nat} {L : Lc} {a : Nat} {v0 : Value} {v1 : Value} {v2 : Int32} {v3 : Int32} {h : Hp} (ht : (h.2.1 a).1 = 10) (hv0 : isR v0 = true) (hv1 : isR v1 = true) : ex (d + 1) 129 104 L (.int v3 :: .int v2 :: v1 :: v0 :: .ref a :: []) h = bnd (ex d 129 0 [some (.ref a), some v0, some v1, some (.int v2), some (.int v3), none, none, none, none] [] h) (fun v h' => ex (d + 1) 129 107 L (v.toList ++ []) h') := (ex_of d129_104 (d + 1) L (.int v3 :: .int v2 :: v1 :: v0 :: .ref a :: []) h).trans (fin_vi (mi := 129) i10_286 ht rfl rfl (by simp [cat1_i, cat1_r, isR_cat1 hv0, isR_cat1 hv1]) (by simp) (Nat.le_of_ble_eq_true rfl))
theorem d129_107 : decode (mB 129) 107 = .ok (.astore 5, 2) := by decide +kernel
theorem x129_107 {d : Nat} {l0 l1 l2 l3 l4 l5 l6 l7 l8 : Option Value} {st : List Value} {a : Nat} {h : Hp} : ex (d) 129 107 [l0, l1, l2, l3, l4, l5, l6, l7, l8] (.ref a :: st) h = ex d 129 109 [l0, l1, l2, l3, clr l4, some (.ref a), l6, l7, l8] st h := (ex_of d129_107 (d) [l0, l1, l2, l3, l4, l5, l6, l7, l8] (.ref a :: st) h).trans (rfl)
theorem x129_107n {d : Nat} {l0 l1 l2 l3 l4 l5 l6 l7 l8 : Option Value} {st : List Value} {h : Hp} : ex (d) 129 107 [l0, l1, l2, l3, l4, l5, l6, l7, l8] (.null :: st) h = ex d 129 109 [l0, l1, l2, l3, clr l4, some .null, l6, l7, l8] st h := (ex_of d129_107 (d) [l0, l1, l2, l3, l4, l5, l6, l7, l8] (.null :: st) h).trans (rfl)
theorem x129_107q {d : Nat} {l0 l1 l2 l3 l4 l5 l6 l7 l8 : Option Value} {st : List Value} {a : Option Nat} {h : Hp} : ex (d) 129 107 [l0, l1, l2, l3, l4, l5, l6, l7, l8] (va_rf a :: st) h = ex d 129 109 [l0, l1, l2, l3, clr l4, some (va_rf a), l6, l7, l8] st h := (ex_of d129_107 (d) [l0, l1, l2, l3, l4, l5, l6, l7, l8] (va_rf a :: st) h).trans (by cases a <;> rfl)
theorem d129_109 : decode (mB 129) 109 = .ok (.iinc 6 1, 3) := by decide +kernel
theorem x129_109 {d : Nat} {l0 l1 l2 l3 l4 l5 l7 l8 : Option Value} {st : List Value} {x : Int32} {h : Hp} : ex (d) 129 109 [l0, l1, l2, l3, l4, l5, some (.int x), l7, l8] st h = ex d 129 112 [l0, l1, l2, l3, l4, clr l5, some (.int (x + (nI 1))), l7, l8] st h := (ex_of d129_109 (d) [l0, l1, l2, l3, l4, l5, some (.int x), l7, l8] st h).trans (rfl)
theorem d129_112 : decode (mB 129) 112 = .ok (.goto (-89), 3) := by decide +kernel
theorem x129_112 {d : Nat} {L : Lc} {st : List Value} {h : Hp} : ex (d) 129 112 L st h = ex d 129 23 L st h := (ex_of d129_112 (d) L st h).trans (rfl)
theorem d129_115 : decode (mB 129) 115 = .ok (.aload_n 0, 1) := by decide +kernel
theorem x129_115 {d : Nat} {l1 l2 l3 l4 l5 l6 l7 l8 : Option Value} {st : List Value} {a : Nat} {h : Hp} : ex (d) 129 115 [some (.ref a), l1, l2, l3, l4, l5, l6, l7, l8] st h = ex d 129 116 [some (.ref a), l1, l2, l3, l4, l5, l6, l7, l8] (.ref a :: st) h := (ex_of d129_115 (d) [some (.ref a), l1, l2, l3, l4, l5, l6, l7, l8] st h).trans (rfl)
theorem d129_116 : decode (mB 129) 116 = .ok (.invokevirtual 290, 3) := by decide +kernel
theorem x129_116 {d : Nat} {L : Lc} {a : Nat} {h : Hp} (ht : (h.2.1 a).1 = 10) : ex (d + 1) 129 116 L (.ref a :: []) h = bnd (ex d 101 0 [some (.ref a)] [] h) (fun v h' => ex (d + 1) 129 119 L (v.toList ++ []) h') := (ex_of d129_116 (d + 1) L (.ref a :: []) h).trans (fin_vi (mi := 129) i10_290 ht rfl rfl (by simp [cat1_i, cat1_r]) (by simp) (Nat.le_of_ble_eq_true rfl))
theorem d129_119 : decode (mB 129) 119 = .ok (.aload 5, 2) := by decide +kernel
theorem x129_119 {d : Nat} {l0 l1 l2 l3 l4 l6 l7 l8 : Option Value} {st : List Value} {a : Nat} {h : Hp} : ex (d) 129 119 [l0, l1, l2, l3, l4, some (.ref a), l6, l7, l8] st h = ex d 129 121 [l0, l1, l2, l3, l4, some (.ref a), l6, l7, l8] (.ref a :: st) h := (ex_of d129_119 (d) [l0, l1, l2, l3, l4, some (.ref a), l6, l7, l8] st h).trans (rfl)
theorem x129_119n {d : Nat} {l0 l1 l2 l3 l4 l6 l7 l8 : Option Value} {st : List Value} {h : Hp} : ex (d) 129 119 [l0, l1, l2, l3, l4, some .null, l6, l7, l8] st h = ex d 129 121 [l0, l1, l2, l3, l4, some .null, l6, l7, l8] (.null :: st) h := (ex_of d129_119 (d) [l0, l1, l2, l3, l4, some .null, l6, l7, l8] st h).trans (rfl)
theorem x129_119q {d : Nat} {l0 l1 l2 l3 l4 l6 l7 l8 : Option Value} {st : List Value} {a : Option Nat} {h : Hp} : ex (d) 129 119 [l0, l1, l2, l3, l4, some (va_rf a), l6, l7, l8] st h = ex d 129 121 [l0, l1, l2, l3, l4, some (va_rf a), l6, l7, l8] (va_rf a :: st) h := (ex_of d129_119 (d) [l0, l1, l2, l3, l4, some (va_rf a), l6, l7, l8] st h).trans (by cases a <;> rfl)
theorem d129_121 : decode (mB 129) 121 = .ok (.areturn, 1) := by decide +kernel
theorem x129_121 {d : Nat} {L : Lc} {a : Nat} {h : Hp} : ex (d) 129 121 L [.ref a] h = some (some (.ref a), h) := (ex_of d129_121 (d) L [.ref a] h).trans (rfl)
theorem x129_121n {d : Nat} {L : Lc}  {h : Hp} : ex (d) 129 121 L [.null] h = some (some .null, h) := (ex_of d129_121 (d) L [.null] h).trans (rfl)
theorem x129_121q {d : Nat} {L : Lc} {a : Option Nat} {h : Hp} : ex (d) 129 121 L [va_rf a] h = some (some (va_rf a), h) := (ex_of d129_121 (d) L [va_rf a] h).trans (by cases a <;> rfl)
theorem d130_0 : decode (mB 130) 0 = .ok (.aload_n 1, 1) := by decide +kernel
theorem x130_0 {d : Nat} {l0 l2 l3 l4 l5 : Option Value} {st : List Value} {a : Nat} {h : Hp} : ex (d) 130 0 [l0, some (.ref a), l2, l3, l4, l5] st h = ex d 130 1 [l0, some (.ref a), l2, l3, l4, l5] (.ref a :: st) h := (ex_of d130_0 (d) [l0, some (.ref a), l2, l3, l4, l5] st h).trans (rfl)
theorem x130_0n {d : Nat} {l0 l2 l3 l4 l5 : Option Value} {st : List Value} {h : Hp} : ex (d) 130 0 [l0, some .null, l2, l3, l4, l5] st h = ex d 130 1 [l0, some .null, l2, l3, l4, l5] (.null :: st) h := (ex_of d130_0 (d) [l0, some .null, l2, l3, l4, l5] st h).trans (rfl)
theorem x130_0q {d : Nat} {l0 l2 l3 l4 l5 : Option Value} {st : List Value} {a : Option Nat} {h : Hp} : ex (d) 130 0 [l0, some (va_rf a), l2, l3, l4, l5] st h = ex d 130 1 [l0, some (va_rf a), l2, l3, l4, l5] (va_rf a :: st) h := (ex_of d130_0 (d) [l0, some (va_rf a), l2, l3, l4, l5] st h).trans (by cases a <;> rfl)
theorem d130_1 : decode (mB 130) 1 = .ok (.ifnull 9, 3) := by decide +kernel
theorem x130_1n {d : Nat} {L : Lc} {st : List Value} {h : Hp} : ex (d) 130 1 L (.null :: st) h = ex d 130 10 L st h := (ex_of d130_1 (d) L (.null :: st) h).trans (rfl)
theorem x130_1 {d : Nat} {L : Lc} {st : List Value} {a : Nat} {h : Hp} : ex (d) 130 1 L (.ref a :: st) h = ex d 130 4 L st h := (ex_of d130_1 (d) L (.ref a :: st) h).trans (rfl)
theorem d130_4 : decode (mB 130) 4 = .ok (.iload_n 2, 1) := by decide +kernel
theorem x130_4 {d : Nat} {l0 l1 l3 l4 l5 : Option Value} {st : List Value} {x : Int32} {h : Hp} : ex (d) 130 4 [l0, l1, some (.int x), l3, l4, l5] st h = ex d 130 5 [l0, l1, some (.int x), l3, l4, l5] (.int x :: st) h := (ex_of d130_4 (d) [l0, l1, some (.int x), l3, l4, l5] st h).trans (rfl)
theorem d130_5 : decode (mB 130) 5 = .ok (.bipush 8, 2) := by decide +kernel
theorem x130_5 {d : Nat} {L : Lc} {st : List Value} {h : Hp} : ex (d) 130 5 L st h = ex d 130 7 L (.int (nI 8) :: st) h := (ex_of d130_5 (d) L st h).trans (rfl)
theorem d130_7 : decode (mB 130) 7 = .ok (.if_icmp .le 5, 3) := by decide +kernel
theorem x130_7 {d : Nat} {L : Lc} {st : List Value} {x y : Int32} {h : Hp} : ex (d) 130 7 L (.int y :: .int x :: st) h = if x ≤ y then ex d 130 12 L st h else ex d 130 10 L st h := (ex_of d130_7 (d) L (.int y :: .int x :: st) h).trans (fin_brq (off := 5) (tgt := 12) rfl (by decide))
theorem d130_10 : decode (mB 130) 10 = .ok (.iconst 0, 1) := by decide +kernel
theorem x130_10 {d : Nat} {L : Lc} {st : List Value} {h : Hp} : ex (d) 130 10 L st h = ex d 130 11 L (.int (nI 0) :: st) h := (ex_of d130_10 (d) L st h).trans (rfl)
theorem d130_11 : decode (mB 130) 11 = .ok (.ireturn, 1) := by decide +kernel
theorem x130_11 {d : Nat} {L : Lc} {x : Int32} {h : Hp} : ex (d) 130 11 L [.int x] h = some (some (.int x), h) := (ex_of d130_11 (d) L [.int x] h).trans (rfl)
theorem d130_12 : decode (mB 130) 12 = .ok (.aload_n 0, 1) := by decide +kernel
theorem x130_12 {d : Nat} {l1 l2 l3 l4 l5 : Option Value} {st : List Value} {a : Nat} {h : Hp} : ex (d) 130 12 [some (.ref a), l1, l2, l3, l4, l5] st h = ex d 130 13 [some (.ref a), l1, l2, l3, l4, l5] (.ref a :: st) h := (ex_of d130_12 (d) [some (.ref a), l1, l2, l3, l4, l5] st h).trans (rfl)
theorem d130_13 : decode (mB 130) 13 = .ok (.invokevirtual 333, 3) := by decide +kernel
theorem x130_13 {d : Nat} {L : Lc} {a : Nat} {h : Hp} (ht : (h.2.1 a).1 = 10) : ex (d + 1) 130 13 L (.ref a :: []) h = bnd (ex d 100 0 [some (.ref a)] [] h) (fun v h' => ex (d + 1) 130 16 L (v.toList ++ []) h') := (ex_of d130_13 (d + 1) L (.ref a :: []) h).trans (fin_vi (mi := 130) i10_333 ht rfl rfl (by simp [cat1_i, cat1_r]) (by simp) (Nat.le_of_ble_eq_true rfl))
theorem d130_16 : decode (mB 130) 16 = .ok (.iconst 0, 1) := by decide +kernel
theorem x130_16 {d : Nat} {L : Lc} {st : List Value} {h : Hp} : ex (d) 130 16 L st h = ex d 130 17 L (.int (nI 0) :: st) h := (ex_of d130_16 (d) L st h).trans (rfl)
theorem d130_17 : decode (mB 130) 17 = .ok (.istore_n 3, 1) := by decide +kernel
theorem x130_17 {d : Nat} {l0 l1 l2 l3 l4 l5 : Option Value} {st : List Value} {x : Int32} {h : Hp} : ex (d) 130 17 [l0, l1, l2, l3, l4, l5] (.int x :: st) h = ex d 130 18 [l0, l1, clr l2, some (.int x), l4, l5] st h := (ex_of d130_17 (d) [l0, l1, l2, l3, l4, l5] (.int x :: st) h).trans (rfl)
theorem d130_18 : decode (mB 130) 18 = .ok (.iconst 0, 1) := by decide +kernel
theorem x130_18 {d : Nat} {L : Lc} {st : List Value} {h : Hp} : ex (d) 130 18 L st h = ex d 130 19 L (.int (nI 0) :: st) h := (ex_of d130_18 (d) L st h).trans (rfl)
theorem d130_19 : decode (mB 130) 19 = .ok (.istore 4, 2) := by decide +kernel
theorem x130_19 {d : Nat} {l0 l1 l2 l3 l4 l5 : Option Value} {st : List Value} {x : Int32} {h : Hp} : ex (d) 130 19 [l0, l1, l2, l3, l4, l5] (.int x :: st) h = ex d 130 21 [l0, l1, l2, clr l3, some (.int x), l5] st h := (ex_of d130_19 (d) [l0, l1, l2, l3, l4, l5] (.int x :: st) h).trans (rfl)
theorem d130_21 : decode (mB 130) 21 = .ok (.iload 4, 2) := by decide +kernel
theorem x130_21 {d : Nat} {l0 l1 l2 l3 l5 : Option Value} {st : List Value} {x : Int32} {h : Hp} : ex (d) 130 21 [l0, l1, l2, l3, some (.int x), l5] st h = ex d 130 23 [l0, l1, l2, l3, some (.int x), l5] (.int x :: st) h := (ex_of d130_21 (d) [l0, l1, l2, l3, some (.int x), l5] st h).trans (rfl)
theorem d130_23 : decode (mB 130) 23 = .ok (.aload_n 1, 1) := by decide +kernel
theorem x130_23 {d : Nat} {l0 l2 l3 l4 l5 : Option Value} {st : List Value} {a : Nat} {h : Hp} : ex (d) 130 23 [l0, some (.ref a), l2, l3, l4, l5] st h = ex d 130 24 [l0, some (.ref a), l2, l3, l4, l5] (.ref a :: st) h := (ex_of d130_23 (d) [l0, some (.ref a), l2, l3, l4, l5] st h).trans (rfl)
theorem x130_23n {d : Nat} {l0 l2 l3 l4 l5 : Option Value} {st : List Value} {h : Hp} : ex (d) 130 23 [l0, some .null, l2, l3, l4, l5] st h = ex d 130 24 [l0, some .null, l2, l3, l4, l5] (.null :: st) h := (ex_of d130_23 (d) [l0, some .null, l2, l3, l4, l5] st h).trans (rfl)
theorem x130_23q {d : Nat} {l0 l2 l3 l4 l5 : Option Value} {st : List Value} {a : Option Nat} {h : Hp} : ex (d) 130 23 [l0, some (va_rf a), l2, l3, l4, l5] st h = ex d 130 24 [l0, some (va_rf a), l2, l3, l4, l5] (va_rf a :: st) h := (ex_of d130_23 (d) [l0, some (va_rf a), l2, l3, l4, l5] st h).trans (by cases a <;> rfl)
theorem d130_24 : decode (mB 130) 24 = .ok (.getfield 351, 3) := by decide +kernel
theorem x130_24 {d : Nat} {L : Lc} {st : List Value} {a : Nat} {h : Hp} (ht : (h.2.1 a).1 = 3) : ex (d) 130 24 L (.ref a :: st) h = ex d 130 27 L (h.1 a 2 :: st) h := (ex_of d130_24 (d) L (.ref a :: st) h).trans (fin_get (mi := 130) f10_351 (tg1 ht rfl))
theorem d130_27 : decode (mB 130) 27 = .ok (.arraylength, 1) := by decide +kernel
theorem x130_27 {d : Nat} {L : Lc} {st : List Value} {a : Nat} {h : Hp} (ht : 20 ≤ (h.2.1 a).1 ∧ (h.2.1 a).1 ≤ 30) : ex (d) 130 27 L (.ref a :: st) h = ex d 130 28 L (.int (nI (h.2.1 a).2) :: st) h := (ex_of d130_27 (d) L (.ref a :: st) h).trans (fin_alen ht)
theorem d130_28 : decode (mB 130) 28 = .ok (.if_icmp .ge 40, 3) := by decide +kernel
theorem x130_28 {d : Nat} {L : Lc} {st : List Value} {x y : Int32} {h : Hp} : ex (d) 130 28 L (.int y :: .int x :: st) h = if y ≤ x then ex d 130 68 L st h else ex d 130 31 L st h := (ex_of d130_28 (d) L (.int y :: .int x :: st) h).trans (fin_brq (off := 40) (tgt := 68) rfl (by decide))
theorem d130_31 : decode (mB 130) 31 = .ok (.aload_n 1, 1) := by decide +kernel
theorem x130_31 {d : Nat} {l0 l2 l3 l4 l5 : Option Value} {st : List Value} {a : Nat} {h : Hp} : ex (d) 130 31 [l0, some (.ref a), l2, l3, l4, l5] st h = ex d 130 32 [l0, some (.ref a), l2, l3, l4, l5] (.ref a :: st) h := (ex_of d130_31 (d) [l0, some (.ref a), l2, l3, l4, l5] st h).trans (rfl)
theorem x130_31n {d : Nat} {l0 l2 l3 l4 l5 : Option Value} {st : List Value} {h : Hp} : ex (d) 130 31 [l0, some .null, l2, l3, l4, l5] st h = ex d 130 32 [l0, some .null, l2, l3, l4, l5] (.null :: st) h := (ex_of d130_31 (d) [l0, some .null, l2, l3, l4, l5] st h).trans (rfl)
theorem x130_31q {d : Nat} {l0 l2 l3 l4 l5 : Option Value} {st : List Value} {a : Option Nat} {h : Hp} : ex (d) 130 31 [l0, some (va_rf a), l2, l3, l4, l5] st h = ex d 130 32 [l0, some (va_rf a), l2, l3, l4, l5] (va_rf a :: st) h := (ex_of d130_31 (d) [l0, some (va_rf a), l2, l3, l4, l5] st h).trans (by cases a <;> rfl)
theorem d130_32 : decode (mB 130) 32 = .ok (.getfield 351, 3) := by decide +kernel
theorem x130_32 {d : Nat} {L : Lc} {st : List Value} {a : Nat} {h : Hp} (ht : (h.2.1 a).1 = 3) : ex (d) 130 32 L (.ref a :: st) h = ex d 130 35 L (h.1 a 2 :: st) h := (ex_of d130_32 (d) L (.ref a :: st) h).trans (fin_get (mi := 130) f10_351 (tg1 ht rfl))
theorem d130_35 : decode (mB 130) 35 = .ok (.iload 4, 2) := by decide +kernel
theorem x130_35 {d : Nat} {l0 l1 l2 l3 l5 : Option Value} {st : List Value} {x : Int32} {h : Hp} : ex (d) 130 35 [l0, l1, l2, l3, some (.int x), l5] st h = ex d 130 37 [l0, l1, l2, l3, some (.int x), l5] (.int x :: st) h := (ex_of d130_35 (d) [l0, l1, l2, l3, some (.int x), l5] st h).trans (rfl)
theorem d130_37 : decode (mB 130) 37 = .ok (.aaload, 1) := by decide +kernel
theorem x130_37 {d : Nat} {L : Lc} {st : List Value} {a j : Nat} {h : Hp} (ht : 21 ≤ (h.2.1 a).1 ∧ (h.2.1 a).1 ≤ 26) (hj : j < (h.2.1 a).2) (hb : j < 2147483648) : ex (d) 130 37 L (.int (nI j) :: .ref a :: st) h = ex d 130 38 L (h.1 a j :: st) h := (ex_of d130_37 (d) L (.int (nI j) :: .ref a :: st) h).trans (fin_aaload ht hj hb)
theorem d130_38 : decode (mB 130) 38 = .ok (.astore 5, 2) := by decide +kernel
theorem x130_38 {d : Nat} {l0 l1 l2 l3 l4 l5 : Option Value} {st : List Value} {a : Nat} {h : Hp} : ex (d) 130 38 [l0, l1, l2, l3, l4, l5] (.ref a :: st) h = ex d 130 40 [l0, l1, l2, l3, clr l4, some (.ref a)] st h := (ex_of d130_38 (d) [l0, l1, l2, l3, l4, l5] (.ref a :: st) h).trans (rfl)
theorem x130_38n {d : Nat} {l0 l1 l2 l3 l4 l5 : Option Value} {st : List Value} {h : Hp} : ex (d) 130 38 [l0, l1, l2, l3, l4, l5] (.null :: st) h = ex d 130 40 [l0, l1, l2, l3, clr l4, some .null] st h := (ex_of d130_38 (d) [l0, l1, l2, l3, l4, l5] (.null :: st) h).trans (rfl)
theorem x130_38q {d : Nat} {l0 l1 l2 l3 l4 l5 : Option Value} {st : List Value} {a : Option Nat} {h : Hp} : ex (d) 130 38 [l0, l1, l2, l3, l4, l5] (va_rf a :: st) h = ex d 130 40 [l0, l1, l2, l3, clr l4, some (va_rf a)] st h := (ex_of d130_38 (d) [l0, l1, l2, l3, l4, l5] (va_rf a :: st) h).trans (by cases a <;> rfl)
theorem d130_40 : decode (mB 130) 40 = .ok (.aload 5, 2) := by decide +kernel
theorem x130_40 {d : Nat} {l0 l1 l2 l3 l4 : Option Value} {st : List Value} {a : Nat} {h : Hp} : ex (d) 130 40 [l0, l1, l2, l3, l4, some (.ref a)] st h = ex d 130 42 [l0, l1, l2, l3, l4, some (.ref a)] (.ref a :: st) h := (ex_of d130_40 (d) [l0, l1, l2, l3, l4, some (.ref a)] st h).trans (rfl)
theorem x130_40n {d : Nat} {l0 l1 l2 l3 l4 : Option Value} {st : List Value} {h : Hp} : ex (d) 130 40 [l0, l1, l2, l3, l4, some .null] st h = ex d 130 42 [l0, l1, l2, l3, l4, some .null] (.null :: st) h := (ex_of d130_40 (d) [l0, l1, l2, l3, l4, some .null] st h).trans (rfl)
theorem x130_40q {d : Nat} {l0 l1 l2 l3 l4 : Option Value} {st : List Value} {a : Option Nat} {h : Hp} : ex (d) 130 40 [l0, l1, l2, l3, l4, some (va_rf a)] st h = ex d 130 42 [l0, l1, l2, l3, l4, some (va_rf a)] (va_rf a :: st) h := (ex_of d130_40 (d) [l0, l1, l2, l3, l4, some (va_rf a)] st h).trans (by cases a <;> rfl)
theorem d130_42 : decode (mB 130) 42 = .ok (.ifnull 20, 3) := by decide +kernel
theorem x130_42n {d : Nat} {L : Lc} {st : List Value} {h : Hp} : ex (d) 130 42 L (.null :: st) h = ex d 130 62 L st h := (ex_of d130_42 (d) L (.null :: st) h).trans (rfl)
theorem x130_42 {d : Nat} {L : Lc} {st : List Value} {a : Nat} {h : Hp} : ex (d) 130 42 L (.ref a :: st) h = ex d 130 45 L st h := (ex_of d130_42 (d) L (.ref a :: st) h).trans (rfl)
theorem d130_45 : decode (mB 130) 45 = .ok (.iload_n 3, 1) := by decide +kernel
theorem x130_45 {d : Nat} {l0 l1 l2 l4 l5 : Option Value} {st : List Value} {x : Int32} {h : Hp} : ex (d) 130 45 [l0, l1, l2, some (.int x), l4, l5] st h = ex d 130 46 [l0, l1, l2, some (.int x), l4, l5] (.int x :: st) h := (ex_of d130_45 (d) [l0, l1, l2, some (.int x), l4, l5] st h).trans (rfl)
theorem d130_46 : decode (mB 130) 46 = .ok (.iconst 1, 1) := by decide +kernel
theorem x130_46 {d : Nat} {L : Lc} {st : List Value} {h : Hp} : ex (d) 130 46 L st h = ex d 130 47 L (.int (nI 1) :: st) h := (ex_of d130_46 (d) L st h).trans (rfl)
theorem d130_47 : decode (mB 130) 47 = .ok (.aload_n 0, 1) := by decide +kernel
theorem x130_47 {d : Nat} {l1 l2 l3 l4 l5 : Option Value} {st : List Value} {a : Nat} {h : Hp} : ex (d) 130 47 [some (.ref a), l1, l2, l3, l4, l5] st h = ex d 130 48 [some (.ref a), l1, l2, l3, l4, l5] (.ref a :: st) h := (ex_of d130_47 (d) [some (.ref a), l1, l2, l3, l4, l5] st h).trans (rfl)
theorem d130_48 : decode (mB 130) 48 = .ok (.aload 5, 2) := by decide +kernel
theorem x130_48 {d : Nat} {l0 l1 l2 l3 l4 : Option Value} {st : List Value} {a : Nat} {h : Hp} : ex (d) 130 48 [l0, l1, l2, l3, l4, some (.ref a)] st h = ex d 130 50 [l0, l1, l2, l3, l4, some (.ref a)] (.ref a :: st) h := (ex_of d130_48 (d) [l0, l1, l2, l3, l4, some (.ref a)] st h).trans (rfl)
theorem x130_48n {d : Nat} {l0 l1 l2 l3 l4 : Option Value} {st : List Value} {h : Hp} : ex (d) 130 48 [l0, l1, l2, l3, l4, some .null] st h = ex d 130 50 [l0, l1, l2, l3, l4, some .null] (.null :: st) h := (ex_of d130_48 (d) [l0, l1, l2, l3, l4, some .null] st h).trans (rfl)
theorem x130_48q {d : Nat} {l0 l1 l2 l3 l4 : Option Value} {st : List Value} {a : Option Nat} {h : Hp} : ex (d) 130 48 [l0, l1, l2, l3, l4, some (va_rf a)] st h = ex d 130 50 [l0, l1, l2, l3, l4, some (va_rf a)] (va_rf a :: st) h := (ex_of d130_48 (d) [l0, l1, l2, l3, l4, some (va_rf a)] st h).trans (by cases a <;> rfl)
theorem d130_50 : decode (mB 130) 50 = .ok (.getfield 320, 3) := by decide +kernel
theorem x130_50 {d : Nat} {L : Lc} {st : List Value} {a : Nat} {h : Hp} (ht : isTh (h.2.1 a).1 = true) : ex (d) 130 50 L (.ref a :: st) h = ex d 130 53 L (h.1 a 5 :: st) h := (ex_of d130_50 (d) L (.ref a :: st) h).trans (fin_get (mi := 130) f10_320 ht)
theorem d130_53 : decode (mB 130) 53 = .ok (.iload_n 2, 1) := by decide +kernel
theorem x130_53 {d : Nat} {l0 l1 l3 l4 l5 : Option Value} {st : List Value} {x : Int32} {h : Hp} : ex (d) 130 53 [l0, l1, some (.int x), l3, l4, l5] st h = ex d 130 54 [l0, l1, some (.int x), l3, l4, l5] (.int x :: st) h := (ex_of d130_53 (d) [l0, l1, some (.int x), l3, l4, l5] st h).trans (rfl)
theorem d130_54 : decode (mB 130) 54 = .ok (.iconst 1, 1) := by decide +kernel
theorem x130_54 {d : Nat} {L : Lc} {st : List Value} {h : Hp} : ex (d) 130 54 L st h = ex d 130 55 L (.int (nI 1) :: st) h := (ex_of d130_54 (d) L st h).trans (rfl)
theorem d130_55 : decode (mB 130) 55 = .ok (.iadd, 1) := by decide +kernel
theorem x130_55 {d : Nat} {L : Lc} {st : List Value} {x y : Int32} {h : Hp} : ex (d) 130 55 L (.int y :: .int x :: st) h = ex d 130 56 L (.int (x + y) :: st) h := (ex_of d130_55 (d) L (.int y :: .int x :: st) h).trans (rfl)
theorem d130_56 : decode (mB 130) 56 = .ok (.invokevirtual 294, 3) := by decide +kernel
theorem x130_56 {d : Nat} {L : Lc} {s0 s1 : Value} {a : Nat} {v0 : Value} {v1 : Int32} {h : Hp} (ht : (h.2.1 a).1 = 10) (hv0 : isR v0 = true) : ex (d + 1) 130 56 L (.int v1 :: v0 :: .ref a :: [s0, s1]) h = bnd (ex d 130 0 [some (.ref a), some v0, some (.int v1), none, none, none] [] h) (fun v h' => ex (d + 1) 130 59 L (v.toList ++ [s0, s1]) h') := (ex_of d130_56 (d + 1) L (.int v1 :: v0 :: .ref a :: [s0, s1]) h).trans (fin_vi (mi := 130) i10_294 ht rfl rfl (by simp [cat1_i, cat1_r, isR_cat1 hv0]) (by simp) (Nat.le_of_ble_eq_true rfl))
theorem d130_59 : decode (mB 130) 59 = .ok (.iadd, 1) := by decide +kernel
theorem x130_59 {d : Nat} {L : Lc} {st : List Value} {x y : Int32} {h : Hp} : ex (d) 130 59 L (.int y :: .int x :: st) h = ex d 130 60 L (.int (x + y) :: st) h := (ex_of d130_59 (d) L (.int y :: .int x :: st) h).trans (rfl)
theorem d130_60 : decode (mB 130) 60 = .ok (.iadd, 1) := by decide +kernel
theorem x130_60 {d : Nat} {L : Lc} {st : List Value} {x y : Int32} {h : Hp} : ex (d) 130 60 L (.int y :: .int x :: st) h = ex d 130 61 L (.int (x + y) :: st) h := (ex_of d130_60 (d) L (.int y :: .int x :: st) h).trans (rfl)
theorem d130_61 : decode (mB 130) 61 = .ok (.istore_n 3, 1) := by decide +kernel
theorem x130_61 {d : Nat} {l0 l1 l2 l3 l4 l5 : Option Value} {st : List Value} {x : Int32} {h : Hp} : ex (d) 130 61 [l0, l1, l2, l3, l4, l5] (.int x :: st) h = ex d 130 62 [l0, l1, clr l2, some (.int x), l4, l5] st h := (ex_of d130_61 (d) [l0, l1, l2, l3, l4, l5] (.int x :: st) h).trans (rfl)
theorem d130_62 : decode (mB 130) 62 = .ok (.iinc 4 1, 3) := by decide +kernel
theorem x130_62 {d : Nat} {l0 l1 l2 l3 l5 : Option Value} {st : List Value} {x : Int32} {h : Hp} : ex (d) 130 62 [l0, l1, l2, l3, some (.int x), l5] st h = ex d 130 65 [l0, l1, l2, clr l3, some (.int (x + (nI 1))), l5] st h := (ex_of d130_62 (d) [l0, l1, l2, l3, some (.int x), l5] st h).trans (rfl)
theorem d130_65 : decode (mB 130) 65 = .ok (.goto (-44), 3) := by decide +kernel
theorem x130_65 {d : Nat} {L : Lc} {st : List Value} {h : Hp} : ex (d) 130 65 L st h = ex d 130 21 L st h := (ex_of d130_65 (d) L st h).trans (rfl)
theorem d130_68 : decode (mB 130) 68 = .ok (.aload_n 0, 1) := by decide +kernel
theorem x130_68 {d : Nat} {l1 l2 l3 l4 l5 : Option Value} {st : List Value} {a : Nat} {h : Hp} : ex (d) 130 68 [some (.ref a), l1, l2, l3, l4, l5] st h = ex d 130 69 [some (.ref a), l1, l2, l3, l4, l5] (.ref a :: st) h := (ex_of d130_68 (d) [some (.ref a), l1, l2, l3, l4, l5] st h).trans (rfl)
theorem d130_69 : decode (mB 130) 69 = .ok (.invokevirtual 290, 3) := by decide +kernel
theorem x130_69 {d : Nat} {L : Lc} {a : Nat} {h : Hp} (ht : (h.2.1 a).1 = 10) : ex (d + 1) 130 69 L (.ref a :: []) h = bnd (ex d 101 0 [some (.ref a)] [] h) (fun v h' => ex (d + 1) 130 72 L (v.toList ++ []) h') := (ex_of d130_69 (d + 1) L (.ref a :: []) h).trans (fin_vi (mi := 130) i10_290 ht rfl rfl (by simp [cat1_i, cat1_r]) (by simp) (Nat.le_of_ble_eq_true rfl))
theorem d130_72 : decode (mB 130) 72 = .ok (.iload_n 3, 1) := by decide +kernel
theorem x130_72 {d : Nat} {l0 l1 l2 l4 l5 : Option Value} {st : List Value} {x : Int32} {h : Hp} : ex (d) 130 72 [l0, l1, l2, some (.int x), l4, l5] st h = ex d 130 73 [l0, l1, l2, some (.int x), l4, l5] (.int x :: st) h := (ex_of d130_72 (d) [l0, l1, l2, some (.int x), l4, l5] st h).trans (rfl)
theorem d130_73 : decode (mB 130) 73 = .ok (.ireturn, 1) := by decide +kernel
theorem x130_73 {d : Nat} {L : Lc} {x : Int32} {h : Hp} : ex (d) 130 73 L [.int x] h = some (some (.int x), h) := (ex_of d130_73 (d) L [.int x] h).trans (rfl)
theorem d131_0 : decode (mB 131) 0 = .ok (.aload_n 1, 1) := by decide +kernel
theorem x131_0 {d : Nat} {l0 l2 l3 l4 : Option Value} {st : List Value} {a : Nat} {h : Hp} : ex (d) 131 0 [l0, some (.ref a), l2, l3, l4] st h = ex d 131 1 [l0, some (.ref a), l2, l3, l4] (.ref a :: st) h := (ex_of d131_0 (d) [l0, some (.ref a), l2, l3, l4] st h).trans (rfl)
theorem x131_0n {d : Nat} {l0 l2 l3 l4 : Option Value} {st : List Value} {h : Hp} : ex (d) 131 0 [l0, some .null, l2, l3, l4] st h = ex d 131 1 [l0, some .null, l2, l3, l4] (.null :: st) h := (ex_of d131_0 (d) [l0, some .null, l2, l3, l4] st h).trans (rfl)
theorem x131_0q {d : Nat} {l0 l2 l3 l4 : Option Value} {st : List Value} {a : Option Nat} {h : Hp} : ex (d) 131 0 [l0, some (va_rf a), l2, l3, l4] st h = ex d 131 1 [l0, some (va_rf a), l2, l3, l4] (va_rf a :: st) h := (ex_of d131_0 (d) [l0, some (va_rf a), l2, l3, l4] st h).trans (by cases a <;> rfl)
theorem d131_1 : decode (mB 131) 1 = .ok (.ifnonnull 5, 3) := by decide +kernel
theorem x131_1n {d : Nat} {L : Lc} {st : List Value} {h : Hp} : ex (d) 131 1 L (.null :: st) h = ex d 131 4 L st h := (ex_of d131_1 (d) L (.null :: st) h).trans (rfl)
theorem x131_1 {d : Nat} {L : Lc} {st : List Value} {a : Nat} {h : Hp} : ex (d) 131 1 L (.ref a :: st) h = ex d 131 6 L st h := (ex_of d131_1 (d) L (.ref a :: st) h).trans (rfl)
theorem d131_4 : decode (mB 131) 4 = .ok (.iload_n 0, 1) := by decide +kernel
theorem x131_4 {d : Nat} {l1 l2 l3 l4 : Option Value} {st : List Value} {x : Int32} {h : Hp} : ex (d) 131 4 [some (.int x), l1, l2, l3, l4] st h = ex d 131 5 [some (.int x), l1, l2, l3, l4] (.int x :: st) h := (ex_of d131_4 (d) [some (.int x), l1, l2, l3, l4] st h).trans (rfl)
theorem d131_5 : decode (mB 131) 5 = .ok (.ireturn, 1) := by decide +kernel
theorem x131_5 {d : Nat} {L : Lc} {x : Int32} {h : Hp} : ex (d) 131 5 L [.int x] h = some (some (.int x), h) := (ex_of d131_5 (d) L [.int x] h).trans (rfl)
theorem d131_6 : decode (mB 131) 6 = .ok (.iload_n 0, 1) := by decide +kernel
theorem x131_6 {d : Nat} {l1 l2 l3 l4 : Option Value} {st : List Value} {x : Int32} {h : Hp} : ex (d) 131 6 [some (.int x), l1, l2, l3, l4] st h = ex d 131 7 [some (.int x), l1, l2, l3, l4] (.int x :: st) h := (ex_of d131_6 (d) [some (.int x), l1, l2, l3, l4] st h).trans (rfl)
theorem d131_7 : decode (mB 131) 7 = .ok (.istore_n 2, 1) := by decide +kernel
theorem x131_7 {d : Nat} {l0 l1 l2 l3 l4 : Option Value} {st : List Value} {x : Int32} {h : Hp} : ex (d) 131 7 [l0, l1, l2, l3, l4] (.int x :: st) h = ex d 131 8 [l0, clr l1, some (.int x), l3, l4] st h := (ex_of d131_7 (d) [l0, l1, l2, l3, l4] (.int x :: st) h).trans (rfl)
theorem d131_8 : decode (mB 131) 8 = .ok (.iload_n 2, 1) := by decide +kernel
theorem x131_8 {d : Nat} {l0 l1 l3 l4 : Option Value} {st : List Value} {x : Int32} {h : Hp} : ex (d) 131 8 [l0, l1, some (.int x), l3, l4] st h = ex d 131 9 [l0, l1, some (.int x), l3, l4] (.int x :: st) h := (ex_of d131_8 (d) [l0, l1, some (.int x), l3, l4] st h).trans (rfl)
theorem d131_9 : decode (mB 131) 9 = .ok (.bipush 31, 2) := by decide +kernel
theorem x131_9 {d : Nat} {L : Lc} {st : List Value} {h : Hp} : ex (d) 131 9 L st h = ex d 131 11 L (.int (nI 31) :: st) h := (ex_of d131_9 (d) L st h).trans (rfl)
theorem d131_11 : decode (mB 131) 11 = .ok (.imul, 1) := by decide +kernel
theorem x131_11 {d : Nat} {L : Lc} {st : List Value} {x y : Int32} {h : Hp} : ex (d) 131 11 L (.int y :: .int x :: st) h = ex d 131 12 L (.int (x * y) :: st) h := (ex_of d131_11 (d) L (.int y :: .int x :: st) h).trans (rfl)
theorem d131_12 : decode (mB 131) 12 = .ok (.aload_n 1, 1) := by decide +kernel
theorem x131_12 {d : Nat} {l0 l2 l3 l4 : Option Value} {st : List Value} {a : Nat} {h : Hp} : ex (d) 131 12 [l0, some (.ref a), l2, l3, l4] st h = ex d 131 13 [l0, some (.ref a), l2, l3, l4] (.ref a :: st) h := (ex_of d131_12 (d) [l0, some (.ref a), l2, l3, l4] st h).trans (rfl)
theorem x131_12n {d : Nat} {l0 l2 l3 l4 : Option Value} {st : List Value} {h : Hp} : ex (d) 131 12 [l0, some .null, l2, l3, l4] st h = ex d 131 13 [l0, some .null, l2, l3, l4] (.null :: st) h := (ex_of d131_12 (d) [l0, some .null, l2, l3, l4] st h).trans (rfl)
theorem x131_12q {d : Nat} {l0 l2 l3 l4 : Option Value} {st : List Value} {a : Option Nat} {h : Hp} : ex (d) 131 12 [l0, some (va_rf a), l2, l3, l4] st h = ex d 131 13 [l0, some (va_rf a), l2, l3, l4] (va_rf a :: st) h := (ex_of d131_12 (d) [l0, some (va_rf a), l2, l3, l4] st h).trans (by cases a <;> rfl)
theorem d131_13 : decode (mB 131) 13 = .ok (.getfield 115, 3) := by decide +kernel
theorem x131_13 {d : Nat} {L : Lc} {st : List Value} {a : Nat} {h : Hp} (ht : isTh (h.2.1 a).1 = true) : ex (d) 131 13 L (.ref a :: st) h = ex d 131 16 L (h.1 a 1 :: st) h := (ex_of d131_13 (d) L (.ref a :: st) h).trans (fin_get (mi := 131) f10_115 ht)
theorem d131_16 : decode (mB 131) 16 = .ok (.iadd, 1) := by decide +kernel
theorem x131_16 {d : Nat} {L : Lc} {st : List Value} {x y : Int32} {h : Hp} : ex (d) 131 16 L (.int y :: .int x :: st) h = ex d 131 17 L (.int (x + y) :: st) h := (ex_of d131_16 (d) L (.int y :: .int x :: st) h).trans (rfl)
theorem d131_17 : decode (mB 131) 17 = .ok (.istore_n 2, 1) := by decide +kernel
theorem x131_17 {d : Nat} {l0 l1 l2 l3 l4 : Option Value} {st : List Value} {x : Int32} {h : Hp} : ex (d) 131 17 [l0, l1, l2, l3, l4] (.int x :: st) h = ex d 131 18 [l0, clr l1, some (.int x), l3, l4] st h := (ex_of d131_17 (d) [l0, l1, l2, l3, l4] (.int x :: st) h).trans (rfl)
theorem d131_18 : decode (mB 131) 18 = .ok (.iload_n 2, 1) := by decide +kernel
theorem x131_18 {d : Nat} {l0 l1 l3 l4 : Option Value} {st : List Value} {x : Int32} {h : Hp} : ex (d) 131 18 [l0, l1, some (.int x), l3, l4] st h = ex d 131 19 [l0, l1, some (.int x), l3, l4] (.int x :: st) h := (ex_of d131_18 (d) [l0, l1, some (.int x), l3, l4] st h).trans (rfl)
theorem d131_19 : decode (mB 131) 19 = .ok (.bipush 31, 2) := by decide +kernel
theorem x131_19 {d : Nat} {L : Lc} {st : List Value} {h : Hp} : ex (d) 131 19 L st h = ex d 131 21 L (.int (nI 31) :: st) h := (ex_of d131_19 (d) L st h).trans (rfl)
theorem d131_21 : decode (mB 131) 21 = .ok (.imul, 1) := by decide +kernel
theorem x131_21 {d : Nat} {L : Lc} {st : List Value} {x y : Int32} {h : Hp} : ex (d) 131 21 L (.int y :: .int x :: st) h = ex d 131 22 L (.int (x * y) :: st) h := (ex_of d131_21 (d) L (.int y :: .int x :: st) h).trans (rfl)
theorem d131_22 : decode (mB 131) 22 = .ok (.aload_n 1, 1) := by decide +kernel
theorem x131_22 {d : Nat} {l0 l2 l3 l4 : Option Value} {st : List Value} {a : Nat} {h : Hp} : ex (d) 131 22 [l0, some (.ref a), l2, l3, l4] st h = ex d 131 23 [l0, some (.ref a), l2, l3, l4] (.ref a :: st) h := (ex_of d131_22 (d) [l0, some (.ref a), l2, l3, l4] st h).trans (rfl)
theorem x131_22n {d : Nat} {l0 l2 l3 l4 : Option Value} {st : List Value} {h : Hp} : ex (d) 131 22 [l0, some .null, l2, l3, l4] st h = ex d 131 23 [l0, some .null, l2, l3, l4] (.null :: st) h := (ex_of d131_22 (d) [l0, some .null, l2, l3, l4] st h).trans (rfl)
theorem x131_22q {d : Nat} {l0 l2 l3 l4 : Option Value} {st : List Value} {a : Option Nat} {h : Hp} : ex (d) 131 22 [l0, some (va_rf a), l2, l3, l4] st h = ex d 131 23 [l0, some (va_rf a), l2, l3, l4] (va_rf a :: st) h := (ex_of d131_22 (d) [l0, some (va_rf a), l2, l3, l4] st h).trans (by cases a <;> rfl)
theorem d131_23 : decode (mB 131) 23 = .ok (.getfield 116, 3) := by decide +kernel
theorem x131_23 {d : Nat} {L : Lc} {st : List Value} {a : Nat} {h : Hp} (ht : isTh (h.2.1 a).1 = true) : ex (d) 131 23 L (.ref a :: st) h = ex d 131 26 L (h.1 a 2 :: st) h := (ex_of d131_23 (d) L (.ref a :: st) h).trans (fin_get (mi := 131) f10_116 ht)
theorem d131_26 : decode (mB 131) 26 = .ok (.iadd, 1) := by decide +kernel
theorem x131_26 {d : Nat} {L : Lc} {st : List Value} {x y : Int32} {h : Hp} : ex (d) 131 26 L (.int y :: .int x :: st) h = ex d 131 27 L (.int (x + y) :: st) h := (ex_of d131_26 (d) L (.int y :: .int x :: st) h).trans (rfl)
theorem d131_27 : decode (mB 131) 27 = .ok (.istore_n 2, 1) := by decide +kernel
theorem x131_27 {d : Nat} {l0 l1 l2 l3 l4 : Option Value} {st : List Value} {x : Int32} {h : Hp} : ex (d) 131 27 [l0, l1, l2, l3, l4] (.int x :: st) h = ex d 131 28 [l0, clr l1, some (.int x), l3, l4] st h := (ex_of d131_27 (d) [l0, l1, l2, l3, l4] (.int x :: st) h).trans (rfl)
theorem d131_28 : decode (mB 131) 28 = .ok (.iload_n 2, 1) := by decide +kernel
theorem x131_28 {d : Nat} {l0 l1 l3 l4 : Option Value} {st : List Value} {x : Int32} {h : Hp} : ex (d) 131 28 [l0, l1, some (.int x), l3, l4] st h = ex d 131 29 [l0, l1, some (.int x), l3, l4] (.int x :: st) h := (ex_of d131_28 (d) [l0, l1, some (.int x), l3, l4] st h).trans (rfl)
theorem d131_29 : decode (mB 131) 29 = .ok (.bipush 31, 2) := by decide +kernel
theorem x131_29 {d : Nat} {L : Lc} {st : List Value} {h : Hp} : ex (d) 131 29 L st h = ex d 131 31 L (.int (nI 31) :: st) h := (ex_of d131_29 (d) L st h).trans (rfl)
theorem d131_31 : decode (mB 131) 31 = .ok (.imul, 1) := by decide +kernel
theorem x131_31 {d : Nat} {L : Lc} {st : List Value} {x y : Int32} {h : Hp} : ex (d) 131 31 L (.int y :: .int x :: st) h = ex d 131 32 L (.int (x * y) :: st) h := (ex_of d131_31 (d) L (.int y :: .int x :: st) h).trans (rfl)
theorem d131_32 : decode (mB 131) 32 = .ok (.aload_n 1, 1) := by decide +kernel
theorem x131_32 {d : Nat} {l0 l2 l3 l4 : Option Value} {st : List Value} {a : Nat} {h : Hp} : ex (d) 131 32 [l0, some (.ref a), l2, l3, l4] st h = ex d 131 33 [l0, some (.ref a), l2, l3, l4] (.ref a :: st) h := (ex_of d131_32 (d) [l0, some (.ref a), l2, l3, l4] st h).trans (rfl)
theorem x131_32n {d : Nat} {l0 l2 l3 l4 : Option Value} {st : List Value} {h : Hp} : ex (d) 131 32 [l0, some .null, l2, l3, l4] st h = ex d 131 33 [l0, some .null, l2, l3, l4] (.null :: st) h := (ex_of d131_32 (d) [l0, some .null, l2, l3, l4] st h).trans (rfl)
theorem x131_32q {d : Nat} {l0 l2 l3 l4 : Option Value} {st : List Value} {a : Option Nat} {h : Hp} : ex (d) 131 32 [l0, some (va_rf a), l2, l3, l4] st h = ex d 131 33 [l0, some (va_rf a), l2, l3, l4] (va_rf a :: st) h := (ex_of d131_32 (d) [l0, some (va_rf a), l2, l3, l4] st h).trans (by cases a <;> rfl)
theorem d131_33 : decode (mB 131) 33 = .ok (.getfield 119, 3) := by decide +kernel
theorem x131_33 {d : Nat} {L : Lc} {st : List Value} {a : Nat} {h : Hp} (ht : isTh (h.2.1 a).1 = true) : ex (d) 131 33 L (.ref a :: st) h = ex d 131 36 L (h.1 a 3 :: st) h := (ex_of d131_33 (d) L (.ref a :: st) h).trans (fin_get (mi := 131) f10_119 ht)
theorem d131_36 : decode (mB 131) 36 = .ok (.ifnonnull 7, 3) := by decide +kernel
theorem x131_36n {d : Nat} {L : Lc} {st : List Value} {h : Hp} : ex (d) 131 36 L (.null :: st) h = ex d 131 39 L st h := (ex_of d131_36 (d) L (.null :: st) h).trans (rfl)
theorem x131_36 {d : Nat} {L : Lc} {st : List Value} {a : Nat} {h : Hp} : ex (d) 131 36 L (.ref a :: st) h = ex d 131 43 L st h := (ex_of d131_36 (d) L (.ref a :: st) h).trans (rfl)
theorem d131_39 : decode (mB 131) 39 = .ok (.iconst (-1), 1) := by decide +kernel
theorem x131_39 {d : Nat} {L : Lc} {st : List Value} {h : Hp} : ex (d) 131 39 L st h = ex d 131 40 L (.int (-1) :: st) h := (ex_of d131_39 (d) L st h).trans (rfl)
theorem d131_40 : decode (mB 131) 40 = .ok (.goto 10, 3) := by decide +kernel
theorem x131_40 {d : Nat} {L : Lc} {st : List Value} {h : Hp} : ex (d) 131 40 L st h = ex d 131 50 L st h := (ex_of d131_40 (d) L st h).trans (rfl)
theorem d131_43 : decode (mB 131) 43 = .ok (.aload_n 1, 1) := by decide +kernel
theorem x131_43 {d : Nat} {l0 l2 l3 l4 : Option Value} {st : List Value} {a : Nat} {h : Hp} : ex (d) 131 43 [l0, some (.ref a), l2, l3, l4] st h = ex d 131 44 [l0, some (.ref a), l2, l3, l4] (.ref a :: st) h := (ex_of d131_43 (d) [l0, some (.ref a), l2, l3, l4] st h).trans (rfl)
theorem x131_43n {d : Nat} {l0 l2 l3 l4 : Option Value} {st : List Value} {h : Hp} : ex (d) 131 43 [l0, some .null, l2, l3, l4] st h = ex d 131 44 [l0, some .null, l2, l3, l4] (.null :: st) h := (ex_of d131_43 (d) [l0, some .null, l2, l3, l4] st h).trans (rfl)
theorem x131_43q {d : Nat} {l0 l2 l3 l4 : Option Value} {st : List Value} {a : Option Nat} {h : Hp} : ex (d) 131 43 [l0, some (va_rf a), l2, l3, l4] st h = ex d 131 44 [l0, some (va_rf a), l2, l3, l4] (va_rf a :: st) h := (ex_of d131_43 (d) [l0, some (va_rf a), l2, l3, l4] st h).trans (by cases a <;> rfl)
theorem d131_44 : decode (mB 131) 44 = .ok (.getfield 119, 3) := by decide +kernel
theorem x131_44 {d : Nat} {L : Lc} {st : List Value} {a : Nat} {h : Hp} (ht : isTh (h.2.1 a).1 = true) : ex (d) 131 44 L (.ref a :: st) h = ex d 131 47 L (h.1 a 3 :: st) h := (ex_of d131_44 (d) L (.ref a :: st) h).trans (fin_get (mi := 131) f10_119 ht)
theorem d131_47 : decode (mB 131) 47 = .ok (.getfield 123, 3) := by decide +kernel
theorem x131_47 {d : Nat} {L : Lc} {st : List Value} {a : Nat} {h : Hp} (ht : (h.2.1 a).1 = 3) : ex (d) 131 47 L (.ref a :: st) h = ex d 131 50 L (h.1 a 0 :: st) h := (ex_of d131_47 (d) L (.ref a :: st) h).trans (fin_get (mi := 131) f10_123 (tg1 ht rfl))
theorem d131_50 : decode (mB 131) 50 = .ok (.iadd, 1) := by decide +kernel
theorem x131_50 {d : Nat} {L : Lc} {st : List Value} {x y : Int32} {h : Hp} : ex (d) 131 50 L (.int y :: .int x :: st) h = ex d 131 51 L (.int (x + y) :: st) h := (ex_of d131_50 (d) L (.int y :: .int x :: st) h).trans (rfl)
theorem d131_51 : decode (mB 131) 51 = .ok (.istore_n 2, 1) := by decide +kernel
theorem x131_51 {d : Nat} {l0 l1 l2 l3 l4 : Option Value} {st : List Value} {x : Int32} {h : Hp} : ex (d) 131 51 [l0, l1, l2, l3, l4] (.int x :: st) h = ex d 131 52 [l0, clr l1, some (.int x), l3, l4] st h := (ex_of d131_51 (d) [l0, l1, l2, l3, l4] (.int x :: st) h).trans (rfl)
theorem d131_52 : decode (mB 131) 52 = .ok (.aload_n 1, 1) := by decide +kernel
theorem x131_52 {d : Nat} {l0 l2 l3 l4 : Option Value} {st : List Value} {a : Nat} {h : Hp} : ex (d) 131 52 [l0, some (.ref a), l2, l3, l4] st h = ex d 131 53 [l0, some (.ref a), l2, l3, l4] (.ref a :: st) h := (ex_of d131_52 (d) [l0, some (.ref a), l2, l3, l4] st h).trans (rfl)
theorem x131_52n {d : Nat} {l0 l2 l3 l4 : Option Value} {st : List Value} {h : Hp} : ex (d) 131 52 [l0, some .null, l2, l3, l4] st h = ex d 131 53 [l0, some .null, l2, l3, l4] (.null :: st) h := (ex_of d131_52 (d) [l0, some .null, l2, l3, l4] st h).trans (rfl)
theorem x131_52q {d : Nat} {l0 l2 l3 l4 : Option Value} {st : List Value} {a : Option Nat} {h : Hp} : ex (d) 131 52 [l0, some (va_rf a), l2, l3, l4] st h = ex d 131 53 [l0, some (va_rf a), l2, l3, l4] (va_rf a :: st) h := (ex_of d131_52 (d) [l0, some (va_rf a), l2, l3, l4] st h).trans (by cases a <;> rfl)
theorem d131_53 : decode (mB 131) 53 = .ok (.instanceof 71, 3) := by decide +kernel
theorem x131_53 {d : Nat} {L : Lc} {st : List Value} {a : Nat} {h : Hp} (ht : casts.contains ((h.2.1 a).1, 1) = true) : ex (d) 131 53 L (.ref a :: st) h = ex d 131 56 L (.int (nI 1) :: st) h := (ex_of d131_53 (d) L (.ref a :: st) h).trans (fin_ins (mi := 131) k10_71 rfl ht)
theorem x131_53o {d : Nat} {L : Lc} {st : List Value} {a : Nat} {h : Hp} (ht : nocasts.contains ((h.2.1 a).1, 1) = true) : ex (d) 131 53 L (.ref a :: st) h = ex d 131 56 L (.int (nI 0) :: st) h := (ex_of d131_53 (d) L (.ref a :: st) h).trans (fin_inso (mi := 131) k10_71 rfl ht)
theorem x131_53n {d : Nat} {L : Lc} {st : List Value} {h : Hp} : ex (d) 131 53 L (.null :: st) h = ex d 131 56 L (.int (nI 0) :: st) h := (ex_of d131_53 (d) L (.null :: st) h).trans (fin_insn (mi := 131) k10_71)
theorem d131_56 : decode (mB 131) 56 = .ok (.ifCond .eq 37, 3) := by decide +kernel
theorem x131_56 {d : Nat} {L : Lc} {st : List Value} {x : Int32} {h : Hp} : ex (d) 131 56 L (.int x :: st) h = if x = 0 then ex d 131 93 L st h else ex d 131 59 L st h := (ex_of d131_56 (d) L (.int x :: st) h).trans (fin_brq (off := 37) (tgt := 93) rfl (by decide))
theorem d131_59 : decode (mB 131) 59 = .ok (.aload_n 1, 1) := by decide +kernel
theorem x131_59 {d : Nat} {l0 l2 l3 l4 : Option Value} {st : List Value} {a : Nat} {h : Hp} : ex (d) 131 59 [l0, some (.ref a), l2, l3, l4] st h = ex d 131 60 [l0, some (.ref a), l2, l3, l4] (.ref a :: st) h := (ex_of d131_59 (d) [l0, some (.ref a), l2, l3, l4] st h).trans (rfl)
theorem x131_59n {d : Nat} {l0 l2 l3 l4 : Option Value} {st : List Value} {h : Hp} : ex (d) 131 59 [l0, some .null, l2, l3, l4] st h = ex d 131 60 [l0, some .null, l2, l3, l4] (.null :: st) h := (ex_of d131_59 (d) [l0, some .null, l2, l3, l4] st h).trans (rfl)
theorem x131_59q {d : Nat} {l0 l2 l3 l4 : Option Value} {st : List Value} {a : Option Nat} {h : Hp} : ex (d) 131 59 [l0, some (va_rf a), l2, l3, l4] st h = ex d 131 60 [l0, some (va_rf a), l2, l3, l4] (va_rf a :: st) h := (ex_of d131_59 (d) [l0, some (va_rf a), l2, l3, l4] st h).trans (by cases a <;> rfl)
theorem d131_60 : decode (mB 131) 60 = .ok (.checkcast 71, 3) := by decide +kernel
theorem x131_60 {d : Nat} {L : Lc} {st : List Value} {a : Nat} {h : Hp} (ht : casts.contains ((h.2.1 a).1, 1) = true) : ex (d) 131 60 L (.ref a :: st) h = ex d 131 63 L (.ref a :: st) h := (ex_of d131_60 (d) L (.ref a :: st) h).trans (fin_ckc (mi := 131) k10_71 rfl ht)
theorem d131_63 : decode (mB 131) 63 = .ok (.astore_n 3, 1) := by decide +kernel
theorem x131_63 {d : Nat} {l0 l1 l2 l3 l4 : Option Value} {st : List Value} {a : Nat} {h : Hp} : ex (d) 131 63 [l0, l1, l2, l3, l4] (.ref a :: st) h = ex d 131 64 [l0, l1, clr l2, some (.ref a), l4] st h := (ex_of d131_63 (d) [l0, l1, l2, l3, l4] (.ref a :: st) h).trans (rfl)
theorem x131_63n {d : Nat} {l0 l1 l2 l3 l4 : Option Value} {st : List Value} {h : Hp} : ex (d) 131 63 [l0, l1, l2, l3, l4] (.null :: st) h = ex d 131 64 [l0, l1, clr l2, some .null, l4] st h := (ex_of d131_63 (d) [l0, l1, l2, l3, l4] (.null :: st) h).trans (rfl)
theorem x131_63q {d : Nat} {l0 l1 l2 l3 l4 : Option Value} {st : List Value} {a : Option Nat} {h : Hp} : ex (d) 131 63 [l0, l1, l2, l3, l4] (va_rf a :: st) h = ex d 131 64 [l0, l1, clr l2, some (va_rf a), l4] st h := (ex_of d131_63 (d) [l0, l1, l2, l3, l4] (va_rf a :: st) h).trans (by cases a <;> rfl)
theorem d131_64 : decode (mB 131) 64 = .ok (.iconst 0, 1) := by decide +kernel
theorem x131_64 {d : Nat} {L : Lc} {st : List Value} {h : Hp} : ex (d) 131 64 L st h = ex d 131 65 L (.int (nI 0) :: st) h := (ex_of d131_64 (d) L st h).trans (rfl)
theorem d131_65 : decode (mB 131) 65 = .ok (.istore 4, 2) := by decide +kernel
theorem x131_65 {d : Nat} {l0 l1 l2 l3 l4 : Option Value} {st : List Value} {x : Int32} {h : Hp} : ex (d) 131 65 [l0, l1, l2, l3, l4] (.int x :: st) h = ex d 131 67 [l0, l1, l2, clr l3, some (.int x)] st h := (ex_of d131_65 (d) [l0, l1, l2, l3, l4] (.int x :: st) h).trans (rfl)
theorem d131_67 : decode (mB 131) 67 = .ok (.iload 4, 2) := by decide +kernel
theorem x131_67 {d : Nat} {l0 l1 l2 l3 : Option Value} {st : List Value} {x : Int32} {h : Hp} : ex (d) 131 67 [l0, l1, l2, l3, some (.int x)] st h = ex d 131 69 [l0, l1, l2, l3, some (.int x)] (.int x :: st) h := (ex_of d131_67 (d) [l0, l1, l2, l3, some (.int x)] st h).trans (rfl)
theorem d131_69 : decode (mB 131) 69 = .ok (.bipush 6, 2) := by decide +kernel
theorem x131_69 {d : Nat} {L : Lc} {st : List Value} {h : Hp} : ex (d) 131 69 L st h = ex d 131 71 L (.int (nI 6) :: st) h := (ex_of d131_69 (d) L st h).trans (rfl)
theorem d131_71 : decode (mB 131) 71 = .ok (.if_icmp .ge 22, 3) := by decide +kernel
theorem x131_71 {d : Nat} {L : Lc} {st : List Value} {x y : Int32} {h : Hp} : ex (d) 131 71 L (.int y :: .int x :: st) h = if y ≤ x then ex d 131 93 L st h else ex d 131 74 L st h := (ex_of d131_71 (d) L (.int y :: .int x :: st) h).trans (fin_brq (off := 22) (tgt := 93) rfl (by decide))
theorem d131_74 : decode (mB 131) 74 = .ok (.iload_n 2, 1) := by decide +kernel
theorem x131_74 {d : Nat} {l0 l1 l3 l4 : Option Value} {st : List Value} {x : Int32} {h : Hp} : ex (d) 131 74 [l0, l1, some (.int x), l3, l4] st h = ex d 131 75 [l0, l1, some (.int x), l3, l4] (.int x :: st) h := (ex_of d131_74 (d) [l0, l1, some (.int x), l3, l4] st h).trans (rfl)
theorem d131_75 : decode (mB 131) 75 = .ok (.bipush 31, 2) := by decide +kernel
theorem x131_75 {d : Nat} {L : Lc} {st : List Value} {h : Hp} : ex (d) 131 75 L st h = ex d 131 77 L (.int (nI 31) :: st) h := (ex_of d131_75 (d) L st h).trans (rfl)
theorem d131_77 : decode (mB 131) 77 = .ok (.imul, 1) := by decide +kernel
theorem x131_77 {d : Nat} {L : Lc} {st : List Value} {x y : Int32} {h : Hp} : ex (d) 131 77 L (.int y :: .int x :: st) h = ex d 131 78 L (.int (x * y) :: st) h := (ex_of d131_77 (d) L (.int y :: .int x :: st) h).trans (rfl)
theorem d131_78 : decode (mB 131) 78 = .ok (.aload_n 3, 1) := by decide +kernel
theorem x131_78 {d : Nat} {l0 l1 l2 l4 : Option Value} {st : List Value} {a : Nat} {h : Hp} : ex (d) 131 78 [l0, l1, l2, some (.ref a), l4] st h = ex d 131 79 [l0, l1, l2, some (.ref a), l4] (.ref a :: st) h := (ex_of d131_78 (d) [l0, l1, l2, some (.ref a), l4] st h).trans (rfl)
theorem x131_78n {d : Nat} {l0 l1 l2 l4 : Option Value} {st : List Value} {h : Hp} : ex (d) 131 78 [l0, l1, l2, some .null, l4] st h = ex d 131 79 [l0, l1, l2, some .null, l4] (.null :: st) h := (ex_of d131_78 (d) [l0, l1, l2, some .null, l4] st h).trans (rfl)
theorem x131_78q {d : Nat} {l0 l1 l2 l4 : Option Value} {st : List Value} {a : Option Nat} {h : Hp} : ex (d) 131 78 [l0, l1, l2, some (va_rf a), l4] st h = ex d 131 79 [l0, l1, l2, some (va_rf a), l4] (va_rf a :: st) h := (ex_of d131_78 (d) [l0, l1, l2, some (va_rf a), l4] st h).trans (by cases a <;> rfl)
theorem d131_79 : decode (mB 131) 79 = .ok (.getfield 151, 3) := by decide +kernel
theorem x131_79 {d : Nat} {L : Lc} {st : List Value} {a : Nat} {h : Hp} (ht : (h.2.1 a).1 = 1) : ex (d) 131 79 L (.ref a :: st) h = ex d 131 82 L (h.1 a 6 :: st) h := (ex_of d131_79 (d) L (.ref a :: st) h).trans (fin_get (mi := 131) f10_151 (tg1 ht rfl))
theorem d131_82 : decode (mB 131) 82 = .ok (.iload 4, 2) := by decide +kernel
theorem x131_82 {d : Nat} {l0 l1 l2 l3 : Option Value} {st : List Value} {x : Int32} {h : Hp} : ex (d) 131 82 [l0, l1, l2, l3, some (.int x)] st h = ex d 131 84 [l0, l1, l2, l3, some (.int x)] (.int x :: st) h := (ex_of d131_82 (d) [l0, l1, l2, l3, some (.int x)] st h).trans (rfl)
theorem d131_84 : decode (mB 131) 84 = .ok (.iaload, 1) := by decide +kernel
theorem x131_84 {d : Nat} {L : Lc} {st : List Value} {a j : Nat} {h : Hp} (ht : (h.2.1 a).1 = 20) (hj : j < (h.2.1 a).2) (hb : j < 2147483648) : ex (d) 131 84 L (.int (nI j) :: .ref a :: st) h = ex d 131 85 L (h.1 a j :: st) h := (ex_of d131_84 (d) L (.int (nI j) :: .ref a :: st) h).trans (fin_iaload (Or.inl ht) hj hb)
theorem d131_85 : decode (mB 131) 85 = .ok (.iadd, 1) := by decide +kernel
theorem x131_85 {d : Nat} {L : Lc} {st : List Value} {x y : Int32} {h : Hp} : ex (d) 131 85 L (.int y :: .int x :: st) h = ex d 131 86 L (.int (x + y) :: st) h := (ex_of d131_85 (d) L (.int y :: .int x :: st) h).trans (rfl)
theorem d131_86 : decode (mB 131) 86 = .ok (.istore_n 2, 1) := by decide +kernel
theorem x131_86 {d : Nat} {l0 l1 l2 l3 l4 : Option Value} {st : List Value} {x : Int32} {h : Hp} : ex (d) 131 86 [l0, l1, l2, l3, l4] (.int x :: st) h = ex d 131 87 [l0, clr l1, some (.int x), l3, l4] st h := (ex_of d131_86 (d) [l0, l1, l2, l3, l4] (.int x :: st) h).trans (rfl)
theorem d131_87 : decode (mB 131) 87 = .ok (.iinc 4 1, 3) := by decide +kernel
theorem x131_87 {d : Nat} {l0 l1 l2 l3 : Option Value} {st : List Value} {x : Int32} {h : Hp} : ex (d) 131 87 [l0, l1, l2, l3, some (.int x)] st h = ex d 131 90 [l0, l1, l2, clr l3, some (.int (x + (nI 1)))] st h := (ex_of d131_87 (d) [l0, l1, l2, l3, some (.int x)] st h).trans (rfl)
theorem d131_90 : decode (mB 131) 90 = .ok (.goto (-23), 3) := by decide +kernel
theorem x131_90 {d : Nat} {L : Lc} {st : List Value} {h : Hp} : ex (d) 131 90 L st h = ex d 131 67 L st h := (ex_of d131_90 (d) L st h).trans (rfl)
theorem d131_93 : decode (mB 131) 93 = .ok (.iload_n 2, 1) := by decide +kernel
theorem x131_93 {d : Nat} {l0 l1 l3 l4 : Option Value} {st : List Value} {x : Int32} {h : Hp} : ex (d) 131 93 [l0, l1, some (.int x), l3, l4] st h = ex d 131 94 [l0, l1, some (.int x), l3, l4] (.int x :: st) h := (ex_of d131_93 (d) [l0, l1, some (.int x), l3, l4] st h).trans (rfl)
theorem d131_94 : decode (mB 131) 94 = .ok (.ireturn, 1) := by decide +kernel
theorem x131_94 {d : Nat} {L : Lc} {x : Int32} {h : Hp} : ex (d) 131 94 L [.int x] h = some (some (.int x), h) := (ex_of d131_94 (d) L [.int x] h).trans (rfl)
theorem d132_0 : decode (mB 132) 0 = .ok (.aload_n 1, 1) := by decide +kernel
theorem x132_0 {d : Nat} {l0 l2 l3 l4 : Option Value} {st : List Value} {a : Nat} {h : Hp} : ex (d) 132 0 [l0, some (.ref a), l2, l3, l4] st h = ex d 132 1 [l0, some (.ref a), l2, l3, l4] (.ref a :: st) h := (ex_of d132_0 (d) [l0, some (.ref a), l2, l3, l4] st h).trans (rfl)
theorem x132_0n {d : Nat} {l0 l2 l3 l4 : Option Value} {st : List Value} {h : Hp} : ex (d) 132 0 [l0, some .null, l2, l3, l4] st h = ex d 132 1 [l0, some .null, l2, l3, l4] (.null :: st) h := (ex_of d132_0 (d) [l0, some .null, l2, l3, l4] st h).trans (rfl)
theorem x132_0q {d : Nat} {l0 l2 l3 l4 : Option Value} {st : List Value} {a : Option Nat} {h : Hp} : ex (d) 132 0 [l0, some (va_rf a), l2, l3, l4] st h = ex d 132 1 [l0, some (va_rf a), l2, l3, l4] (va_rf a :: st) h := (ex_of d132_0 (d) [l0, some (va_rf a), l2, l3, l4] st h).trans (by cases a <;> rfl)
theorem d132_1 : decode (mB 132) 1 = .ok (.ifnonnull 5, 3) := by decide +kernel
theorem x132_1n {d : Nat} {L : Lc} {st : List Value} {h : Hp} : ex (d) 132 1 L (.null :: st) h = ex d 132 4 L st h := (ex_of d132_1 (d) L (.null :: st) h).trans (rfl)
theorem x132_1 {d : Nat} {L : Lc} {st : List Value} {a : Nat} {h : Hp} : ex (d) 132 1 L (.ref a :: st) h = ex d 132 6 L st h := (ex_of d132_1 (d) L (.ref a :: st) h).trans (rfl)
theorem d132_4 : decode (mB 132) 4 = .ok (.iload_n 0, 1) := by decide +kernel
theorem x132_4 {d : Nat} {l1 l2 l3 l4 : Option Value} {st : List Value} {x : Int32} {h : Hp} : ex (d) 132 4 [some (.int x), l1, l2, l3, l4] st h = ex d 132 5 [some (.int x), l1, l2, l3, l4] (.int x :: st) h := (ex_of d132_4 (d) [some (.int x), l1, l2, l3, l4] st h).trans (rfl)
theorem d132_5 : decode (mB 132) 5 = .ok (.ireturn, 1) := by decide +kernel
theorem x132_5 {d : Nat} {L : Lc} {x : Int32} {h : Hp} : ex (d) 132 5 L [.int x] h = some (some (.int x), h) := (ex_of d132_5 (d) L [.int x] h).trans (rfl)
theorem d132_6 : decode (mB 132) 6 = .ok (.iload_n 0, 1) := by decide +kernel
theorem x132_6 {d : Nat} {l1 l2 l3 l4 : Option Value} {st : List Value} {x : Int32} {h : Hp} : ex (d) 132 6 [some (.int x), l1, l2, l3, l4] st h = ex d 132 7 [some (.int x), l1, l2, l3, l4] (.int x :: st) h := (ex_of d132_6 (d) [some (.int x), l1, l2, l3, l4] st h).trans (rfl)
theorem d132_7 : decode (mB 132) 7 = .ok (.istore_n 2, 1) := by decide +kernel
theorem x132_7 {d : Nat} {l0 l1 l2 l3 l4 : Option Value} {st : List Value} {x : Int32} {h : Hp} : ex (d) 132 7 [l0, l1, l2, l3, l4] (.int x :: st) h = ex d 132 8 [l0, clr l1, some (.int x), l3, l4] st h := (ex_of d132_7 (d) [l0, l1, l2, l3, l4] (.int x :: st) h).trans (rfl)
theorem d132_8 : decode (mB 132) 8 = .ok (.iconst 0, 1) := by decide +kernel
theorem x132_8 {d : Nat} {L : Lc} {st : List Value} {h : Hp} : ex (d) 132 8 L st h = ex d 132 9 L (.int (nI 0) :: st) h := (ex_of d132_8 (d) L st h).trans (rfl)
theorem d132_9 : decode (mB 132) 9 = .ok (.istore_n 3, 1) := by decide +kernel
theorem x132_9 {d : Nat} {l0 l1 l2 l3 l4 : Option Value} {st : List Value} {x : Int32} {h : Hp} : ex (d) 132 9 [l0, l1, l2, l3, l4] (.int x :: st) h = ex d 132 10 [l0, l1, clr l2, some (.int x), l4] st h := (ex_of d132_9 (d) [l0, l1, l2, l3, l4] (.int x :: st) h).trans (rfl)
theorem d132_10 : decode (mB 132) 10 = .ok (.iload_n 3, 1) := by decide +kernel
theorem x132_10 {d : Nat} {l0 l1 l2 l4 : Option Value} {st : List Value} {x : Int32} {h : Hp} : ex (d) 132 10 [l0, l1, l2, some (.int x), l4] st h = ex d 132 11 [l0, l1, l2, some (.int x), l4] (.int x :: st) h := (ex_of d132_10 (d) [l0, l1, l2, some (.int x), l4] st h).trans (rfl)
theorem d132_11 : decode (mB 132) 11 = .ok (.aload_n 1, 1) := by decide +kernel
theorem x132_11 {d : Nat} {l0 l2 l3 l4 : Option Value} {st : List Value} {a : Nat} {h : Hp} : ex (d) 132 11 [l0, some (.ref a), l2, l3, l4] st h = ex d 132 12 [l0, some (.ref a), l2, l3, l4] (.ref a :: st) h := (ex_of d132_11 (d) [l0, some (.ref a), l2, l3, l4] st h).trans (rfl)
theorem x132_11n {d : Nat} {l0 l2 l3 l4 : Option Value} {st : List Value} {h : Hp} : ex (d) 132 11 [l0, some .null, l2, l3, l4] st h = ex d 132 12 [l0, some .null, l2, l3, l4] (.null :: st) h := (ex_of d132_11 (d) [l0, some .null, l2, l3, l4] st h).trans (rfl)
theorem x132_11q {d : Nat} {l0 l2 l3 l4 : Option Value} {st : List Value} {a : Option Nat} {h : Hp} : ex (d) 132 11 [l0, some (va_rf a), l2, l3, l4] st h = ex d 132 12 [l0, some (va_rf a), l2, l3, l4] (va_rf a :: st) h := (ex_of d132_11 (d) [l0, some (va_rf a), l2, l3, l4] st h).trans (by cases a <;> rfl)
theorem d132_12 : decode (mB 132) 12 = .ok (.getfield 351, 3) := by decide +kernel
theorem x132_12 {d : Nat} {L : Lc} {st : List Value} {a : Nat} {h : Hp} (ht : (h.2.1 a).1 = 3) : ex (d) 132 12 L (.ref a :: st) h = ex d 132 15 L (h.1 a 2 :: st) h := (ex_of d132_12 (d) L (.ref a :: st) h).trans (fin_get (mi := 132) f10_351 (tg1 ht rfl))
theorem d132_15 : decode (mB 132) 15 = .ok (.arraylength, 1) := by decide +kernel
theorem x132_15 {d : Nat} {L : Lc} {st : List Value} {a : Nat} {h : Hp} (ht : 20 ≤ (h.2.1 a).1 ∧ (h.2.1 a).1 ≤ 30) : ex (d) 132 15 L (.ref a :: st) h = ex d 132 16 L (.int (nI (h.2.1 a).2) :: st) h := (ex_of d132_15 (d) L (.ref a :: st) h).trans (fin_alen ht)
theorem d132_16 : decode (mB 132) 16 = .ok (.if_icmp .ge 37, 3) := by decide +kernel
theorem x132_16 {d : Nat} {L : Lc} {st : List Value} {x y : Int32} {h : Hp} : ex (d) 132 16 L (.int y :: .int x :: st) h = if y ≤ x then ex d 132 53 L st h else ex d 132 19 L st h := (ex_of d132_16 (d) L (.int y :: .int x :: st) h).trans (fin_brq (off := 37) (tgt := 53) rfl (by decide))
theorem d132_19 : decode (mB 132) 19 = .ok (.aload_n 1, 1) := by decide +kernel
theorem x132_19 {d : Nat} {l0 l2 l3 l4 : Option Value} {st : List Value} {a : Nat} {h : Hp} : ex (d) 132 19 [l0, some (.ref a), l2, l3, l4] st h = ex d 132 20 [l0, some (.ref a), l2, l3, l4] (.ref a :: st) h := (ex_of d132_19 (d) [l0, some (.ref a), l2, l3, l4] st h).trans (rfl)
theorem x132_19n {d : Nat} {l0 l2 l3 l4 : Option Value} {st : List Value} {h : Hp} : ex (d) 132 19 [l0, some .null, l2, l3, l4] st h = ex d 132 20 [l0, some .null, l2, l3, l4] (.null :: st) h := (ex_of d132_19 (d) [l0, some .null, l2, l3, l4] st h).trans (rfl)
theorem x132_19q {d : Nat} {l0 l2 l3 l4 : Option Value} {st : List Value} {a : Option Nat} {h : Hp} : ex (d) 132 19 [l0, some (va_rf a), l2, l3, l4] st h = ex d 132 20 [l0, some (va_rf a), l2, l3, l4] (va_rf a :: st) h := (ex_of d132_19 (d) [l0, some (va_rf a), l2, l3, l4] st h).trans (by cases a <;> rfl)
theorem d132_20 : decode (mB 132) 20 = .ok (.getfield 351, 3) := by decide +kernel
theorem x132_20 {d : Nat} {L : Lc} {st : List Value} {a : Nat} {h : Hp} (ht : (h.2.1 a).1 = 3) : ex (d) 132 20 L (.ref a :: st) h = ex d 132 23 L (h.1 a 2 :: st) h := (ex_of d132_20 (d) L (.ref a :: st) h).trans (fin_get (mi := 132) f10_351 (tg1 ht rfl))
theorem d132_23 : decode (mB 132) 23 = .ok (.iload_n 3, 1) := by decide +kernel
theorem x132_23 {d : Nat} {l0 l1 l2 l4 : Option Value} {st : List Value} {x : Int32} {h : Hp} : ex (d) 132 23 [l0, l1, l2, some (.int x), l4] st h = ex d 132 24 [l0, l1, l2, some (.int x), l4] (.int x :: st) h := (ex_of d132_23 (d) [l0, l1, l2, some (.int x), l4] st h).trans (rfl)
theorem d132_24 : decode (mB 132) 24 = .ok (.aaload, 1) := by decide +kernel
theorem x132_24 {d : Nat} {L : Lc} {st : List Value} {a j : Nat} {h : Hp} (ht : 21 ≤ (h.2.1 a).1 ∧ (h.2.1 a).1 ≤ 26) (hj : j < (h.2.1 a).2) (hb : j < 2147483648) : ex (d) 132 24 L (.int (nI j) :: .ref a :: st) h = ex d 132 25 L (h.1 a j :: st) h := (ex_of d132_24 (d) L (.int (nI j) :: .ref a :: st) h).trans (fin_aaload ht hj hb)
theorem d132_25 : decode (mB 132) 25 = .ok (.astore 4, 2) := by decide +kernel
theorem x132_25 {d : Nat} {l0 l1 l2 l3 l4 : Option Value} {st : List Value} {a : Nat} {h : Hp} : ex (d) 132 25 [l0, l1, l2, l3, l4] (.ref a :: st) h = ex d 132 27 [l0, l1, l2, clr l3, some (.ref a)] st h := (ex_of d132_25 (d) [l0, l1, l2, l3, l4] (.ref a :: st) h).trans (rfl)
theorem x132_25n {d : Nat} {l0 l1 l2 l3 l4 : Option Value} {st : List Value} {h : Hp} : ex (d) 132 25 [l0, l1, l2, l3, l4] (.null :: st) h = ex d 132 27 [l0, l1, l2, clr l3, some .null] st h := (ex_of d132_25 (d) [l0, l1, l2, l3, l4] (.null :: st) h).trans (rfl)
theorem x132_25q {d : Nat} {l0 l1 l2 l3 l4 : Option Value} {st : List Value} {a : Option Nat} {h : Hp} : ex (d) 132 25 [l0, l1, l2, l3, l4] (va_rf a :: st) h = ex d 132 27 [l0, l1, l2, clr l3, some (va_rf a)] st h := (ex_of d132_25 (d) [l0, l1, l2, l3, l4] (va_rf a :: st) h).trans (by cases a <;> rfl)
theorem d132_27 : decode (mB 132) 27 = .ok (.iload_n 2, 1) := by decide +kernel
theorem x132_27 {d : Nat} {l0 l1 l3 l4 : Option Value} {st : List Value} {x : Int32} {h : Hp} : ex (d) 132 27 [l0, l1, some (.int x), l3, l4] st h = ex d 132 28 [l0, l1, some (.int x), l3, l4] (.int x :: st) h := (ex_of d132_27 (d) [l0, l1, some (.int x), l3, l4] st h).trans (rfl)
theorem d132_28 : decode (mB 132) 28 = .ok (.bipush 31, 2) := by decide +kernel
theorem x132_28 {d : Nat} {L : Lc} {st : List Value} {h : Hp} : ex (d) 132 28 L st h = ex d 132 30 L (.int (nI 31) :: st) h := (ex_of d132_28 (d) L st h).trans (rfl)
theorem d132_30 : decode (mB 132) 30 = .ok (.imul, 1) := by decide +kernel
theorem x132_30 {d : Nat} {L : Lc} {st : List Value} {x y : Int32} {h : Hp} : ex (d) 132 30 L (.int y :: .int x :: st) h = ex d 132 31 L (.int (x * y) :: st) h := (ex_of d132_30 (d) L (.int y :: .int x :: st) h).trans (rfl)
theorem d132_31 : decode (mB 132) 31 = .ok (.aload 4, 2) := by decide +kernel
theorem x132_31 {d : Nat} {l0 l1 l2 l3 : Option Value} {st : List Value} {a : Nat} {h : Hp} : ex (d) 132 31 [l0, l1, l2, l3, some (.ref a)] st h = ex d 132 33 [l0, l1, l2, l3, some (.ref a)] (.ref a :: st) h := (ex_of d132_31 (d) [l0, l1, l2, l3, some (.ref a)] st h).trans (rfl)
theorem x132_31n {d : Nat} {l0 l1 l2 l3 : Option Value} {st : List Value} {h : Hp} : ex (d) 132 31 [l0, l1, l2, l3, some .null] st h = ex d 132 33 [l0, l1, l2, l3, some .null] (.null :: st) h := (ex_of d132_31 (d) [l0, l1, l2, l3, some .null] st h).trans (rfl)
theorem x132_31q {d : Nat} {l0 l1 l2 l3 : Option Value} {st : List Value} {a : Option Nat} {h : Hp} : ex (d) 132 31 [l0, l1, l2, l3, some (va_rf a)] st h = ex d 132 33 [l0, l1, l2, l3, some (va_rf a)] (va_rf a :: st) h := (ex_of d132_31 (d) [l0, l1, l2, l3, some (va_rf a)] st h).trans (by cases a <;> rfl)
theorem d132_33 : decode (mB 132) 33 = .ok (.ifnonnull 7, 3) := by decide +kernel
theorem x132_33n {d : Nat} {L : Lc} {st : List Value} {h : Hp} : ex (d) 132 33 L (.null :: st) h = ex d 132 36 L st h := (ex_of d132_33 (d) L (.null :: st) h).trans (rfl)
theorem x132_33 {d : Nat} {L : Lc} {st : List Value} {a : Nat} {h : Hp} : ex (d) 132 33 L (.ref a :: st) h = ex d 132 40 L st h := (ex_of d132_33 (d) L (.ref a :: st) h).trans (rfl)
theorem d132_36 : decode (mB 132) 36 = .ok (.iconst (-1), 1) := by decide +kernel
theorem x132_36 {d : Nat} {L : Lc} {st : List Value} {h : Hp} : ex (d) 132 36 L st h = ex d 132 37 L (.int (-1) :: st) h := (ex_of d132_36 (d) L st h).trans (rfl)
theorem d132_37 : decode (mB 132) 37 = .ok (.goto 8, 3) := by decide +kernel
theorem x132_37 {d : Nat} {L : Lc} {st : List Value} {h : Hp} : ex (d) 132 37 L st h = ex d 132 45 L st h := (ex_of d132_37 (d) L st h).trans (rfl)
theorem d132_40 : decode (mB 132) 40 = .ok (.aload 4, 2) := by decide +kernel
theorem x132_40 {d : Nat} {l0 l1 l2 l3 : Option Value} {st : List Value} {a : Nat} {h : Hp} : ex (d) 132 40 [l0, l1, l2, l3, some (.ref a)] st h = ex d 132 42 [l0, l1, l2, l3, some (.ref a)] (.ref a :: st) h := (ex_of d132_40 (d) [l0, l1, l2, l3, some (.ref a)] st h).trans (rfl)
theorem x132_40n {d : Nat} {l0 l1 l2 l3 : Option Value} {st : List Value} {h : Hp} : ex (d) 132 40 [l0, l1, l2, l3, some .null] st h = ex d 132 42 [l0, l1, l2, l3, some .null] (.null :: st) h := (ex_of d132_40 (d) [l0, l1, l2, l3, some .null] st h).trans (rfl)
theorem x132_40q {d : Nat} {l0 l1 l2 l3 : Option Value} {st : List Value} {a : Option Nat} {h : Hp} : ex (d) 132 40 [l0, l1, l2, l3, some (va_rf a)] st h = ex d 132 42 [l0, l1, l2, l3, some (va_rf a)] (va_rf a :: st) h := (ex_of d132_40 (d) [l0, l1, l2, l3, some (va_rf a)] st h).trans (by cases a <;> rfl)
theorem d132_42 : decode (mB 132) 42 = .ok (.getfield 293, 3) := by decide +kernel
theorem x132_42 {d : Nat} {L : Lc} {st : List Value} {a : Nat} {h : Hp} (ht : isTh (h.2.1 a).1 = true) : ex (d) 132 42 L (.ref a :: st) h = ex d 132 45 L (h.1 a 0 :: st) h := (ex_of d132_42 (d) L (.ref a :: st) h).trans (fin_get (mi := 132) f10_293 ht)
theorem d132_45 : decode (mB 132) 45 = .ok (.iadd, 1) := by decide +kernel
theorem x132_45 {d : Nat} {L : Lc} {st : List Value} {x y : Int32} {h : Hp} : ex (d) 132 45 L (.int y :: .int x :: st) h = ex d 132 46 L (.int (x + y) :: st) h := (ex_of d132_45 (d) L (.int y :: .int x :: st) h).trans (rfl)
theorem d132_46 : decode (mB 132) 46 = .ok (.istore_n 2, 1) := by decide +kernel
theorem x132_46 {d : Nat} {l0 l1 l2 l3 l4 : Option Value} {st : List Value} {x : Int32} {h : Hp} : ex (d) 132 46 [l0, l1, l2, l3, l4] (.int x :: st) h = ex d 132 47 [l0, clr l1, some (.int x), l3, l4] st h := (ex_of d132_46 (d) [l0, l1, l2, l3, l4] (.int x :: st) h).trans (rfl)
theorem d132_47 : decode (mB 132) 47 = .ok (.iinc 3 1, 3) := by decide +kernel
theorem x132_47 {d : Nat} {l0 l1 l2 l4 : Option Value} {st : List Value} {x : Int32} {h : Hp} : ex (d) 132 47 [l0, l1, l2, some (.int x), l4] st h = ex d 132 50 [l0, l1, clr l2, some (.int (x + (nI 1))), l4] st h := (ex_of d132_47 (d) [l0, l1, l2, some (.int x), l4] st h).trans (rfl)
theorem d132_50 : decode (mB 132) 50 = .ok (.goto (-40), 3) := by decide +kernel
theorem x132_50 {d : Nat} {L : Lc} {st : List Value} {h : Hp} : ex (d) 132 50 L st h = ex d 132 10 L st h := (ex_of d132_50 (d) L st h).trans (rfl)
theorem d132_53 : decode (mB 132) 53 = .ok (.iload_n 2, 1) := by decide +kernel
theorem x132_53 {d : Nat} {l0 l1 l3 l4 : Option Value} {st : List Value} {x : Int32} {h : Hp} : ex (d) 132 53 [l0, l1, some (.int x), l3, l4] st h = ex d 132 54 [l0, l1, some (.int x), l3, l4] (.int x :: st) h := (ex_of d132_53 (d) [l0, l1, some (.int x), l3, l4] st h).trans (rfl)
theorem d132_54 : decode (mB 132) 54 = .ok (.ireturn, 1) := by decide +kernel
theorem x132_54 {d : Nat} {L : Lc} {x : Int32} {h : Hp} : ex (d) 132 54 L [.int x] h = some (some (.int x), h) := (ex_of d132_54 (d) L [.int x] h).trans (rfl)
