/-! ===== x-rows, printed by wip/whole/gen/genx.py: X11_plan, X11_dressOf, X11_least, X11_hire, X11_back, X11_purse, X11_spent, X11_share, X11_find, X11_count, X11_undo, X11_locks, X11_status, X11_digest, X11_refuse, X11_done, X11_thingAt, X11_holderAt ===== -/
theorem d70_0 : decode (mB 70) 0 = .ok (.aload_n 0, 1) := by decide +kernel
theorem x70_0 {d : Nat} {l1 : Option Value} {st : List Value} {a : Nat} {h : Hp} : ex (d) 70 0 [some (.ref a), l1] st h = ex d 70 1 [some (.ref a), l1] (.ref a :: st) h := (ex_of d70_0 (d) [some (.ref a), l1] st h).trans (rfl)
theorem d70_1 : decode (mB 70) 1 = .ok (.invokevirtual 244, 3) := by decide +kernel
theorem x70_1 {d : Nat} {L : Lc} {a : Nat} {h : Hp} (ht : (h.2.1 a).1 = 10) : ex (d + 1) 70 1 L (.ref a :: []) h = bnd (ex d 104 0 [some (.ref a), none] [] h) (fun v h' => ex (d + 1) 70 4 L (v.toList ++ []) h') := (ex_of d70_1 (d + 1) L (.ref a :: []) h).trans (fin_vi (mi := 70) i10_244 ht rfl rfl (by simp [cat1_i, cat1_r]) (by simp) (Nat.le_of_ble_eq_true rfl))
theorem d70_4 : decode (mB 70) 4 = .ok (.aload_n 0, 1) := by decide +kernel
theorem x70_4 {d : Nat} {l1 : Option Value} {st : List Value} {a : Nat} {h : Hp} : ex (d) 70 4 [some (.ref a), l1] st h = ex d 70 5 [some (.ref a), l1] (.ref a :: st) h := (ex_of d70_4 (d) [some (.ref a), l1] st h).trans (rfl)
theorem d70_5 : decode (mB 70) 5 = .ok (.getfield 42, 3) := by decide +kernel
theorem x70_5 {d : Nat} {L : Lc} {st : List Value} {a : Nat} {h : Hp} (ht : (h.2.1 a).1 = 10) : ex (d) 70 5 L (.ref a :: st) h = ex d 70 8 L (h.1 a 10 :: st) h := (ex_of d70_5 (d) L (.ref a :: st) h).trans (fin_get (mi := 70) f10_42 (tg1 ht rfl))
theorem d70_8 : decode (mB 70) 8 = .ok (.aload_n 0, 1) := by decide +kernel
theorem x70_8 {d : Nat} {l1 : Option Value} {st : List Value} {a : Nat} {h : Hp} : ex (d) 70 8 [some (.ref a), l1] st h = ex d 70 9 [some (.ref a), l1] (.ref a :: st) h := (ex_of d70_8 (d) [some (.ref a), l1] st h).trans (rfl)
theorem d70_9 : decode (mB 70) 9 = .ok (.getfield 11, 3) := by decide +kernel
theorem x70_9 {d : Nat} {L : Lc} {st : List Value} {a : Nat} {h : Hp} (ht : (h.2.1 a).1 = 10) : ex (d) 70 9 L (.ref a :: st) h = ex d 70 12 L (h.1 a 0 :: st) h := (ex_of d70_9 (d) L (.ref a :: st) h).trans (fin_get (mi := 70) f10_11 (tg1 ht rfl))
theorem d70_12 : decode (mB 70) 12 = .ok (.aload_n 0, 1) := by decide +kernel
theorem x70_12 {d : Nat} {l1 : Option Value} {st : List Value} {a : Nat} {h : Hp} : ex (d) 70 12 [some (.ref a), l1] st h = ex d 70 13 [some (.ref a), l1] (.ref a :: st) h := (ex_of d70_12 (d) [some (.ref a), l1] st h).trans (rfl)
theorem d70_13 : decode (mB 70) 13 = .ok (.getfield 73, 3) := by decide +kernel
theorem x70_13 {d : Nat} {L : Lc} {st : List Value} {a : Nat} {h : Hp} (ht : (h.2.1 a).1 = 10) : ex (d) 70 13 L (.ref a :: st) h = ex d 70 16 L (h.1 a 1 :: st) h := (ex_of d70_13 (d) L (.ref a :: st) h).trans (fin_get (mi := 70) f10_73 (tg1 ht rfl))
theorem d70_16 : decode (mB 70) 16 = .ok (.invokevirtual 247, 3) := by decide +kernel
theorem x70_16 {d : Nat} {L : Lc} {a : Nat} {v0 : Value} {v1 : Int32} {h : Hp} (ht : (h.2.1 a).1 = 5) (hv0 : isR v0 = true) : ex (d + 1) 70 16 L (.int v1 :: v0 :: .ref a :: []) h = bnd (ex d 17 0 [some (.ref a), some v0, some (.int v1), none, none] [] h) (fun v h' => ex (d + 1) 70 19 L (v.toList ++ []) h') := (ex_of d70_16 (d + 1) L (.int v1 :: v0 :: .ref a :: []) h).trans (fin_vi (mi := 70) i10_247 ht rfl rfl (by simp [cat1_i, cat1_r, isR_cat1 hv0]) (by simp) (Nat.le_of_ble_eq_true rfl))
theorem d70_19 : decode (mB 70) 19 = .ok (.aload_n 0, 1) := by decide +kernel
theorem x70_19 {d : Nat} {l1 : Option Value} {st : List Value} {a : Nat} {h : Hp} : ex (d) 70 19 [some (.ref a), l1] st h = ex d 70 20 [some (.ref a), l1] (.ref a :: st) h := (ex_of d70_19 (d) [some (.ref a), l1] st h).trans (rfl)
theorem d70_20 : decode (mB 70) 20 = .ok (.getfield 42, 3) := by decide +kernel
theorem x70_20 {d : Nat} {L : Lc} {st : List Value} {a : Nat} {h : Hp} (ht : (h.2.1 a).1 = 10) : ex (d) 70 20 L (.ref a :: st) h = ex d 70 23 L (h.1 a 10 :: st) h := (ex_of d70_20 (d) L (.ref a :: st) h).trans (fin_get (mi := 70) f10_42 (tg1 ht rfl))
theorem d70_23 : decode (mB 70) 23 = .ok (.iconst (-1), 1) := by decide +kernel
theorem x70_23 {d : Nat} {L : Lc} {st : List Value} {h : Hp} : ex (d) 70 23 L st h = ex d 70 24 L (.int (-1) :: st) h := (ex_of d70_23 (d) L st h).trans (rfl)
theorem d70_24 : decode (mB 70) 24 = .ok (.aconst_null, 1) := by decide +kernel
theorem x70_24 {d : Nat} {L : Lc} {st : List Value} {h : Hp} : ex (d) 70 24 L st h = ex d 70 25 L (.null :: st) h := (ex_of d70_24 (d) L st h).trans (rfl)
theorem d70_25 : decode (mB 70) 25 = .ok (.invokevirtual 251, 3) := by decide +kernel
theorem x70_25 {d : Nat} {L : Lc} {a : Nat} {v0 : Int32} {v1 : Value} {h : Hp} (ht : (h.2.1 a).1 = 5) (hv1 : isR v1 = true) : ex (d + 1) 70 25 L (v1 :: .int v0 :: .ref a :: []) h = bnd (ex d 18 0 [some (.ref a), some (.int v0), some v1, none] [] h) (fun v h' => ex (d + 1) 70 28 L (v.toList ++ []) h') := (ex_of d70_25 (d + 1) L (v1 :: .int v0 :: .ref a :: []) h).trans (fin_vi (mi := 70) i10_251 ht rfl rfl (by simp [cat1_i, cat1_r, isR_cat1 hv1]) (by simp) (Nat.le_of_ble_eq_true rfl))
theorem d70_28 : decode (mB 70) 28 = .ok (.istore_n 1, 1) := by decide +kernel
theorem x70_28 {d : Nat} {l0 l1 : Option Value} {st : List Value} {x : Int32} {h : Hp} : ex (d) 70 28 [l0, l1] (.int x :: st) h = ex d 70 29 [clr l0, some (.int x)] st h := (ex_of d70_28 (d) [l0, l1] (.int x :: st) h).trans (rfl)
theorem d70_29 : decode (mB 70) 29 = .ok (.aload_n 0, 1) := by decide +kernel
theorem x70_29 {d : Nat} {l1 : Option Value} {st : List Value} {a : Nat} {h : Hp} : ex (d) 70 29 [some (.ref a), l1] st h = ex d 70 30 [some (.ref a), l1] (.ref a :: st) h := (ex_of d70_29 (d) [some (.ref a), l1] st h).trans (rfl)
theorem d70_30 : decode (mB 70) 30 = .ok (.getfield 42, 3) := by decide +kernel
theorem x70_30 {d : Nat} {L : Lc} {st : List Value} {a : Nat} {h : Hp} (ht : (h.2.1 a).1 = 10) : ex (d) 70 30 L (.ref a :: st) h = ex d 70 33 L (h.1 a 10 :: st) h := (ex_of d70_30 (d) L (.ref a :: st) h).trans (fin_get (mi := 70) f10_42 (tg1 ht rfl))
theorem d70_33 : decode (mB 70) 33 = .ok (.iload_n 1, 1) := by decide +kernel
theorem x70_33 {d : Nat} {l0 : Option Value} {st : List Value} {x : Int32} {h : Hp} : ex (d) 70 33 [l0, some (.int x)] st h = ex d 70 34 [l0, some (.int x)] (.int x :: st) h := (ex_of d70_33 (d) [l0, some (.int x)] st h).trans (rfl)
theorem d70_34 : decode (mB 70) 34 = .ok (.invokevirtual 255, 3) := by decide +kernel
theorem x70_34 {d : Nat} {L : Lc} {a : Nat} {v0 : Int32} {h : Hp} (ht : (h.2.1 a).1 = 5) : ex (d + 1) 70 34 L (.int v0 :: .ref a :: []) h = bnd (ex d 19 0 [some (.ref a), some (.int v0), none, none] [] h) (fun v h' => ex (d + 1) 70 37 L (v.toList ++ []) h') := (ex_of d70_34 (d + 1) L (.int v0 :: .ref a :: []) h).trans (fin_vi (mi := 70) i10_255 ht rfl rfl (by simp [cat1_i, cat1_r]) (by simp) (Nat.le_of_ble_eq_true rfl))
theorem d70_37 : decode (mB 70) 37 = .ok (.aload_n 0, 1) := by decide +kernel
theorem x70_37 {d : Nat} {l1 : Option Value} {st : List Value} {a : Nat} {h : Hp} : ex (d) 70 37 [some (.ref a), l1] st h = ex d 70 38 [some (.ref a), l1] (.ref a :: st) h := (ex_of d70_37 (d) [some (.ref a), l1] st h).trans (rfl)
theorem d70_38 : decode (mB 70) 38 = .ok (.invokevirtual 259, 3) := by decide +kernel
theorem x70_38 {d : Nat} {L : Lc} {a : Nat} {h : Hp} (ht : (h.2.1 a).1 = 10) : ex (d + 1) 70 38 L (.ref a :: []) h = bnd (ex d 105 0 [some (.ref a), none] [] h) (fun v h' => ex (d + 1) 70 41 L (v.toList ++ []) h') := (ex_of d70_38 (d + 1) L (.ref a :: []) h).trans (fin_vi (mi := 70) i10_259 ht rfl rfl (by simp [cat1_i, cat1_r]) (by simp) (Nat.le_of_ble_eq_true rfl))
theorem d70_41 : decode (mB 70) 41 = .ok (.iload_n 1, 1) := by decide +kernel
theorem x70_41 {d : Nat} {l0 : Option Value} {st : List Value} {x : Int32} {h : Hp} : ex (d) 70 41 [l0, some (.int x)] st h = ex d 70 42 [l0, some (.int x)] (.int x :: st) h := (ex_of d70_41 (d) [l0, some (.int x)] st h).trans (rfl)
theorem d70_42 : decode (mB 70) 42 = .ok (.ldc 110, 2) := by decide +kernel
theorem x70_42 {d : Nat} {L : Lc} {st : List Value} {h : Hp} : ex (d) 70 42 L st h = ex d 70 44 L (.int (nI 2147483647) :: st) h := (ex_of d70_42 (d) L st h).trans (fin_ldc (mi := 70) c10_110)
theorem d70_44 : decode (mB 70) 44 = .ok (.if_icmp .ne 12, 3) := by decide +kernel
theorem x70_44 {d : Nat} {L : Lc} {st : List Value} {x y : Int32} {h : Hp} : ex (d) 70 44 L (.int y :: .int x :: st) h = if ¬ x = y then ex d 70 56 L st h else ex d 70 47 L st h := (ex_of d70_44 (d) L (.int y :: .int x :: st) h).trans (fin_brq (off := 12) (tgt := 56) rfl (by decide))
theorem d70_47 : decode (mB 70) 47 = .ok (.aload_n 0, 1) := by decide +kernel
theorem x70_47 {d : Nat} {l1 : Option Value} {st : List Value} {a : Nat} {h : Hp} : ex (d) 70 47 [some (.ref a), l1] st h = ex d 70 48 [some (.ref a), l1] (.ref a :: st) h := (ex_of d70_47 (d) [some (.ref a), l1] st h).trans (rfl)
theorem d70_48 : decode (mB 70) 48 = .ok (.bipush 12, 2) := by decide +kernel
theorem x70_48 {d : Nat} {L : Lc} {st : List Value} {h : Hp} : ex (d) 70 48 L st h = ex d 70 50 L (.int (nI 12) :: st) h := (ex_of d70_48 (d) L st h).trans (rfl)
theorem d70_50 : decode (mB 70) 50 = .ok (.invokevirtual 57, 3) := by decide +kernel
theorem x70_50 {d : Nat} {L : Lc} {a : Nat} {v0 : Int32} {h : Hp} (ht : (h.2.1 a).1 = 10) : ex (d + 1) 70 50 L (.int v0 :: .ref a :: []) h = bnd (ex d 84 0 [some (.ref a), some (.int v0)] [] h) (fun v h' => ex (d + 1) 70 53 L (v.toList ++ []) h') := (ex_of d70_50 (d + 1) L (.int v0 :: .ref a :: []) h).trans (fin_vi (mi := 70) i10_57 ht rfl rfl (by simp [cat1_i, cat1_r]) (by simp) (Nat.le_of_ble_eq_true rfl))
theorem d70_53 : decode (mB 70) 53 = .ok (.goto 8, 3) := by decide +kernel
theorem x70_53 {d : Nat} {L : Lc} {st : List Value} {h : Hp} : ex (d) 70 53 L st h = ex d 70 61 L st h := (ex_of d70_53 (d) L st h).trans (rfl)
theorem d70_56 : decode (mB 70) 56 = .ok (.aload_n 0, 1) := by decide +kernel
theorem x70_56 {d : Nat} {l1 : Option Value} {st : List Value} {a : Nat} {h : Hp} : ex (d) 70 56 [some (.ref a), l1] st h = ex d 70 57 [some (.ref a), l1] (.ref a :: st) h := (ex_of d70_56 (d) [some (.ref a), l1] st h).trans (rfl)
theorem d70_57 : decode (mB 70) 57 = .ok (.iload_n 1, 1) := by decide +kernel
theorem x70_57 {d : Nat} {l0 : Option Value} {st : List Value} {x : Int32} {h : Hp} : ex (d) 70 57 [l0, some (.int x)] st h = ex d 70 58 [l0, some (.int x)] (.int x :: st) h := (ex_of d70_57 (d) [l0, some (.int x)] st h).trans (rfl)
theorem d70_58 : decode (mB 70) 58 = .ok (.invokevirtual 64, 3) := by decide +kernel
theorem x70_58 {d : Nat} {L : Lc} {a : Nat} {v0 : Int32} {h : Hp} (ht : (h.2.1 a).1 = 10) : ex (d + 1) 70 58 L (.int v0 :: .ref a :: []) h = bnd (ex d 85 0 [some (.ref a), some (.int v0)] [] h) (fun v h' => ex (d + 1) 70 61 L (v.toList ++ []) h') := (ex_of d70_58 (d + 1) L (.int v0 :: .ref a :: []) h).trans (fin_vi (mi := 70) i10_64 ht rfl rfl (by simp [cat1_i, cat1_r]) (by simp) (Nat.le_of_ble_eq_true rfl))
theorem d70_61 : decode (mB 70) 61 = .ok (.ireturn, 1) := by decide +kernel
theorem x70_61 {d : Nat} {L : Lc} {x : Int32} {h : Hp} : ex (d) 70 61 L [.int x] h = some (some (.int x), h) := (ex_of d70_61 (d) L [.int x] h).trans (rfl)
theorem d71_0 : decode (mB 71) 0 = .ok (.iload_n 1, 1) := by decide +kernel
theorem x71_0 {d : Nat} {l0 : Option Value} {st : List Value} {x : Int32} {h : Hp} : ex (d) 71 0 [l0, some (.int x)] st h = ex d 71 1 [l0, some (.int x)] (.int x :: st) h := (ex_of d71_0 (d) [l0, some (.int x)] st h).trans (rfl)
theorem d71_1 : decode (mB 71) 1 = .ok (.ifCond .lt 14, 3) := by decide +kernel
theorem x71_1 {d : Nat} {L : Lc} {st : List Value} {x : Int32} {h : Hp} : ex (d) 71 1 L (.int x :: st) h = if x < 0 then ex d 71 15 L st h else ex d 71 4 L st h := (ex_of d71_1 (d) L (.int x :: st) h).trans (fin_brq (off := 14) (tgt := 15) rfl (by decide))
theorem d71_4 : decode (mB 71) 4 = .ok (.iload_n 1, 1) := by decide +kernel
theorem x71_4 {d : Nat} {l0 : Option Value} {st : List Value} {x : Int32} {h : Hp} : ex (d) 71 4 [l0, some (.int x)] st h = ex d 71 5 [l0, some (.int x)] (.int x :: st) h := (ex_of d71_4 (d) [l0, some (.int x)] st h).trans (rfl)
theorem d71_5 : decode (mB 71) 5 = .ok (.aload_n 0, 1) := by decide +kernel
theorem x71_5 {d : Nat} {l1 : Option Value} {st : List Value} {a : Nat} {h : Hp} : ex (d) 71 5 [some (.ref a), l1] st h = ex d 71 6 [some (.ref a), l1] (.ref a :: st) h := (ex_of d71_5 (d) [some (.ref a), l1] st h).trans (rfl)
theorem d71_6 : decode (mB 71) 6 = .ok (.getfield 42, 3) := by decide +kernel
theorem x71_6 {d : Nat} {L : Lc} {st : List Value} {a : Nat} {h : Hp} (ht : (h.2.1 a).1 = 10) : ex (d) 71 6 L (.ref a :: st) h = ex d 71 9 L (h.1 a 10 :: st) h := (ex_of d71_6 (d) L (.ref a :: st) h).trans (fin_get (mi := 71) f10_42 (tg1 ht rfl))
theorem d71_9 : decode (mB 71) 9 = .ok (.getfield 262, 3) := by decide +kernel
theorem x71_9 {d : Nat} {L : Lc} {st : List Value} {a : Nat} {h : Hp} (ht : (h.2.1 a).1 = 5) : ex (d) 71 9 L (.ref a :: st) h = ex d 71 12 L (h.1 a 17 :: st) h := (ex_of d71_9 (d) L (.ref a :: st) h).trans (fin_get (mi := 71) f10_262 (tg1 ht rfl))
theorem d71_12 : decode (mB 71) 12 = .ok (.if_icmp .lt 10, 3) := by decide +kernel
theorem x71_12 {d : Nat} {L : Lc} {st : List Value} {x y : Int32} {h : Hp} : ex (d) 71 12 L (.int y :: .int x :: st) h = if x < y then ex d 71 22 L st h else ex d 71 15 L st h := (ex_of d71_12 (d) L (.int y :: .int x :: st) h).trans (fin_brq (off := 10) (tgt := 22) rfl (by decide))
theorem d71_15 : decode (mB 71) 15 = .ok (.aload_n 0, 1) := by decide +kernel
theorem x71_15 {d : Nat} {l1 : Option Value} {st : List Value} {a : Nat} {h : Hp} : ex (d) 71 15 [some (.ref a), l1] st h = ex d 71 16 [some (.ref a), l1] (.ref a :: st) h := (ex_of d71_15 (d) [some (.ref a), l1] st h).trans (rfl)
theorem d71_16 : decode (mB 71) 16 = .ok (.bipush 10, 2) := by decide +kernel
theorem x71_16 {d : Nat} {L : Lc} {st : List Value} {h : Hp} : ex (d) 71 16 L st h = ex d 71 18 L (.int (nI 10) :: st) h := (ex_of d71_16 (d) L st h).trans (rfl)
theorem d71_18 : decode (mB 71) 18 = .ok (.invokevirtual 57, 3) := by decide +kernel
theorem x71_18 {d : Nat} {L : Lc} {a : Nat} {v0 : Int32} {h : Hp} (ht : (h.2.1 a).1 = 10) : ex (d + 1) 71 18 L (.int v0 :: .ref a :: []) h = bnd (ex d 84 0 [some (.ref a), some (.int v0)] [] h) (fun v h' => ex (d + 1) 71 21 L (v.toList ++ []) h') := (ex_of d71_18 (d + 1) L (.int v0 :: .ref a :: []) h).trans (fin_vi (mi := 71) i10_57 ht rfl rfl (by simp [cat1_i, cat1_r]) (by simp) (Nat.le_of_ble_eq_true rfl))
theorem d71_21 : decode (mB 71) 21 = .ok (.ireturn, 1) := by decide +kernel
theorem x71_21 {d : Nat} {L : Lc} {x : Int32} {h : Hp} : ex (d) 71 21 L [.int x] h = some (some (.int x), h) := (ex_of d71_21 (d) L [.int x] h).trans (rfl)
theorem d71_22 : decode (mB 71) 22 = .ok (.aload_n 0, 1) := by decide +kernel
theorem x71_22 {d : Nat} {l1 : Option Value} {st : List Value} {a : Nat} {h : Hp} : ex (d) 71 22 [some (.ref a), l1] st h = ex d 71 23 [some (.ref a), l1] (.ref a :: st) h := (ex_of d71_22 (d) [some (.ref a), l1] st h).trans (rfl)
theorem d71_23 : decode (mB 71) 23 = .ok (.aload_n 0, 1) := by decide +kernel
theorem x71_23 {d : Nat} {l1 : Option Value} {st : List Value} {a : Nat} {h : Hp} : ex (d) 71 23 [some (.ref a), l1] st h = ex d 71 24 [some (.ref a), l1] (.ref a :: st) h := (ex_of d71_23 (d) [some (.ref a), l1] st h).trans (rfl)
theorem d71_24 : decode (mB 71) 24 = .ok (.getfield 42, 3) := by decide +kernel
theorem x71_24 {d : Nat} {L : Lc} {st : List Value} {a : Nat} {h : Hp} (ht : (h.2.1 a).1 = 10) : ex (d) 71 24 L (.ref a :: st) h = ex d 71 27 L (h.1 a 10 :: st) h := (ex_of d71_24 (d) L (.ref a :: st) h).trans (fin_get (mi := 71) f10_42 (tg1 ht rfl))
theorem d71_27 : decode (mB 71) 27 = .ok (.getfield 265, 3) := by decide +kernel
theorem x71_27 {d : Nat} {L : Lc} {st : List Value} {a : Nat} {h : Hp} (ht : (h.2.1 a).1 = 5) : ex (d) 71 27 L (.ref a :: st) h = ex d 71 30 L (h.1 a 16 :: st) h := (ex_of d71_27 (d) L (.ref a :: st) h).trans (fin_get (mi := 71) f10_265 (tg1 ht rfl))
theorem d71_30 : decode (mB 71) 30 = .ok (.iload_n 1, 1) := by decide +kernel
theorem x71_30 {d : Nat} {l0 : Option Value} {st : List Value} {x : Int32} {h : Hp} : ex (d) 71 30 [l0, some (.int x)] st h = ex d 71 31 [l0, some (.int x)] (.int x :: st) h := (ex_of d71_30 (d) [l0, some (.int x)] st h).trans (rfl)
theorem d71_31 : decode (mB 71) 31 = .ok (.iaload, 1) := by decide +kernel
theorem x71_31 {d : Nat} {L : Lc} {st : List Value} {a j : Nat} {h : Hp} (ht : (h.2.1 a).1 = 20) (hj : j < (h.2.1 a).2) (hb : j < 2147483648) : ex (d) 71 31 L (.int (nI j) :: .ref a :: st) h = ex d 71 32 L (h.1 a j :: st) h := (ex_of d71_31 (d) L (.int (nI j) :: .ref a :: st) h).trans (fin_iaload (Or.inl ht) hj hb)
theorem d71_32 : decode (mB 71) 32 = .ok (.invokevirtual 64, 3) := by decide +kernel
theorem x71_32 {d : Nat} {L : Lc} {a : Nat} {v0 : Int32} {h : Hp} (ht : (h.2.1 a).1 = 10) : ex (d + 1) 71 32 L (.int v0 :: .ref a :: []) h = bnd (ex d 85 0 [some (.ref a), some (.int v0)] [] h) (fun v h' => ex (d + 1) 71 35 L (v.toList ++ []) h') := (ex_of d71_32 (d + 1) L (.int v0 :: .ref a :: []) h).trans (fin_vi (mi := 71) i10_64 ht rfl rfl (by simp [cat1_i, cat1_r]) (by simp) (Nat.le_of_ble_eq_true rfl))
theorem d71_35 : decode (mB 71) 35 = .ok (.ireturn, 1) := by decide +kernel
theorem x71_35 {d : Nat} {L : Lc} {x : Int32} {h : Hp} : ex (d) 71 35 L [.int x] h = some (some (.int x), h) := (ex_of d71_35 (d) L [.int x] h).trans (rfl)
theorem d72_0 : decode (mB 72) 0 = .ok (.aload_n 0, 1) := by decide +kernel
theorem x72_0 {d : Nat} {l1 l2 l3 l4 : Option Value} {st : List Value} {a : Nat} {h : Hp} : ex (d) 72 0 [some (.ref a), l1, l2, l3, l4] st h = ex d 72 1 [some (.ref a), l1, l2, l3, l4] (.ref a :: st) h := (ex_of d72_0 (d) [some (.ref a), l1, l2, l3, l4] st h).trans (rfl)
theorem d72_1 : decode (mB 72) 1 = .ok (.iload_n 2, 1) := by decide +kernel
theorem x72_1 {d : Nat} {l0 l1 l3 l4 : Option Value} {st : List Value} {x : Int32} {h : Hp} : ex (d) 72 1 [l0, l1, some (.int x), l3, l4] st h = ex d 72 2 [l0, l1, some (.int x), l3, l4] (.int x :: st) h := (ex_of d72_1 (d) [l0, l1, some (.int x), l3, l4] st h).trans (rfl)
theorem d72_2 : decode (mB 72) 2 = .ok (.invokevirtual 111, 3) := by decide +kernel
theorem x72_2 {d : Nat} {L : Lc} {a : Nat} {v0 : Int32} {h : Hp} (ht : (h.2.1 a).1 = 10) : ex (d + 1) 72 2 L (.int v0 :: .ref a :: []) h = bnd (ex d 86 0 [some (.ref a), some (.int v0)] [] h) (fun v h' => ex (d + 1) 72 5 L (v.toList ++ []) h') := (ex_of d72_2 (d + 1) L (.int v0 :: .ref a :: []) h).trans (fin_vi (mi := 72) i10_111 ht rfl rfl (by simp [cat1_i, cat1_r]) (by simp) (Nat.le_of_ble_eq_true rfl))
theorem d72_5 : decode (mB 72) 5 = .ok (.astore_n 3, 1) := by decide +kernel
theorem x72_5 {d : Nat} {l0 l1 l2 l3 l4 : Option Value} {st : List Value} {a : Nat} {h : Hp} : ex (d) 72 5 [l0, l1, l2, l3, l4] (.ref a :: st) h = ex d 72 6 [l0, l1, clr l2, some (.ref a), l4] st h := (ex_of d72_5 (d) [l0, l1, l2, l3, l4] (.ref a :: st) h).trans (rfl)
theorem x72_5n {d : Nat} {l0 l1 l2 l3 l4 : Option Value} {st : List Value} {h : Hp} : ex (d) 72 5 [l0, l1, l2, l3, l4] (.null :: st) h = ex d 72 6 [l0, l1, clr l2, some .null, l4] st h := (ex_of d72_5 (d) [l0, l1, l2, l3, l4] (.null :: st) h).trans (rfl)
theorem x72_5q {d : Nat} {l0 l1 l2 l3 l4 : Option Value} {st : List Value} {a : Option Nat} {h : Hp} : ex (d) 72 5 [l0, l1, l2, l3, l4] (va_rf a :: st) h = ex d 72 6 [l0, l1, clr l2, some (va_rf a), l4] st h := (ex_of d72_5 (d) [l0, l1, l2, l3, l4] (va_rf a :: st) h).trans (by cases a <;> rfl)
theorem d72_6 : decode (mB 72) 6 = .ok (.iload_n 1, 1) := by decide +kernel
theorem x72_6 {d : Nat} {l0 l2 l3 l4 : Option Value} {st : List Value} {x : Int32} {h : Hp} : ex (d) 72 6 [l0, some (.int x), l2, l3, l4] st h = ex d 72 7 [l0, some (.int x), l2, l3, l4] (.int x :: st) h := (ex_of d72_6 (d) [l0, some (.int x), l2, l3, l4] st h).trans (rfl)
theorem d72_7 : decode (mB 72) 7 = .ok (.ifCond .lt 18, 3) := by decide +kernel
theorem x72_7 {d : Nat} {L : Lc} {st : List Value} {x : Int32} {h : Hp} : ex (d) 72 7 L (.int x :: st) h = if x < 0 then ex d 72 25 L st h else ex d 72 10 L st h := (ex_of d72_7 (d) L (.int x :: st) h).trans (fin_brq (off := 18) (tgt := 25) rfl (by decide))
theorem d72_10 : decode (mB 72) 10 = .ok (.iload_n 1, 1) := by decide +kernel
theorem x72_10 {d : Nat} {l0 l2 l3 l4 : Option Value} {st : List Value} {x : Int32} {h : Hp} : ex (d) 72 10 [l0, some (.int x), l2, l3, l4] st h = ex d 72 11 [l0, some (.int x), l2, l3, l4] (.int x :: st) h := (ex_of d72_10 (d) [l0, some (.int x), l2, l3, l4] st h).trans (rfl)
theorem d72_11 : decode (mB 72) 11 = .ok (.aload_n 0, 1) := by decide +kernel
theorem x72_11 {d : Nat} {l1 l2 l3 l4 : Option Value} {st : List Value} {a : Nat} {h : Hp} : ex (d) 72 11 [some (.ref a), l1, l2, l3, l4] st h = ex d 72 12 [some (.ref a), l1, l2, l3, l4] (.ref a :: st) h := (ex_of d72_11 (d) [some (.ref a), l1, l2, l3, l4] st h).trans (rfl)
theorem d72_12 : decode (mB 72) 12 = .ok (.getfield 42, 3) := by decide +kernel
theorem x72_12 {d : Nat} {L : Lc} {st : List Value} {a : Nat} {h : Hp} (ht : (h.2.1 a).1 = 10) : ex (d) 72 12 L (.ref a :: st) h = ex d 72 15 L (h.1 a 10 :: st) h := (ex_of d72_12 (d) L (.ref a :: st) h).trans (fin_get (mi := 72) f10_42 (tg1 ht rfl))
theorem d72_15 : decode (mB 72) 15 = .ok (.getfield 238, 3) := by decide +kernel
theorem x72_15 {d : Nat} {L : Lc} {st : List Value} {a : Nat} {h : Hp} (ht : (h.2.1 a).1 = 5) : ex (d) 72 15 L (.ref a :: st) h = ex d 72 18 L (h.1 a 2 :: st) h := (ex_of d72_15 (d) L (.ref a :: st) h).trans (fin_get (mi := 72) f10_238 (tg1 ht rfl))
theorem d72_18 : decode (mB 72) 18 = .ok (.if_icmp .ge 7, 3) := by decide +kernel
theorem x72_18 {d : Nat} {L : Lc} {st : List Value} {x y : Int32} {h : Hp} : ex (d) 72 18 L (.int y :: .int x :: st) h = if y ≤ x then ex d 72 25 L st h else ex d 72 21 L st h := (ex_of d72_18 (d) L (.int y :: .int x :: st) h).trans (fin_brq (off := 7) (tgt := 25) rfl (by decide))
theorem d72_21 : decode (mB 72) 21 = .ok (.aload_n 3, 1) := by decide +kernel
theorem x72_21 {d : Nat} {l0 l1 l2 l4 : Option Value} {st : List Value} {a : Nat} {h : Hp} : ex (d) 72 21 [l0, l1, l2, some (.ref a), l4] st h = ex d 72 22 [l0, l1, l2, some (.ref a), l4] (.ref a :: st) h := (ex_of d72_21 (d) [l0, l1, l2, some (.ref a), l4] st h).trans (rfl)
theorem x72_21n {d : Nat} {l0 l1 l2 l4 : Option Value} {st : List Value} {h : Hp} : ex (d) 72 21 [l0, l1, l2, some .null, l4] st h = ex d 72 22 [l0, l1, l2, some .null, l4] (.null :: st) h := (ex_of d72_21 (d) [l0, l1, l2, some .null, l4] st h).trans (rfl)
theorem x72_21q {d : Nat} {l0 l1 l2 l4 : Option Value} {st : List Value} {a : Option Nat} {h : Hp} : ex (d) 72 21 [l0, l1, l2, some (va_rf a), l4] st h = ex d 72 22 [l0, l1, l2, some (va_rf a), l4] (va_rf a :: st) h := (ex_of d72_21 (d) [l0, l1, l2, some (va_rf a), l4] st h).trans (by cases a <;> rfl)
theorem d72_22 : decode (mB 72) 22 = .ok (.ifnonnull 10, 3) := by decide +kernel
theorem x72_22n {d : Nat} {L : Lc} {st : List Value} {h : Hp} : ex (d) 72 22 L (.null :: st) h = ex d 72 25 L st h := (ex_of d72_22 (d) L (.null :: st) h).trans (rfl)
theorem x72_22 {d : Nat} {L : Lc} {st : List Value} {a : Nat} {h : Hp} : ex (d) 72 22 L (.ref a :: st) h = ex d 72 32 L st h := (ex_of d72_22 (d) L (.ref a :: st) h).trans (rfl)
theorem d72_25 : decode (mB 72) 25 = .ok (.aload_n 0, 1) := by decide +kernel
theorem x72_25 {d : Nat} {l1 l2 l3 l4 : Option Value} {st : List Value} {a : Nat} {h : Hp} : ex (d) 72 25 [some (.ref a), l1, l2, l3, l4] st h = ex d 72 26 [some (.ref a), l1, l2, l3, l4] (.ref a :: st) h := (ex_of d72_25 (d) [some (.ref a), l1, l2, l3, l4] st h).trans (rfl)
theorem d72_26 : decode (mB 72) 26 = .ok (.bipush 10, 2) := by decide +kernel
theorem x72_26 {d : Nat} {L : Lc} {st : List Value} {h : Hp} : ex (d) 72 26 L st h = ex d 72 28 L (.int (nI 10) :: st) h := (ex_of d72_26 (d) L st h).trans (rfl)
theorem d72_28 : decode (mB 72) 28 = .ok (.invokevirtual 57, 3) := by decide +kernel
theorem x72_28 {d : Nat} {L : Lc} {a : Nat} {v0 : Int32} {h : Hp} (ht : (h.2.1 a).1 = 10) : ex (d + 1) 72 28 L (.int v0 :: .ref a :: []) h = bnd (ex d 84 0 [some (.ref a), some (.int v0)] [] h) (fun v h' => ex (d + 1) 72 31 L (v.toList ++ []) h') := (ex_of d72_28 (d + 1) L (.int v0 :: .ref a :: []) h).trans (fin_vi (mi := 72) i10_57 ht rfl rfl (by simp [cat1_i, cat1_r]) (by simp) (Nat.le_of_ble_eq_true rfl))
theorem d72_31 : decode (mB 72) 31 = .ok (.ireturn, 1) := by decide +kernel
theorem x72_31 {d : Nat} {L : Lc} {x : Int32} {h : Hp} : ex (d) 72 31 L [.int x] h = some (some (.int x), h) := (ex_of d72_31 (d) L [.int x] h).trans (rfl)
theorem d72_32 : decode (mB 72) 32 = .ok (.aload_n 0, 1) := by decide +kernel
theorem x72_32 {d : Nat} {l1 l2 l3 l4 : Option Value} {st : List Value} {a : Nat} {h : Hp} : ex (d) 72 32 [some (.ref a), l1, l2, l3, l4] st h = ex d 72 33 [some (.ref a), l1, l2, l3, l4] (.ref a :: st) h := (ex_of d72_32 (d) [some (.ref a), l1, l2, l3, l4] st h).trans (rfl)
theorem d72_33 : decode (mB 72) 33 = .ok (.invokevirtual 244, 3) := by decide +kernel
theorem x72_33 {d : Nat} {L : Lc} {a : Nat} {h : Hp} (ht : (h.2.1 a).1 = 10) : ex (d + 1) 72 33 L (.ref a :: []) h = bnd (ex d 104 0 [some (.ref a), none] [] h) (fun v h' => ex (d + 1) 72 36 L (v.toList ++ []) h') := (ex_of d72_33 (d + 1) L (.ref a :: []) h).trans (fin_vi (mi := 72) i10_244 ht rfl rfl (by simp [cat1_i, cat1_r]) (by simp) (Nat.le_of_ble_eq_true rfl))
theorem d72_36 : decode (mB 72) 36 = .ok (.aload_n 0, 1) := by decide +kernel
theorem x72_36 {d : Nat} {l1 l2 l3 l4 : Option Value} {st : List Value} {a : Nat} {h : Hp} : ex (d) 72 36 [some (.ref a), l1, l2, l3, l4] st h = ex d 72 37 [some (.ref a), l1, l2, l3, l4] (.ref a :: st) h := (ex_of d72_36 (d) [some (.ref a), l1, l2, l3, l4] st h).trans (rfl)
theorem d72_37 : decode (mB 72) 37 = .ok (.getfield 42, 3) := by decide +kernel
theorem x72_37 {d : Nat} {L : Lc} {st : List Value} {a : Nat} {h : Hp} (ht : (h.2.1 a).1 = 10) : ex (d) 72 37 L (.ref a :: st) h = ex d 72 40 L (h.1 a 10 :: st) h := (ex_of d72_37 (d) L (.ref a :: st) h).trans (fin_get (mi := 72) f10_42 (tg1 ht rfl))
theorem d72_40 : decode (mB 72) 40 = .ok (.aload_n 0, 1) := by decide +kernel
theorem x72_40 {d : Nat} {l1 l2 l3 l4 : Option Value} {st : List Value} {a : Nat} {h : Hp} : ex (d) 72 40 [some (.ref a), l1, l2, l3, l4] st h = ex d 72 41 [some (.ref a), l1, l2, l3, l4] (.ref a :: st) h := (ex_of d72_40 (d) [some (.ref a), l1, l2, l3, l4] st h).trans (rfl)
theorem d72_41 : decode (mB 72) 41 = .ok (.getfield 11, 3) := by decide +kernel
theorem x72_41 {d : Nat} {L : Lc} {st : List Value} {a : Nat} {h : Hp} (ht : (h.2.1 a).1 = 10) : ex (d) 72 41 L (.ref a :: st) h = ex d 72 44 L (h.1 a 0 :: st) h := (ex_of d72_41 (d) L (.ref a :: st) h).trans (fin_get (mi := 72) f10_11 (tg1 ht rfl))
theorem d72_44 : decode (mB 72) 44 = .ok (.aload_n 0, 1) := by decide +kernel
theorem x72_44 {d : Nat} {l1 l2 l3 l4 : Option Value} {st : List Value} {a : Nat} {h : Hp} : ex (d) 72 44 [some (.ref a), l1, l2, l3, l4] st h = ex d 72 45 [some (.ref a), l1, l2, l3, l4] (.ref a :: st) h := (ex_of d72_44 (d) [some (.ref a), l1, l2, l3, l4] st h).trans (rfl)
theorem d72_45 : decode (mB 72) 45 = .ok (.getfield 73, 3) := by decide +kernel
theorem x72_45 {d : Nat} {L : Lc} {st : List Value} {a : Nat} {h : Hp} (ht : (h.2.1 a).1 = 10) : ex (d) 72 45 L (.ref a :: st) h = ex d 72 48 L (h.1 a 1 :: st) h := (ex_of d72_45 (d) L (.ref a :: st) h).trans (fin_get (mi := 72) f10_73 (tg1 ht rfl))
theorem d72_48 : decode (mB 72) 48 = .ok (.invokevirtual 247, 3) := by decide +kernel
theorem x72_48 {d : Nat} {L : Lc} {a : Nat} {v0 : Value} {v1 : Int32} {h : Hp} (ht : (h.2.1 a).1 = 5) (hv0 : isR v0 = true) : ex (d + 1) 72 48 L (.int v1 :: v0 :: .ref a :: []) h = bnd (ex d 17 0 [some (.ref a), some v0, some (.int v1), none, none] [] h) (fun v h' => ex (d + 1) 72 51 L (v.toList ++ []) h') := (ex_of d72_48 (d + 1) L (.int v1 :: v0 :: .ref a :: []) h).trans (fin_vi (mi := 72) i10_247 ht rfl rfl (by simp [cat1_i, cat1_r, isR_cat1 hv0]) (by simp) (Nat.le_of_ble_eq_true rfl))
theorem d72_51 : decode (mB 72) 51 = .ok (.aload_n 0, 1) := by decide +kernel
theorem x72_51 {d : Nat} {l1 l2 l3 l4 : Option Value} {st : List Value} {a : Nat} {h : Hp} : ex (d) 72 51 [some (.ref a), l1, l2, l3, l4] st h = ex d 72 52 [some (.ref a), l1, l2, l3, l4] (.ref a :: st) h := (ex_of d72_51 (d) [some (.ref a), l1, l2, l3, l4] st h).trans (rfl)
theorem d72_52 : decode (mB 72) 52 = .ok (.getfield 42, 3) := by decide +kernel
theorem x72_52 {d : Nat} {L : Lc} {st : List Value} {a : Nat} {h : Hp} (ht : (h.2.1 a).1 = 10) : ex (d) 72 52 L (.ref a :: st) h = ex d 72 55 L (h.1 a 10 :: st) h := (ex_of d72_52 (d) L (.ref a :: st) h).trans (fin_get (mi := 72) f10_42 (tg1 ht rfl))
theorem d72_55 : decode (mB 72) 55 = .ok (.iload_n 1, 1) := by decide +kernel
theorem x72_55 {d : Nat} {l0 l2 l3 l4 : Option Value} {st : List Value} {x : Int32} {h : Hp} : ex (d) 72 55 [l0, some (.int x), l2, l3, l4] st h = ex d 72 56 [l0, some (.int x), l2, l3, l4] (.int x :: st) h := (ex_of d72_55 (d) [l0, some (.int x), l2, l3, l4] st h).trans (rfl)
theorem d72_56 : decode (mB 72) 56 = .ok (.aload_n 3, 1) := by decide +kernel
theorem x72_56 {d : Nat} {l0 l1 l2 l4 : Option Value} {st : List Value} {a : Nat} {h : Hp} : ex (d) 72 56 [l0, l1, l2, some (.ref a), l4] st h = ex d 72 57 [l0, l1, l2, some (.ref a), l4] (.ref a :: st) h := (ex_of d72_56 (d) [l0, l1, l2, some (.ref a), l4] st h).trans (rfl)
theorem x72_56n {d : Nat} {l0 l1 l2 l4 : Option Value} {st : List Value} {h : Hp} : ex (d) 72 56 [l0, l1, l2, some .null, l4] st h = ex d 72 57 [l0, l1, l2, some .null, l4] (.null :: st) h := (ex_of d72_56 (d) [l0, l1, l2, some .null, l4] st h).trans (rfl)
theorem x72_56q {d : Nat} {l0 l1 l2 l4 : Option Value} {st : List Value} {a : Option Nat} {h : Hp} : ex (d) 72 56 [l0, l1, l2, some (va_rf a), l4] st h = ex d 72 57 [l0, l1, l2, some (va_rf a), l4] (va_rf a :: st) h := (ex_of d72_56 (d) [l0, l1, l2, some (va_rf a), l4] st h).trans (by cases a <;> rfl)
theorem d72_57 : decode (mB 72) 57 = .ok (.invokevirtual 251, 3) := by decide +kernel
theorem x72_57 {d : Nat} {L : Lc} {a : Nat} {v0 : Int32} {v1 : Value} {h : Hp} (ht : (h.2.1 a).1 = 5) (hv1 : isR v1 = true) : ex (d + 1) 72 57 L (v1 :: .int v0 :: .ref a :: []) h = bnd (ex d 18 0 [some (.ref a), some (.int v0), some v1, none] [] h) (fun v h' => ex (d + 1) 72 60 L (v.toList ++ []) h') := (ex_of d72_57 (d + 1) L (v1 :: .int v0 :: .ref a :: []) h).trans (fin_vi (mi := 72) i10_251 ht rfl rfl (by simp [cat1_i, cat1_r, isR_cat1 hv1]) (by simp) (Nat.le_of_ble_eq_true rfl))
theorem d72_60 : decode (mB 72) 60 = .ok (.istore 4, 2) := by decide +kernel
theorem x72_60 {d : Nat} {l0 l1 l2 l3 l4 : Option Value} {st : List Value} {x : Int32} {h : Hp} : ex (d) 72 60 [l0, l1, l2, l3, l4] (.int x :: st) h = ex d 72 62 [l0, l1, l2, clr l3, some (.int x)] st h := (ex_of d72_60 (d) [l0, l1, l2, l3, l4] (.int x :: st) h).trans (rfl)
theorem d72_62 : decode (mB 72) 62 = .ok (.aload_n 0, 1) := by decide +kernel
theorem x72_62 {d : Nat} {l1 l2 l3 l4 : Option Value} {st : List Value} {a : Nat} {h : Hp} : ex (d) 72 62 [some (.ref a), l1, l2, l3, l4] st h = ex d 72 63 [some (.ref a), l1, l2, l3, l4] (.ref a :: st) h := (ex_of d72_62 (d) [some (.ref a), l1, l2, l3, l4] st h).trans (rfl)
theorem d72_63 : decode (mB 72) 63 = .ok (.invokevirtual 259, 3) := by decide +kernel
theorem x72_63 {d : Nat} {L : Lc} {a : Nat} {h : Hp} (ht : (h.2.1 a).1 = 10) : ex (d + 1) 72 63 L (.ref a :: []) h = bnd (ex d 105 0 [some (.ref a), none] [] h) (fun v h' => ex (d + 1) 72 66 L (v.toList ++ []) h') := (ex_of d72_63 (d + 1) L (.ref a :: []) h).trans (fin_vi (mi := 72) i10_259 ht rfl rfl (by simp [cat1_i, cat1_r]) (by simp) (Nat.le_of_ble_eq_true rfl))
theorem d72_66 : decode (mB 72) 66 = .ok (.iload 4, 2) := by decide +kernel
theorem x72_66 {d : Nat} {l0 l1 l2 l3 : Option Value} {st : List Value} {x : Int32} {h : Hp} : ex (d) 72 66 [l0, l1, l2, l3, some (.int x)] st h = ex d 72 68 [l0, l1, l2, l3, some (.int x)] (.int x :: st) h := (ex_of d72_66 (d) [l0, l1, l2, l3, some (.int x)] st h).trans (rfl)
theorem d72_68 : decode (mB 72) 68 = .ok (.ldc 110, 2) := by decide +kernel
theorem x72_68 {d : Nat} {L : Lc} {st : List Value} {h : Hp} : ex (d) 72 68 L st h = ex d 72 70 L (.int (nI 2147483647) :: st) h := (ex_of d72_68 (d) L st h).trans (fin_ldc (mi := 72) c10_110)
theorem d72_70 : decode (mB 72) 70 = .ok (.if_icmp .ne 12, 3) := by decide +kernel
theorem x72_70 {d : Nat} {L : Lc} {st : List Value} {x y : Int32} {h : Hp} : ex (d) 72 70 L (.int y :: .int x :: st) h = if ¬ x = y then ex d 72 82 L st h else ex d 72 73 L st h := (ex_of d72_70 (d) L (.int y :: .int x :: st) h).trans (fin_brq (off := 12) (tgt := 82) rfl (by decide))
theorem d72_73 : decode (mB 72) 73 = .ok (.aload_n 0, 1) := by decide +kernel
theorem x72_73 {d : Nat} {l1 l2 l3 l4 : Option Value} {st : List Value} {a : Nat} {h : Hp} : ex (d) 72 73 [some (.ref a), l1, l2, l3, l4] st h = ex d 72 74 [some (.ref a), l1, l2, l3, l4] (.ref a :: st) h := (ex_of d72_73 (d) [some (.ref a), l1, l2, l3, l4] st h).trans (rfl)
theorem d72_74 : decode (mB 72) 74 = .ok (.bipush 12, 2) := by decide +kernel
theorem x72_74 {d : Nat} {L : Lc} {st : List Value} {h : Hp} : ex (d) 72 74 L st h = ex d 72 76 L (.int (nI 12) :: st) h := (ex_of d72_74 (d) L st h).trans (rfl)
theorem d72_76 : decode (mB 72) 76 = .ok (.invokevirtual 57, 3) := by decide +kernel
theorem x72_76 {d : Nat} {L : Lc} {a : Nat} {v0 : Int32} {h : Hp} (ht : (h.2.1 a).1 = 10) : ex (d + 1) 72 76 L (.int v0 :: .ref a :: []) h = bnd (ex d 84 0 [some (.ref a), some (.int v0)] [] h) (fun v h' => ex (d + 1) 72 79 L (v.toList ++ []) h') := (ex_of d72_76 (d + 1) L (.int v0 :: .ref a :: []) h).trans (fin_vi (mi := 72) i10_57 ht rfl rfl (by simp [cat1_i, cat1_r]) (by simp) (Nat.le_of_ble_eq_true rfl))
theorem d72_79 : decode (mB 72) 79 = .ok (.goto 9, 3) := by decide +kernel
theorem x72_79 {d : Nat} {L : Lc} {st : List Value} {h : Hp} : ex (d) 72 79 L st h = ex d 72 88 L st h := (ex_of d72_79 (d) L st h).trans (rfl)
theorem d72_82 : decode (mB 72) 82 = .ok (.aload_n 0, 1) := by decide +kernel
theorem x72_82 {d : Nat} {l1 l2 l3 l4 : Option Value} {st : List Value} {a : Nat} {h : Hp} : ex (d) 72 82 [some (.ref a), l1, l2, l3, l4] st h = ex d 72 83 [some (.ref a), l1, l2, l3, l4] (.ref a :: st) h := (ex_of d72_82 (d) [some (.ref a), l1, l2, l3, l4] st h).trans (rfl)
theorem d72_83 : decode (mB 72) 83 = .ok (.iload 4, 2) := by decide +kernel
theorem x72_83 {d : Nat} {l0 l1 l2 l3 : Option Value} {st : List Value} {x : Int32} {h : Hp} : ex (d) 72 83 [l0, l1, l2, l3, some (.int x)] st h = ex d 72 85 [l0, l1, l2, l3, some (.int x)] (.int x :: st) h := (ex_of d72_83 (d) [l0, l1, l2, l3, some (.int x)] st h).trans (rfl)
theorem d72_85 : decode (mB 72) 85 = .ok (.invokevirtual 64, 3) := by decide +kernel
theorem x72_85 {d : Nat} {L : Lc} {a : Nat} {v0 : Int32} {h : Hp} (ht : (h.2.1 a).1 = 10) : ex (d + 1) 72 85 L (.int v0 :: .ref a :: []) h = bnd (ex d 85 0 [some (.ref a), some (.int v0)] [] h) (fun v h' => ex (d + 1) 72 88 L (v.toList ++ []) h') := (ex_of d72_85 (d + 1) L (.int v0 :: .ref a :: []) h).trans (fin_vi (mi := 72) i10_64 ht rfl rfl (by simp [cat1_i, cat1_r]) (by simp) (Nat.le_of_ble_eq_true rfl))
theorem d72_88 : decode (mB 72) 88 = .ok (.ireturn, 1) := by decide +kernel
theorem x72_88 {d : Nat} {L : Lc} {x : Int32} {h : Hp} : ex (d) 72 88 L [.int x] h = some (some (.int x), h) := (ex_of d72_88 (d) L [.int x] h).trans (rfl)
theorem d73_0 : decode (mB 73) 0 = .ok (.aload_n 0, 1) := by decide +kernel
theorem x73_0 {d : Nat} {l1 l2 l3 l4 : Option Value} {st : List Value} {a : Nat} {h : Hp} : ex (d) 73 0 [some (.ref a), l1, l2, l3, l4] st h = ex d 73 1 [some (.ref a), l1, l2, l3, l4] (.ref a :: st) h := (ex_of d73_0 (d) [some (.ref a), l1, l2, l3, l4] st h).trans (rfl)
theorem d73_1 : decode (mB 73) 1 = .ok (.iload_n 1, 1) := by decide +kernel
theorem x73_1 {d : Nat} {l0 l2 l3 l4 : Option Value} {st : List Value} {x : Int32} {h : Hp} : ex (d) 73 1 [l0, some (.int x), l2, l3, l4] st h = ex d 73 2 [l0, some (.int x), l2, l3, l4] (.int x :: st) h := (ex_of d73_1 (d) [l0, some (.int x), l2, l3, l4] st h).trans (rfl)
theorem d73_2 : decode (mB 73) 2 = .ok (.invokevirtual 111, 3) := by decide +kernel
theorem x73_2 {d : Nat} {L : Lc} {a : Nat} {v0 : Int32} {h : Hp} (ht : (h.2.1 a).1 = 10) : ex (d + 1) 73 2 L (.int v0 :: .ref a :: []) h = bnd (ex d 86 0 [some (.ref a), some (.int v0)] [] h) (fun v h' => ex (d + 1) 73 5 L (v.toList ++ []) h') := (ex_of d73_2 (d + 1) L (.int v0 :: .ref a :: []) h).trans (fin_vi (mi := 73) i10_111 ht rfl rfl (by simp [cat1_i, cat1_r]) (by simp) (Nat.le_of_ble_eq_true rfl))
theorem d73_5 : decode (mB 73) 5 = .ok (.astore_n 3, 1) := by decide +kernel
theorem x73_5 {d : Nat} {l0 l1 l2 l3 l4 : Option Value} {st : List Value} {a : Nat} {h : Hp} : ex (d) 73 5 [l0, l1, l2, l3, l4] (.ref a :: st) h = ex d 73 6 [l0, l1, clr l2, some (.ref a), l4] st h := (ex_of d73_5 (d) [l0, l1, l2, l3, l4] (.ref a :: st) h).trans (rfl)
theorem x73_5n {d : Nat} {l0 l1 l2 l3 l4 : Option Value} {st : List Value} {h : Hp} : ex (d) 73 5 [l0, l1, l2, l3, l4] (.null :: st) h = ex d 73 6 [l0, l1, clr l2, some .null, l4] st h := (ex_of d73_5 (d) [l0, l1, l2, l3, l4] (.null :: st) h).trans (rfl)
theorem x73_5q {d : Nat} {l0 l1 l2 l3 l4 : Option Value} {st : List Value} {a : Option Nat} {h : Hp} : ex (d) 73 5 [l0, l1, l2, l3, l4] (va_rf a :: st) h = ex d 73 6 [l0, l1, clr l2, some (va_rf a), l4] st h := (ex_of d73_5 (d) [l0, l1, l2, l3, l4] (va_rf a :: st) h).trans (by cases a <;> rfl)
theorem d73_6 : decode (mB 73) 6 = .ok (.aload_n 3, 1) := by decide +kernel
theorem x73_6 {d : Nat} {l0 l1 l2 l4 : Option Value} {st : List Value} {a : Nat} {h : Hp} : ex (d) 73 6 [l0, l1, l2, some (.ref a), l4] st h = ex d 73 7 [l0, l1, l2, some (.ref a), l4] (.ref a :: st) h := (ex_of d73_6 (d) [l0, l1, l2, some (.ref a), l4] st h).trans (rfl)
theorem x73_6n {d : Nat} {l0 l1 l2 l4 : Option Value} {st : List Value} {h : Hp} : ex (d) 73 6 [l0, l1, l2, some .null, l4] st h = ex d 73 7 [l0, l1, l2, some .null, l4] (.null :: st) h := (ex_of d73_6 (d) [l0, l1, l2, some .null, l4] st h).trans (rfl)
theorem x73_6q {d : Nat} {l0 l1 l2 l4 : Option Value} {st : List Value} {a : Option Nat} {h : Hp} : ex (d) 73 6 [l0, l1, l2, some (va_rf a), l4] st h = ex d 73 7 [l0, l1, l2, some (va_rf a), l4] (va_rf a :: st) h := (ex_of d73_6 (d) [l0, l1, l2, some (va_rf a), l4] st h).trans (by cases a <;> rfl)
theorem d73_7 : decode (mB 73) 7 = .ok (.ifnonnull 10, 3) := by decide +kernel
theorem x73_7n {d : Nat} {L : Lc} {st : List Value} {h : Hp} : ex (d) 73 7 L (.null :: st) h = ex d 73 10 L st h := (ex_of d73_7 (d) L (.null :: st) h).trans (rfl)
theorem x73_7 {d : Nat} {L : Lc} {st : List Value} {a : Nat} {h : Hp} : ex (d) 73 7 L (.ref a :: st) h = ex d 73 17 L st h := (ex_of d73_7 (d) L (.ref a :: st) h).trans (rfl)
theorem d73_10 : decode (mB 73) 10 = .ok (.aload_n 0, 1) := by decide +kernel
theorem x73_10 {d : Nat} {l1 l2 l3 l4 : Option Value} {st : List Value} {a : Nat} {h : Hp} : ex (d) 73 10 [some (.ref a), l1, l2, l3, l4] st h = ex d 73 11 [some (.ref a), l1, l2, l3, l4] (.ref a :: st) h := (ex_of d73_10 (d) [some (.ref a), l1, l2, l3, l4] st h).trans (rfl)
theorem d73_11 : decode (mB 73) 11 = .ok (.bipush 10, 2) := by decide +kernel
theorem x73_11 {d : Nat} {L : Lc} {st : List Value} {h : Hp} : ex (d) 73 11 L st h = ex d 73 13 L (.int (nI 10) :: st) h := (ex_of d73_11 (d) L st h).trans (rfl)
theorem d73_13 : decode (mB 73) 13 = .ok (.invokevirtual 57, 3) := by decide +kernel
theorem x73_13 {d : Nat} {L : Lc} {a : Nat} {v0 : Int32} {h : Hp} (ht : (h.2.1 a).1 = 10) : ex (d + 1) 73 13 L (.int v0 :: .ref a :: []) h = bnd (ex d 84 0 [some (.ref a), some (.int v0)] [] h) (fun v h' => ex (d + 1) 73 16 L (v.toList ++ []) h') := (ex_of d73_13 (d + 1) L (.int v0 :: .ref a :: []) h).trans (fin_vi (mi := 73) i10_57 ht rfl rfl (by simp [cat1_i, cat1_r]) (by simp) (Nat.le_of_ble_eq_true rfl))
theorem d73_16 : decode (mB 73) 16 = .ok (.ireturn, 1) := by decide +kernel
theorem x73_16 {d : Nat} {L : Lc} {x : Int32} {h : Hp} : ex (d) 73 16 L [.int x] h = some (some (.int x), h) := (ex_of d73_16 (d) L [.int x] h).trans (rfl)
theorem d73_17 : decode (mB 73) 17 = .ok (.aload_n 3, 1) := by decide +kernel
theorem x73_17 {d : Nat} {l0 l1 l2 l4 : Option Value} {st : List Value} {a : Nat} {h : Hp} : ex (d) 73 17 [l0, l1, l2, some (.ref a), l4] st h = ex d 73 18 [l0, l1, l2, some (.ref a), l4] (.ref a :: st) h := (ex_of d73_17 (d) [l0, l1, l2, some (.ref a), l4] st h).trans (rfl)
theorem x73_17n {d : Nat} {l0 l1 l2 l4 : Option Value} {st : List Value} {h : Hp} : ex (d) 73 17 [l0, l1, l2, some .null, l4] st h = ex d 73 18 [l0, l1, l2, some .null, l4] (.null :: st) h := (ex_of d73_17 (d) [l0, l1, l2, some .null, l4] st h).trans (rfl)
theorem x73_17q {d : Nat} {l0 l1 l2 l4 : Option Value} {st : List Value} {a : Option Nat} {h : Hp} : ex (d) 73 17 [l0, l1, l2, some (va_rf a), l4] st h = ex d 73 18 [l0, l1, l2, some (va_rf a), l4] (va_rf a :: st) h := (ex_of d73_17 (d) [l0, l1, l2, some (va_rf a), l4] st h).trans (by cases a <;> rfl)
theorem d73_18 : decode (mB 73) 18 = .ok (.getfield 115, 3) := by decide +kernel
theorem x73_18 {d : Nat} {L : Lc} {st : List Value} {a : Nat} {h : Hp} (ht : isTh (h.2.1 a).1 = true) : ex (d) 73 18 L (.ref a :: st) h = ex d 73 21 L (h.1 a 1 :: st) h := (ex_of d73_18 (d) L (.ref a :: st) h).trans (fin_get (mi := 73) f10_115 ht)
theorem d73_21 : decode (mB 73) 21 = .ok (.iconst 5, 1) := by decide +kernel
theorem x73_21 {d : Nat} {L : Lc} {st : List Value} {h : Hp} : ex (d) 73 21 L st h = ex d 73 22 L (.int (nI 5) :: st) h := (ex_of d73_21 (d) L st h).trans (rfl)
theorem d73_22 : decode (mB 73) 22 = .ok (.if_icmp .le 9, 3) := by decide +kernel
theorem x73_22 {d : Nat} {L : Lc} {st : List Value} {x y : Int32} {h : Hp} : ex (d) 73 22 L (.int y :: .int x :: st) h = if x ≤ y then ex d 73 31 L st h else ex d 73 25 L st h := (ex_of d73_22 (d) L (.int y :: .int x :: st) h).trans (fin_brq (off := 9) (tgt := 31) rfl (by decide))
theorem d73_25 : decode (mB 73) 25 = .ok (.aload_n 0, 1) := by decide +kernel
theorem x73_25 {d : Nat} {l1 l2 l3 l4 : Option Value} {st : List Value} {a : Nat} {h : Hp} : ex (d) 73 25 [some (.ref a), l1, l2, l3, l4] st h = ex d 73 26 [some (.ref a), l1, l2, l3, l4] (.ref a :: st) h := (ex_of d73_25 (d) [some (.ref a), l1, l2, l3, l4] st h).trans (rfl)
theorem d73_26 : decode (mB 73) 26 = .ok (.iconst 4, 1) := by decide +kernel
theorem x73_26 {d : Nat} {L : Lc} {st : List Value} {h : Hp} : ex (d) 73 26 L st h = ex d 73 27 L (.int (nI 4) :: st) h := (ex_of d73_26 (d) L st h).trans (rfl)
theorem d73_27 : decode (mB 73) 27 = .ok (.invokevirtual 57, 3) := by decide +kernel
theorem x73_27 {d : Nat} {L : Lc} {a : Nat} {v0 : Int32} {h : Hp} (ht : (h.2.1 a).1 = 10) : ex (d + 1) 73 27 L (.int v0 :: .ref a :: []) h = bnd (ex d 84 0 [some (.ref a), some (.int v0)] [] h) (fun v h' => ex (d + 1) 73 30 L (v.toList ++ []) h') := (ex_of d73_27 (d + 1) L (.int v0 :: .ref a :: []) h).trans (fin_vi (mi := 73) i10_57 ht rfl rfl (by simp [cat1_i, cat1_r]) (by simp) (Nat.le_of_ble_eq_true rfl))
theorem d73_30 : decode (mB 73) 30 = .ok (.ireturn, 1) := by decide +kernel
theorem x73_30 {d : Nat} {L : Lc} {x : Int32} {h : Hp} : ex (d) 73 30 L [.int x] h = some (some (.int x), h) := (ex_of d73_30 (d) L [.int x] h).trans (rfl)
theorem d73_31 : decode (mB 73) 31 = .ok (.aload_n 3, 1) := by decide +kernel
theorem x73_31 {d : Nat} {l0 l1 l2 l4 : Option Value} {st : List Value} {a : Nat} {h : Hp} : ex (d) 73 31 [l0, l1, l2, some (.ref a), l4] st h = ex d 73 32 [l0, l1, l2, some (.ref a), l4] (.ref a :: st) h := (ex_of d73_31 (d) [l0, l1, l2, some (.ref a), l4] st h).trans (rfl)
theorem x73_31n {d : Nat} {l0 l1 l2 l4 : Option Value} {st : List Value} {h : Hp} : ex (d) 73 31 [l0, l1, l2, some .null, l4] st h = ex d 73 32 [l0, l1, l2, some .null, l4] (.null :: st) h := (ex_of d73_31 (d) [l0, l1, l2, some .null, l4] st h).trans (rfl)
theorem x73_31q {d : Nat} {l0 l1 l2 l4 : Option Value} {st : List Value} {a : Option Nat} {h : Hp} : ex (d) 73 31 [l0, l1, l2, some (va_rf a), l4] st h = ex d 73 32 [l0, l1, l2, some (va_rf a), l4] (va_rf a :: st) h := (ex_of d73_31 (d) [l0, l1, l2, some (va_rf a), l4] st h).trans (by cases a <;> rfl)
theorem d73_32 : decode (mB 73) 32 = .ok (.getfield 116, 3) := by decide +kernel
theorem x73_32 {d : Nat} {L : Lc} {st : List Value} {a : Nat} {h : Hp} (ht : isTh (h.2.1 a).1 = true) : ex (d) 73 32 L (.ref a :: st) h = ex d 73 35 L (h.1 a 2 :: st) h := (ex_of d73_32 (d) L (.ref a :: st) h).trans (fin_get (mi := 73) f10_116 ht)
theorem d73_35 : decode (mB 73) 35 = .ok (.iconst 1, 1) := by decide +kernel
theorem x73_35 {d : Nat} {L : Lc} {st : List Value} {h : Hp} : ex (d) 73 35 L st h = ex d 73 36 L (.int (nI 1) :: st) h := (ex_of d73_35 (d) L st h).trans (rfl)
theorem d73_36 : decode (mB 73) 36 = .ok (.if_icmp .eq 10, 3) := by decide +kernel
theorem x73_36 {d : Nat} {L : Lc} {st : List Value} {x y : Int32} {h : Hp} : ex (d) 73 36 L (.int y :: .int x :: st) h = if x = y then ex d 73 46 L st h else ex d 73 39 L st h := (ex_of d73_36 (d) L (.int y :: .int x :: st) h).trans (fin_brq (off := 10) (tgt := 46) rfl (by decide))
theorem d73_39 : decode (mB 73) 39 = .ok (.aload_n 0, 1) := by decide +kernel
theorem x73_39 {d : Nat} {l1 l2 l3 l4 : Option Value} {st : List Value} {a : Nat} {h : Hp} : ex (d) 73 39 [some (.ref a), l1, l2, l3, l4] st h = ex d 73 40 [some (.ref a), l1, l2, l3, l4] (.ref a :: st) h := (ex_of d73_39 (d) [some (.ref a), l1, l2, l3, l4] st h).trans (rfl)
theorem d73_40 : decode (mB 73) 40 = .ok (.bipush 8, 2) := by decide +kernel
theorem x73_40 {d : Nat} {L : Lc} {st : List Value} {h : Hp} : ex (d) 73 40 L st h = ex d 73 42 L (.int (nI 8) :: st) h := (ex_of d73_40 (d) L st h).trans (rfl)
theorem d73_42 : decode (mB 73) 42 = .ok (.invokevirtual 57, 3) := by decide +kernel
theorem x73_42 {d : Nat} {L : Lc} {a : Nat} {v0 : Int32} {h : Hp} (ht : (h.2.1 a).1 = 10) : ex (d + 1) 73 42 L (.int v0 :: .ref a :: []) h = bnd (ex d 84 0 [some (.ref a), some (.int v0)] [] h) (fun v h' => ex (d + 1) 73 45 L (v.toList ++ []) h') := (ex_of d73_42 (d + 1) L (.int v0 :: .ref a :: []) h).trans (fin_vi (mi := 73) i10_57 ht rfl rfl (by simp [cat1_i, cat1_r]) (by simp) (Nat.le_of_ble_eq_true rfl))
theorem d73_45 : decode (mB 73) 45 = .ok (.ireturn, 1) := by decide +kernel
theorem x73_45 {d : Nat} {L : Lc} {x : Int32} {h : Hp} : ex (d) 73 45 L [.int x] h = some (some (.int x), h) := (ex_of d73_45 (d) L [.int x] h).trans (rfl)
theorem d73_46 : decode (mB 73) 46 = .ok (.aload_n 0, 1) := by decide +kernel
theorem x73_46 {d : Nat} {l1 l2 l3 l4 : Option Value} {st : List Value} {a : Nat} {h : Hp} : ex (d) 73 46 [some (.ref a), l1, l2, l3, l4] st h = ex d 73 47 [some (.ref a), l1, l2, l3, l4] (.ref a :: st) h := (ex_of d73_46 (d) [some (.ref a), l1, l2, l3, l4] st h).trans (rfl)
theorem d73_47 : decode (mB 73) 47 = .ok (.invokevirtual 130, 3) := by decide +kernel
theorem x73_47 {d : Nat} {L : Lc} {a : Nat} {h : Hp} (ht : (h.2.1 a).1 = 10) : ex (d + 1) 73 47 L (.ref a :: []) h = bnd (ex d 102 0 [some (.ref a)] [] h) (fun v h' => ex (d + 1) 73 50 L (v.toList ++ []) h') := (ex_of d73_47 (d + 1) L (.ref a :: []) h).trans (fin_vi (mi := 73) i10_130 ht rfl rfl (by simp [cat1_i, cat1_r]) (by simp) (Nat.le_of_ble_eq_true rfl))
theorem d73_50 : decode (mB 73) 50 = .ok (.aload_n 0, 1) := by decide +kernel
theorem x73_50 {d : Nat} {l1 l2 l3 l4 : Option Value} {st : List Value} {a : Nat} {h : Hp} : ex (d) 73 50 [some (.ref a), l1, l2, l3, l4] st h = ex d 73 51 [some (.ref a), l1, l2, l3, l4] (.ref a :: st) h := (ex_of d73_50 (d) [some (.ref a), l1, l2, l3, l4] st h).trans (rfl)
theorem d73_51 : decode (mB 73) 51 = .ok (.aload_n 3, 1) := by decide +kernel
theorem x73_51 {d : Nat} {l0 l1 l2 l4 : Option Value} {st : List Value} {a : Nat} {h : Hp} : ex (d) 73 51 [l0, l1, l2, some (.ref a), l4] st h = ex d 73 52 [l0, l1, l2, some (.ref a), l4] (.ref a :: st) h := (ex_of d73_51 (d) [l0, l1, l2, some (.ref a), l4] st h).trans (rfl)
theorem x73_51n {d : Nat} {l0 l1 l2 l4 : Option Value} {st : List Value} {h : Hp} : ex (d) 73 51 [l0, l1, l2, some .null, l4] st h = ex d 73 52 [l0, l1, l2, some .null, l4] (.null :: st) h := (ex_of d73_51 (d) [l0, l1, l2, some .null, l4] st h).trans (rfl)
theorem x73_51q {d : Nat} {l0 l1 l2 l4 : Option Value} {st : List Value} {a : Option Nat} {h : Hp} : ex (d) 73 51 [l0, l1, l2, some (va_rf a), l4] st h = ex d 73 52 [l0, l1, l2, some (va_rf a), l4] (va_rf a :: st) h := (ex_of d73_51 (d) [l0, l1, l2, some (va_rf a), l4] st h).trans (by cases a <;> rfl)
theorem d73_52 : decode (mB 73) 52 = .ok (.iload_n 2, 1) := by decide +kernel
theorem x73_52 {d : Nat} {l0 l1 l3 l4 : Option Value} {st : List Value} {x : Int32} {h : Hp} : ex (d) 73 52 [l0, l1, some (.int x), l3, l4] st h = ex d 73 53 [l0, l1, some (.int x), l3, l4] (.int x :: st) h := (ex_of d73_52 (d) [l0, l1, some (.int x), l3, l4] st h).trans (rfl)
theorem d73_53 : decode (mB 73) 53 = .ok (.invokevirtual 268, 3) := by decide +kernel
theorem x73_53 {d : Nat} {L : Lc} {a : Nat} {v0 : Value} {v1 : Int32} {h : Hp} (ht : (h.2.1 a).1 = 10) (hv0 : isR v0 = true) : ex (d + 1) 73 53 L (.int v1 :: v0 :: .ref a :: []) h = bnd (ex d 109 0 [some (.ref a), some v0, some (.int v1), none, none] [] h) (fun v h' => ex (d + 1) 73 56 L (v.toList ++ []) h') := (ex_of d73_53 (d + 1) L (.int v1 :: v0 :: .ref a :: []) h).trans (fin_vi (mi := 73) i10_268 ht rfl rfl (by simp [cat1_i, cat1_r, isR_cat1 hv0]) (by simp) (Nat.le_of_ble_eq_true rfl))
theorem d73_56 : decode (mB 73) 56 = .ok (.istore 4, 2) := by decide +kernel
theorem x73_56 {d : Nat} {l0 l1 l2 l3 l4 : Option Value} {st : List Value} {x : Int32} {h : Hp} : ex (d) 73 56 [l0, l1, l2, l3, l4] (.int x :: st) h = ex d 73 58 [l0, l1, l2, clr l3, some (.int x)] st h := (ex_of d73_56 (d) [l0, l1, l2, l3, l4] (.int x :: st) h).trans (rfl)
theorem d73_58 : decode (mB 73) 58 = .ok (.aload_n 0, 1) := by decide +kernel
theorem x73_58 {d : Nat} {l1 l2 l3 l4 : Option Value} {st : List Value} {a : Nat} {h : Hp} : ex (d) 73 58 [some (.ref a), l1, l2, l3, l4] st h = ex d 73 59 [some (.ref a), l1, l2, l3, l4] (.ref a :: st) h := (ex_of d73_58 (d) [some (.ref a), l1, l2, l3, l4] st h).trans (rfl)
theorem d73_59 : decode (mB 73) 59 = .ok (.invokevirtual 137, 3) := by decide +kernel
theorem x73_59 {d : Nat} {L : Lc} {a : Nat} {h : Hp} (ht : (h.2.1 a).1 = 10) : ex (d + 1) 73 59 L (.ref a :: []) h = bnd (ex d 103 0 [some (.ref a)] [] h) (fun v h' => ex (d + 1) 73 62 L (v.toList ++ []) h') := (ex_of d73_59 (d + 1) L (.ref a :: []) h).trans (fin_vi (mi := 73) i10_137 ht rfl rfl (by simp [cat1_i, cat1_r]) (by simp) (Nat.le_of_ble_eq_true rfl))
theorem d73_62 : decode (mB 73) 62 = .ok (.iload 4, 2) := by decide +kernel
theorem x73_62 {d : Nat} {l0 l1 l2 l3 : Option Value} {st : List Value} {x : Int32} {h : Hp} : ex (d) 73 62 [l0, l1, l2, l3, some (.int x)] st h = ex d 73 64 [l0, l1, l2, l3, some (.int x)] (.int x :: st) h := (ex_of d73_62 (d) [l0, l1, l2, l3, some (.int x)] st h).trans (rfl)
theorem d73_64 : decode (mB 73) 64 = .ok (.ireturn, 1) := by decide +kernel
theorem x73_64 {d : Nat} {L : Lc} {x : Int32} {h : Hp} : ex (d) 73 64 L [.int x] h = some (some (.int x), h) := (ex_of d73_64 (d) L [.int x] h).trans (rfl)
theorem d74_0 : decode (mB 74) 0 = .ok (.aload_n 0, 1) := by decide +kernel
theorem x74_0 {d : Nat} {l1 l2 l3 l4 l5 l6 l7 : Option Value} {st : List Value} {a : Nat} {h : Hp} : ex (d) 74 0 [some (.ref a), l1, l2, l3, l4, l5, l6, l7] st h = ex d 74 1 [some (.ref a), l1, l2, l3, l4, l5, l6, l7] (.ref a :: st) h := (ex_of d74_0 (d) [some (.ref a), l1, l2, l3, l4, l5, l6, l7] st h).trans (rfl)
theorem d74_1 : decode (mB 74) 1 = .ok (.iload_n 1, 1) := by decide +kernel
theorem x74_1 {d : Nat} {l0 l2 l3 l4 l5 l6 l7 : Option Value} {st : List Value} {x : Int32} {h : Hp} : ex (d) 74 1 [l0, some (.int x), l2, l3, l4, l5, l6, l7] st h = ex d 74 2 [l0, some (.int x), l2, l3, l4, l5, l6, l7] (.int x :: st) h := (ex_of d74_1 (d) [l0, some (.int x), l2, l3, l4, l5, l6, l7] st h).trans (rfl)
theorem d74_2 : decode (mB 74) 2 = .ok (.invokevirtual 272, 3) := by decide +kernel
theorem x74_2 {d : Nat} {L : Lc} {a : Nat} {v0 : Int32} {h : Hp} (ht : (h.2.1 a).1 = 10) : ex (d + 1) 74 2 L (.int v0 :: .ref a :: []) h = bnd (ex d 89 0 [some (.ref a), some (.int v0), none] [] h) (fun v h' => ex (d + 1) 74 5 L (v.toList ++ []) h') := (ex_of d74_2 (d + 1) L (.int v0 :: .ref a :: []) h).trans (fin_vi (mi := 74) i10_272 ht rfl rfl (by simp [cat1_i, cat1_r]) (by simp) (Nat.le_of_ble_eq_true rfl))
theorem d74_5 : decode (mB 74) 5 = .ok (.astore 5, 2) := by decide +kernel
theorem x74_5 {d : Nat} {l0 l1 l2 l3 l4 l5 l6 l7 : Option Value} {st : List Value} {a : Nat} {h : Hp} : ex (d) 74 5 [l0, l1, l2, l3, l4, l5, l6, l7] (.ref a :: st) h = ex d 74 7 [l0, l1, l2, l3, clr l4, some (.ref a), l6, l7] st h := (ex_of d74_5 (d) [l0, l1, l2, l3, l4, l5, l6, l7] (.ref a :: st) h).trans (rfl)
theorem x74_5n {d : Nat} {l0 l1 l2 l3 l4 l5 l6 l7 : Option Value} {st : List Value} {h : Hp} : ex (d) 74 5 [l0, l1, l2, l3, l4, l5, l6, l7] (.null :: st) h = ex d 74 7 [l0, l1, l2, l3, clr l4, some .null, l6, l7] st h := (ex_of d74_5 (d) [l0, l1, l2, l3, l4, l5, l6, l7] (.null :: st) h).trans (rfl)
theorem x74_5q {d : Nat} {l0 l1 l2 l3 l4 l5 l6 l7 : Option Value} {st : List Value} {a : Option Nat} {h : Hp} : ex (d) 74 5 [l0, l1, l2, l3, l4, l5, l6, l7] (va_rf a :: st) h = ex d 74 7 [l0, l1, l2, l3, clr l4, some (va_rf a), l6, l7] st h := (ex_of d74_5 (d) [l0, l1, l2, l3, l4, l5, l6, l7] (va_rf a :: st) h).trans (by cases a <;> rfl)
theorem d74_7 : decode (mB 74) 7 = .ok (.aload 5, 2) := by decide +kernel
theorem x74_7 {d : Nat} {l0 l1 l2 l3 l4 l6 l7 : Option Value} {st : List Value} {a : Nat} {h : Hp} : ex (d) 74 7 [l0, l1, l2, l3, l4, some (.ref a), l6, l7] st h = ex d 74 9 [l0, l1, l2, l3, l4, some (.ref a), l6, l7] (.ref a :: st) h := (ex_of d74_7 (d) [l0, l1, l2, l3, l4, some (.ref a), l6, l7] st h).trans (rfl)
theorem x74_7n {d : Nat} {l0 l1 l2 l3 l4 l6 l7 : Option Value} {st : List Value} {h : Hp} : ex (d) 74 7 [l0, l1, l2, l3, l4, some .null, l6, l7] st h = ex d 74 9 [l0, l1, l2, l3, l4, some .null, l6, l7] (.null :: st) h := (ex_of d74_7 (d) [l0, l1, l2, l3, l4, some .null, l6, l7] st h).trans (rfl)
theorem x74_7q {d : Nat} {l0 l1 l2 l3 l4 l6 l7 : Option Value} {st : List Value} {a : Option Nat} {h : Hp} : ex (d) 74 7 [l0, l1, l2, l3, l4, some (va_rf a), l6, l7] st h = ex d 74 9 [l0, l1, l2, l3, l4, some (va_rf a), l6, l7] (va_rf a :: st) h := (ex_of d74_7 (d) [l0, l1, l2, l3, l4, some (va_rf a), l6, l7] st h).trans (by cases a <;> rfl)
theorem d74_9 : decode (mB 74) 9 = .ok (.ifnonnull 10, 3) := by decide +kernel
theorem x74_9n {d : Nat} {L : Lc} {st : List Value} {h : Hp} : ex (d) 74 9 L (.null :: st) h = ex d 74 12 L st h := (ex_of d74_9 (d) L (.null :: st) h).trans (rfl)
theorem x74_9 {d : Nat} {L : Lc} {st : List Value} {a : Nat} {h : Hp} : ex (d) 74 9 L (.ref a :: st) h = ex d 74 19 L st h := (ex_of d74_9 (d) L (.ref a :: st) h).trans (rfl)
theorem d74_12 : decode (mB 74) 12 = .ok (.aload_n 0, 1) := by decide +kernel
theorem x74_12 {d : Nat} {l1 l2 l3 l4 l5 l6 l7 : Option Value} {st : List Value} {a : Nat} {h : Hp} : ex (d) 74 12 [some (.ref a), l1, l2, l3, l4, l5, l6, l7] st h = ex d 74 13 [some (.ref a), l1, l2, l3, l4, l5, l6, l7] (.ref a :: st) h := (ex_of d74_12 (d) [some (.ref a), l1, l2, l3, l4, l5, l6, l7] st h).trans (rfl)
theorem d74_13 : decode (mB 74) 13 = .ok (.bipush 10, 2) := by decide +kernel
theorem x74_13 {d : Nat} {L : Lc} {st : List Value} {h : Hp} : ex (d) 74 13 L st h = ex d 74 15 L (.int (nI 10) :: st) h := (ex_of d74_13 (d) L st h).trans (rfl)
theorem d74_15 : decode (mB 74) 15 = .ok (.invokevirtual 57, 3) := by decide +kernel
theorem x74_15 {d : Nat} {L : Lc} {a : Nat} {v0 : Int32} {h : Hp} (ht : (h.2.1 a).1 = 10) : ex (d + 1) 74 15 L (.int v0 :: .ref a :: []) h = bnd (ex d 84 0 [some (.ref a), some (.int v0)] [] h) (fun v h' => ex (d + 1) 74 18 L (v.toList ++ []) h') := (ex_of d74_15 (d + 1) L (.int v0 :: .ref a :: []) h).trans (fin_vi (mi := 74) i10_57 ht rfl rfl (by simp [cat1_i, cat1_r]) (by simp) (Nat.le_of_ble_eq_true rfl))
theorem d74_18 : decode (mB 74) 18 = .ok (.ireturn, 1) := by decide +kernel
theorem x74_18 {d : Nat} {L : Lc} {x : Int32} {h : Hp} : ex (d) 74 18 L [.int x] h = some (some (.int x), h) := (ex_of d74_18 (d) L [.int x] h).trans (rfl)
theorem d74_19 : decode (mB 74) 19 = .ok (.aload_n 0, 1) := by decide +kernel
theorem x74_19 {d : Nat} {l1 l2 l3 l4 l5 l6 l7 : Option Value} {st : List Value} {a : Nat} {h : Hp} : ex (d) 74 19 [some (.ref a), l1, l2, l3, l4, l5, l6, l7] st h = ex d 74 20 [some (.ref a), l1, l2, l3, l4, l5, l6, l7] (.ref a :: st) h := (ex_of d74_19 (d) [some (.ref a), l1, l2, l3, l4, l5, l6, l7] st h).trans (rfl)
theorem d74_20 : decode (mB 74) 20 = .ok (.iload_n 2, 1) := by decide +kernel
theorem x74_20 {d : Nat} {l0 l1 l3 l4 l5 l6 l7 : Option Value} {st : List Value} {x : Int32} {h : Hp} : ex (d) 74 20 [l0, l1, some (.int x), l3, l4, l5, l6, l7] st h = ex d 74 21 [l0, l1, some (.int x), l3, l4, l5, l6, l7] (.int x :: st) h := (ex_of d74_20 (d) [l0, l1, some (.int x), l3, l4, l5, l6, l7] st h).trans (rfl)
theorem d74_21 : decode (mB 74) 21 = .ok (.invokevirtual 126, 3) := by decide +kernel
theorem x74_21 {d : Nat} {L : Lc} {a : Nat} {v0 : Int32} {h : Hp} (ht : (h.2.1 a).1 = 10) : ex (d + 1) 74 21 L (.int v0 :: .ref a :: []) h = bnd (ex d 87 0 [some (.ref a), some (.int v0), none] [] h) (fun v h' => ex (d + 1) 74 24 L (v.toList ++ []) h') := (ex_of d74_21 (d + 1) L (.int v0 :: .ref a :: []) h).trans (fin_vi (mi := 74) i10_126 ht rfl rfl (by simp [cat1_i, cat1_r]) (by simp) (Nat.le_of_ble_eq_true rfl))
theorem d74_24 : decode (mB 74) 24 = .ok (.astore 6, 2) := by decide +kernel
theorem x74_24 {d : Nat} {l0 l1 l2 l3 l4 l5 l6 l7 : Option Value} {st : List Value} {a : Nat} {h : Hp} : ex (d) 74 24 [l0, l1, l2, l3, l4, l5, l6, l7] (.ref a :: st) h = ex d 74 26 [l0, l1, l2, l3, l4, clr l5, some (.ref a), l7] st h := (ex_of d74_24 (d) [l0, l1, l2, l3, l4, l5, l6, l7] (.ref a :: st) h).trans (rfl)
theorem x74_24n {d : Nat} {l0 l1 l2 l3 l4 l5 l6 l7 : Option Value} {st : List Value} {h : Hp} : ex (d) 74 24 [l0, l1, l2, l3, l4, l5, l6, l7] (.null :: st) h = ex d 74 26 [l0, l1, l2, l3, l4, clr l5, some .null, l7] st h := (ex_of d74_24 (d) [l0, l1, l2, l3, l4, l5, l6, l7] (.null :: st) h).trans (rfl)
theorem x74_24q {d : Nat} {l0 l1 l2 l3 l4 l5 l6 l7 : Option Value} {st : List Value} {a : Option Nat} {h : Hp} : ex (d) 74 24 [l0, l1, l2, l3, l4, l5, l6, l7] (va_rf a :: st) h = ex d 74 26 [l0, l1, l2, l3, l4, clr l5, some (va_rf a), l7] st h := (ex_of d74_24 (d) [l0, l1, l2, l3, l4, l5, l6, l7] (va_rf a :: st) h).trans (by cases a <;> rfl)
theorem d74_26 : decode (mB 74) 26 = .ok (.aload 6, 2) := by decide +kernel
theorem x74_26 {d : Nat} {l0 l1 l2 l3 l4 l5 l7 : Option Value} {st : List Value} {a : Nat} {h : Hp} : ex (d) 74 26 [l0, l1, l2, l3, l4, l5, some (.ref a), l7] st h = ex d 74 28 [l0, l1, l2, l3, l4, l5, some (.ref a), l7] (.ref a :: st) h := (ex_of d74_26 (d) [l0, l1, l2, l3, l4, l5, some (.ref a), l7] st h).trans (rfl)
theorem x74_26n {d : Nat} {l0 l1 l2 l3 l4 l5 l7 : Option Value} {st : List Value} {h : Hp} : ex (d) 74 26 [l0, l1, l2, l3, l4, l5, some .null, l7] st h = ex d 74 28 [l0, l1, l2, l3, l4, l5, some .null, l7] (.null :: st) h := (ex_of d74_26 (d) [l0, l1, l2, l3, l4, l5, some .null, l7] st h).trans (rfl)
theorem x74_26q {d : Nat} {l0 l1 l2 l3 l4 l5 l7 : Option Value} {st : List Value} {a : Option Nat} {h : Hp} : ex (d) 74 26 [l0, l1, l2, l3, l4, l5, some (va_rf a), l7] st h = ex d 74 28 [l0, l1, l2, l3, l4, l5, some (va_rf a), l7] (va_rf a :: st) h := (ex_of d74_26 (d) [l0, l1, l2, l3, l4, l5, some (va_rf a), l7] st h).trans (by cases a <;> rfl)
theorem d74_28 : decode (mB 74) 28 = .ok (.ifnonnull 9, 3) := by decide +kernel
theorem x74_28n {d : Nat} {L : Lc} {st : List Value} {h : Hp} : ex (d) 74 28 L (.null :: st) h = ex d 74 31 L st h := (ex_of d74_28 (d) L (.null :: st) h).trans (rfl)
theorem x74_28 {d : Nat} {L : Lc} {st : List Value} {a : Nat} {h : Hp} : ex (d) 74 28 L (.ref a :: st) h = ex d 74 37 L st h := (ex_of d74_28 (d) L (.ref a :: st) h).trans (rfl)
theorem d74_31 : decode (mB 74) 31 = .ok (.aload_n 0, 1) := by decide +kernel
theorem x74_31 {d : Nat} {l1 l2 l3 l4 l5 l6 l7 : Option Value} {st : List Value} {a : Nat} {h : Hp} : ex (d) 74 31 [some (.ref a), l1, l2, l3, l4, l5, l6, l7] st h = ex d 74 32 [some (.ref a), l1, l2, l3, l4, l5, l6, l7] (.ref a :: st) h := (ex_of d74_31 (d) [some (.ref a), l1, l2, l3, l4, l5, l6, l7] st h).trans (rfl)
theorem d74_32 : decode (mB 74) 32 = .ok (.iconst 1, 1) := by decide +kernel
theorem x74_32 {d : Nat} {L : Lc} {st : List Value} {h : Hp} : ex (d) 74 32 L st h = ex d 74 33 L (.int (nI 1) :: st) h := (ex_of d74_32 (d) L st h).trans (rfl)
theorem d74_33 : decode (mB 74) 33 = .ok (.invokevirtual 57, 3) := by decide +kernel
theorem x74_33 {d : Nat} {L : Lc} {a : Nat} {v0 : Int32} {h : Hp} (ht : (h.2.1 a).1 = 10) : ex (d + 1) 74 33 L (.int v0 :: .ref a :: []) h = bnd (ex d 84 0 [some (.ref a), some (.int v0)] [] h) (fun v h' => ex (d + 1) 74 36 L (v.toList ++ []) h') := (ex_of d74_33 (d + 1) L (.int v0 :: .ref a :: []) h).trans (fin_vi (mi := 74) i10_57 ht rfl rfl (by simp [cat1_i, cat1_r]) (by simp) (Nat.le_of_ble_eq_true rfl))
theorem d74_36 : decode (mB 74) 36 = .ok (.ireturn, 1) := by decide +kernel
theorem x74_36 {d : Nat} {L : Lc} {x : Int32} {h : Hp} : ex (d) 74 36 L [.int x] h = some (some (.int x), h) := (ex_of d74_36 (d) L [.int x] h).trans (rfl)
theorem d74_37 : decode (mB 74) 37 = .ok (.aload_n 0, 1) := by decide +kernel
theorem x74_37 {d : Nat} {l1 l2 l3 l4 l5 l6 l7 : Option Value} {st : List Value} {a : Nat} {h : Hp} : ex (d) 74 37 [some (.ref a), l1, l2, l3, l4, l5, l6, l7] st h = ex d 74 38 [some (.ref a), l1, l2, l3, l4, l5, l6, l7] (.ref a :: st) h := (ex_of d74_37 (d) [some (.ref a), l1, l2, l3, l4, l5, l6, l7] st h).trans (rfl)
theorem d74_38 : decode (mB 74) 38 = .ok (.invokevirtual 130, 3) := by decide +kernel
theorem x74_38 {d : Nat} {L : Lc} {a : Nat} {h : Hp} (ht : (h.2.1 a).1 = 10) : ex (d + 1) 74 38 L (.ref a :: []) h = bnd (ex d 102 0 [some (.ref a)] [] h) (fun v h' => ex (d + 1) 74 41 L (v.toList ++ []) h') := (ex_of d74_38 (d + 1) L (.ref a :: []) h).trans (fin_vi (mi := 74) i10_130 ht rfl rfl (by simp [cat1_i, cat1_r]) (by simp) (Nat.le_of_ble_eq_true rfl))
theorem d74_41 : decode (mB 74) 41 = .ok (.aload_n 0, 1) := by decide +kernel
theorem x74_41 {d : Nat} {l1 l2 l3 l4 l5 l6 l7 : Option Value} {st : List Value} {a : Nat} {h : Hp} : ex (d) 74 41 [some (.ref a), l1, l2, l3, l4, l5, l6, l7] st h = ex d 74 42 [some (.ref a), l1, l2, l3, l4, l5, l6, l7] (.ref a :: st) h := (ex_of d74_41 (d) [some (.ref a), l1, l2, l3, l4, l5, l6, l7] st h).trans (rfl)
theorem d74_42 : decode (mB 74) 42 = .ok (.aload 5, 2) := by decide +kernel
theorem x74_42 {d : Nat} {l0 l1 l2 l3 l4 l6 l7 : Option Value} {st : List Value} {a : Nat} {h : Hp} : ex (d) 74 42 [l0, l1, l2, l3, l4, some (.ref a), l6, l7] st h = ex d 74 44 [l0, l1, l2, l3, l4, some (.ref a), l6, l7] (.ref a :: st) h := (ex_of d74_42 (d) [l0, l1, l2, l3, l4, some (.ref a), l6, l7] st h).trans (rfl)
theorem x74_42n {d : Nat} {l0 l1 l2 l3 l4 l6 l7 : Option Value} {st : List Value} {h : Hp} : ex (d) 74 42 [l0, l1, l2, l3, l4, some .null, l6, l7] st h = ex d 74 44 [l0, l1, l2, l3, l4, some .null, l6, l7] (.null :: st) h := (ex_of d74_42 (d) [l0, l1, l2, l3, l4, some .null, l6, l7] st h).trans (rfl)
theorem x74_42q {d : Nat} {l0 l1 l2 l3 l4 l6 l7 : Option Value} {st : List Value} {a : Option Nat} {h : Hp} : ex (d) 74 42 [l0, l1, l2, l3, l4, some (va_rf a), l6, l7] st h = ex d 74 44 [l0, l1, l2, l3, l4, some (va_rf a), l6, l7] (va_rf a :: st) h := (ex_of d74_42 (d) [l0, l1, l2, l3, l4, some (va_rf a), l6, l7] st h).trans (by cases a <;> rfl)
theorem d74_44 : decode (mB 74) 44 = .ok (.aload 6, 2) := by decide +kernel
theorem x74_44 {d : Nat} {l0 l1 l2 l3 l4 l5 l7 : Option Value} {st : List Value} {a : Nat} {h : Hp} : ex (d) 74 44 [l0, l1, l2, l3, l4, l5, some (.ref a), l7] st h = ex d 74 46 [l0, l1, l2, l3, l4, l5, some (.ref a), l7] (.ref a :: st) h := (ex_of d74_44 (d) [l0, l1, l2, l3, l4, l5, some (.ref a), l7] st h).trans (rfl)
theorem x74_44n {d : Nat} {l0 l1 l2 l3 l4 l5 l7 : Option Value} {st : List Value} {h : Hp} : ex (d) 74 44 [l0, l1, l2, l3, l4, l5, some .null, l7] st h = ex d 74 46 [l0, l1, l2, l3, l4, l5, some .null, l7] (.null :: st) h := (ex_of d74_44 (d) [l0, l1, l2, l3, l4, l5, some .null, l7] st h).trans (rfl)
theorem x74_44q {d : Nat} {l0 l1 l2 l3 l4 l5 l7 : Option Value} {st : List Value} {a : Option Nat} {h : Hp} : ex (d) 74 44 [l0, l1, l2, l3, l4, l5, some (va_rf a), l7] st h = ex d 74 46 [l0, l1, l2, l3, l4, l5, some (va_rf a), l7] (va_rf a :: st) h := (ex_of d74_44 (d) [l0, l1, l2, l3, l4, l5, some (va_rf a), l7] st h).trans (by cases a <;> rfl)
theorem d74_46 : decode (mB 74) 46 = .ok (.iload_n 3, 1) := by decide +kernel
theorem x74_46 {d : Nat} {l0 l1 l2 l4 l5 l6 l7 : Option Value} {st : List Value} {x : Int32} {h : Hp} : ex (d) 74 46 [l0, l1, l2, some (.int x), l4, l5, l6, l7] st h = ex d 74 47 [l0, l1, l2, some (.int x), l4, l5, l6, l7] (.int x :: st) h := (ex_of d74_46 (d) [l0, l1, l2, some (.int x), l4, l5, l6, l7] st h).trans (rfl)
theorem d74_47 : decode (mB 74) 47 = .ok (.iload 4, 2) := by decide +kernel
theorem x74_47 {d : Nat} {l0 l1 l2 l3 l5 l6 l7 : Option Value} {st : List Value} {x : Int32} {h : Hp} : ex (d) 74 47 [l0, l1, l2, l3, some (.int x), l5, l6, l7] st h = ex d 74 49 [l0, l1, l2, l3, some (.int x), l5, l6, l7] (.int x :: st) h := (ex_of d74_47 (d) [l0, l1, l2, l3, some (.int x), l5, l6, l7] st h).trans (rfl)
theorem d74_49 : decode (mB 74) 49 = .ok (.invokevirtual 276, 3) := by decide +kernel
theorem x74_49 {d : Nat} {L : Lc} {a : Nat} {v0 : Value} {v1 : Value} {v2 : Int32} {v3 : Int32} {h : Hp} (ht : (h.2.1 a).1 = 10) (hv0 : isR v0 = true) (hv1 : isR v1 = true) : ex (d + 1) 74 49 L (.int v3 :: .int v2 :: v1 :: v0 :: .ref a :: []) h = bnd (ex d 110 0 [some (.ref a), some v0, some v1, some (.int v2), some (.int v3), none, none] [] h) (fun v h' => ex (d + 1) 74 52 L (v.toList ++ []) h') := (ex_of d74_49 (d + 1) L (.int v3 :: .int v2 :: v1 :: v0 :: .ref a :: []) h).trans (fin_vi (mi := 74) i10_276 ht rfl rfl (by simp [cat1_i, cat1_r, isR_cat1 hv0, isR_cat1 hv1]) (by simp) (Nat.le_of_ble_eq_true rfl))
theorem d74_52 : decode (mB 74) 52 = .ok (.istore 7, 2) := by decide +kernel
theorem x74_52 {d : Nat} {l0 l1 l2 l3 l4 l5 l6 l7 : Option Value} {st : List Value} {x : Int32} {h : Hp} : ex (d) 74 52 [l0, l1, l2, l3, l4, l5, l6, l7] (.int x :: st) h = ex d 74 54 [l0, l1, l2, l3, l4, l5, clr l6, some (.int x)] st h := (ex_of d74_52 (d) [l0, l1, l2, l3, l4, l5, l6, l7] (.int x :: st) h).trans (rfl)
theorem d74_54 : decode (mB 74) 54 = .ok (.aload_n 0, 1) := by decide +kernel
theorem x74_54 {d : Nat} {l1 l2 l3 l4 l5 l6 l7 : Option Value} {st : List Value} {a : Nat} {h : Hp} : ex (d) 74 54 [some (.ref a), l1, l2, l3, l4, l5, l6, l7] st h = ex d 74 55 [some (.ref a), l1, l2, l3, l4, l5, l6, l7] (.ref a :: st) h := (ex_of d74_54 (d) [some (.ref a), l1, l2, l3, l4, l5, l6, l7] st h).trans (rfl)
theorem d74_55 : decode (mB 74) 55 = .ok (.invokevirtual 137, 3) := by decide +kernel
theorem x74_55 {d : Nat} {L : Lc} {a : Nat} {h : Hp} (ht : (h.2.1 a).1 = 10) : ex (d + 1) 74 55 L (.ref a :: []) h = bnd (ex d 103 0 [some (.ref a)] [] h) (fun v h' => ex (d + 1) 74 58 L (v.toList ++ []) h') := (ex_of d74_55 (d + 1) L (.ref a :: []) h).trans (fin_vi (mi := 74) i10_137 ht rfl rfl (by simp [cat1_i, cat1_r]) (by simp) (Nat.le_of_ble_eq_true rfl))
theorem d74_58 : decode (mB 74) 58 = .ok (.iload 7, 2) := by decide +kernel
theorem x74_58 {d : Nat} {l0 l1 l2 l3 l4 l5 l6 : Option Value} {st : List Value} {x : Int32} {h : Hp} : ex (d) 74 58 [l0, l1, l2, l3, l4, l5, l6, some (.int x)] st h = ex d 74 60 [l0, l1, l2, l3, l4, l5, l6, some (.int x)] (.int x :: st) h := (ex_of d74_58 (d) [l0, l1, l2, l3, l4, l5, l6, some (.int x)] st h).trans (rfl)
theorem d74_60 : decode (mB 74) 60 = .ok (.ireturn, 1) := by decide +kernel
theorem x74_60 {d : Nat} {L : Lc} {x : Int32} {h : Hp} : ex (d) 74 60 L [.int x] h = some (some (.int x), h) := (ex_of d74_60 (d) L [.int x] h).trans (rfl)
theorem d75_0 : decode (mB 75) 0 = .ok (.aload_n 0, 1) := by decide +kernel
theorem x75_0 {d : Nat} {st : List Value} {a : Nat} {h : Hp} : ex (d) 75 0 [some (.ref a)] st h = ex d 75 1 [some (.ref a)] (.ref a :: st) h := (ex_of d75_0 (d) [some (.ref a)] st h).trans (rfl)
theorem d75_1 : decode (mB 75) 1 = .ok (.getfield 280, 3) := by decide +kernel
theorem x75_1 {d : Nat} {L : Lc} {st : List Value} {a : Nat} {h : Hp} (ht : (h.2.1 a).1 = 10) : ex (d) 75 1 L (.ref a :: st) h = ex d 75 4 L (h.1 a 11 :: st) h := (ex_of d75_1 (d) L (.ref a :: st) h).trans (fin_get (mi := 75) f10_280 (tg1 ht rfl))
theorem d75_4 : decode (mB 75) 4 = .ok (.ireturn, 1) := by decide +kernel
theorem x75_4 {d : Nat} {L : Lc} {x : Int32} {h : Hp} : ex (d) 75 4 L [.int x] h = some (some (.int x), h) := (ex_of d75_4 (d) L [.int x] h).trans (rfl)
theorem d76_0 : decode (mB 76) 0 = .ok (.aload_n 0, 1) := by decide +kernel
theorem x76_0 {d : Nat} {st : List Value} {a : Nat} {h : Hp} : ex (d) 76 0 [some (.ref a)] st h = ex d 76 1 [some (.ref a)] (.ref a :: st) h := (ex_of d76_0 (d) [some (.ref a)] st h).trans (rfl)
theorem d76_1 : decode (mB 76) 1 = .ok (.getfield 156, 3) := by decide +kernel
theorem x76_1 {d : Nat} {L : Lc} {st : List Value} {a : Nat} {h : Hp} (ht : (h.2.1 a).1 = 10) : ex (d) 76 1 L (.ref a :: st) h = ex d 76 4 L (h.1 a 12 :: st) h := (ex_of d76_1 (d) L (.ref a :: st) h).trans (fin_get (mi := 76) f10_156 (tg1 ht rfl))
theorem d76_4 : decode (mB 76) 4 = .ok (.ireturn, 1) := by decide +kernel
theorem x76_4 {d : Nat} {L : Lc} {x : Int32} {h : Hp} : ex (d) 76 4 L [.int x] h = some (some (.int x), h) := (ex_of d76_4 (d) L [.int x] h).trans (rfl)
theorem d77_0 : decode (mB 77) 0 = .ok (.iload_n 2, 1) := by decide +kernel
theorem x77_0 {d : Nat} {l0 l1 : Option Value} {st : List Value} {x : Int32} {h : Hp} : ex (d) 77 0 [l0, l1, some (.int x)] st h = ex d 77 1 [l0, l1, some (.int x)] (.int x :: st) h := (ex_of d77_0 (d) [l0, l1, some (.int x)] st h).trans (rfl)
theorem d77_1 : decode (mB 77) 1 = .ok (.ifCond .ne 10, 3) := by decide +kernel
theorem x77_1 {d : Nat} {L : Lc} {st : List Value} {x : Int32} {h : Hp} : ex (d) 77 1 L (.int x :: st) h = if ¬ x = 0 then ex d 77 11 L st h else ex d 77 4 L st h := (ex_of d77_1 (d) L (.int x :: st) h).trans (fin_brq (off := 10) (tgt := 11) rfl (by decide))
theorem d77_4 : decode (mB 77) 4 = .ok (.aload_n 0, 1) := by decide +kernel
theorem x77_4 {d : Nat} {l1 l2 : Option Value} {st : List Value} {a : Nat} {h : Hp} : ex (d) 77 4 [some (.ref a), l1, l2] st h = ex d 77 5 [some (.ref a), l1, l2] (.ref a :: st) h := (ex_of d77_4 (d) [some (.ref a), l1, l2] st h).trans (rfl)
theorem d77_5 : decode (mB 77) 5 = .ok (.bipush 7, 2) := by decide +kernel
theorem x77_5 {d : Nat} {L : Lc} {st : List Value} {h : Hp} : ex (d) 77 5 L st h = ex d 77 7 L (.int (nI 7) :: st) h := (ex_of d77_5 (d) L st h).trans (rfl)
theorem d77_7 : decode (mB 77) 7 = .ok (.invokevirtual 57, 3) := by decide +kernel
theorem x77_7 {d : Nat} {L : Lc} {a : Nat} {v0 : Int32} {h : Hp} (ht : (h.2.1 a).1 = 10) : ex (d + 1) 77 7 L (.int v0 :: .ref a :: []) h = bnd (ex d 84 0 [some (.ref a), some (.int v0)] [] h) (fun v h' => ex (d + 1) 77 10 L (v.toList ++ []) h') := (ex_of d77_7 (d + 1) L (.int v0 :: .ref a :: []) h).trans (fin_vi (mi := 77) i10_57 ht rfl rfl (by simp [cat1_i, cat1_r]) (by simp) (Nat.le_of_ble_eq_true rfl))
theorem d77_10 : decode (mB 77) 10 = .ok (.ireturn, 1) := by decide +kernel
theorem x77_10 {d : Nat} {L : Lc} {x : Int32} {h : Hp} : ex (d) 77 10 L [.int x] h = some (some (.int x), h) := (ex_of d77_10 (d) L [.int x] h).trans (rfl)
theorem d77_11 : decode (mB 77) 11 = .ok (.iload_n 2, 1) := by decide +kernel
theorem x77_11 {d : Nat} {l0 l1 : Option Value} {st : List Value} {x : Int32} {h : Hp} : ex (d) 77 11 [l0, l1, some (.int x)] st h = ex d 77 12 [l0, l1, some (.int x)] (.int x :: st) h := (ex_of d77_11 (d) [l0, l1, some (.int x)] st h).trans (rfl)
theorem d77_12 : decode (mB 77) 12 = .ok (.ifCond .ge 10, 3) := by decide +kernel
theorem x77_12 {d : Nat} {L : Lc} {st : List Value} {x : Int32} {h : Hp} : ex (d) 77 12 L (.int x :: st) h = if 0 ≤ x then ex d 77 22 L st h else ex d 77 15 L st h := (ex_of d77_12 (d) L (.int x :: st) h).trans (fin_brq (off := 10) (tgt := 22) rfl (by decide))
theorem d77_15 : decode (mB 77) 15 = .ok (.aload_n 0, 1) := by decide +kernel
theorem x77_15 {d : Nat} {l1 l2 : Option Value} {st : List Value} {a : Nat} {h : Hp} : ex (d) 77 15 [some (.ref a), l1, l2] st h = ex d 77 16 [some (.ref a), l1, l2] (.ref a :: st) h := (ex_of d77_15 (d) [some (.ref a), l1, l2] st h).trans (rfl)
theorem d77_16 : decode (mB 77) 16 = .ok (.bipush 6, 2) := by decide +kernel
theorem x77_16 {d : Nat} {L : Lc} {st : List Value} {h : Hp} : ex (d) 77 16 L st h = ex d 77 18 L (.int (nI 6) :: st) h := (ex_of d77_16 (d) L st h).trans (rfl)
theorem d77_18 : decode (mB 77) 18 = .ok (.invokevirtual 57, 3) := by decide +kernel
theorem x77_18 {d : Nat} {L : Lc} {a : Nat} {v0 : Int32} {h : Hp} (ht : (h.2.1 a).1 = 10) : ex (d + 1) 77 18 L (.int v0 :: .ref a :: []) h = bnd (ex d 84 0 [some (.ref a), some (.int v0)] [] h) (fun v h' => ex (d + 1) 77 21 L (v.toList ++ []) h') := (ex_of d77_18 (d + 1) L (.int v0 :: .ref a :: []) h).trans (fin_vi (mi := 77) i10_57 ht rfl rfl (by simp [cat1_i, cat1_r]) (by simp) (Nat.le_of_ble_eq_true rfl))
theorem d77_21 : decode (mB 77) 21 = .ok (.ireturn, 1) := by decide +kernel
theorem x77_21 {d : Nat} {L : Lc} {x : Int32} {h : Hp} : ex (d) 77 21 L [.int x] h = some (some (.int x), h) := (ex_of d77_21 (d) L [.int x] h).trans (rfl)
theorem d77_22 : decode (mB 77) 22 = .ok (.iload_n 1, 1) := by decide +kernel
theorem x77_22 {d : Nat} {l0 l2 : Option Value} {st : List Value} {x : Int32} {h : Hp} : ex (d) 77 22 [l0, some (.int x), l2] st h = ex d 77 23 [l0, some (.int x), l2] (.int x :: st) h := (ex_of d77_22 (d) [l0, some (.int x), l2] st h).trans (rfl)
theorem d77_23 : decode (mB 77) 23 = .ok (.ifCond .lt 8, 3) := by decide +kernel
theorem x77_23 {d : Nat} {L : Lc} {st : List Value} {x : Int32} {h : Hp} : ex (d) 77 23 L (.int x :: st) h = if x < 0 then ex d 77 31 L st h else ex d 77 26 L st h := (ex_of d77_23 (d) L (.int x :: st) h).trans (fin_brq (off := 8) (tgt := 31) rfl (by decide))
theorem d77_26 : decode (mB 77) 26 = .ok (.iload_n 1, 1) := by decide +kernel
theorem x77_26 {d : Nat} {l0 l2 : Option Value} {st : List Value} {x : Int32} {h : Hp} : ex (d) 77 26 [l0, some (.int x), l2] st h = ex d 77 27 [l0, some (.int x), l2] (.int x :: st) h := (ex_of d77_26 (d) [l0, some (.int x), l2] st h).trans (rfl)
theorem d77_27 : decode (mB 77) 27 = .ok (.iload_n 2, 1) := by decide +kernel
theorem x77_27 {d : Nat} {l0 l1 : Option Value} {st : List Value} {x : Int32} {h : Hp} : ex (d) 77 27 [l0, l1, some (.int x)] st h = ex d 77 28 [l0, l1, some (.int x)] (.int x :: st) h := (ex_of d77_27 (d) [l0, l1, some (.int x)] st h).trans (rfl)
theorem d77_28 : decode (mB 77) 28 = .ok (.if_icmp .lt 9, 3) := by decide +kernel
theorem x77_28 {d : Nat} {L : Lc} {st : List Value} {x y : Int32} {h : Hp} : ex (d) 77 28 L (.int y :: .int x :: st) h = if x < y then ex d 77 37 L st h else ex d 77 31 L st h := (ex_of d77_28 (d) L (.int y :: .int x :: st) h).trans (fin_brq (off := 9) (tgt := 37) rfl (by decide))
theorem d77_31 : decode (mB 77) 31 = .ok (.aload_n 0, 1) := by decide +kernel
theorem x77_31 {d : Nat} {l1 l2 : Option Value} {st : List Value} {a : Nat} {h : Hp} : ex (d) 77 31 [some (.ref a), l1, l2] st h = ex d 77 32 [some (.ref a), l1, l2] (.ref a :: st) h := (ex_of d77_31 (d) [some (.ref a), l1, l2] st h).trans (rfl)
theorem d77_32 : decode (mB 77) 32 = .ok (.iconst 2, 1) := by decide +kernel
theorem x77_32 {d : Nat} {L : Lc} {st : List Value} {h : Hp} : ex (d) 77 32 L st h = ex d 77 33 L (.int (nI 2) :: st) h := (ex_of d77_32 (d) L st h).trans (rfl)
theorem d77_33 : decode (mB 77) 33 = .ok (.invokevirtual 57, 3) := by decide +kernel
theorem x77_33 {d : Nat} {L : Lc} {a : Nat} {v0 : Int32} {h : Hp} (ht : (h.2.1 a).1 = 10) : ex (d + 1) 77 33 L (.int v0 :: .ref a :: []) h = bnd (ex d 84 0 [some (.ref a), some (.int v0)] [] h) (fun v h' => ex (d + 1) 77 36 L (v.toList ++ []) h') := (ex_of d77_33 (d + 1) L (.int v0 :: .ref a :: []) h).trans (fin_vi (mi := 77) i10_57 ht rfl rfl (by simp [cat1_i, cat1_r]) (by simp) (Nat.le_of_ble_eq_true rfl))
theorem d77_36 : decode (mB 77) 36 = .ok (.ireturn, 1) := by decide +kernel
theorem x77_36 {d : Nat} {L : Lc} {x : Int32} {h : Hp} : ex (d) 77 36 L [.int x] h = some (some (.int x), h) := (ex_of d77_36 (d) L [.int x] h).trans (rfl)
theorem d77_37 : decode (mB 77) 37 = .ok (.aload_n 0, 1) := by decide +kernel
theorem x77_37 {d : Nat} {l1 l2 : Option Value} {st : List Value} {a : Nat} {h : Hp} : ex (d) 77 37 [some (.ref a), l1, l2] st h = ex d 77 38 [some (.ref a), l1, l2] (.ref a :: st) h := (ex_of d77_37 (d) [some (.ref a), l1, l2] st h).trans (rfl)
theorem d77_38 : decode (mB 77) 38 = .ok (.aload_n 0, 1) := by decide +kernel
theorem x77_38 {d : Nat} {l1 l2 : Option Value} {st : List Value} {a : Nat} {h : Hp} : ex (d) 77 38 [some (.ref a), l1, l2] st h = ex d 77 39 [some (.ref a), l1, l2] (.ref a :: st) h := (ex_of d77_38 (d) [some (.ref a), l1, l2] st h).trans (rfl)
theorem d77_39 : decode (mB 77) 39 = .ok (.getfield 280, 3) := by decide +kernel
theorem x77_39 {d : Nat} {L : Lc} {st : List Value} {a : Nat} {h : Hp} (ht : (h.2.1 a).1 = 10) : ex (d) 77 39 L (.ref a :: st) h = ex d 77 42 L (h.1 a 11 :: st) h := (ex_of d77_39 (d) L (.ref a :: st) h).trans (fin_get (mi := 77) f10_280 (tg1 ht rfl))
theorem d77_42 : decode (mB 77) 42 = .ok (.iload_n 2, 1) := by decide +kernel
theorem x77_42 {d : Nat} {l0 l1 : Option Value} {st : List Value} {x : Int32} {h : Hp} : ex (d) 77 42 [l0, l1, some (.int x)] st h = ex d 77 43 [l0, l1, some (.int x)] (.int x :: st) h := (ex_of d77_42 (d) [l0, l1, some (.int x)] st h).trans (rfl)
theorem d77_43 : decode (mB 77) 43 = .ok (.idiv, 1) := by decide +kernel
theorem x77_43 {d : Nat} {L : Lc} {st : List Value} {x y : Int32} {h : Hp} (hy : ¬ y = 0) : ex (d) 77 43 L (.int y :: .int x :: st) h = ex d 77 44 L (.int (x / y) :: st) h := (ex_of d77_43 (d) L (.int y :: .int x :: st) h).trans (fin_div hy)
theorem d77_44 : decode (mB 77) 44 = .ok (.iload_n 1, 1) := by decide +kernel
theorem x77_44 {d : Nat} {l0 l2 : Option Value} {st : List Value} {x : Int32} {h : Hp} : ex (d) 77 44 [l0, some (.int x), l2] st h = ex d 77 45 [l0, some (.int x), l2] (.int x :: st) h := (ex_of d77_44 (d) [l0, some (.int x), l2] st h).trans (rfl)
theorem d77_45 : decode (mB 77) 45 = .ok (.aload_n 0, 1) := by decide +kernel
theorem x77_45 {d : Nat} {l1 l2 : Option Value} {st : List Value} {a : Nat} {h : Hp} : ex (d) 77 45 [some (.ref a), l1, l2] st h = ex d 77 46 [some (.ref a), l1, l2] (.ref a :: st) h := (ex_of d77_45 (d) [some (.ref a), l1, l2] st h).trans (rfl)
theorem d77_46 : decode (mB 77) 46 = .ok (.getfield 280, 3) := by decide +kernel
theorem x77_46 {d : Nat} {L : Lc} {st : List Value} {a : Nat} {h : Hp} (ht : (h.2.1 a).1 = 10) : ex (d) 77 46 L (.ref a :: st) h = ex d 77 49 L (h.1 a 11 :: st) h := (ex_of d77_46 (d) L (.ref a :: st) h).trans (fin_get (mi := 77) f10_280 (tg1 ht rfl))
theorem d77_49 : decode (mB 77) 49 = .ok (.iload_n 2, 1) := by decide +kernel
theorem x77_49 {d : Nat} {l0 l1 : Option Value} {st : List Value} {x : Int32} {h : Hp} : ex (d) 77 49 [l0, l1, some (.int x)] st h = ex d 77 50 [l0, l1, some (.int x)] (.int x :: st) h := (ex_of d77_49 (d) [l0, l1, some (.int x)] st h).trans (rfl)
theorem d77_50 : decode (mB 77) 50 = .ok (.irem, 1) := by decide +kernel
theorem x77_50 {d : Nat} {L : Lc} {st : List Value} {x y : Int32} {h : Hp} (hy : ¬ y = 0) : ex (d) 77 50 L (.int y :: .int x :: st) h = ex d 77 51 L (.int (x - (x / y) * y) :: st) h := (ex_of d77_50 (d) L (.int y :: .int x :: st) h).trans (fin_rem hy)
theorem d77_51 : decode (mB 77) 51 = .ok (.if_icmp .ge 7, 3) := by decide +kernel
theorem x77_51 {d : Nat} {L : Lc} {st : List Value} {x y : Int32} {h : Hp} : ex (d) 77 51 L (.int y :: .int x :: st) h = if y ≤ x then ex d 77 58 L st h else ex d 77 54 L st h := (ex_of d77_51 (d) L (.int y :: .int x :: st) h).trans (fin_brq (off := 7) (tgt := 58) rfl (by decide))
theorem d77_54 : decode (mB 77) 54 = .ok (.iconst 1, 1) := by decide +kernel
theorem x77_54 {d : Nat} {L : Lc} {st : List Value} {h : Hp} : ex (d) 77 54 L st h = ex d 77 55 L (.int (nI 1) :: st) h := (ex_of d77_54 (d) L st h).trans (rfl)
theorem d77_55 : decode (mB 77) 55 = .ok (.goto 4, 3) := by decide +kernel
theorem x77_55 {d : Nat} {L : Lc} {st : List Value} {h : Hp} : ex (d) 77 55 L st h = ex d 77 59 L st h := (ex_of d77_55 (d) L st h).trans (rfl)
theorem d77_58 : decode (mB 77) 58 = .ok (.iconst 0, 1) := by decide +kernel
theorem x77_58 {d : Nat} {L : Lc} {st : List Value} {h : Hp} : ex (d) 77 58 L st h = ex d 77 59 L (.int (nI 0) :: st) h := (ex_of d77_58 (d) L st h).trans (rfl)
theorem d77_59 : decode (mB 77) 59 = .ok (.iadd, 1) := by decide +kernel
theorem x77_59 {d : Nat} {L : Lc} {st : List Value} {x y : Int32} {h : Hp} : ex (d) 77 59 L (.int y :: .int x :: st) h = ex d 77 60 L (.int (x + y) :: st) h := (ex_of d77_59 (d) L (.int y :: .int x :: st) h).trans (rfl)
theorem d77_60 : decode (mB 77) 60 = .ok (.invokevirtual 64, 3) := by decide +kernel
theorem x77_60 {d : Nat} {L : Lc} {a : Nat} {v0 : Int32} {h : Hp} (ht : (h.2.1 a).1 = 10) : ex (d + 1) 77 60 L (.int v0 :: .ref a :: []) h = bnd (ex d 85 0 [some (.ref a), some (.int v0)] [] h) (fun v h' => ex (d + 1) 77 63 L (v.toList ++ []) h') := (ex_of d77_60 (d + 1) L (.int v0 :: .ref a :: []) h).trans (fin_vi (mi := 77) i10_64 ht rfl rfl (by simp [cat1_i, cat1_r]) (by simp) (Nat.le_of_ble_eq_true rfl))
theorem d77_63 : decode (mB 77) 63 = .ok (.ireturn, 1) := by decide +kernel
theorem x77_63 {d : Nat} {L : Lc} {x : Int32} {h : Hp} : ex (d) 77 63 L [.int x] h = some (some (.int x), h) := (ex_of d77_63 (d) L [.int x] h).trans (rfl)
theorem d78_0 : decode (mB 78) 0 = .ok (.aload_n 0, 1) := by decide +kernel
theorem x78_0 {d : Nat} {l1 l2 l3 l4 l5 : Option Value} {st : List Value} {a : Nat} {h : Hp} : ex (d) 78 0 [some (.ref a), l1, l2, l3, l4, l5] st h = ex d 78 1 [some (.ref a), l1, l2, l3, l4, l5] (.ref a :: st) h := (ex_of d78_0 (d) [some (.ref a), l1, l2, l3, l4, l5] st h).trans (rfl)
theorem d78_1 : decode (mB 78) 1 = .ok (.iload_n 1, 1) := by decide +kernel
theorem x78_1 {d : Nat} {l0 l2 l3 l4 l5 : Option Value} {st : List Value} {x : Int32} {h : Hp} : ex (d) 78 1 [l0, some (.int x), l2, l3, l4, l5] st h = ex d 78 2 [l0, some (.int x), l2, l3, l4, l5] (.int x :: st) h := (ex_of d78_1 (d) [l0, some (.int x), l2, l3, l4, l5] st h).trans (rfl)
theorem d78_2 : decode (mB 78) 2 = .ok (.invokevirtual 190, 3) := by decide +kernel
theorem x78_2 {d : Nat} {L : Lc} {a : Nat} {v0 : Int32} {h : Hp} (ht : (h.2.1 a).1 = 10) : ex (d + 1) 78 2 L (.int v0 :: .ref a :: []) h = bnd (ex d 88 0 [some (.ref a), some (.int v0)] [] h) (fun v h' => ex (d + 1) 78 5 L (v.toList ++ []) h') := (ex_of d78_2 (d + 1) L (.int v0 :: .ref a :: []) h).trans (fin_vi (mi := 78) i10_190 ht rfl rfl (by simp [cat1_i, cat1_r]) (by simp) (Nat.le_of_ble_eq_true rfl))
theorem d78_5 : decode (mB 78) 5 = .ok (.astore_n 3, 1) := by decide +kernel
theorem x78_5 {d : Nat} {l0 l1 l2 l3 l4 l5 : Option Value} {st : List Value} {a : Nat} {h : Hp} : ex (d) 78 5 [l0, l1, l2, l3, l4, l5] (.ref a :: st) h = ex d 78 6 [l0, l1, clr l2, some (.ref a), l4, l5] st h := (ex_of d78_5 (d) [l0, l1, l2, l3, l4, l5] (.ref a :: st) h).trans (rfl)
theorem x78_5n {d : Nat} {l0 l1 l2 l3 l4 l5 : Option Value} {st : List Value} {h : Hp} : ex (d) 78 5 [l0, l1, l2, l3, l4, l5] (.null :: st) h = ex d 78 6 [l0, l1, clr l2, some .null, l4, l5] st h := (ex_of d78_5 (d) [l0, l1, l2, l3, l4, l5] (.null :: st) h).trans (rfl)
theorem x78_5q {d : Nat} {l0 l1 l2 l3 l4 l5 : Option Value} {st : List Value} {a : Option Nat} {h : Hp} : ex (d) 78 5 [l0, l1, l2, l3, l4, l5] (va_rf a :: st) h = ex d 78 6 [l0, l1, clr l2, some (va_rf a), l4, l5] st h := (ex_of d78_5 (d) [l0, l1, l2, l3, l4, l5] (va_rf a :: st) h).trans (by cases a <;> rfl)
theorem d78_6 : decode (mB 78) 6 = .ok (.aload_n 3, 1) := by decide +kernel
theorem x78_6 {d : Nat} {l0 l1 l2 l4 l5 : Option Value} {st : List Value} {a : Nat} {h : Hp} : ex (d) 78 6 [l0, l1, l2, some (.ref a), l4, l5] st h = ex d 78 7 [l0, l1, l2, some (.ref a), l4, l5] (.ref a :: st) h := (ex_of d78_6 (d) [l0, l1, l2, some (.ref a), l4, l5] st h).trans (rfl)
theorem x78_6n {d : Nat} {l0 l1 l2 l4 l5 : Option Value} {st : List Value} {h : Hp} : ex (d) 78 6 [l0, l1, l2, some .null, l4, l5] st h = ex d 78 7 [l0, l1, l2, some .null, l4, l5] (.null :: st) h := (ex_of d78_6 (d) [l0, l1, l2, some .null, l4, l5] st h).trans (rfl)
theorem x78_6q {d : Nat} {l0 l1 l2 l4 l5 : Option Value} {st : List Value} {a : Option Nat} {h : Hp} : ex (d) 78 6 [l0, l1, l2, some (va_rf a), l4, l5] st h = ex d 78 7 [l0, l1, l2, some (va_rf a), l4, l5] (va_rf a :: st) h := (ex_of d78_6 (d) [l0, l1, l2, some (va_rf a), l4, l5] st h).trans (by cases a <;> rfl)
theorem d78_7 : decode (mB 78) 7 = .ok (.ifnonnull 15, 3) := by decide +kernel
theorem x78_7n {d : Nat} {L : Lc} {st : List Value} {h : Hp} : ex (d) 78 7 L (.null :: st) h = ex d 78 10 L st h := (ex_of d78_7 (d) L (.null :: st) h).trans (rfl)
theorem x78_7 {d : Nat} {L : Lc} {st : List Value} {a : Nat} {h : Hp} : ex (d) 78 7 L (.ref a :: st) h = ex d 78 22 L st h := (ex_of d78_7 (d) L (.ref a :: st) h).trans (rfl)
theorem d78_10 : decode (mB 78) 10 = .ok (.iload_n 1, 1) := by decide +kernel
theorem x78_10 {d : Nat} {l0 l2 l3 l4 l5 : Option Value} {st : List Value} {x : Int32} {h : Hp} : ex (d) 78 10 [l0, some (.int x), l2, l3, l4, l5] st h = ex d 78 11 [l0, some (.int x), l2, l3, l4, l5] (.int x :: st) h := (ex_of d78_10 (d) [l0, some (.int x), l2, l3, l4, l5] st h).trans (rfl)
theorem d78_11 : decode (mB 78) 11 = .ok (.iconst (-1), 1) := by decide +kernel
theorem x78_11 {d : Nat} {L : Lc} {st : List Value} {h : Hp} : ex (d) 78 11 L st h = ex d 78 12 L (.int (-1) :: st) h := (ex_of d78_11 (d) L st h).trans (rfl)
theorem d78_12 : decode (mB 78) 12 = .ok (.if_icmp .eq 10, 3) := by decide +kernel
theorem x78_12 {d : Nat} {L : Lc} {st : List Value} {x y : Int32} {h : Hp} : ex (d) 78 12 L (.int y :: .int x :: st) h = if x = y then ex d 78 22 L st h else ex d 78 15 L st h := (ex_of d78_12 (d) L (.int y :: .int x :: st) h).trans (fin_brq (off := 10) (tgt := 22) rfl (by decide))
theorem d78_15 : decode (mB 78) 15 = .ok (.aload_n 0, 1) := by decide +kernel
theorem x78_15 {d : Nat} {l1 l2 l3 l4 l5 : Option Value} {st : List Value} {a : Nat} {h : Hp} : ex (d) 78 15 [some (.ref a), l1, l2, l3, l4, l5] st h = ex d 78 16 [some (.ref a), l1, l2, l3, l4, l5] (.ref a :: st) h := (ex_of d78_15 (d) [some (.ref a), l1, l2, l3, l4, l5] st h).trans (rfl)
theorem d78_16 : decode (mB 78) 16 = .ok (.bipush 10, 2) := by decide +kernel
theorem x78_16 {d : Nat} {L : Lc} {st : List Value} {h : Hp} : ex (d) 78 16 L st h = ex d 78 18 L (.int (nI 10) :: st) h := (ex_of d78_16 (d) L st h).trans (rfl)
theorem d78_18 : decode (mB 78) 18 = .ok (.invokevirtual 57, 3) := by decide +kernel
theorem x78_18 {d : Nat} {L : Lc} {a : Nat} {v0 : Int32} {h : Hp} (ht : (h.2.1 a).1 = 10) : ex (d + 1) 78 18 L (.int v0 :: .ref a :: []) h = bnd (ex d 84 0 [some (.ref a), some (.int v0)] [] h) (fun v h' => ex (d + 1) 78 21 L (v.toList ++ []) h') := (ex_of d78_18 (d + 1) L (.int v0 :: .ref a :: []) h).trans (fin_vi (mi := 78) i10_57 ht rfl rfl (by simp [cat1_i, cat1_r]) (by simp) (Nat.le_of_ble_eq_true rfl))
theorem d78_21 : decode (mB 78) 21 = .ok (.ireturn, 1) := by decide +kernel
theorem x78_21 {d : Nat} {L : Lc} {x : Int32} {h : Hp} : ex (d) 78 21 L [.int x] h = some (some (.int x), h) := (ex_of d78_21 (d) L [.int x] h).trans (rfl)
theorem d78_22 : decode (mB 78) 22 = .ok (.iload_n 2, 1) := by decide +kernel
theorem x78_22 {d : Nat} {l0 l1 l3 l4 l5 : Option Value} {st : List Value} {x : Int32} {h : Hp} : ex (d) 78 22 [l0, l1, some (.int x), l3, l4, l5] st h = ex d 78 23 [l0, l1, some (.int x), l3, l4, l5] (.int x :: st) h := (ex_of d78_22 (d) [l0, l1, some (.int x), l3, l4, l5] st h).trans (rfl)
theorem d78_23 : decode (mB 78) 23 = .ok (.iconst 0, 1) := by decide +kernel
theorem x78_23 {d : Nat} {L : Lc} {st : List Value} {h : Hp} : ex (d) 78 23 L st h = ex d 78 24 L (.int (nI 0) :: st) h := (ex_of d78_23 (d) L st h).trans (rfl)
theorem d78_24 : decode (mB 78) 24 = .ok (.iconst 4, 1) := by decide +kernel
theorem x78_24 {d : Nat} {L : Lc} {st : List Value} {h : Hp} : ex (d) 78 24 L st h = ex d 78 25 L (.int (nI 4) :: st) h := (ex_of d78_24 (d) L st h).trans (rfl)
theorem d78_25 : decode (mB 78) 25 = .ok (.invokestatic 50, 3) := by decide +kernel
theorem x78_25 {d : Nat} {L : Lc}  {v0 : Int32} {v1 : Int32} {v2 : Int32} {h : Hp} : ex (d + 1) 78 25 L (.int v2 :: .int v1 :: .int v0 :: []) h = bnd (ex d 92 0 [some (.int v0), some (.int v1), some (.int v2)] [] h) (fun v h' => ex (d + 1) 78 28 L (v.toList ++ []) h') := (ex_of d78_25 (d + 1) L (.int v2 :: .int v1 :: .int v0 :: []) h).trans (fin_st (mi := 78) i10_50 (Or.inl rfl) (by simp) (by simp [cat1_i, cat1_r]) (by simp) (Nat.le_of_ble_eq_true rfl))
theorem d78_28 : decode (mB 78) 28 = .ok (.ifCond .ne 10, 3) := by decide +kernel
theorem x78_28 {d : Nat} {L : Lc} {st : List Value} {x : Int32} {h : Hp} : ex (d) 78 28 L (.int x :: st) h = if ¬ x = 0 then ex d 78 38 L st h else ex d 78 31 L st h := (ex_of d78_28 (d) L (.int x :: st) h).trans (fin_brq (off := 10) (tgt := 38) rfl (by decide))
theorem d78_31 : decode (mB 78) 31 = .ok (.aload_n 0, 1) := by decide +kernel
theorem x78_31 {d : Nat} {l1 l2 l3 l4 l5 : Option Value} {st : List Value} {a : Nat} {h : Hp} : ex (d) 78 31 [some (.ref a), l1, l2, l3, l4, l5] st h = ex d 78 32 [some (.ref a), l1, l2, l3, l4, l5] (.ref a :: st) h := (ex_of d78_31 (d) [some (.ref a), l1, l2, l3, l4, l5] st h).trans (rfl)
theorem d78_32 : decode (mB 78) 32 = .ok (.bipush 6, 2) := by decide +kernel
theorem x78_32 {d : Nat} {L : Lc} {st : List Value} {h : Hp} : ex (d) 78 32 L st h = ex d 78 34 L (.int (nI 6) :: st) h := (ex_of d78_32 (d) L st h).trans (rfl)
theorem d78_34 : decode (mB 78) 34 = .ok (.invokevirtual 57, 3) := by decide +kernel
theorem x78_34 {d : Nat} {L : Lc} {a : Nat} {v0 : Int32} {h : Hp} (ht : (h.2.1 a).1 = 10) : ex (d + 1) 78 34 L (.int v0 :: .ref a :: []) h = bnd (ex d 84 0 [some (.ref a), some (.int v0)] [] h) (fun v h' => ex (d + 1) 78 37 L (v.toList ++ []) h') := (ex_of d78_34 (d + 1) L (.int v0 :: .ref a :: []) h).trans (fin_vi (mi := 78) i10_57 ht rfl rfl (by simp [cat1_i, cat1_r]) (by simp) (Nat.le_of_ble_eq_true rfl))
theorem d78_37 : decode (mB 78) 37 = .ok (.ireturn, 1) := by decide +kernel
theorem x78_37 {d : Nat} {L : Lc} {x : Int32} {h : Hp} : ex (d) 78 37 L [.int x] h = some (some (.int x), h) := (ex_of d78_37 (d) L [.int x] h).trans (rfl)
theorem d78_38 : decode (mB 78) 38 = .ok (.aload_n 0, 1) := by decide +kernel
theorem x78_38 {d : Nat} {l1 l2 l3 l4 l5 : Option Value} {st : List Value} {a : Nat} {h : Hp} : ex (d) 78 38 [some (.ref a), l1, l2, l3, l4, l5] st h = ex d 78 39 [some (.ref a), l1, l2, l3, l4, l5] (.ref a :: st) h := (ex_of d78_38 (d) [some (.ref a), l1, l2, l3, l4, l5] st h).trans (rfl)
theorem d78_39 : decode (mB 78) 39 = .ok (.invokevirtual 283, 3) := by decide +kernel
theorem x78_39 {d : Nat} {L : Lc} {a : Nat} {h : Hp} (ht : (h.2.1 a).1 = 10) : ex (d + 1) 78 39 L (.ref a :: []) h = bnd (ex d 99 0 [some (.ref a)] [] h) (fun v h' => ex (d + 1) 78 42 L (v.toList ++ []) h') := (ex_of d78_39 (d + 1) L (.ref a :: []) h).trans (fin_vi (mi := 78) i10_283 ht rfl rfl (by simp [cat1_i, cat1_r]) (by simp) (Nat.le_of_ble_eq_true rfl))
theorem d78_42 : decode (mB 78) 42 = .ok (.aconst_null, 1) := by decide +kernel
theorem x78_42 {d : Nat} {L : Lc} {st : List Value} {h : Hp} : ex (d) 78 42 L st h = ex d 78 43 L (.null :: st) h := (ex_of d78_42 (d) L st h).trans (rfl)
theorem d78_43 : decode (mB 78) 43 = .ok (.astore 4, 2) := by decide +kernel
theorem x78_43 {d : Nat} {l0 l1 l2 l3 l4 l5 : Option Value} {st : List Value} {a : Nat} {h : Hp} : ex (d) 78 43 [l0, l1, l2, l3, l4, l5] (.ref a :: st) h = ex d 78 45 [l0, l1, l2, clr l3, some (.ref a), l5] st h := (ex_of d78_43 (d) [l0, l1, l2, l3, l4, l5] (.ref a :: st) h).trans (rfl)
theorem x78_43n {d : Nat} {l0 l1 l2 l3 l4 l5 : Option Value} {st : List Value} {h : Hp} : ex (d) 78 43 [l0, l1, l2, l3, l4, l5] (.null :: st) h = ex d 78 45 [l0, l1, l2, clr l3, some .null, l5] st h := (ex_of d78_43 (d) [l0, l1, l2, l3, l4, l5] (.null :: st) h).trans (rfl)
theorem x78_43q {d : Nat} {l0 l1 l2 l3 l4 l5 : Option Value} {st : List Value} {a : Option Nat} {h : Hp} : ex (d) 78 43 [l0, l1, l2, l3, l4, l5] (va_rf a :: st) h = ex d 78 45 [l0, l1, l2, clr l3, some (va_rf a), l5] st h := (ex_of d78_43 (d) [l0, l1, l2, l3, l4, l5] (va_rf a :: st) h).trans (by cases a <;> rfl)
theorem d78_45 : decode (mB 78) 45 = .ok (.iconst 0, 1) := by decide +kernel
theorem x78_45 {d : Nat} {L : Lc} {st : List Value} {h : Hp} : ex (d) 78 45 L st h = ex d 78 46 L (.int (nI 0) :: st) h := (ex_of d78_45 (d) L st h).trans (rfl)
theorem d78_46 : decode (mB 78) 46 = .ok (.istore 5, 2) := by decide +kernel
theorem x78_46 {d : Nat} {l0 l1 l2 l3 l4 l5 : Option Value} {st : List Value} {x : Int32} {h : Hp} : ex (d) 78 46 [l0, l1, l2, l3, l4, l5] (.int x :: st) h = ex d 78 48 [l0, l1, l2, l3, clr l4, some (.int x)] st h := (ex_of d78_46 (d) [l0, l1, l2, l3, l4, l5] (.int x :: st) h).trans (rfl)
theorem d78_48 : decode (mB 78) 48 = .ok (.iload 5, 2) := by decide +kernel
theorem x78_48 {d : Nat} {l0 l1 l2 l3 l4 : Option Value} {st : List Value} {x : Int32} {h : Hp} : ex (d) 78 48 [l0, l1, l2, l3, l4, some (.int x)] st h = ex d 78 50 [l0, l1, l2, l3, l4, some (.int x)] (.int x :: st) h := (ex_of d78_48 (d) [l0, l1, l2, l3, l4, some (.int x)] st h).trans (rfl)
theorem d78_50 : decode (mB 78) 50 = .ok (.aload_n 0, 1) := by decide +kernel
theorem x78_50 {d : Nat} {l1 l2 l3 l4 l5 : Option Value} {st : List Value} {a : Nat} {h : Hp} : ex (d) 78 50 [some (.ref a), l1, l2, l3, l4, l5] st h = ex d 78 51 [some (.ref a), l1, l2, l3, l4, l5] (.ref a :: st) h := (ex_of d78_50 (d) [some (.ref a), l1, l2, l3, l4, l5] st h).trans (rfl)
theorem d78_51 : decode (mB 78) 51 = .ok (.getfield 54, 3) := by decide +kernel
theorem x78_51 {d : Nat} {L : Lc} {st : List Value} {a : Nat} {h : Hp} (ht : (h.2.1 a).1 = 10) : ex (d) 78 51 L (.ref a :: st) h = ex d 78 54 L (h.1 a 3 :: st) h := (ex_of d78_51 (d) L (.ref a :: st) h).trans (fin_get (mi := 78) f10_54 (tg1 ht rfl))
theorem d78_54 : decode (mB 78) 54 = .ok (.if_icmp .ge 30, 3) := by decide +kernel
theorem x78_54 {d : Nat} {L : Lc} {st : List Value} {x y : Int32} {h : Hp} : ex (d) 78 54 L (.int y :: .int x :: st) h = if y ≤ x then ex d 78 84 L st h else ex d 78 57 L st h := (ex_of d78_54 (d) L (.int y :: .int x :: st) h).trans (fin_brq (off := 30) (tgt := 84) rfl (by decide))
theorem d78_57 : decode (mB 78) 57 = .ok (.aload 4, 2) := by decide +kernel
theorem x78_57 {d : Nat} {l0 l1 l2 l3 l5 : Option Value} {st : List Value} {a : Nat} {h : Hp} : ex (d) 78 57 [l0, l1, l2, l3, some (.ref a), l5] st h = ex d 78 59 [l0, l1, l2, l3, some (.ref a), l5] (.ref a :: st) h := (ex_of d78_57 (d) [l0, l1, l2, l3, some (.ref a), l5] st h).trans (rfl)
theorem x78_57n {d : Nat} {l0 l1 l2 l3 l5 : Option Value} {st : List Value} {h : Hp} : ex (d) 78 57 [l0, l1, l2, l3, some .null, l5] st h = ex d 78 59 [l0, l1, l2, l3, some .null, l5] (.null :: st) h := (ex_of d78_57 (d) [l0, l1, l2, l3, some .null, l5] st h).trans (rfl)
theorem x78_57q {d : Nat} {l0 l1 l2 l3 l5 : Option Value} {st : List Value} {a : Option Nat} {h : Hp} : ex (d) 78 57 [l0, l1, l2, l3, some (va_rf a), l5] st h = ex d 78 59 [l0, l1, l2, l3, some (va_rf a), l5] (va_rf a :: st) h := (ex_of d78_57 (d) [l0, l1, l2, l3, some (va_rf a), l5] st h).trans (by cases a <;> rfl)
theorem d78_59 : decode (mB 78) 59 = .ok (.ifnonnull 25, 3) := by decide +kernel
theorem x78_59n {d : Nat} {L : Lc} {st : List Value} {h : Hp} : ex (d) 78 59 L (.null :: st) h = ex d 78 62 L st h := (ex_of d78_59 (d) L (.null :: st) h).trans (rfl)
theorem x78_59 {d : Nat} {L : Lc} {st : List Value} {a : Nat} {h : Hp} : ex (d) 78 59 L (.ref a :: st) h = ex d 78 84 L st h := (ex_of d78_59 (d) L (.ref a :: st) h).trans (rfl)
theorem d78_62 : decode (mB 78) 62 = .ok (.aload_n 0, 1) := by decide +kernel
theorem x78_62 {d : Nat} {l1 l2 l3 l4 l5 : Option Value} {st : List Value} {a : Nat} {h : Hp} : ex (d) 78 62 [some (.ref a), l1, l2, l3, l4, l5] st h = ex d 78 63 [some (.ref a), l1, l2, l3, l4, l5] (.ref a :: st) h := (ex_of d78_62 (d) [some (.ref a), l1, l2, l3, l4, l5] st h).trans (rfl)
theorem d78_63 : decode (mB 78) 63 = .ok (.aload_n 0, 1) := by decide +kernel
theorem x78_63 {d : Nat} {l1 l2 l3 l4 l5 : Option Value} {st : List Value} {a : Nat} {h : Hp} : ex (d) 78 63 [some (.ref a), l1, l2, l3, l4, l5] st h = ex d 78 64 [some (.ref a), l1, l2, l3, l4, l5] (.ref a :: st) h := (ex_of d78_63 (d) [some (.ref a), l1, l2, l3, l4, l5] st h).trans (rfl)
theorem d78_64 : decode (mB 78) 64 = .ok (.getfield 17, 3) := by decide +kernel
theorem x78_64 {d : Nat} {L : Lc} {st : List Value} {a : Nat} {h : Hp} (ht : (h.2.1 a).1 = 10) : ex (d) 78 64 L (.ref a :: st) h = ex d 78 67 L (h.1 a 2 :: st) h := (ex_of d78_64 (d) L (.ref a :: st) h).trans (fin_get (mi := 78) f10_17 (tg1 ht rfl))
theorem d78_67 : decode (mB 78) 67 = .ok (.iload 5, 2) := by decide +kernel
theorem x78_67 {d : Nat} {l0 l1 l2 l3 l4 : Option Value} {st : List Value} {x : Int32} {h : Hp} : ex (d) 78 67 [l0, l1, l2, l3, l4, some (.int x)] st h = ex d 78 69 [l0, l1, l2, l3, l4, some (.int x)] (.int x :: st) h := (ex_of d78_67 (d) [l0, l1, l2, l3, l4, some (.int x)] st h).trans (rfl)
theorem d78_69 : decode (mB 78) 69 = .ok (.aaload, 1) := by decide +kernel
theorem x78_69 {d : Nat} {L : Lc} {st : List Value} {a j : Nat} {h : Hp} (ht : 21 ≤ (h.2.1 a).1 ∧ (h.2.1 a).1 ≤ 26) (hj : j < (h.2.1 a).2) (hb : j < 2147483648) : ex (d) 78 69 L (.int (nI j) :: .ref a :: st) h = ex d 78 70 L (h.1 a j :: st) h := (ex_of d78_69 (d) L (.int (nI j) :: .ref a :: st) h).trans (fin_aaload ht hj hb)
theorem d78_70 : decode (mB 78) 70 = .ok (.aload_n 3, 1) := by decide +kernel
theorem x78_70 {d : Nat} {l0 l1 l2 l4 l5 : Option Value} {st : List Value} {a : Nat} {h : Hp} : ex (d) 78 70 [l0, l1, l2, some (.ref a), l4, l5] st h = ex d 78 71 [l0, l1, l2, some (.ref a), l4, l5] (.ref a :: st) h := (ex_of d78_70 (d) [l0, l1, l2, some (.ref a), l4, l5] st h).trans (rfl)
theorem x78_70n {d : Nat} {l0 l1 l2 l4 l5 : Option Value} {st : List Value} {h : Hp} : ex (d) 78 70 [l0, l1, l2, some .null, l4, l5] st h = ex d 78 71 [l0, l1, l2, some .null, l4, l5] (.null :: st) h := (ex_of d78_70 (d) [l0, l1, l2, some .null, l4, l5] st h).trans (rfl)
theorem x78_70q {d : Nat} {l0 l1 l2 l4 l5 : Option Value} {st : List Value} {a : Option Nat} {h : Hp} : ex (d) 78 70 [l0, l1, l2, some (va_rf a), l4, l5] st h = ex d 78 71 [l0, l1, l2, some (va_rf a), l4, l5] (va_rf a :: st) h := (ex_of d78_70 (d) [l0, l1, l2, some (va_rf a), l4, l5] st h).trans (by cases a <;> rfl)
theorem d78_71 : decode (mB 78) 71 = .ok (.iload_n 2, 1) := by decide +kernel
theorem x78_71 {d : Nat} {l0 l1 l3 l4 l5 : Option Value} {st : List Value} {x : Int32} {h : Hp} : ex (d) 78 71 [l0, l1, some (.int x), l3, l4, l5] st h = ex d 78 72 [l0, l1, some (.int x), l3, l4, l5] (.int x :: st) h := (ex_of d78_71 (d) [l0, l1, some (.int x), l3, l4, l5] st h).trans (rfl)
theorem d78_72 : decode (mB 78) 72 = .ok (.iconst 1, 1) := by decide +kernel
theorem x78_72 {d : Nat} {L : Lc} {st : List Value} {h : Hp} : ex (d) 78 72 L st h = ex d 78 73 L (.int (nI 1) :: st) h := (ex_of d78_72 (d) L st h).trans (rfl)
theorem d78_73 : decode (mB 78) 73 = .ok (.invokevirtual 286, 3) := by decide +kernel
theorem x78_73 {d : Nat} {L : Lc} {a : Nat} {v0 : Value} {v1 : Value} {v2 : Int32} {v3 : Int32} {h : Hp} (ht : (h.2.1 a).1 = 10) (hv0 : isR v0 = true) (hv1 : isR v1 = true) : ex (d + 1) 78 73 L (.int v3 :: .int v2 :: v1 :: v0 :: .ref a :: []) h = bnd (ex d 129 0 [some (.ref a), some v0, some v1, some (.int v2), some (.int v3), none, none, none, none] [] h) (fun v h' => ex (d + 1) 78 76 L (v.toList ++ []) h') := (ex_of d78_73 (d + 1) L (.int v3 :: .int v2 :: v1 :: v0 :: .ref a :: []) h).trans (fin_vi (mi := 78) i10_286 ht rfl rfl (by simp [cat1_i, cat1_r, isR_cat1 hv0, isR_cat1 hv1]) (by simp) (Nat.le_of_ble_eq_true rfl))
theorem d78_76 : decode (mB 78) 76 = .ok (.astore 4, 2) := by decide +kernel
theorem x78_76 {d : Nat} {l0 l1 l2 l3 l4 l5 : Option Value} {st : List Value} {a : Nat} {h : Hp} : ex (d) 78 76 [l0, l1, l2, l3, l4, l5] (.ref a :: st) h = ex d 78 78 [l0, l1, l2, clr l3, some (.ref a), l5] st h := (ex_of d78_76 (d) [l0, l1, l2, l3, l4, l5] (.ref a :: st) h).trans (rfl)
theorem x78_76n {d : Nat} {l0 l1 l2 l3 l4 l5 : Option Value} {st : List Value} {h : Hp} : ex (d) 78 76 [l0, l1, l2, l3, l4, l5] (.null :: st) h = ex d 78 78 [l0, l1, l2, clr l3, some .null, l5] st h := (ex_of d78_76 (d) [l0, l1, l2, l3, l4, l5] (.null :: st) h).trans (rfl)
theorem x78_76q {d : Nat} {l0 l1 l2 l3 l4 l5 : Option Value} {st : List Value} {a : Option Nat} {h : Hp} : ex (d) 78 76 [l0, l1, l2, l3, l4, l5] (va_rf a :: st) h = ex d 78 78 [l0, l1, l2, clr l3, some (va_rf a), l5] st h := (ex_of d78_76 (d) [l0, l1, l2, l3, l4, l5] (va_rf a :: st) h).trans (by cases a <;> rfl)
theorem d78_78 : decode (mB 78) 78 = .ok (.iinc 5 1, 3) := by decide +kernel
theorem x78_78 {d : Nat} {l0 l1 l2 l3 l4 : Option Value} {st : List Value} {x : Int32} {h : Hp} : ex (d) 78 78 [l0, l1, l2, l3, l4, some (.int x)] st h = ex d 78 81 [l0, l1, l2, l3, clr l4, some (.int (x + (nI 1)))] st h := (ex_of d78_78 (d) [l0, l1, l2, l3, l4, some (.int x)] st h).trans (rfl)
theorem d78_81 : decode (mB 78) 81 = .ok (.goto (-33), 3) := by decide +kernel
theorem x78_81 {d : Nat} {L : Lc} {st : List Value} {h : Hp} : ex (d) 78 81 L st h = ex d 78 48 L st h := (ex_of d78_81 (d) L st h).trans (rfl)
theorem d78_84 : decode (mB 78) 84 = .ok (.aload_n 0, 1) := by decide +kernel
theorem x78_84 {d : Nat} {l1 l2 l3 l4 l5 : Option Value} {st : List Value} {a : Nat} {h : Hp} : ex (d) 78 84 [some (.ref a), l1, l2, l3, l4, l5] st h = ex d 78 85 [some (.ref a), l1, l2, l3, l4, l5] (.ref a :: st) h := (ex_of d78_84 (d) [some (.ref a), l1, l2, l3, l4, l5] st h).trans (rfl)
theorem d78_85 : decode (mB 78) 85 = .ok (.invokevirtual 290, 3) := by decide +kernel
theorem x78_85 {d : Nat} {L : Lc} {a : Nat} {h : Hp} (ht : (h.2.1 a).1 = 10) : ex (d + 1) 78 85 L (.ref a :: []) h = bnd (ex d 101 0 [some (.ref a)] [] h) (fun v h' => ex (d + 1) 78 88 L (v.toList ++ []) h') := (ex_of d78_85 (d + 1) L (.ref a :: []) h).trans (fin_vi (mi := 78) i10_290 ht rfl rfl (by simp [cat1_i, cat1_r]) (by simp) (Nat.le_of_ble_eq_true rfl))
theorem d78_88 : decode (mB 78) 88 = .ok (.aload 4, 2) := by decide +kernel
theorem x78_88 {d : Nat} {l0 l1 l2 l3 l5 : Option Value} {st : List Value} {a : Nat} {h : Hp} : ex (d) 78 88 [l0, l1, l2, l3, some (.ref a), l5] st h = ex d 78 90 [l0, l1, l2, l3, some (.ref a), l5] (.ref a :: st) h := (ex_of d78_88 (d) [l0, l1, l2, l3, some (.ref a), l5] st h).trans (rfl)
theorem x78_88n {d : Nat} {l0 l1 l2 l3 l5 : Option Value} {st : List Value} {h : Hp} : ex (d) 78 88 [l0, l1, l2, l3, some .null, l5] st h = ex d 78 90 [l0, l1, l2, l3, some .null, l5] (.null :: st) h := (ex_of d78_88 (d) [l0, l1, l2, l3, some .null, l5] st h).trans (rfl)
theorem x78_88q {d : Nat} {l0 l1 l2 l3 l5 : Option Value} {st : List Value} {a : Option Nat} {h : Hp} : ex (d) 78 88 [l0, l1, l2, l3, some (va_rf a), l5] st h = ex d 78 90 [l0, l1, l2, l3, some (va_rf a), l5] (va_rf a :: st) h := (ex_of d78_88 (d) [l0, l1, l2, l3, some (va_rf a), l5] st h).trans (by cases a <;> rfl)
theorem d78_90 : decode (mB 78) 90 = .ok (.ifnonnull 11, 3) := by decide +kernel
theorem x78_90n {d : Nat} {L : Lc} {st : List Value} {h : Hp} : ex (d) 78 90 L (.null :: st) h = ex d 78 93 L st h := (ex_of d78_90 (d) L (.null :: st) h).trans (rfl)
theorem x78_90 {d : Nat} {L : Lc} {st : List Value} {a : Nat} {h : Hp} : ex (d) 78 90 L (.ref a :: st) h = ex d 78 101 L st h := (ex_of d78_90 (d) L (.ref a :: st) h).trans (rfl)
theorem d78_93 : decode (mB 78) 93 = .ok (.aload_n 0, 1) := by decide +kernel
theorem x78_93 {d : Nat} {l1 l2 l3 l4 l5 : Option Value} {st : List Value} {a : Nat} {h : Hp} : ex (d) 78 93 [some (.ref a), l1, l2, l3, l4, l5] st h = ex d 78 94 [some (.ref a), l1, l2, l3, l4, l5] (.ref a :: st) h := (ex_of d78_93 (d) [some (.ref a), l1, l2, l3, l4, l5] st h).trans (rfl)
theorem d78_94 : decode (mB 78) 94 = .ok (.iconst 3, 1) := by decide +kernel
theorem x78_94 {d : Nat} {L : Lc} {st : List Value} {h : Hp} : ex (d) 78 94 L st h = ex d 78 95 L (.int (nI 3) :: st) h := (ex_of d78_94 (d) L st h).trans (rfl)
theorem d78_95 : decode (mB 78) 95 = .ok (.invokevirtual 57, 3) := by decide +kernel
theorem x78_95 {d : Nat} {L : Lc} {a : Nat} {v0 : Int32} {h : Hp} (ht : (h.2.1 a).1 = 10) : ex (d + 1) 78 95 L (.int v0 :: .ref a :: []) h = bnd (ex d 84 0 [some (.ref a), some (.int v0)] [] h) (fun v h' => ex (d + 1) 78 98 L (v.toList ++ []) h') := (ex_of d78_95 (d + 1) L (.int v0 :: .ref a :: []) h).trans (fin_vi (mi := 78) i10_57 ht rfl rfl (by simp [cat1_i, cat1_r]) (by simp) (Nat.le_of_ble_eq_true rfl))
theorem d78_98 : decode (mB 78) 98 = .ok (.goto 12, 3) := by decide +kernel
theorem x78_98 {d : Nat} {L : Lc} {st : List Value} {h : Hp} : ex (d) 78 98 L st h = ex d 78 110 L st h := (ex_of d78_98 (d) L st h).trans (rfl)
theorem d78_101 : decode (mB 78) 101 = .ok (.aload_n 0, 1) := by decide +kernel
theorem x78_101 {d : Nat} {l1 l2 l3 l4 l5 : Option Value} {st : List Value} {a : Nat} {h : Hp} : ex (d) 78 101 [some (.ref a), l1, l2, l3, l4, l5] st h = ex d 78 102 [some (.ref a), l1, l2, l3, l4, l5] (.ref a :: st) h := (ex_of d78_101 (d) [some (.ref a), l1, l2, l3, l4, l5] st h).trans (rfl)
theorem d78_102 : decode (mB 78) 102 = .ok (.aload 4, 2) := by decide +kernel
theorem x78_102 {d : Nat} {l0 l1 l2 l3 l5 : Option Value} {st : List Value} {a : Nat} {h : Hp} : ex (d) 78 102 [l0, l1, l2, l3, some (.ref a), l5] st h = ex d 78 104 [l0, l1, l2, l3, some (.ref a), l5] (.ref a :: st) h := (ex_of d78_102 (d) [l0, l1, l2, l3, some (.ref a), l5] st h).trans (rfl)
theorem x78_102n {d : Nat} {l0 l1 l2 l3 l5 : Option Value} {st : List Value} {h : Hp} : ex (d) 78 102 [l0, l1, l2, l3, some .null, l5] st h = ex d 78 104 [l0, l1, l2, l3, some .null, l5] (.null :: st) h := (ex_of d78_102 (d) [l0, l1, l2, l3, some .null, l5] st h).trans (rfl)
theorem x78_102q {d : Nat} {l0 l1 l2 l3 l5 : Option Value} {st : List Value} {a : Option Nat} {h : Hp} : ex (d) 78 102 [l0, l1, l2, l3, some (va_rf a), l5] st h = ex d 78 104 [l0, l1, l2, l3, some (va_rf a), l5] (va_rf a :: st) h := (ex_of d78_102 (d) [l0, l1, l2, l3, some (va_rf a), l5] st h).trans (by cases a <;> rfl)
theorem d78_104 : decode (mB 78) 104 = .ok (.getfield 293, 3) := by decide +kernel
theorem x78_104 {d : Nat} {L : Lc} {st : List Value} {a : Nat} {h : Hp} (ht : isTh (h.2.1 a).1 = true) : ex (d) 78 104 L (.ref a :: st) h = ex d 78 107 L (h.1 a 0 :: st) h := (ex_of d78_104 (d) L (.ref a :: st) h).trans (fin_get (mi := 78) f10_293 ht)
theorem d78_107 : decode (mB 78) 107 = .ok (.invokevirtual 64, 3) := by decide +kernel
theorem x78_107 {d : Nat} {L : Lc} {a : Nat} {v0 : Int32} {h : Hp} (ht : (h.2.1 a).1 = 10) : ex (d + 1) 78 107 L (.int v0 :: .ref a :: []) h = bnd (ex d 85 0 [some (.ref a), some (.int v0)] [] h) (fun v h' => ex (d + 1) 78 110 L (v.toList ++ []) h') := (ex_of d78_107 (d + 1) L (.int v0 :: .ref a :: []) h).trans (fin_vi (mi := 78) i10_64 ht rfl rfl (by simp [cat1_i, cat1_r]) (by simp) (Nat.le_of_ble_eq_true rfl))
theorem d78_110 : decode (mB 78) 110 = .ok (.ireturn, 1) := by decide +kernel
theorem x78_110 {d : Nat} {L : Lc} {x : Int32} {h : Hp} : ex (d) 78 110 L [.int x] h = some (some (.int x), h) := (ex_of d78_110 (d) L [.int x] h).trans (rfl)
theorem d79_0 : decode (mB 79) 0 = .ok (.aload_n 0, 1) := by decide +kernel
theorem x79_0 {d : Nat} {l1 l2 l3 : Option Value} {st : List Value} {a : Nat} {h : Hp} : ex (d) 79 0 [some (.ref a), l1, l2, l3] st h = ex d 79 1 [some (.ref a), l1, l2, l3] (.ref a :: st) h := (ex_of d79_0 (d) [some (.ref a), l1, l2, l3] st h).trans (rfl)
theorem d79_1 : decode (mB 79) 1 = .ok (.iload_n 1, 1) := by decide +kernel
theorem x79_1 {d : Nat} {l0 l2 l3 : Option Value} {st : List Value} {x : Int32} {h : Hp} : ex (d) 79 1 [l0, some (.int x), l2, l3] st h = ex d 79 2 [l0, some (.int x), l2, l3] (.int x :: st) h := (ex_of d79_1 (d) [l0, some (.int x), l2, l3] st h).trans (rfl)
theorem d79_2 : decode (mB 79) 2 = .ok (.invokevirtual 126, 3) := by decide +kernel
theorem x79_2 {d : Nat} {L : Lc} {a : Nat} {v0 : Int32} {h : Hp} (ht : (h.2.1 a).1 = 10) : ex (d + 1) 79 2 L (.int v0 :: .ref a :: []) h = bnd (ex d 87 0 [some (.ref a), some (.int v0), none] [] h) (fun v h' => ex (d + 1) 79 5 L (v.toList ++ []) h') := (ex_of d79_2 (d + 1) L (.int v0 :: .ref a :: []) h).trans (fin_vi (mi := 79) i10_126 ht rfl rfl (by simp [cat1_i, cat1_r]) (by simp) (Nat.le_of_ble_eq_true rfl))
theorem d79_5 : decode (mB 79) 5 = .ok (.astore_n 2, 1) := by decide +kernel
theorem x79_5 {d : Nat} {l0 l1 l2 l3 : Option Value} {st : List Value} {a : Nat} {h : Hp} : ex (d) 79 5 [l0, l1, l2, l3] (.ref a :: st) h = ex d 79 6 [l0, clr l1, some (.ref a), l3] st h := (ex_of d79_5 (d) [l0, l1, l2, l3] (.ref a :: st) h).trans (rfl)
theorem x79_5n {d : Nat} {l0 l1 l2 l3 : Option Value} {st : List Value} {h : Hp} : ex (d) 79 5 [l0, l1, l2, l3] (.null :: st) h = ex d 79 6 [l0, clr l1, some .null, l3] st h := (ex_of d79_5 (d) [l0, l1, l2, l3] (.null :: st) h).trans (rfl)
theorem x79_5q {d : Nat} {l0 l1 l2 l3 : Option Value} {st : List Value} {a : Option Nat} {h : Hp} : ex (d) 79 5 [l0, l1, l2, l3] (va_rf a :: st) h = ex d 79 6 [l0, clr l1, some (va_rf a), l3] st h := (ex_of d79_5 (d) [l0, l1, l2, l3] (va_rf a :: st) h).trans (by cases a <;> rfl)
theorem d79_6 : decode (mB 79) 6 = .ok (.aload_n 2, 1) := by decide +kernel
theorem x79_6 {d : Nat} {l0 l1 l3 : Option Value} {st : List Value} {a : Nat} {h : Hp} : ex (d) 79 6 [l0, l1, some (.ref a), l3] st h = ex d 79 7 [l0, l1, some (.ref a), l3] (.ref a :: st) h := (ex_of d79_6 (d) [l0, l1, some (.ref a), l3] st h).trans (rfl)
theorem x79_6n {d : Nat} {l0 l1 l3 : Option Value} {st : List Value} {h : Hp} : ex (d) 79 6 [l0, l1, some .null, l3] st h = ex d 79 7 [l0, l1, some .null, l3] (.null :: st) h := (ex_of d79_6 (d) [l0, l1, some .null, l3] st h).trans (rfl)
theorem x79_6q {d : Nat} {l0 l1 l3 : Option Value} {st : List Value} {a : Option Nat} {h : Hp} : ex (d) 79 6 [l0, l1, some (va_rf a), l3] st h = ex d 79 7 [l0, l1, some (va_rf a), l3] (va_rf a :: st) h := (ex_of d79_6 (d) [l0, l1, some (va_rf a), l3] st h).trans (by cases a <;> rfl)
theorem d79_7 : decode (mB 79) 7 = .ok (.ifnonnull 9, 3) := by decide +kernel
theorem x79_7n {d : Nat} {L : Lc} {st : List Value} {h : Hp} : ex (d) 79 7 L (.null :: st) h = ex d 79 10 L st h := (ex_of d79_7 (d) L (.null :: st) h).trans (rfl)
theorem x79_7 {d : Nat} {L : Lc} {st : List Value} {a : Nat} {h : Hp} : ex (d) 79 7 L (.ref a :: st) h = ex d 79 16 L st h := (ex_of d79_7 (d) L (.ref a :: st) h).trans (rfl)
theorem d79_10 : decode (mB 79) 10 = .ok (.aload_n 0, 1) := by decide +kernel
theorem x79_10 {d : Nat} {l1 l2 l3 : Option Value} {st : List Value} {a : Nat} {h : Hp} : ex (d) 79 10 [some (.ref a), l1, l2, l3] st h = ex d 79 11 [some (.ref a), l1, l2, l3] (.ref a :: st) h := (ex_of d79_10 (d) [some (.ref a), l1, l2, l3] st h).trans (rfl)
theorem d79_11 : decode (mB 79) 11 = .ok (.iconst 1, 1) := by decide +kernel
theorem x79_11 {d : Nat} {L : Lc} {st : List Value} {h : Hp} : ex (d) 79 11 L st h = ex d 79 12 L (.int (nI 1) :: st) h := (ex_of d79_11 (d) L st h).trans (rfl)
theorem d79_12 : decode (mB 79) 12 = .ok (.invokevirtual 57, 3) := by decide +kernel
theorem x79_12 {d : Nat} {L : Lc} {a : Nat} {v0 : Int32} {h : Hp} (ht : (h.2.1 a).1 = 10) : ex (d + 1) 79 12 L (.int v0 :: .ref a :: []) h = bnd (ex d 84 0 [some (.ref a), some (.int v0)] [] h) (fun v h' => ex (d + 1) 79 15 L (v.toList ++ []) h') := (ex_of d79_12 (d + 1) L (.int v0 :: .ref a :: []) h).trans (fin_vi (mi := 79) i10_57 ht rfl rfl (by simp [cat1_i, cat1_r]) (by simp) (Nat.le_of_ble_eq_true rfl))
theorem d79_15 : decode (mB 79) 15 = .ok (.ireturn, 1) := by decide +kernel
theorem x79_15 {d : Nat} {L : Lc} {x : Int32} {h : Hp} : ex (d) 79 15 L [.int x] h = some (some (.int x), h) := (ex_of d79_15 (d) L [.int x] h).trans (rfl)
theorem d79_16 : decode (mB 79) 16 = .ok (.aload_n 0, 1) := by decide +kernel
theorem x79_16 {d : Nat} {l1 l2 l3 : Option Value} {st : List Value} {a : Nat} {h : Hp} : ex (d) 79 16 [some (.ref a), l1, l2, l3] st h = ex d 79 17 [some (.ref a), l1, l2, l3] (.ref a :: st) h := (ex_of d79_16 (d) [some (.ref a), l1, l2, l3] st h).trans (rfl)
theorem d79_17 : decode (mB 79) 17 = .ok (.invokevirtual 283, 3) := by decide +kernel
theorem x79_17 {d : Nat} {L : Lc} {a : Nat} {h : Hp} (ht : (h.2.1 a).1 = 10) : ex (d + 1) 79 17 L (.ref a :: []) h = bnd (ex d 99 0 [some (.ref a)] [] h) (fun v h' => ex (d + 1) 79 20 L (v.toList ++ []) h') := (ex_of d79_17 (d + 1) L (.ref a :: []) h).trans (fin_vi (mi := 79) i10_283 ht rfl rfl (by simp [cat1_i, cat1_r]) (by simp) (Nat.le_of_ble_eq_true rfl))
theorem d79_20 : decode (mB 79) 20 = .ok (.aload_n 0, 1) := by decide +kernel
theorem x79_20 {d : Nat} {l1 l2 l3 : Option Value} {st : List Value} {a : Nat} {h : Hp} : ex (d) 79 20 [some (.ref a), l1, l2, l3] st h = ex d 79 21 [some (.ref a), l1, l2, l3] (.ref a :: st) h := (ex_of d79_20 (d) [some (.ref a), l1, l2, l3] st h).trans (rfl)
theorem d79_21 : decode (mB 79) 21 = .ok (.aload_n 2, 1) := by decide +kernel
theorem x79_21 {d : Nat} {l0 l1 l3 : Option Value} {st : List Value} {a : Nat} {h : Hp} : ex (d) 79 21 [l0, l1, some (.ref a), l3] st h = ex d 79 22 [l0, l1, some (.ref a), l3] (.ref a :: st) h := (ex_of d79_21 (d) [l0, l1, some (.ref a), l3] st h).trans (rfl)
theorem x79_21n {d : Nat} {l0 l1 l3 : Option Value} {st : List Value} {h : Hp} : ex (d) 79 21 [l0, l1, some .null, l3] st h = ex d 79 22 [l0, l1, some .null, l3] (.null :: st) h := (ex_of d79_21 (d) [l0, l1, some .null, l3] st h).trans (rfl)
theorem x79_21q {d : Nat} {l0 l1 l3 : Option Value} {st : List Value} {a : Option Nat} {h : Hp} : ex (d) 79 21 [l0, l1, some (va_rf a), l3] st h = ex d 79 22 [l0, l1, some (va_rf a), l3] (va_rf a :: st) h := (ex_of d79_21 (d) [l0, l1, some (va_rf a), l3] st h).trans (by cases a <;> rfl)
theorem d79_22 : decode (mB 79) 22 = .ok (.iconst 1, 1) := by decide +kernel
theorem x79_22 {d : Nat} {L : Lc} {st : List Value} {h : Hp} : ex (d) 79 22 L st h = ex d 79 23 L (.int (nI 1) :: st) h := (ex_of d79_22 (d) L st h).trans (rfl)
theorem d79_23 : decode (mB 79) 23 = .ok (.invokevirtual 294, 3) := by decide +kernel
theorem x79_23 {d : Nat} {L : Lc} {a : Nat} {v0 : Value} {v1 : Int32} {h : Hp} (ht : (h.2.1 a).1 = 10) (hv0 : isR v0 = true) : ex (d + 1) 79 23 L (.int v1 :: v0 :: .ref a :: []) h = bnd (ex d 130 0 [some (.ref a), some v0, some (.int v1), none, none, none] [] h) (fun v h' => ex (d + 1) 79 26 L (v.toList ++ []) h') := (ex_of d79_23 (d + 1) L (.int v1 :: v0 :: .ref a :: []) h).trans (fin_vi (mi := 79) i10_294 ht rfl rfl (by simp [cat1_i, cat1_r, isR_cat1 hv0]) (by simp) (Nat.le_of_ble_eq_true rfl))
theorem d79_26 : decode (mB 79) 26 = .ok (.istore_n 3, 1) := by decide +kernel
theorem x79_26 {d : Nat} {l0 l1 l2 l3 : Option Value} {st : List Value} {x : Int32} {h : Hp} : ex (d) 79 26 [l0, l1, l2, l3] (.int x :: st) h = ex d 79 27 [l0, l1, clr l2, some (.int x)] st h := (ex_of d79_26 (d) [l0, l1, l2, l3] (.int x :: st) h).trans (rfl)
theorem d79_27 : decode (mB 79) 27 = .ok (.aload_n 0, 1) := by decide +kernel
theorem x79_27 {d : Nat} {l1 l2 l3 : Option Value} {st : List Value} {a : Nat} {h : Hp} : ex (d) 79 27 [some (.ref a), l1, l2, l3] st h = ex d 79 28 [some (.ref a), l1, l2, l3] (.ref a :: st) h := (ex_of d79_27 (d) [some (.ref a), l1, l2, l3] st h).trans (rfl)
theorem d79_28 : decode (mB 79) 28 = .ok (.invokevirtual 290, 3) := by decide +kernel
theorem x79_28 {d : Nat} {L : Lc} {a : Nat} {h : Hp} (ht : (h.2.1 a).1 = 10) : ex (d + 1) 79 28 L (.ref a :: []) h = bnd (ex d 101 0 [some (.ref a)] [] h) (fun v h' => ex (d + 1) 79 31 L (v.toList ++ []) h') := (ex_of d79_28 (d + 1) L (.ref a :: []) h).trans (fin_vi (mi := 79) i10_290 ht rfl rfl (by simp [cat1_i, cat1_r]) (by simp) (Nat.le_of_ble_eq_true rfl))
theorem d79_31 : decode (mB 79) 31 = .ok (.aload_n 0, 1) := by decide +kernel
theorem x79_31 {d : Nat} {l1 l2 l3 : Option Value} {st : List Value} {a : Nat} {h : Hp} : ex (d) 79 31 [some (.ref a), l1, l2, l3] st h = ex d 79 32 [some (.ref a), l1, l2, l3] (.ref a :: st) h := (ex_of d79_31 (d) [some (.ref a), l1, l2, l3] st h).trans (rfl)
theorem d79_32 : decode (mB 79) 32 = .ok (.iload_n 3, 1) := by decide +kernel
theorem x79_32 {d : Nat} {l0 l1 l2 : Option Value} {st : List Value} {x : Int32} {h : Hp} : ex (d) 79 32 [l0, l1, l2, some (.int x)] st h = ex d 79 33 [l0, l1, l2, some (.int x)] (.int x :: st) h := (ex_of d79_32 (d) [l0, l1, l2, some (.int x)] st h).trans (rfl)
theorem d79_33 : decode (mB 79) 33 = .ok (.invokevirtual 64, 3) := by decide +kernel
theorem x79_33 {d : Nat} {L : Lc} {a : Nat} {v0 : Int32} {h : Hp} (ht : (h.2.1 a).1 = 10) : ex (d + 1) 79 33 L (.int v0 :: .ref a :: []) h = bnd (ex d 85 0 [some (.ref a), some (.int v0)] [] h) (fun v h' => ex (d + 1) 79 36 L (v.toList ++ []) h') := (ex_of d79_33 (d + 1) L (.int v0 :: .ref a :: []) h).trans (fin_vi (mi := 79) i10_64 ht rfl rfl (by simp [cat1_i, cat1_r]) (by simp) (Nat.le_of_ble_eq_true rfl))
theorem d79_36 : decode (mB 79) 36 = .ok (.ireturn, 1) := by decide +kernel
theorem x79_36 {d : Nat} {L : Lc} {x : Int32} {h : Hp} : ex (d) 79 36 L [.int x] h = some (some (.int x), h) := (ex_of d79_36 (d) L [.int x] h).trans (rfl)
theorem d80_0 : decode (mB 80) 0 = .ok (.aload_n 0, 1) := by decide +kernel
theorem x80_0 {d : Nat} {l1 : Option Value} {st : List Value} {a : Nat} {h : Hp} : ex (d) 80 0 [some (.ref a), l1] st h = ex d 80 1 [some (.ref a), l1] (.ref a :: st) h := (ex_of d80_0 (d) [some (.ref a), l1] st h).trans (rfl)
theorem d80_1 : decode (mB 80) 1 = .ok (.getfield 297, 3) := by decide +kernel
theorem x80_1 {d : Nat} {L : Lc} {st : List Value} {a : Nat} {h : Hp} (ht : (h.2.1 a).1 = 10) : ex (d) 80 1 L (.ref a :: st) h = ex d 80 4 L (h.1 a 9 :: st) h := (ex_of d80_1 (d) L (.ref a :: st) h).trans (fin_get (mi := 80) f10_297 (tg1 ht rfl))
theorem d80_4 : decode (mB 80) 4 = .ok (.iconst 1, 1) := by decide +kernel
theorem x80_4 {d : Nat} {L : Lc} {st : List Value} {h : Hp} : ex (d) 80 4 L st h = ex d 80 5 L (.int (nI 1) :: st) h := (ex_of d80_4 (d) L st h).trans (rfl)
theorem d80_5 : decode (mB 80) 5 = .ok (.if_icmp .ge 10, 3) := by decide +kernel
theorem x80_5 {d : Nat} {L : Lc} {st : List Value} {x y : Int32} {h : Hp} : ex (d) 80 5 L (.int y :: .int x :: st) h = if y ≤ x then ex d 80 15 L st h else ex d 80 8 L st h := (ex_of d80_5 (d) L (.int y :: .int x :: st) h).trans (fin_brq (off := 10) (tgt := 15) rfl (by decide))
theorem d80_8 : decode (mB 80) 8 = .ok (.aload_n 0, 1) := by decide +kernel
theorem x80_8 {d : Nat} {l1 : Option Value} {st : List Value} {a : Nat} {h : Hp} : ex (d) 80 8 [some (.ref a), l1] st h = ex d 80 9 [some (.ref a), l1] (.ref a :: st) h := (ex_of d80_8 (d) [some (.ref a), l1] st h).trans (rfl)
theorem d80_9 : decode (mB 80) 9 = .ok (.bipush 11, 2) := by decide +kernel
theorem x80_9 {d : Nat} {L : Lc} {st : List Value} {h : Hp} : ex (d) 80 9 L st h = ex d 80 11 L (.int (nI 11) :: st) h := (ex_of d80_9 (d) L st h).trans (rfl)
theorem d80_11 : decode (mB 80) 11 = .ok (.invokevirtual 57, 3) := by decide +kernel
theorem x80_11 {d : Nat} {L : Lc} {a : Nat} {v0 : Int32} {h : Hp} (ht : (h.2.1 a).1 = 10) : ex (d + 1) 80 11 L (.int v0 :: .ref a :: []) h = bnd (ex d 84 0 [some (.ref a), some (.int v0)] [] h) (fun v h' => ex (d + 1) 80 14 L (v.toList ++ []) h') := (ex_of d80_11 (d + 1) L (.int v0 :: .ref a :: []) h).trans (fin_vi (mi := 80) i10_57 ht rfl rfl (by simp [cat1_i, cat1_r]) (by simp) (Nat.le_of_ble_eq_true rfl))
theorem d80_14 : decode (mB 80) 14 = .ok (.ireturn, 1) := by decide +kernel
theorem x80_14 {d : Nat} {L : Lc} {x : Int32} {h : Hp} : ex (d) 80 14 L [.int x] h = some (some (.int x), h) := (ex_of d80_14 (d) L [.int x] h).trans (rfl)
theorem d80_15 : decode (mB 80) 15 = .ok (.aload_n 0, 1) := by decide +kernel
theorem x80_15 {d : Nat} {l1 : Option Value} {st : List Value} {a : Nat} {h : Hp} : ex (d) 80 15 [some (.ref a), l1] st h = ex d 80 16 [some (.ref a), l1] (.ref a :: st) h := (ex_of d80_15 (d) [some (.ref a), l1] st h).trans (rfl)
theorem d80_16 : decode (mB 80) 16 = .ok (.dup, 1) := by decide +kernel
theorem x80_16 {d : Nat} {L : Lc} {st : List Value} {a : Nat} {h : Hp} : ex (d) 80 16 L (.ref a :: st) h = ex d 80 17 L (.ref a :: .ref a :: st) h := (ex_of d80_16 (d) L (.ref a :: st) h).trans (rfl)
theorem x80_16i {d : Nat} {L : Lc} {st : List Value} {x : Int32} {h : Hp} : ex (d) 80 16 L (.int x :: st) h = ex d 80 17 L (.int x :: .int x :: st) h := (ex_of d80_16 (d) L (.int x :: st) h).trans (rfl)
theorem d80_17 : decode (mB 80) 17 = .ok (.getfield 297, 3) := by decide +kernel
theorem x80_17 {d : Nat} {L : Lc} {st : List Value} {a : Nat} {h : Hp} (ht : (h.2.1 a).1 = 10) : ex (d) 80 17 L (.ref a :: st) h = ex d 80 20 L (h.1 a 9 :: st) h := (ex_of d80_17 (d) L (.ref a :: st) h).trans (fin_get (mi := 80) f10_297 (tg1 ht rfl))
theorem d80_20 : decode (mB 80) 20 = .ok (.iconst 1, 1) := by decide +kernel
theorem x80_20 {d : Nat} {L : Lc} {st : List Value} {h : Hp} : ex (d) 80 20 L st h = ex d 80 21 L (.int (nI 1) :: st) h := (ex_of d80_20 (d) L st h).trans (rfl)
theorem d80_21 : decode (mB 80) 21 = .ok (.isub, 1) := by decide +kernel
theorem x80_21 {d : Nat} {L : Lc} {st : List Value} {x y : Int32} {h : Hp} : ex (d) 80 21 L (.int y :: .int x :: st) h = ex d 80 22 L (.int (x - y) :: st) h := (ex_of d80_21 (d) L (.int y :: .int x :: st) h).trans (rfl)
theorem d80_22 : decode (mB 80) 22 = .ok (.putfield 297, 3) := by decide +kernel
theorem x80_22 {d : Nat} {L : Lc} {st : List Value} {a : Nat} {x : Int32} {h : Hp} (ht : (h.2.1 a).1 = 10) : ex (d) 80 22 L (.int x :: .ref a :: st) h = ex d 80 25 L st (mup h.1 a 9 (.int x), h.2) := (ex_of d80_22 (d) L (.int x :: .ref a :: st) h).trans (fin_put (mi := 80) f10_297 ht rfl rfl (by decide +kernel))
theorem d80_25 : decode (mB 80) 25 = .ok (.aload_n 0, 1) := by decide +kernel
theorem x80_25 {d : Nat} {l1 : Option Value} {st : List Value} {a : Nat} {h : Hp} : ex (d) 80 25 [some (.ref a), l1] st h = ex d 80 26 [some (.ref a), l1] (.ref a :: st) h := (ex_of d80_25 (d) [some (.ref a), l1] st h).trans (rfl)
theorem d80_26 : decode (mB 80) 26 = .ok (.getfield 35, 3) := by decide +kernel
theorem x80_26 {d : Nat} {L : Lc} {st : List Value} {a : Nat} {h : Hp} (ht : (h.2.1 a).1 = 10) : ex (d) 80 26 L (.ref a :: st) h = ex d 80 29 L (h.1 a 8 :: st) h := (ex_of d80_26 (d) L (.ref a :: st) h).trans (fin_get (mi := 80) f10_35 (tg1 ht rfl))
theorem d80_29 : decode (mB 80) 29 = .ok (.aload_n 0, 1) := by decide +kernel
theorem x80_29 {d : Nat} {l1 : Option Value} {st : List Value} {a : Nat} {h : Hp} : ex (d) 80 29 [some (.ref a), l1] st h = ex d 80 30 [some (.ref a), l1] (.ref a :: st) h := (ex_of d80_29 (d) [some (.ref a), l1] st h).trans (rfl)
theorem d80_30 : decode (mB 80) 30 = .ok (.getfield 297, 3) := by decide +kernel
theorem x80_30 {d : Nat} {L : Lc} {st : List Value} {a : Nat} {h : Hp} (ht : (h.2.1 a).1 = 10) : ex (d) 80 30 L (.ref a :: st) h = ex d 80 33 L (h.1 a 9 :: st) h := (ex_of d80_30 (d) L (.ref a :: st) h).trans (fin_get (mi := 80) f10_297 (tg1 ht rfl))
theorem d80_33 : decode (mB 80) 33 = .ok (.aaload, 1) := by decide +kernel
theorem x80_33 {d : Nat} {L : Lc} {st : List Value} {a j : Nat} {h : Hp} (ht : 21 ≤ (h.2.1 a).1 ∧ (h.2.1 a).1 ≤ 26) (hj : j < (h.2.1 a).2) (hb : j < 2147483648) : ex (d) 80 33 L (.int (nI j) :: .ref a :: st) h = ex d 80 34 L (h.1 a j :: st) h := (ex_of d80_33 (d) L (.int (nI j) :: .ref a :: st) h).trans (fin_aaload ht hj hb)
theorem d80_34 : decode (mB 80) 34 = .ok (.astore_n 1, 1) := by decide +kernel
theorem x80_34 {d : Nat} {l0 l1 : Option Value} {st : List Value} {a : Nat} {h : Hp} : ex (d) 80 34 [l0, l1] (.ref a :: st) h = ex d 80 35 [clr l0, some (.ref a)] st h := (ex_of d80_34 (d) [l0, l1] (.ref a :: st) h).trans (rfl)
theorem x80_34n {d : Nat} {l0 l1 : Option Value} {st : List Value} {h : Hp} : ex (d) 80 34 [l0, l1] (.null :: st) h = ex d 80 35 [clr l0, some .null] st h := (ex_of d80_34 (d) [l0, l1] (.null :: st) h).trans (rfl)
theorem x80_34q {d : Nat} {l0 l1 : Option Value} {st : List Value} {a : Option Nat} {h : Hp} : ex (d) 80 34 [l0, l1] (va_rf a :: st) h = ex d 80 35 [clr l0, some (va_rf a)] st h := (ex_of d80_34 (d) [l0, l1] (va_rf a :: st) h).trans (by cases a <;> rfl)
theorem d80_35 : decode (mB 80) 35 = .ok (.aload_n 1, 1) := by decide +kernel
theorem x80_35 {d : Nat} {l0 : Option Value} {st : List Value} {a : Nat} {h : Hp} : ex (d) 80 35 [l0, some (.ref a)] st h = ex d 80 36 [l0, some (.ref a)] (.ref a :: st) h := (ex_of d80_35 (d) [l0, some (.ref a)] st h).trans (rfl)
theorem x80_35n {d : Nat} {l0 : Option Value} {st : List Value} {h : Hp} : ex (d) 80 35 [l0, some .null] st h = ex d 80 36 [l0, some .null] (.null :: st) h := (ex_of d80_35 (d) [l0, some .null] st h).trans (rfl)
theorem x80_35q {d : Nat} {l0 : Option Value} {st : List Value} {a : Option Nat} {h : Hp} : ex (d) 80 35 [l0, some (va_rf a)] st h = ex d 80 36 [l0, some (va_rf a)] (va_rf a :: st) h := (ex_of d80_35 (d) [l0, some (va_rf a)] st h).trans (by cases a <;> rfl)
theorem d80_36 : decode (mB 80) 36 = .ok (.ifnull 8, 3) := by decide +kernel
theorem x80_36n {d : Nat} {L : Lc} {st : List Value} {h : Hp} : ex (d) 80 36 L (.null :: st) h = ex d 80 44 L st h := (ex_of d80_36 (d) L (.null :: st) h).trans (rfl)
theorem x80_36 {d : Nat} {L : Lc} {st : List Value} {a : Nat} {h : Hp} : ex (d) 80 36 L (.ref a :: st) h = ex d 80 39 L st h := (ex_of d80_36 (d) L (.ref a :: st) h).trans (rfl)
theorem d80_39 : decode (mB 80) 39 = .ok (.aload_n 1, 1) := by decide +kernel
theorem x80_39 {d : Nat} {l0 : Option Value} {st : List Value} {a : Nat} {h : Hp} : ex (d) 80 39 [l0, some (.ref a)] st h = ex d 80 40 [l0, some (.ref a)] (.ref a :: st) h := (ex_of d80_39 (d) [l0, some (.ref a)] st h).trans (rfl)
theorem x80_39n {d : Nat} {l0 : Option Value} {st : List Value} {h : Hp} : ex (d) 80 39 [l0, some .null] st h = ex d 80 40 [l0, some .null] (.null :: st) h := (ex_of d80_39 (d) [l0, some .null] st h).trans (rfl)
theorem x80_39q {d : Nat} {l0 : Option Value} {st : List Value} {a : Option Nat} {h : Hp} : ex (d) 80 39 [l0, some (va_rf a)] st h = ex d 80 40 [l0, some (va_rf a)] (va_rf a :: st) h := (ex_of d80_39 (d) [l0, some (va_rf a)] st h).trans (by cases a <;> rfl)
theorem d80_40 : decode (mB 80) 40 = .ok (.aload_n 0, 1) := by decide +kernel
theorem x80_40 {d : Nat} {l1 : Option Value} {st : List Value} {a : Nat} {h : Hp} : ex (d) 80 40 [some (.ref a), l1] st h = ex d 80 41 [some (.ref a), l1] (.ref a :: st) h := (ex_of d80_40 (d) [some (.ref a), l1] st h).trans (rfl)
theorem d80_41 : decode (mB 80) 41 = .ok (.invokevirtual 300, 3) := by decide +kernel
theorem x80_41 {d : Nat} {L : Lc} {a : Nat} {v0 : Value} {h : Hp} (ht : (h.2.1 a).1 = 4) (hv0 : isR v0 = true) : ex (d + 1) 80 41 L (v0 :: .ref a :: []) h = bnd (ex d 12 0 [some (.ref a), some v0] [] h) (fun v h' => ex (d + 1) 80 44 L (v.toList ++ []) h') := (ex_of d80_41 (d + 1) L (v0 :: .ref a :: []) h).trans (fin_vi (mi := 80) i10_300 ht rfl rfl (by simp [cat1_i, cat1_r, isR_cat1 hv0]) (by simp) (Nat.le_of_ble_eq_true rfl))
theorem x80_41_32 {d : Nat} {L : Lc} {a : Nat} {v0 : Value} {h : Hp} (ht : (h.2.1 a).1 = 6) (hv0 : isR v0 = true) : ex (d + 1) 80 41 L (v0 :: .ref a :: []) h = bnd (ex d 32 0 [some (.ref a), some v0] [] h) (fun v h' => ex (d + 1) 80 44 L (v.toList ++ []) h') := (ex_of d80_41 (d + 1) L (v0 :: .ref a :: []) h).trans (fin_vi (mi := 80) i10_300 ht rfl rfl (by simp [cat1_i, cat1_r, isR_cat1 hv0]) (by simp) (Nat.le_of_ble_eq_true rfl))
theorem x80_41_34 {d : Nat} {L : Lc} {a : Nat} {v0 : Value} {h : Hp} (ht : (h.2.1 a).1 = 7) (hv0 : isR v0 = true) : ex (d + 1) 80 41 L (v0 :: .ref a :: []) h = bnd (ex d 34 0 [some (.ref a), some v0] [] h) (fun v h' => ex (d + 1) 80 44 L (v.toList ++ []) h') := (ex_of d80_41 (d + 1) L (v0 :: .ref a :: []) h).trans (fin_vi (mi := 80) i10_300 ht rfl rfl (by simp [cat1_i, cat1_r, isR_cat1 hv0]) (by simp) (Nat.le_of_ble_eq_true rfl))
theorem d80_44 : decode (mB 80) 44 = .ok (.aload_n 0, 1) := by decide +kernel
theorem x80_44 {d : Nat} {l1 : Option Value} {st : List Value} {a : Nat} {h : Hp} : ex (d) 80 44 [some (.ref a), l1] st h = ex d 80 45 [some (.ref a), l1] (.ref a :: st) h := (ex_of d80_44 (d) [some (.ref a), l1] st h).trans (rfl)
theorem d80_45 : decode (mB 80) 45 = .ok (.iconst 1, 1) := by decide +kernel
theorem x80_45 {d : Nat} {L : Lc} {st : List Value} {h : Hp} : ex (d) 80 45 L st h = ex d 80 46 L (.int (nI 1) :: st) h := (ex_of d80_45 (d) L st h).trans (rfl)
theorem d80_46 : decode (mB 80) 46 = .ok (.invokevirtual 64, 3) := by decide +kernel
theorem x80_46 {d : Nat} {L : Lc} {a : Nat} {v0 : Int32} {h : Hp} (ht : (h.2.1 a).1 = 10) : ex (d + 1) 80 46 L (.int v0 :: .ref a :: []) h = bnd (ex d 85 0 [some (.ref a), some (.int v0)] [] h) (fun v h' => ex (d + 1) 80 49 L (v.toList ++ []) h') := (ex_of d80_46 (d + 1) L (.int v0 :: .ref a :: []) h).trans (fin_vi (mi := 80) i10_64 ht rfl rfl (by simp [cat1_i, cat1_r]) (by simp) (Nat.le_of_ble_eq_true rfl))
theorem d80_49 : decode (mB 80) 49 = .ok (.ireturn, 1) := by decide +kernel
theorem x80_49 {d : Nat} {L : Lc} {x : Int32} {h : Hp} : ex (d) 80 49 L [.int x] h = some (some (.int x), h) := (ex_of d80_49 (d) L [.int x] h).trans (rfl)
theorem d81_0 : decode (mB 81) 0 = .ok (.iload_n 1, 1) := by decide +kernel
theorem x81_0 {d : Nat} {l0 : Option Value} {st : List Value} {x : Int32} {h : Hp} : ex (d) 81 0 [l0, some (.int x)] st h = ex d 81 1 [l0, some (.int x)] (.int x :: st) h := (ex_of d81_0 (d) [l0, some (.int x)] st h).trans (rfl)
theorem d81_1 : decode (mB 81) 1 = .ok (.tableswitch 54 0 2 #[27, 36, 45], 27) := by decide +kernel
theorem x81_1_0 {d : Nat} {L : Lc} {st : List Value} {h : Hp} : ex (d) 81 1 L (.int (nI 0) :: st) h = ex d 81 28 L st h := (ex_of d81_1 (d) L (.int (nI 0) :: st) h).trans (rfl)
theorem x81_1_1 {d : Nat} {L : Lc} {st : List Value} {h : Hp} : ex (d) 81 1 L (.int (nI 1) :: st) h = ex d 81 37 L st h := (ex_of d81_1 (d) L (.int (nI 1) :: st) h).trans (rfl)
theorem x81_1_2 {d : Nat} {L : Lc} {st : List Value} {h : Hp} : ex (d) 81 1 L (.int (nI 2) :: st) h = ex d 81 46 L st h := (ex_of d81_1 (d) L (.int (nI 2) :: st) h).trans (rfl)
theorem x81_1_o {d : Nat} {L : Lc} {st : List Value} {x : Int32} {h : Hp} (hx : x.toInt < 0 ∨ 2 < x.toInt) : ex (d) 81 1 L (.int x :: st) h = ex d 81 55 L st h := by
  refine (ex_of d81_1 _ _ _ _).trans ?_
  simp only [stp]
  rw [if_pos hx]
  rfl
theorem d81_28 : decode (mB 81) 28 = .ok (.aload_n 0, 1) := by decide +kernel
theorem x81_28 {d : Nat} {l1 : Option Value} {st : List Value} {a : Nat} {h : Hp} : ex (d) 81 28 [some (.ref a), l1] st h = ex d 81 29 [some (.ref a), l1] (.ref a :: st) h := (ex_of d81_28 (d) [some (.ref a), l1] st h).trans (rfl)
theorem d81_29 : decode (mB 81) 29 = .ok (.aload_n 0, 1) := by decide +kernel
theorem x81_29 {d : Nat} {l1 : Option Value} {st : List Value} {a : Nat} {h : Hp} : ex (d) 81 29 [some (.ref a), l1] st h = ex d 81 30 [some (.ref a), l1] (.ref a :: st) h := (ex_of d81_29 (d) [some (.ref a), l1] st h).trans (rfl)
theorem d81_30 : decode (mB 81) 30 = .ok (.getfield 304, 3) := by decide +kernel
theorem x81_30 {d : Nat} {L : Lc} {st : List Value} {a : Nat} {h : Hp} (ht : (h.2.1 a).1 = 10) : ex (d) 81 30 L (.ref a :: st) h = ex d 81 33 L (h.1 a 13 :: st) h := (ex_of d81_30 (d) L (.ref a :: st) h).trans (fin_get (mi := 81) f10_304 (tg1 ht rfl))
theorem d81_33 : decode (mB 81) 33 = .ok (.invokevirtual 64, 3) := by decide +kernel
theorem x81_33 {d : Nat} {L : Lc} {a : Nat} {v0 : Int32} {h : Hp} (ht : (h.2.1 a).1 = 10) : ex (d + 1) 81 33 L (.int v0 :: .ref a :: []) h = bnd (ex d 85 0 [some (.ref a), some (.int v0)] [] h) (fun v h' => ex (d + 1) 81 36 L (v.toList ++ []) h') := (ex_of d81_33 (d + 1) L (.int v0 :: .ref a :: []) h).trans (fin_vi (mi := 81) i10_64 ht rfl rfl (by simp [cat1_i, cat1_r]) (by simp) (Nat.le_of_ble_eq_true rfl))
theorem d81_36 : decode (mB 81) 36 = .ok (.ireturn, 1) := by decide +kernel
theorem x81_36 {d : Nat} {L : Lc} {x : Int32} {h : Hp} : ex (d) 81 36 L [.int x] h = some (some (.int x), h) := (ex_of d81_36 (d) L [.int x] h).trans (rfl)
theorem d81_37 : decode (mB 81) 37 = .ok (.aload_n 0, 1) := by decide +kernel
theorem x81_37 {d : Nat} {l1 : Option Value} {st : List Value} {a : Nat} {h : Hp} : ex (d) 81 37 [some (.ref a), l1] st h = ex d 81 38 [some (.ref a), l1] (.ref a :: st) h := (ex_of d81_37 (d) [some (.ref a), l1] st h).trans (rfl)
theorem d81_38 : decode (mB 81) 38 = .ok (.aload_n 0, 1) := by decide +kernel
theorem x81_38 {d : Nat} {l1 : Option Value} {st : List Value} {a : Nat} {h : Hp} : ex (d) 81 38 [some (.ref a), l1] st h = ex d 81 39 [some (.ref a), l1] (.ref a :: st) h := (ex_of d81_38 (d) [some (.ref a), l1] st h).trans (rfl)
theorem d81_39 : decode (mB 81) 39 = .ok (.getfield 307, 3) := by decide +kernel
theorem x81_39 {d : Nat} {L : Lc} {st : List Value} {a : Nat} {h : Hp} (ht : (h.2.1 a).1 = 10) : ex (d) 81 39 L (.ref a :: st) h = ex d 81 42 L (h.1 a 14 :: st) h := (ex_of d81_39 (d) L (.ref a :: st) h).trans (fin_get (mi := 81) f10_307 (tg1 ht rfl))
theorem d81_42 : decode (mB 81) 42 = .ok (.invokevirtual 64, 3) := by decide +kernel
theorem x81_42 {d : Nat} {L : Lc} {a : Nat} {v0 : Int32} {h : Hp} (ht : (h.2.1 a).1 = 10) : ex (d + 1) 81 42 L (.int v0 :: .ref a :: []) h = bnd (ex d 85 0 [some (.ref a), some (.int v0)] [] h) (fun v h' => ex (d + 1) 81 45 L (v.toList ++ []) h') := (ex_of d81_42 (d + 1) L (.int v0 :: .ref a :: []) h).trans (fin_vi (mi := 81) i10_64 ht rfl rfl (by simp [cat1_i, cat1_r]) (by simp) (Nat.le_of_ble_eq_true rfl))
theorem d81_45 : decode (mB 81) 45 = .ok (.ireturn, 1) := by decide +kernel
theorem x81_45 {d : Nat} {L : Lc} {x : Int32} {h : Hp} : ex (d) 81 45 L [.int x] h = some (some (.int x), h) := (ex_of d81_45 (d) L [.int x] h).trans (rfl)
theorem d81_46 : decode (mB 81) 46 = .ok (.aload_n 0, 1) := by decide +kernel
theorem x81_46 {d : Nat} {l1 : Option Value} {st : List Value} {a : Nat} {h : Hp} : ex (d) 81 46 [some (.ref a), l1] st h = ex d 81 47 [some (.ref a), l1] (.ref a :: st) h := (ex_of d81_46 (d) [some (.ref a), l1] st h).trans (rfl)
theorem d81_47 : decode (mB 81) 47 = .ok (.aload_n 0, 1) := by decide +kernel
theorem x81_47 {d : Nat} {l1 : Option Value} {st : List Value} {a : Nat} {h : Hp} : ex (d) 81 47 [some (.ref a), l1] st h = ex d 81 48 [some (.ref a), l1] (.ref a :: st) h := (ex_of d81_47 (d) [some (.ref a), l1] st h).trans (rfl)
theorem d81_48 : decode (mB 81) 48 = .ok (.getfield 310, 3) := by decide +kernel
theorem x81_48 {d : Nat} {L : Lc} {st : List Value} {a : Nat} {h : Hp} (ht : (h.2.1 a).1 = 10) : ex (d) 81 48 L (.ref a :: st) h = ex d 81 51 L (h.1 a 15 :: st) h := (ex_of d81_48 (d) L (.ref a :: st) h).trans (fin_get (mi := 81) f10_310 (tg1 ht rfl))
theorem d81_51 : decode (mB 81) 51 = .ok (.invokevirtual 64, 3) := by decide +kernel
theorem x81_51 {d : Nat} {L : Lc} {a : Nat} {v0 : Int32} {h : Hp} (ht : (h.2.1 a).1 = 10) : ex (d + 1) 81 51 L (.int v0 :: .ref a :: []) h = bnd (ex d 85 0 [some (.ref a), some (.int v0)] [] h) (fun v h' => ex (d + 1) 81 54 L (v.toList ++ []) h') := (ex_of d81_51 (d + 1) L (.int v0 :: .ref a :: []) h).trans (fin_vi (mi := 81) i10_64 ht rfl rfl (by simp [cat1_i, cat1_r]) (by simp) (Nat.le_of_ble_eq_true rfl))
theorem d81_54 : decode (mB 81) 54 = .ok (.ireturn, 1) := by decide +kernel
theorem x81_54 {d : Nat} {L : Lc} {x : Int32} {h : Hp} : ex (d) 81 54 L [.int x] h = some (some (.int x), h) := (ex_of d81_54 (d) L [.int x] h).trans (rfl)
theorem d81_55 : decode (mB 81) 55 = .ok (.aload_n 0, 1) := by decide +kernel
theorem x81_55 {d : Nat} {l1 : Option Value} {st : List Value} {a : Nat} {h : Hp} : ex (d) 81 55 [some (.ref a), l1] st h = ex d 81 56 [some (.ref a), l1] (.ref a :: st) h := (ex_of d81_55 (d) [some (.ref a), l1] st h).trans (rfl)
theorem d81_56 : decode (mB 81) 56 = .ok (.bipush 6, 2) := by decide +kernel
theorem x81_56 {d : Nat} {L : Lc} {st : List Value} {h : Hp} : ex (d) 81 56 L st h = ex d 81 58 L (.int (nI 6) :: st) h := (ex_of d81_56 (d) L st h).trans (rfl)
theorem d81_58 : decode (mB 81) 58 = .ok (.invokevirtual 57, 3) := by decide +kernel
theorem x81_58 {d : Nat} {L : Lc} {a : Nat} {v0 : Int32} {h : Hp} (ht : (h.2.1 a).1 = 10) : ex (d + 1) 81 58 L (.int v0 :: .ref a :: []) h = bnd (ex d 84 0 [some (.ref a), some (.int v0)] [] h) (fun v h' => ex (d + 1) 81 61 L (v.toList ++ []) h') := (ex_of d81_58 (d + 1) L (.int v0 :: .ref a :: []) h).trans (fin_vi (mi := 81) i10_57 ht rfl rfl (by simp [cat1_i, cat1_r]) (by simp) (Nat.le_of_ble_eq_true rfl))
theorem d81_61 : decode (mB 81) 61 = .ok (.ireturn, 1) := by decide +kernel
theorem x81_61 {d : Nat} {L : Lc} {x : Int32} {h : Hp} : ex (d) 81 61 L [.int x] h = some (some (.int x), h) := (ex_of d81_61 (d) L [.int x] h).trans (rfl)
theorem d82_0 : decode (mB 82) 0 = .ok (.aload_n 0, 1) := by decide +kernel
theorem x82_0 {d : Nat} {st : List Value} {a : Nat} {h : Hp} : ex (d) 82 0 [some (.ref a)] st h = ex d 82 1 [some (.ref a)] (.ref a :: st) h := (ex_of d82_0 (d) [some (.ref a)] st h).trans (rfl)
theorem d82_1 : decode (mB 82) 1 = .ok (.getfield 46, 3) := by decide +kernel
theorem x82_1 {d : Nat} {L : Lc} {st : List Value} {a : Nat} {h : Hp} (ht : (h.2.1 a).1 = 10) : ex (d) 82 1 L (.ref a :: st) h = ex d 82 4 L (h.1 a 16 :: st) h := (ex_of d82_1 (d) L (.ref a :: st) h).trans (fin_get (mi := 82) f10_46 (tg1 ht rfl))
theorem d82_4 : decode (mB 82) 4 = .ok (.ireturn, 1) := by decide +kernel
theorem x82_4 {d : Nat} {L : Lc} {x : Int32} {h : Hp} : ex (d) 82 4 L [.int x] h = some (some (.int x), h) := (ex_of d82_4 (d) L [.int x] h).trans (rfl)
theorem d83_0 : decode (mB 83) 0 = .ok (.bipush 17, 2) := by decide +kernel
theorem x83_0 {d : Nat} {L : Lc} {st : List Value} {h : Hp} : ex (d) 83 0 L st h = ex d 83 2 L (.int (nI 17) :: st) h := (ex_of d83_0 (d) L st h).trans (rfl)
theorem d83_2 : decode (mB 83) 2 = .ok (.istore_n 1, 1) := by decide +kernel
theorem x83_2 {d : Nat} {l0 l1 l2 : Option Value} {st : List Value} {x : Int32} {h : Hp} : ex (d) 83 2 [l0, l1, l2] (.int x :: st) h = ex d 83 3 [clr l0, some (.int x), l2] st h := (ex_of d83_2 (d) [l0, l1, l2] (.int x :: st) h).trans (rfl)
theorem d83_3 : decode (mB 83) 3 = .ok (.iconst 0, 1) := by decide +kernel
theorem x83_3 {d : Nat} {L : Lc} {st : List Value} {h : Hp} : ex (d) 83 3 L st h = ex d 83 4 L (.int (nI 0) :: st) h := (ex_of d83_3 (d) L st h).trans (rfl)
theorem d83_4 : decode (mB 83) 4 = .ok (.istore_n 2, 1) := by decide +kernel
theorem x83_4 {d : Nat} {l0 l1 l2 : Option Value} {st : List Value} {x : Int32} {h : Hp} : ex (d) 83 4 [l0, l1, l2] (.int x :: st) h = ex d 83 5 [l0, clr l1, some (.int x)] st h := (ex_of d83_4 (d) [l0, l1, l2] (.int x :: st) h).trans (rfl)
theorem d83_5 : decode (mB 83) 5 = .ok (.iload_n 2, 1) := by decide +kernel
theorem x83_5 {d : Nat} {l0 l1 : Option Value} {st : List Value} {x : Int32} {h : Hp} : ex (d) 83 5 [l0, l1, some (.int x)] st h = ex d 83 6 [l0, l1, some (.int x)] (.int x :: st) h := (ex_of d83_5 (d) [l0, l1, some (.int x)] st h).trans (rfl)
theorem d83_6 : decode (mB 83) 6 = .ok (.aload_n 0, 1) := by decide +kernel
theorem x83_6 {d : Nat} {l1 l2 : Option Value} {st : List Value} {a : Nat} {h : Hp} : ex (d) 83 6 [some (.ref a), l1, l2] st h = ex d 83 7 [some (.ref a), l1, l2] (.ref a :: st) h := (ex_of d83_6 (d) [some (.ref a), l1, l2] st h).trans (rfl)
theorem d83_7 : decode (mB 83) 7 = .ok (.getfield 73, 3) := by decide +kernel
theorem x83_7 {d : Nat} {L : Lc} {st : List Value} {a : Nat} {h : Hp} (ht : (h.2.1 a).1 = 10) : ex (d) 83 7 L (.ref a :: st) h = ex d 83 10 L (h.1 a 1 :: st) h := (ex_of d83_7 (d) L (.ref a :: st) h).trans (fin_get (mi := 83) f10_73 (tg1 ht rfl))
theorem d83_10 : decode (mB 83) 10 = .ok (.if_icmp .ge 20, 3) := by decide +kernel
theorem x83_10 {d : Nat} {L : Lc} {st : List Value} {x y : Int32} {h : Hp} : ex (d) 83 10 L (.int y :: .int x :: st) h = if y ≤ x then ex d 83 30 L st h else ex d 83 13 L st h := (ex_of d83_10 (d) L (.int y :: .int x :: st) h).trans (fin_brq (off := 20) (tgt := 30) rfl (by decide))
theorem d83_13 : decode (mB 83) 13 = .ok (.iload_n 1, 1) := by decide +kernel
theorem x83_13 {d : Nat} {l0 l2 : Option Value} {st : List Value} {x : Int32} {h : Hp} : ex (d) 83 13 [l0, some (.int x), l2] st h = ex d 83 14 [l0, some (.int x), l2] (.int x :: st) h := (ex_of d83_13 (d) [l0, some (.int x), l2] st h).trans (rfl)
theorem d83_14 : decode (mB 83) 14 = .ok (.aload_n 0, 1) := by decide +kernel
theorem x83_14 {d : Nat} {l1 l2 : Option Value} {st : List Value} {a : Nat} {h : Hp} : ex (d) 83 14 [some (.ref a), l1, l2] st h = ex d 83 15 [some (.ref a), l1, l2] (.ref a :: st) h := (ex_of d83_14 (d) [some (.ref a), l1, l2] st h).trans (rfl)
theorem d83_15 : decode (mB 83) 15 = .ok (.getfield 11, 3) := by decide +kernel
theorem x83_15 {d : Nat} {L : Lc} {st : List Value} {a : Nat} {h : Hp} (ht : (h.2.1 a).1 = 10) : ex (d) 83 15 L (.ref a :: st) h = ex d 83 18 L (h.1 a 0 :: st) h := (ex_of d83_15 (d) L (.ref a :: st) h).trans (fin_get (mi := 83) f10_11 (tg1 ht rfl))
theorem d83_18 : decode (mB 83) 18 = .ok (.iload_n 2, 1) := by decide +kernel
theorem x83_18 {d : Nat} {l0 l1 : Option Value} {st : List Value} {x : Int32} {h : Hp} : ex (d) 83 18 [l0, l1, some (.int x)] st h = ex d 83 19 [l0, l1, some (.int x)] (.int x :: st) h := (ex_of d83_18 (d) [l0, l1, some (.int x)] st h).trans (rfl)
theorem d83_19 : decode (mB 83) 19 = .ok (.aaload, 1) := by decide +kernel
theorem x83_19 {d : Nat} {L : Lc} {st : List Value} {a j : Nat} {h : Hp} (ht : 21 ≤ (h.2.1 a).1 ∧ (h.2.1 a).1 ≤ 26) (hj : j < (h.2.1 a).2) (hb : j < 2147483648) : ex (d) 83 19 L (.int (nI j) :: .ref a :: st) h = ex d 83 20 L (h.1 a j :: st) h := (ex_of d83_19 (d) L (.int (nI j) :: .ref a :: st) h).trans (fin_aaload ht hj hb)
theorem d83_20 : decode (mB 83) 20 = .ok (.invokestatic 313, 3) := by decide +kernel
theorem x83_20 {d : Nat} {L : Lc}  {v0 : Int32} {v1 : Value} {h : Hp} (hv1 : isR v1 = true) : ex (d + 1) 83 20 L (v1 :: .int v0 :: []) h = bnd (ex d 131 0 [some (.int v0), some v1, none, none, none] [] h) (fun v h' => ex (d + 1) 83 23 L (v.toList ++ []) h') := (ex_of d83_20 (d + 1) L (v1 :: .int v0 :: []) h).trans (fin_st (mi := 83) i10_313 (Or.inl rfl) (by simp) (by simp [cat1_i, cat1_r, isR_cat1 hv1]) (by simp) (Nat.le_of_ble_eq_true rfl))
theorem d83_23 : decode (mB 83) 23 = .ok (.istore_n 1, 1) := by decide +kernel
theorem x83_23 {d : Nat} {l0 l1 l2 : Option Value} {st : List Value} {x : Int32} {h : Hp} : ex (d) 83 23 [l0, l1, l2] (.int x :: st) h = ex d 83 24 [clr l0, some (.int x), l2] st h := (ex_of d83_23 (d) [l0, l1, l2] (.int x :: st) h).trans (rfl)
theorem d83_24 : decode (mB 83) 24 = .ok (.iinc 2 1, 3) := by decide +kernel
theorem x83_24 {d : Nat} {l0 l1 : Option Value} {st : List Value} {x : Int32} {h : Hp} : ex (d) 83 24 [l0, l1, some (.int x)] st h = ex d 83 27 [l0, clr l1, some (.int (x + (nI 1)))] st h := (ex_of d83_24 (d) [l0, l1, some (.int x)] st h).trans (rfl)
theorem d83_27 : decode (mB 83) 27 = .ok (.goto (-22), 3) := by decide +kernel
theorem x83_27 {d : Nat} {L : Lc} {st : List Value} {h : Hp} : ex (d) 83 27 L st h = ex d 83 5 L st h := (ex_of d83_27 (d) L st h).trans (rfl)
theorem d83_30 : decode (mB 83) 30 = .ok (.iconst 0, 1) := by decide +kernel
theorem x83_30 {d : Nat} {L : Lc} {st : List Value} {h : Hp} : ex (d) 83 30 L st h = ex d 83 31 L (.int (nI 0) :: st) h := (ex_of d83_30 (d) L st h).trans (rfl)
theorem d83_31 : decode (mB 83) 31 = .ok (.istore_n 2, 1) := by decide +kernel
theorem x83_31 {d : Nat} {l0 l1 l2 : Option Value} {st : List Value} {x : Int32} {h : Hp} : ex (d) 83 31 [l0, l1, l2] (.int x :: st) h = ex d 83 32 [l0, clr l1, some (.int x)] st h := (ex_of d83_31 (d) [l0, l1, l2] (.int x :: st) h).trans (rfl)
theorem d83_32 : decode (mB 83) 32 = .ok (.iload_n 2, 1) := by decide +kernel
theorem x83_32 {d : Nat} {l0 l1 : Option Value} {st : List Value} {x : Int32} {h : Hp} : ex (d) 83 32 [l0, l1, some (.int x)] st h = ex d 83 33 [l0, l1, some (.int x)] (.int x :: st) h := (ex_of d83_32 (d) [l0, l1, some (.int x)] st h).trans (rfl)
theorem d83_33 : decode (mB 83) 33 = .ok (.aload_n 0, 1) := by decide +kernel
theorem x83_33 {d : Nat} {l1 l2 : Option Value} {st : List Value} {a : Nat} {h : Hp} : ex (d) 83 33 [some (.ref a), l1, l2] st h = ex d 83 34 [some (.ref a), l1, l2] (.ref a :: st) h := (ex_of d83_33 (d) [some (.ref a), l1, l2] st h).trans (rfl)
theorem d83_34 : decode (mB 83) 34 = .ok (.getfield 54, 3) := by decide +kernel
theorem x83_34 {d : Nat} {L : Lc} {st : List Value} {a : Nat} {h : Hp} (ht : (h.2.1 a).1 = 10) : ex (d) 83 34 L (.ref a :: st) h = ex d 83 37 L (h.1 a 3 :: st) h := (ex_of d83_34 (d) L (.ref a :: st) h).trans (fin_get (mi := 83) f10_54 (tg1 ht rfl))
theorem d83_37 : decode (mB 83) 37 = .ok (.if_icmp .ge 20, 3) := by decide +kernel
theorem x83_37 {d : Nat} {L : Lc} {st : List Value} {x y : Int32} {h : Hp} : ex (d) 83 37 L (.int y :: .int x :: st) h = if y ≤ x then ex d 83 57 L st h else ex d 83 40 L st h := (ex_of d83_37 (d) L (.int y :: .int x :: st) h).trans (fin_brq (off := 20) (tgt := 57) rfl (by decide))
theorem d83_40 : decode (mB 83) 40 = .ok (.iload_n 1, 1) := by decide +kernel
theorem x83_40 {d : Nat} {l0 l2 : Option Value} {st : List Value} {x : Int32} {h : Hp} : ex (d) 83 40 [l0, some (.int x), l2] st h = ex d 83 41 [l0, some (.int x), l2] (.int x :: st) h := (ex_of d83_40 (d) [l0, some (.int x), l2] st h).trans (rfl)
theorem d83_41 : decode (mB 83) 41 = .ok (.aload_n 0, 1) := by decide +kernel
theorem x83_41 {d : Nat} {l1 l2 : Option Value} {st : List Value} {a : Nat} {h : Hp} : ex (d) 83 41 [some (.ref a), l1, l2] st h = ex d 83 42 [some (.ref a), l1, l2] (.ref a :: st) h := (ex_of d83_41 (d) [some (.ref a), l1, l2] st h).trans (rfl)
theorem d83_42 : decode (mB 83) 42 = .ok (.getfield 17, 3) := by decide +kernel
theorem x83_42 {d : Nat} {L : Lc} {st : List Value} {a : Nat} {h : Hp} (ht : (h.2.1 a).1 = 10) : ex (d) 83 42 L (.ref a :: st) h = ex d 83 45 L (h.1 a 2 :: st) h := (ex_of d83_42 (d) L (.ref a :: st) h).trans (fin_get (mi := 83) f10_17 (tg1 ht rfl))
theorem d83_45 : decode (mB 83) 45 = .ok (.iload_n 2, 1) := by decide +kernel
theorem x83_45 {d : Nat} {l0 l1 : Option Value} {st : List Value} {x : Int32} {h : Hp} : ex (d) 83 45 [l0, l1, some (.int x)] st h = ex d 83 46 [l0, l1, some (.int x)] (.int x :: st) h := (ex_of d83_45 (d) [l0, l1, some (.int x)] st h).trans (rfl)
theorem d83_46 : decode (mB 83) 46 = .ok (.aaload, 1) := by decide +kernel
theorem x83_46 {d : Nat} {L : Lc} {st : List Value} {a j : Nat} {h : Hp} (ht : 21 ≤ (h.2.1 a).1 ∧ (h.2.1 a).1 ≤ 26) (hj : j < (h.2.1 a).2) (hb : j < 2147483648) : ex (d) 83 46 L (.int (nI j) :: .ref a :: st) h = ex d 83 47 L (h.1 a j :: st) h := (ex_of d83_46 (d) L (.int (nI j) :: .ref a :: st) h).trans (fin_aaload ht hj hb)
theorem d83_47 : decode (mB 83) 47 = .ok (.invokestatic 316, 3) := by decide +kernel
theorem x83_47 {d : Nat} {L : Lc}  {v0 : Int32} {v1 : Value} {h : Hp} (hv1 : isR v1 = true) : ex (d + 1) 83 47 L (v1 :: .int v0 :: []) h = bnd (ex d 132 0 [some (.int v0), some v1, none, none, none] [] h) (fun v h' => ex (d + 1) 83 50 L (v.toList ++ []) h') := (ex_of d83_47 (d + 1) L (v1 :: .int v0 :: []) h).trans (fin_st (mi := 83) i10_316 (Or.inl rfl) (by simp) (by simp [cat1_i, cat1_r, isR_cat1 hv1]) (by simp) (Nat.le_of_ble_eq_true rfl))
theorem d83_50 : decode (mB 83) 50 = .ok (.istore_n 1, 1) := by decide +kernel
theorem x83_50 {d : Nat} {l0 l1 l2 : Option Value} {st : List Value} {x : Int32} {h : Hp} : ex (d) 83 50 [l0, l1, l2] (.int x :: st) h = ex d 83 51 [clr l0, some (.int x), l2] st h := (ex_of d83_50 (d) [l0, l1, l2] (.int x :: st) h).trans (rfl)
theorem d83_51 : decode (mB 83) 51 = .ok (.iinc 2 1, 3) := by decide +kernel
theorem x83_51 {d : Nat} {l0 l1 : Option Value} {st : List Value} {x : Int32} {h : Hp} : ex (d) 83 51 [l0, l1, some (.int x)] st h = ex d 83 54 [l0, clr l1, some (.int (x + (nI 1)))] st h := (ex_of d83_51 (d) [l0, l1, some (.int x)] st h).trans (rfl)
theorem d83_54 : decode (mB 83) 54 = .ok (.goto (-22), 3) := by decide +kernel
theorem x83_54 {d : Nat} {L : Lc} {st : List Value} {h : Hp} : ex (d) 83 54 L st h = ex d 83 32 L st h := (ex_of d83_54 (d) L st h).trans (rfl)
theorem d83_57 : decode (mB 83) 57 = .ok (.iload_n 1, 1) := by decide +kernel
theorem x83_57 {d : Nat} {l0 l2 : Option Value} {st : List Value} {x : Int32} {h : Hp} : ex (d) 83 57 [l0, some (.int x), l2] st h = ex d 83 58 [l0, some (.int x), l2] (.int x :: st) h := (ex_of d83_57 (d) [l0, some (.int x), l2] st h).trans (rfl)
theorem d83_58 : decode (mB 83) 58 = .ok (.bipush 31, 2) := by decide +kernel
theorem x83_58 {d : Nat} {L : Lc} {st : List Value} {h : Hp} : ex (d) 83 58 L st h = ex d 83 60 L (.int (nI 31) :: st) h := (ex_of d83_58 (d) L st h).trans (rfl)
theorem d83_60 : decode (mB 83) 60 = .ok (.imul, 1) := by decide +kernel
theorem x83_60 {d : Nat} {L : Lc} {st : List Value} {x y : Int32} {h : Hp} : ex (d) 83 60 L (.int y :: .int x :: st) h = ex d 83 61 L (.int (x * y) :: st) h := (ex_of d83_60 (d) L (.int y :: .int x :: st) h).trans (rfl)
theorem d83_61 : decode (mB 83) 61 = .ok (.aload_n 0, 1) := by decide +kernel
theorem x83_61 {d : Nat} {l1 l2 : Option Value} {st : List Value} {a : Nat} {h : Hp} : ex (d) 83 61 [some (.ref a), l1, l2] st h = ex d 83 62 [some (.ref a), l1, l2] (.ref a :: st) h := (ex_of d83_61 (d) [some (.ref a), l1, l2] st h).trans (rfl)
theorem d83_62 : decode (mB 83) 62 = .ok (.getfield 280, 3) := by decide +kernel
theorem x83_62 {d : Nat} {L : Lc} {st : List Value} {a : Nat} {h : Hp} (ht : (h.2.1 a).1 = 10) : ex (d) 83 62 L (.ref a :: st) h = ex d 83 65 L (h.1 a 11 :: st) h := (ex_of d83_62 (d) L (.ref a :: st) h).trans (fin_get (mi := 83) f10_280 (tg1 ht rfl))
theorem d83_65 : decode (mB 83) 65 = .ok (.iadd, 1) := by decide +kernel
theorem x83_65 {d : Nat} {L : Lc} {st : List Value} {x y : Int32} {h : Hp} : ex (d) 83 65 L (.int y :: .int x :: st) h = ex d 83 66 L (.int (x + y) :: st) h := (ex_of d83_65 (d) L (.int y :: .int x :: st) h).trans (rfl)
theorem d83_66 : decode (mB 83) 66 = .ok (.istore_n 1, 1) := by decide +kernel
theorem x83_66 {d : Nat} {l0 l1 l2 : Option Value} {st : List Value} {x : Int32} {h : Hp} : ex (d) 83 66 [l0, l1, l2] (.int x :: st) h = ex d 83 67 [clr l0, some (.int x), l2] st h := (ex_of d83_66 (d) [l0, l1, l2] (.int x :: st) h).trans (rfl)
theorem d83_67 : decode (mB 83) 67 = .ok (.iload_n 1, 1) := by decide +kernel
theorem x83_67 {d : Nat} {l0 l2 : Option Value} {st : List Value} {x : Int32} {h : Hp} : ex (d) 83 67 [l0, some (.int x), l2] st h = ex d 83 68 [l0, some (.int x), l2] (.int x :: st) h := (ex_of d83_67 (d) [l0, some (.int x), l2] st h).trans (rfl)
theorem d83_68 : decode (mB 83) 68 = .ok (.bipush 31, 2) := by decide +kernel
theorem x83_68 {d : Nat} {L : Lc} {st : List Value} {h : Hp} : ex (d) 83 68 L st h = ex d 83 70 L (.int (nI 31) :: st) h := (ex_of d83_68 (d) L st h).trans (rfl)
theorem d83_70 : decode (mB 83) 70 = .ok (.imul, 1) := by decide +kernel
theorem x83_70 {d : Nat} {L : Lc} {st : List Value} {x y : Int32} {h : Hp} : ex (d) 83 70 L (.int y :: .int x :: st) h = ex d 83 71 L (.int (x * y) :: st) h := (ex_of d83_70 (d) L (.int y :: .int x :: st) h).trans (rfl)
theorem d83_71 : decode (mB 83) 71 = .ok (.aload_n 0, 1) := by decide +kernel
theorem x83_71 {d : Nat} {l1 l2 : Option Value} {st : List Value} {a : Nat} {h : Hp} : ex (d) 83 71 [some (.ref a), l1, l2] st h = ex d 83 72 [some (.ref a), l1, l2] (.ref a :: st) h := (ex_of d83_71 (d) [some (.ref a), l1, l2] st h).trans (rfl)
theorem d83_72 : decode (mB 83) 72 = .ok (.getfield 156, 3) := by decide +kernel
theorem x83_72 {d : Nat} {L : Lc} {st : List Value} {a : Nat} {h : Hp} (ht : (h.2.1 a).1 = 10) : ex (d) 83 72 L (.ref a :: st) h = ex d 83 75 L (h.1 a 12 :: st) h := (ex_of d83_72 (d) L (.ref a :: st) h).trans (fin_get (mi := 83) f10_156 (tg1 ht rfl))
theorem d83_75 : decode (mB 83) 75 = .ok (.iadd, 1) := by decide +kernel
theorem x83_75 {d : Nat} {L : Lc} {st : List Value} {x y : Int32} {h : Hp} : ex (d) 83 75 L (.int y :: .int x :: st) h = ex d 83 76 L (.int (x + y) :: st) h := (ex_of d83_75 (d) L (.int y :: .int x :: st) h).trans (rfl)
theorem d83_76 : decode (mB 83) 76 = .ok (.istore_n 1, 1) := by decide +kernel
theorem x83_76 {d : Nat} {l0 l1 l2 : Option Value} {st : List Value} {x : Int32} {h : Hp} : ex (d) 83 76 [l0, l1, l2] (.int x :: st) h = ex d 83 77 [clr l0, some (.int x), l2] st h := (ex_of d83_76 (d) [l0, l1, l2] (.int x :: st) h).trans (rfl)
theorem d83_77 : decode (mB 83) 77 = .ok (.iload_n 1, 1) := by decide +kernel
theorem x83_77 {d : Nat} {l0 l2 : Option Value} {st : List Value} {x : Int32} {h : Hp} : ex (d) 83 77 [l0, some (.int x), l2] st h = ex d 83 78 [l0, some (.int x), l2] (.int x :: st) h := (ex_of d83_77 (d) [l0, some (.int x), l2] st h).trans (rfl)
theorem d83_78 : decode (mB 83) 78 = .ok (.bipush 31, 2) := by decide +kernel
theorem x83_78 {d : Nat} {L : Lc} {st : List Value} {h : Hp} : ex (d) 83 78 L st h = ex d 83 80 L (.int (nI 31) :: st) h := (ex_of d83_78 (d) L st h).trans (rfl)
theorem d83_80 : decode (mB 83) 80 = .ok (.imul, 1) := by decide +kernel
theorem x83_80 {d : Nat} {L : Lc} {st : List Value} {x y : Int32} {h : Hp} : ex (d) 83 80 L (.int y :: .int x :: st) h = ex d 83 81 L (.int (x * y) :: st) h := (ex_of d83_80 (d) L (.int y :: .int x :: st) h).trans (rfl)
theorem d83_81 : decode (mB 83) 81 = .ok (.aload_n 0, 1) := by decide +kernel
theorem x83_81 {d : Nat} {l1 l2 : Option Value} {st : List Value} {a : Nat} {h : Hp} : ex (d) 83 81 [some (.ref a), l1, l2] st h = ex d 83 82 [some (.ref a), l1, l2] (.ref a :: st) h := (ex_of d83_81 (d) [some (.ref a), l1, l2] st h).trans (rfl)
theorem d83_82 : decode (mB 83) 82 = .ok (.getfield 304, 3) := by decide +kernel
theorem x83_82 {d : Nat} {L : Lc} {st : List Value} {a : Nat} {h : Hp} (ht : (h.2.1 a).1 = 10) : ex (d) 83 82 L (.ref a :: st) h = ex d 83 85 L (h.1 a 13 :: st) h := (ex_of d83_82 (d) L (.ref a :: st) h).trans (fin_get (mi := 83) f10_304 (tg1 ht rfl))
theorem d83_85 : decode (mB 83) 85 = .ok (.iadd, 1) := by decide +kernel
theorem x83_85 {d : Nat} {L : Lc} {st : List Value} {x y : Int32} {h : Hp} : ex (d) 83 85 L (.int y :: .int x :: st) h = ex d 83 86 L (.int (x + y) :: st) h := (ex_of d83_85 (d) L (.int y :: .int x :: st) h).trans (rfl)
theorem d83_86 : decode (mB 83) 86 = .ok (.istore_n 1, 1) := by decide +kernel
theorem x83_86 {d : Nat} {l0 l1 l2 : Option Value} {st : List Value} {x : Int32} {h : Hp} : ex (d) 83 86 [l0, l1, l2] (.int x :: st) h = ex d 83 87 [clr l0, some (.int x), l2] st h := (ex_of d83_86 (d) [l0, l1, l2] (.int x :: st) h).trans (rfl)
theorem d83_87 : decode (mB 83) 87 = .ok (.iload_n 1, 1) := by decide +kernel
theorem x83_87 {d : Nat} {l0 l2 : Option Value} {st : List Value} {x : Int32} {h : Hp} : ex (d) 83 87 [l0, some (.int x), l2] st h = ex d 83 88 [l0, some (.int x), l2] (.int x :: st) h := (ex_of d83_87 (d) [l0, some (.int x), l2] st h).trans (rfl)
theorem d83_88 : decode (mB 83) 88 = .ok (.bipush 31, 2) := by decide +kernel
theorem x83_88 {d : Nat} {L : Lc} {st : List Value} {h : Hp} : ex (d) 83 88 L st h = ex d 83 90 L (.int (nI 31) :: st) h := (ex_of d83_88 (d) L st h).trans (rfl)
theorem d83_90 : decode (mB 83) 90 = .ok (.imul, 1) := by decide +kernel
theorem x83_90 {d : Nat} {L : Lc} {st : List Value} {x y : Int32} {h : Hp} : ex (d) 83 90 L (.int y :: .int x :: st) h = ex d 83 91 L (.int (x * y) :: st) h := (ex_of d83_90 (d) L (.int y :: .int x :: st) h).trans (rfl)
theorem d83_91 : decode (mB 83) 91 = .ok (.aload_n 0, 1) := by decide +kernel
theorem x83_91 {d : Nat} {l1 l2 : Option Value} {st : List Value} {a : Nat} {h : Hp} : ex (d) 83 91 [some (.ref a), l1, l2] st h = ex d 83 92 [some (.ref a), l1, l2] (.ref a :: st) h := (ex_of d83_91 (d) [some (.ref a), l1, l2] st h).trans (rfl)
theorem d83_92 : decode (mB 83) 92 = .ok (.getfield 307, 3) := by decide +kernel
theorem x83_92 {d : Nat} {L : Lc} {st : List Value} {a : Nat} {h : Hp} (ht : (h.2.1 a).1 = 10) : ex (d) 83 92 L (.ref a :: st) h = ex d 83 95 L (h.1 a 14 :: st) h := (ex_of d83_92 (d) L (.ref a :: st) h).trans (fin_get (mi := 83) f10_307 (tg1 ht rfl))
theorem d83_95 : decode (mB 83) 95 = .ok (.iadd, 1) := by decide +kernel
theorem x83_95 {d : Nat} {L : Lc} {st : List Value} {x y : Int32} {h : Hp} : ex (d) 83 95 L (.int y :: .int x :: st) h = ex d 83 96 L (.int (x + y) :: st) h := (ex_of d83_95 (d) L (.int y :: .int x :: st) h).trans (rfl)
theorem d83_96 : decode (mB 83) 96 = .ok (.ireturn, 1) := by decide +kernel
theorem x83_96 {d : Nat} {L : Lc} {x : Int32} {h : Hp} : ex (d) 83 96 L [.int x] h = some (some (.int x), h) := (ex_of d83_96 (d) L [.int x] h).trans (rfl)
theorem d84_0 : decode (mB 84) 0 = .ok (.aload_n 0, 1) := by decide +kernel
theorem x84_0 {d : Nat} {l1 : Option Value} {st : List Value} {a : Nat} {h : Hp} : ex (d) 84 0 [some (.ref a), l1] st h = ex d 84 1 [some (.ref a), l1] (.ref a :: st) h := (ex_of d84_0 (d) [some (.ref a), l1] st h).trans (rfl)
theorem d84_1 : decode (mB 84) 1 = .ok (.iload_n 1, 1) := by decide +kernel
theorem x84_1 {d : Nat} {l0 : Option Value} {st : List Value} {x : Int32} {h : Hp} : ex (d) 84 1 [l0, some (.int x)] st h = ex d 84 2 [l0, some (.int x)] (.int x :: st) h := (ex_of d84_1 (d) [l0, some (.int x)] st h).trans (rfl)
theorem d84_2 : decode (mB 84) 2 = .ok (.putfield 46, 3) := by decide +kernel
theorem x84_2 {d : Nat} {L : Lc} {st : List Value} {a : Nat} {x : Int32} {h : Hp} (ht : (h.2.1 a).1 = 10) : ex (d) 84 2 L (.int x :: .ref a :: st) h = ex d 84 5 L st (mup h.1 a 16 (.int x), h.2) := (ex_of d84_2 (d) L (.int x :: .ref a :: st) h).trans (fin_put (mi := 84) f10_46 ht rfl rfl (by decide +kernel))
theorem d84_5 : decode (mB 84) 5 = .ok (.iconst (-1), 1) := by decide +kernel
theorem x84_5 {d : Nat} {L : Lc} {st : List Value} {h : Hp} : ex (d) 84 5 L st h = ex d 84 6 L (.int (-1) :: st) h := (ex_of d84_5 (d) L st h).trans (rfl)
theorem d84_6 : decode (mB 84) 6 = .ok (.ireturn, 1) := by decide +kernel
theorem x84_6 {d : Nat} {L : Lc} {x : Int32} {h : Hp} : ex (d) 84 6 L [.int x] h = some (some (.int x), h) := (ex_of d84_6 (d) L [.int x] h).trans (rfl)
theorem d85_0 : decode (mB 85) 0 = .ok (.aload_n 0, 1) := by decide +kernel
theorem x85_0 {d : Nat} {l1 : Option Value} {st : List Value} {a : Nat} {h : Hp} : ex (d) 85 0 [some (.ref a), l1] st h = ex d 85 1 [some (.ref a), l1] (.ref a :: st) h := (ex_of d85_0 (d) [some (.ref a), l1] st h).trans (rfl)
theorem d85_1 : decode (mB 85) 1 = .ok (.iconst 0, 1) := by decide +kernel
theorem x85_1 {d : Nat} {L : Lc} {st : List Value} {h : Hp} : ex (d) 85 1 L st h = ex d 85 2 L (.int (nI 0) :: st) h := (ex_of d85_1 (d) L st h).trans (rfl)
theorem d85_2 : decode (mB 85) 2 = .ok (.putfield 46, 3) := by decide +kernel
theorem x85_2 {d : Nat} {L : Lc} {st : List Value} {a : Nat} {x : Int32} {h : Hp} (ht : (h.2.1 a).1 = 10) : ex (d) 85 2 L (.int x :: .ref a :: st) h = ex d 85 5 L st (mup h.1 a 16 (.int x), h.2) := (ex_of d85_2 (d) L (.int x :: .ref a :: st) h).trans (fin_put (mi := 85) f10_46 ht rfl rfl (by decide +kernel))
theorem d85_5 : decode (mB 85) 5 = .ok (.iload_n 1, 1) := by decide +kernel
theorem x85_5 {d : Nat} {l0 : Option Value} {st : List Value} {x : Int32} {h : Hp} : ex (d) 85 5 [l0, some (.int x)] st h = ex d 85 6 [l0, some (.int x)] (.int x :: st) h := (ex_of d85_5 (d) [l0, some (.int x)] st h).trans (rfl)
theorem d85_6 : decode (mB 85) 6 = .ok (.ireturn, 1) := by decide +kernel
theorem x85_6 {d : Nat} {L : Lc} {x : Int32} {h : Hp} : ex (d) 85 6 L [.int x] h = some (some (.int x), h) := (ex_of d85_6 (d) L [.int x] h).trans (rfl)
theorem d86_0 : decode (mB 86) 0 = .ok (.iload_n 1, 1) := by decide +kernel
theorem x86_0 {d : Nat} {l0 : Option Value} {st : List Value} {x : Int32} {h : Hp} : ex (d) 86 0 [l0, some (.int x)] st h = ex d 86 1 [l0, some (.int x)] (.int x :: st) h := (ex_of d86_0 (d) [l0, some (.int x)] st h).trans (rfl)
theorem d86_1 : decode (mB 86) 1 = .ok (.ifCond .lt 20, 3) := by decide +kernel
theorem x86_1 {d : Nat} {L : Lc} {st : List Value} {x : Int32} {h : Hp} : ex (d) 86 1 L (.int x :: st) h = if x < 0 then ex d 86 21 L st h else ex d 86 4 L st h := (ex_of d86_1 (d) L (.int x :: st) h).trans (fin_brq (off := 20) (tgt := 21) rfl (by decide))
theorem d86_4 : decode (mB 86) 4 = .ok (.iload_n 1, 1) := by decide +kernel
theorem x86_4 {d : Nat} {l0 : Option Value} {st : List Value} {x : Int32} {h : Hp} : ex (d) 86 4 [l0, some (.int x)] st h = ex d 86 5 [l0, some (.int x)] (.int x :: st) h := (ex_of d86_4 (d) [l0, some (.int x)] st h).trans (rfl)
theorem d86_5 : decode (mB 86) 5 = .ok (.aload_n 0, 1) := by decide +kernel
theorem x86_5 {d : Nat} {l1 : Option Value} {st : List Value} {a : Nat} {h : Hp} : ex (d) 86 5 [some (.ref a), l1] st h = ex d 86 6 [some (.ref a), l1] (.ref a :: st) h := (ex_of d86_5 (d) [some (.ref a), l1] st h).trans (rfl)
theorem d86_6 : decode (mB 86) 6 = .ok (.getfield 73, 3) := by decide +kernel
theorem x86_6 {d : Nat} {L : Lc} {st : List Value} {a : Nat} {h : Hp} (ht : (h.2.1 a).1 = 10) : ex (d) 86 6 L (.ref a :: st) h = ex d 86 9 L (h.1 a 1 :: st) h := (ex_of d86_6 (d) L (.ref a :: st) h).trans (fin_get (mi := 86) f10_73 (tg1 ht rfl))
theorem d86_9 : decode (mB 86) 9 = .ok (.if_icmp .ge 12, 3) := by decide +kernel
theorem x86_9 {d : Nat} {L : Lc} {st : List Value} {x y : Int32} {h : Hp} : ex (d) 86 9 L (.int y :: .int x :: st) h = if y ≤ x then ex d 86 21 L st h else ex d 86 12 L st h := (ex_of d86_9 (d) L (.int y :: .int x :: st) h).trans (fin_brq (off := 12) (tgt := 21) rfl (by decide))
theorem d86_12 : decode (mB 86) 12 = .ok (.aload_n 0, 1) := by decide +kernel
theorem x86_12 {d : Nat} {l1 : Option Value} {st : List Value} {a : Nat} {h : Hp} : ex (d) 86 12 [some (.ref a), l1] st h = ex d 86 13 [some (.ref a), l1] (.ref a :: st) h := (ex_of d86_12 (d) [some (.ref a), l1] st h).trans (rfl)
theorem d86_13 : decode (mB 86) 13 = .ok (.getfield 11, 3) := by decide +kernel
theorem x86_13 {d : Nat} {L : Lc} {st : List Value} {a : Nat} {h : Hp} (ht : (h.2.1 a).1 = 10) : ex (d) 86 13 L (.ref a :: st) h = ex d 86 16 L (h.1 a 0 :: st) h := (ex_of d86_13 (d) L (.ref a :: st) h).trans (fin_get (mi := 86) f10_11 (tg1 ht rfl))
theorem d86_16 : decode (mB 86) 16 = .ok (.iload_n 1, 1) := by decide +kernel
theorem x86_16 {d : Nat} {l0 : Option Value} {st : List Value} {x : Int32} {h : Hp} : ex (d) 86 16 [l0, some (.int x)] st h = ex d 86 17 [l0, some (.int x)] (.int x :: st) h := (ex_of d86_16 (d) [l0, some (.int x)] st h).trans (rfl)
theorem d86_17 : decode (mB 86) 17 = .ok (.aaload, 1) := by decide +kernel
theorem x86_17 {d : Nat} {L : Lc} {st : List Value} {a j : Nat} {h : Hp} (ht : 21 ≤ (h.2.1 a).1 ∧ (h.2.1 a).1 ≤ 26) (hj : j < (h.2.1 a).2) (hb : j < 2147483648) : ex (d) 86 17 L (.int (nI j) :: .ref a :: st) h = ex d 86 18 L (h.1 a j :: st) h := (ex_of d86_17 (d) L (.int (nI j) :: .ref a :: st) h).trans (fin_aaload ht hj hb)
theorem d86_18 : decode (mB 86) 18 = .ok (.goto 4, 3) := by decide +kernel
theorem x86_18 {d : Nat} {L : Lc} {st : List Value} {h : Hp} : ex (d) 86 18 L st h = ex d 86 22 L st h := (ex_of d86_18 (d) L st h).trans (rfl)
theorem d86_21 : decode (mB 86) 21 = .ok (.aconst_null, 1) := by decide +kernel
theorem x86_21 {d : Nat} {L : Lc} {st : List Value} {h : Hp} : ex (d) 86 21 L st h = ex d 86 22 L (.null :: st) h := (ex_of d86_21 (d) L st h).trans (rfl)
theorem d86_22 : decode (mB 86) 22 = .ok (.areturn, 1) := by decide +kernel
theorem x86_22 {d : Nat} {L : Lc} {a : Nat} {h : Hp} : ex (d) 86 22 L [.ref a] h = some (some (.ref a), h) := (ex_of d86_22 (d) L [.ref a] h).trans (rfl)
theorem x86_22n {d : Nat} {L : Lc}  {h : Hp} : ex (d) 86 22 L [.null] h = some (some .null, h) := (ex_of d86_22 (d) L [.null] h).trans (rfl)
theorem x86_22q {d : Nat} {L : Lc} {a : Option Nat} {h : Hp} : ex (d) 86 22 L [va_rf a] h = some (some (va_rf a), h) := (ex_of d86_22 (d) L [va_rf a] h).trans (by cases a <;> rfl)
theorem d87_0 : decode (mB 87) 0 = .ok (.iload_n 1, 1) := by decide +kernel
theorem x87_0 {d : Nat} {l0 l2 : Option Value} {st : List Value} {x : Int32} {h : Hp} : ex (d) 87 0 [l0, some (.int x), l2] st h = ex d 87 1 [l0, some (.int x), l2] (.int x :: st) h := (ex_of d87_0 (d) [l0, some (.int x), l2] st h).trans (rfl)
theorem d87_1 : decode (mB 87) 1 = .ok (.sipush 1000, 3) := by decide +kernel
theorem x87_1 {d : Nat} {L : Lc} {st : List Value} {h : Hp} : ex (d) 87 1 L st h = ex d 87 4 L (.int (nI 1000) :: st) h := (ex_of d87_1 (d) L st h).trans (rfl)
theorem d87_4 : decode (mB 87) 4 = .ok (.if_icmp .lt 26, 3) := by decide +kernel
theorem x87_4 {d : Nat} {L : Lc} {st : List Value} {x y : Int32} {h : Hp} : ex (d) 87 4 L (.int y :: .int x :: st) h = if x < y then ex d 87 30 L st h else ex d 87 7 L st h := (ex_of d87_4 (d) L (.int y :: .int x :: st) h).trans (fin_brq (off := 26) (tgt := 30) rfl (by decide))
theorem d87_7 : decode (mB 87) 7 = .ok (.aload_n 0, 1) := by decide +kernel
theorem x87_7 {d : Nat} {l1 l2 : Option Value} {st : List Value} {a : Nat} {h : Hp} : ex (d) 87 7 [some (.ref a), l1, l2] st h = ex d 87 8 [some (.ref a), l1, l2] (.ref a :: st) h := (ex_of d87_7 (d) [some (.ref a), l1, l2] st h).trans (rfl)
theorem d87_8 : decode (mB 87) 8 = .ok (.iload_n 1, 1) := by decide +kernel
theorem x87_8 {d : Nat} {l0 l2 : Option Value} {st : List Value} {x : Int32} {h : Hp} : ex (d) 87 8 [l0, some (.int x), l2] st h = ex d 87 9 [l0, some (.int x), l2] (.int x :: st) h := (ex_of d87_8 (d) [l0, some (.int x), l2] st h).trans (rfl)
theorem d87_9 : decode (mB 87) 9 = .ok (.sipush 1000, 3) := by decide +kernel
theorem x87_9 {d : Nat} {L : Lc} {st : List Value} {h : Hp} : ex (d) 87 9 L st h = ex d 87 12 L (.int (nI 1000) :: st) h := (ex_of d87_9 (d) L st h).trans (rfl)
theorem d87_12 : decode (mB 87) 12 = .ok (.isub, 1) := by decide +kernel
theorem x87_12 {d : Nat} {L : Lc} {st : List Value} {x y : Int32} {h : Hp} : ex (d) 87 12 L (.int y :: .int x :: st) h = ex d 87 13 L (.int (x - y) :: st) h := (ex_of d87_12 (d) L (.int y :: .int x :: st) h).trans (rfl)
theorem d87_13 : decode (mB 87) 13 = .ok (.invokevirtual 111, 3) := by decide +kernel
theorem x87_13 {d : Nat} {L : Lc} {a : Nat} {v0 : Int32} {h : Hp} (ht : (h.2.1 a).1 = 10) : ex (d + 1) 87 13 L (.int v0 :: .ref a :: []) h = bnd (ex d 86 0 [some (.ref a), some (.int v0)] [] h) (fun v h' => ex (d + 1) 87 16 L (v.toList ++ []) h') := (ex_of d87_13 (d + 1) L (.int v0 :: .ref a :: []) h).trans (fin_vi (mi := 87) i10_111 ht rfl rfl (by simp [cat1_i, cat1_r]) (by simp) (Nat.le_of_ble_eq_true rfl))
theorem d87_16 : decode (mB 87) 16 = .ok (.astore_n 2, 1) := by decide +kernel
theorem x87_16 {d : Nat} {l0 l1 l2 : Option Value} {st : List Value} {a : Nat} {h : Hp} : ex (d) 87 16 [l0, l1, l2] (.ref a :: st) h = ex d 87 17 [l0, clr l1, some (.ref a)] st h := (ex_of d87_16 (d) [l0, l1, l2] (.ref a :: st) h).trans (rfl)
theorem x87_16n {d : Nat} {l0 l1 l2 : Option Value} {st : List Value} {h : Hp} : ex (d) 87 16 [l0, l1, l2] (.null :: st) h = ex d 87 17 [l0, clr l1, some .null] st h := (ex_of d87_16 (d) [l0, l1, l2] (.null :: st) h).trans (rfl)
theorem x87_16q {d : Nat} {l0 l1 l2 : Option Value} {st : List Value} {a : Option Nat} {h : Hp} : ex (d) 87 16 [l0, l1, l2] (va_rf a :: st) h = ex d 87 17 [l0, clr l1, some (va_rf a)] st h := (ex_of d87_16 (d) [l0, l1, l2] (va_rf a :: st) h).trans (by cases a <;> rfl)
theorem d87_17 : decode (mB 87) 17 = .ok (.aload_n 2, 1) := by decide +kernel
theorem x87_17 {d : Nat} {l0 l1 : Option Value} {st : List Value} {a : Nat} {h : Hp} : ex (d) 87 17 [l0, l1, some (.ref a)] st h = ex d 87 18 [l0, l1, some (.ref a)] (.ref a :: st) h := (ex_of d87_17 (d) [l0, l1, some (.ref a)] st h).trans (rfl)
theorem x87_17n {d : Nat} {l0 l1 : Option Value} {st : List Value} {h : Hp} : ex (d) 87 17 [l0, l1, some .null] st h = ex d 87 18 [l0, l1, some .null] (.null :: st) h := (ex_of d87_17 (d) [l0, l1, some .null] st h).trans (rfl)
theorem x87_17q {d : Nat} {l0 l1 : Option Value} {st : List Value} {a : Option Nat} {h : Hp} : ex (d) 87 17 [l0, l1, some (va_rf a)] st h = ex d 87 18 [l0, l1, some (va_rf a)] (va_rf a :: st) h := (ex_of d87_17 (d) [l0, l1, some (va_rf a)] st h).trans (by cases a <;> rfl)
theorem d87_18 : decode (mB 87) 18 = .ok (.ifnonnull 7, 3) := by decide +kernel
theorem x87_18n {d : Nat} {L : Lc} {st : List Value} {h : Hp} : ex (d) 87 18 L (.null :: st) h = ex d 87 21 L st h := (ex_of d87_18 (d) L (.null :: st) h).trans (rfl)
theorem x87_18 {d : Nat} {L : Lc} {st : List Value} {a : Nat} {h : Hp} : ex (d) 87 18 L (.ref a :: st) h = ex d 87 25 L st h := (ex_of d87_18 (d) L (.ref a :: st) h).trans (rfl)
theorem d87_21 : decode (mB 87) 21 = .ok (.aconst_null, 1) := by decide +kernel
theorem x87_21 {d : Nat} {L : Lc} {st : List Value} {h : Hp} : ex (d) 87 21 L st h = ex d 87 22 L (.null :: st) h := (ex_of d87_21 (d) L st h).trans (rfl)
theorem d87_22 : decode (mB 87) 22 = .ok (.goto 7, 3) := by decide +kernel
theorem x87_22 {d : Nat} {L : Lc} {st : List Value} {h : Hp} : ex (d) 87 22 L st h = ex d 87 29 L st h := (ex_of d87_22 (d) L st h).trans (rfl)
theorem d87_25 : decode (mB 87) 25 = .ok (.aload_n 2, 1) := by decide +kernel
theorem x87_25 {d : Nat} {l0 l1 : Option Value} {st : List Value} {a : Nat} {h : Hp} : ex (d) 87 25 [l0, l1, some (.ref a)] st h = ex d 87 26 [l0, l1, some (.ref a)] (.ref a :: st) h := (ex_of d87_25 (d) [l0, l1, some (.ref a)] st h).trans (rfl)
theorem x87_25n {d : Nat} {l0 l1 : Option Value} {st : List Value} {h : Hp} : ex (d) 87 25 [l0, l1, some .null] st h = ex d 87 26 [l0, l1, some .null] (.null :: st) h := (ex_of d87_25 (d) [l0, l1, some .null] st h).trans (rfl)
theorem x87_25q {d : Nat} {l0 l1 : Option Value} {st : List Value} {a : Option Nat} {h : Hp} : ex (d) 87 25 [l0, l1, some (va_rf a)] st h = ex d 87 26 [l0, l1, some (va_rf a)] (va_rf a :: st) h := (ex_of d87_25 (d) [l0, l1, some (va_rf a)] st h).trans (by cases a <;> rfl)
theorem d87_26 : decode (mB 87) 26 = .ok (.getfield 320, 3) := by decide +kernel
theorem x87_26 {d : Nat} {L : Lc} {st : List Value} {a : Nat} {h : Hp} (ht : isTh (h.2.1 a).1 = true) : ex (d) 87 26 L (.ref a :: st) h = ex d 87 29 L (h.1 a 5 :: st) h := (ex_of d87_26 (d) L (.ref a :: st) h).trans (fin_get (mi := 87) f10_320 ht)
theorem d87_29 : decode (mB 87) 29 = .ok (.areturn, 1) := by decide +kernel
theorem x87_29 {d : Nat} {L : Lc} {a : Nat} {h : Hp} : ex (d) 87 29 L [.ref a] h = some (some (.ref a), h) := (ex_of d87_29 (d) L [.ref a] h).trans (rfl)
theorem x87_29n {d : Nat} {L : Lc}  {h : Hp} : ex (d) 87 29 L [.null] h = some (some .null, h) := (ex_of d87_29 (d) L [.null] h).trans (rfl)
theorem x87_29q {d : Nat} {L : Lc} {a : Option Nat} {h : Hp} : ex (d) 87 29 L [va_rf a] h = some (some (va_rf a), h) := (ex_of d87_29 (d) L [va_rf a] h).trans (by cases a <;> rfl)
theorem d87_30 : decode (mB 87) 30 = .ok (.iload_n 1, 1) := by decide +kernel
theorem x87_30 {d : Nat} {l0 l2 : Option Value} {st : List Value} {x : Int32} {h : Hp} : ex (d) 87 30 [l0, some (.int x), l2] st h = ex d 87 31 [l0, some (.int x), l2] (.int x :: st) h := (ex_of d87_30 (d) [l0, some (.int x), l2] st h).trans (rfl)
theorem d87_31 : decode (mB 87) 31 = .ok (.ifCond .lt 20, 3) := by decide +kernel
theorem x87_31 {d : Nat} {L : Lc} {st : List Value} {x : Int32} {h : Hp} : ex (d) 87 31 L (.int x :: st) h = if x < 0 then ex d 87 51 L st h else ex d 87 34 L st h := (ex_of d87_31 (d) L (.int x :: st) h).trans (fin_brq (off := 20) (tgt := 51) rfl (by decide))
theorem d87_34 : decode (mB 87) 34 = .ok (.iload_n 1, 1) := by decide +kernel
theorem x87_34 {d : Nat} {l0 l2 : Option Value} {st : List Value} {x : Int32} {h : Hp} : ex (d) 87 34 [l0, some (.int x), l2] st h = ex d 87 35 [l0, some (.int x), l2] (.int x :: st) h := (ex_of d87_34 (d) [l0, some (.int x), l2] st h).trans (rfl)
theorem d87_35 : decode (mB 87) 35 = .ok (.aload_n 0, 1) := by decide +kernel
theorem x87_35 {d : Nat} {l1 l2 : Option Value} {st : List Value} {a : Nat} {h : Hp} : ex (d) 87 35 [some (.ref a), l1, l2] st h = ex d 87 36 [some (.ref a), l1, l2] (.ref a :: st) h := (ex_of d87_35 (d) [some (.ref a), l1, l2] st h).trans (rfl)
theorem d87_36 : decode (mB 87) 36 = .ok (.getfield 54, 3) := by decide +kernel
theorem x87_36 {d : Nat} {L : Lc} {st : List Value} {a : Nat} {h : Hp} (ht : (h.2.1 a).1 = 10) : ex (d) 87 36 L (.ref a :: st) h = ex d 87 39 L (h.1 a 3 :: st) h := (ex_of d87_36 (d) L (.ref a :: st) h).trans (fin_get (mi := 87) f10_54 (tg1 ht rfl))
theorem d87_39 : decode (mB 87) 39 = .ok (.if_icmp .ge 12, 3) := by decide +kernel
theorem x87_39 {d : Nat} {L : Lc} {st : List Value} {x y : Int32} {h : Hp} : ex (d) 87 39 L (.int y :: .int x :: st) h = if y ≤ x then ex d 87 51 L st h else ex d 87 42 L st h := (ex_of d87_39 (d) L (.int y :: .int x :: st) h).trans (fin_brq (off := 12) (tgt := 51) rfl (by decide))
theorem d87_42 : decode (mB 87) 42 = .ok (.aload_n 0, 1) := by decide +kernel
theorem x87_42 {d : Nat} {l1 l2 : Option Value} {st : List Value} {a : Nat} {h : Hp} : ex (d) 87 42 [some (.ref a), l1, l2] st h = ex d 87 43 [some (.ref a), l1, l2] (.ref a :: st) h := (ex_of d87_42 (d) [some (.ref a), l1, l2] st h).trans (rfl)
theorem d87_43 : decode (mB 87) 43 = .ok (.getfield 17, 3) := by decide +kernel
theorem x87_43 {d : Nat} {L : Lc} {st : List Value} {a : Nat} {h : Hp} (ht : (h.2.1 a).1 = 10) : ex (d) 87 43 L (.ref a :: st) h = ex d 87 46 L (h.1 a 2 :: st) h := (ex_of d87_43 (d) L (.ref a :: st) h).trans (fin_get (mi := 87) f10_17 (tg1 ht rfl))
theorem d87_46 : decode (mB 87) 46 = .ok (.iload_n 1, 1) := by decide +kernel
theorem x87_46 {d : Nat} {l0 l2 : Option Value} {st : List Value} {x : Int32} {h : Hp} : ex (d) 87 46 [l0, some (.int x), l2] st h = ex d 87 47 [l0, some (.int x), l2] (.int x :: st) h := (ex_of d87_46 (d) [l0, some (.int x), l2] st h).trans (rfl)
theorem d87_47 : decode (mB 87) 47 = .ok (.aaload, 1) := by decide +kernel
theorem x87_47 {d : Nat} {L : Lc} {st : List Value} {a j : Nat} {h : Hp} (ht : 21 ≤ (h.2.1 a).1 ∧ (h.2.1 a).1 ≤ 26) (hj : j < (h.2.1 a).2) (hb : j < 2147483648) : ex (d) 87 47 L (.int (nI j) :: .ref a :: st) h = ex d 87 48 L (h.1 a j :: st) h := (ex_of d87_47 (d) L (.int (nI j) :: .ref a :: st) h).trans (fin_aaload ht hj hb)
theorem d87_48 : decode (mB 87) 48 = .ok (.goto 4, 3) := by decide +kernel
theorem x87_48 {d : Nat} {L : Lc} {st : List Value} {h : Hp} : ex (d) 87 48 L st h = ex d 87 52 L st h := (ex_of d87_48 (d) L st h).trans (rfl)
theorem d87_51 : decode (mB 87) 51 = .ok (.aconst_null, 1) := by decide +kernel
theorem x87_51 {d : Nat} {L : Lc} {st : List Value} {h : Hp} : ex (d) 87 51 L st h = ex d 87 52 L (.null :: st) h := (ex_of d87_51 (d) L st h).trans (rfl)
theorem d87_52 : decode (mB 87) 52 = .ok (.areturn, 1) := by decide +kernel
theorem x87_52 {d : Nat} {L : Lc} {a : Nat} {h : Hp} : ex (d) 87 52 L [.ref a] h = some (some (.ref a), h) := (ex_of d87_52 (d) L [.ref a] h).trans (rfl)
theorem x87_52n {d : Nat} {L : Lc}  {h : Hp} : ex (d) 87 52 L [.null] h = some (some .null, h) := (ex_of d87_52 (d) L [.null] h).trans (rfl)
theorem x87_52q {d : Nat} {L : Lc} {a : Option Nat} {h : Hp} : ex (d) 87 52 L [va_rf a] h = some (some (va_rf a), h) := (ex_of d87_52 (d) L [va_rf a] h).trans (by cases a <;> rfl)
theorem d88_0 : decode (mB 88) 0 = .ok (.iload_n 1, 1) := by decide +kernel
theorem x88_0 {d : Nat} {l0 : Option Value} {st : List Value} {x : Int32} {h : Hp} : ex (d) 88 0 [l0, some (.int x)] st h = ex d 88 1 [l0, some (.int x)] (.int x :: st) h := (ex_of d88_0 (d) [l0, some (.int x)] st h).trans (rfl)
theorem d88_1 : decode (mB 88) 1 = .ok (.ifCond .lt 20, 3) := by decide +kernel
theorem x88_1 {d : Nat} {L : Lc} {st : List Value} {x : Int32} {h : Hp} : ex (d) 88 1 L (.int x :: st) h = if x < 0 then ex d 88 21 L st h else ex d 88 4 L st h := (ex_of d88_1 (d) L (.int x :: st) h).trans (fin_brq (off := 20) (tgt := 21) rfl (by decide))
theorem d88_4 : decode (mB 88) 4 = .ok (.iload_n 1, 1) := by decide +kernel
theorem x88_4 {d : Nat} {l0 : Option Value} {st : List Value} {x : Int32} {h : Hp} : ex (d) 88 4 [l0, some (.int x)] st h = ex d 88 5 [l0, some (.int x)] (.int x :: st) h := (ex_of d88_4 (d) [l0, some (.int x)] st h).trans (rfl)
theorem d88_5 : decode (mB 88) 5 = .ok (.aload_n 0, 1) := by decide +kernel
theorem x88_5 {d : Nat} {l1 : Option Value} {st : List Value} {a : Nat} {h : Hp} : ex (d) 88 5 [some (.ref a), l1] st h = ex d 88 6 [some (.ref a), l1] (.ref a :: st) h := (ex_of d88_5 (d) [some (.ref a), l1] st h).trans (rfl)
theorem d88_6 : decode (mB 88) 6 = .ok (.getfield 186, 3) := by decide +kernel
theorem x88_6 {d : Nat} {L : Lc} {st : List Value} {a : Nat} {h : Hp} (ht : (h.2.1 a).1 = 10) : ex (d) 88 6 L (.ref a :: st) h = ex d 88 9 L (h.1 a 5 :: st) h := (ex_of d88_6 (d) L (.ref a :: st) h).trans (fin_get (mi := 88) f10_186 (tg1 ht rfl))
theorem d88_9 : decode (mB 88) 9 = .ok (.if_icmp .ge 12, 3) := by decide +kernel
theorem x88_9 {d : Nat} {L : Lc} {st : List Value} {x y : Int32} {h : Hp} : ex (d) 88 9 L (.int y :: .int x :: st) h = if y ≤ x then ex d 88 21 L st h else ex d 88 12 L st h := (ex_of d88_9 (d) L (.int y :: .int x :: st) h).trans (fin_brq (off := 12) (tgt := 21) rfl (by decide))
theorem d88_12 : decode (mB 88) 12 = .ok (.aload_n 0, 1) := by decide +kernel
theorem x88_12 {d : Nat} {l1 : Option Value} {st : List Value} {a : Nat} {h : Hp} : ex (d) 88 12 [some (.ref a), l1] st h = ex d 88 13 [some (.ref a), l1] (.ref a :: st) h := (ex_of d88_12 (d) [some (.ref a), l1] st h).trans (rfl)
theorem d88_13 : decode (mB 88) 13 = .ok (.getfield 23, 3) := by decide +kernel
theorem x88_13 {d : Nat} {L : Lc} {st : List Value} {a : Nat} {h : Hp} (ht : (h.2.1 a).1 = 10) : ex (d) 88 13 L (.ref a :: st) h = ex d 88 16 L (h.1 a 4 :: st) h := (ex_of d88_13 (d) L (.ref a :: st) h).trans (fin_get (mi := 88) f10_23 (tg1 ht rfl))
theorem d88_16 : decode (mB 88) 16 = .ok (.iload_n 1, 1) := by decide +kernel
theorem x88_16 {d : Nat} {l0 : Option Value} {st : List Value} {x : Int32} {h : Hp} : ex (d) 88 16 [l0, some (.int x)] st h = ex d 88 17 [l0, some (.int x)] (.int x :: st) h := (ex_of d88_16 (d) [l0, some (.int x)] st h).trans (rfl)
theorem d88_17 : decode (mB 88) 17 = .ok (.aaload, 1) := by decide +kernel
theorem x88_17 {d : Nat} {L : Lc} {st : List Value} {a j : Nat} {h : Hp} (ht : 21 ≤ (h.2.1 a).1 ∧ (h.2.1 a).1 ≤ 26) (hj : j < (h.2.1 a).2) (hb : j < 2147483648) : ex (d) 88 17 L (.int (nI j) :: .ref a :: st) h = ex d 88 18 L (h.1 a j :: st) h := (ex_of d88_17 (d) L (.int (nI j) :: .ref a :: st) h).trans (fin_aaload ht hj hb)
theorem d88_18 : decode (mB 88) 18 = .ok (.goto 4, 3) := by decide +kernel
theorem x88_18 {d : Nat} {L : Lc} {st : List Value} {h : Hp} : ex (d) 88 18 L st h = ex d 88 22 L st h := (ex_of d88_18 (d) L st h).trans (rfl)
theorem d88_21 : decode (mB 88) 21 = .ok (.aconst_null, 1) := by decide +kernel
theorem x88_21 {d : Nat} {L : Lc} {st : List Value} {h : Hp} : ex (d) 88 21 L st h = ex d 88 22 L (.null :: st) h := (ex_of d88_21 (d) L st h).trans (rfl)
theorem d88_22 : decode (mB 88) 22 = .ok (.areturn, 1) := by decide +kernel
theorem x88_22 {d : Nat} {L : Lc} {a : Nat} {h : Hp} : ex (d) 88 22 L [.ref a] h = some (some (.ref a), h) := (ex_of d88_22 (d) L [.ref a] h).trans (rfl)
theorem x88_22n {d : Nat} {L : Lc}  {h : Hp} : ex (d) 88 22 L [.null] h = some (some .null, h) := (ex_of d88_22 (d) L [.null] h).trans (rfl)
theorem x88_22q {d : Nat} {L : Lc} {a : Option Nat} {h : Hp} : ex (d) 88 22 L [va_rf a] h = some (some (va_rf a), h) := (ex_of d88_22 (d) L [va_rf a] h).trans (by cases a <;> rfl)
theorem d89_0 : decode (mB 89) 0 = .ok (.iload_n 1, 1) := by decide +kernel
theorem x89_0 {d : Nat} {l0 l2 : Option Value} {st : List Value} {x : Int32} {h : Hp} : ex (d) 89 0 [l0, some (.int x), l2] st h = ex d 89 1 [l0, some (.int x), l2] (.int x :: st) h := (ex_of d89_0 (d) [l0, some (.int x), l2] st h).trans (rfl)
theorem d89_1 : decode (mB 89) 1 = .ok (.ifCond .lt 20, 3) := by decide +kernel
theorem x89_1 {d : Nat} {L : Lc} {st : List Value} {x : Int32} {h : Hp} : ex (d) 89 1 L (.int x :: st) h = if x < 0 then ex d 89 21 L st h else ex d 89 4 L st h := (ex_of d89_1 (d) L (.int x :: st) h).trans (fin_brq (off := 20) (tgt := 21) rfl (by decide))
theorem d89_4 : decode (mB 89) 4 = .ok (.iload_n 1, 1) := by decide +kernel
theorem x89_4 {d : Nat} {l0 l2 : Option Value} {st : List Value} {x : Int32} {h : Hp} : ex (d) 89 4 [l0, some (.int x), l2] st h = ex d 89 5 [l0, some (.int x), l2] (.int x :: st) h := (ex_of d89_4 (d) [l0, some (.int x), l2] st h).trans (rfl)
theorem d89_5 : decode (mB 89) 5 = .ok (.aload_n 0, 1) := by decide +kernel
theorem x89_5 {d : Nat} {l1 l2 : Option Value} {st : List Value} {a : Nat} {h : Hp} : ex (d) 89 5 [some (.ref a), l1, l2] st h = ex d 89 6 [some (.ref a), l1, l2] (.ref a :: st) h := (ex_of d89_5 (d) [some (.ref a), l1, l2] st h).trans (rfl)
theorem d89_6 : decode (mB 89) 6 = .ok (.getfield 323, 3) := by decide +kernel
theorem x89_6 {d : Nat} {L : Lc} {st : List Value} {a : Nat} {h : Hp} (ht : (h.2.1 a).1 = 10) : ex (d) 89 6 L (.ref a :: st) h = ex d 89 9 L (h.1 a 7 :: st) h := (ex_of d89_6 (d) L (.ref a :: st) h).trans (fin_get (mi := 89) f10_323 (tg1 ht rfl))
theorem d89_9 : decode (mB 89) 9 = .ok (.if_icmp .ge 12, 3) := by decide +kernel
theorem x89_9 {d : Nat} {L : Lc} {st : List Value} {x y : Int32} {h : Hp} : ex (d) 89 9 L (.int y :: .int x :: st) h = if y ≤ x then ex d 89 21 L st h else ex d 89 12 L st h := (ex_of d89_9 (d) L (.int y :: .int x :: st) h).trans (fin_brq (off := 12) (tgt := 21) rfl (by decide))
theorem d89_12 : decode (mB 89) 12 = .ok (.aload_n 0, 1) := by decide +kernel
theorem x89_12 {d : Nat} {l1 l2 : Option Value} {st : List Value} {a : Nat} {h : Hp} : ex (d) 89 12 [some (.ref a), l1, l2] st h = ex d 89 13 [some (.ref a), l1, l2] (.ref a :: st) h := (ex_of d89_12 (d) [some (.ref a), l1, l2] st h).trans (rfl)
theorem d89_13 : decode (mB 89) 13 = .ok (.getfield 29, 3) := by decide +kernel
theorem x89_13 {d : Nat} {L : Lc} {st : List Value} {a : Nat} {h : Hp} (ht : (h.2.1 a).1 = 10) : ex (d) 89 13 L (.ref a :: st) h = ex d 89 16 L (h.1 a 6 :: st) h := (ex_of d89_13 (d) L (.ref a :: st) h).trans (fin_get (mi := 89) f10_29 (tg1 ht rfl))
theorem d89_16 : decode (mB 89) 16 = .ok (.iload_n 1, 1) := by decide +kernel
theorem x89_16 {d : Nat} {l0 l2 : Option Value} {st : List Value} {x : Int32} {h : Hp} : ex (d) 89 16 [l0, some (.int x), l2] st h = ex d 89 17 [l0, some (.int x), l2] (.int x :: st) h := (ex_of d89_16 (d) [l0, some (.int x), l2] st h).trans (rfl)
theorem d89_17 : decode (mB 89) 17 = .ok (.aaload, 1) := by decide +kernel
theorem x89_17 {d : Nat} {L : Lc} {st : List Value} {a j : Nat} {h : Hp} (ht : 21 ≤ (h.2.1 a).1 ∧ (h.2.1 a).1 ≤ 26) (hj : j < (h.2.1 a).2) (hb : j < 2147483648) : ex (d) 89 17 L (.int (nI j) :: .ref a :: st) h = ex d 89 18 L (h.1 a j :: st) h := (ex_of d89_17 (d) L (.int (nI j) :: .ref a :: st) h).trans (fin_aaload ht hj hb)
theorem d89_18 : decode (mB 89) 18 = .ok (.goto 4, 3) := by decide +kernel
theorem x89_18 {d : Nat} {L : Lc} {st : List Value} {h : Hp} : ex (d) 89 18 L st h = ex d 89 22 L st h := (ex_of d89_18 (d) L st h).trans (rfl)
theorem d89_21 : decode (mB 89) 21 = .ok (.aconst_null, 1) := by decide +kernel
theorem x89_21 {d : Nat} {L : Lc} {st : List Value} {h : Hp} : ex (d) 89 21 L st h = ex d 89 22 L (.null :: st) h := (ex_of d89_21 (d) L st h).trans (rfl)
theorem d89_22 : decode (mB 89) 22 = .ok (.astore_n 2, 1) := by decide +kernel
theorem x89_22 {d : Nat} {l0 l1 l2 : Option Value} {st : List Value} {a : Nat} {h : Hp} : ex (d) 89 22 [l0, l1, l2] (.ref a :: st) h = ex d 89 23 [l0, clr l1, some (.ref a)] st h := (ex_of d89_22 (d) [l0, l1, l2] (.ref a :: st) h).trans (rfl)
theorem x89_22n {d : Nat} {l0 l1 l2 : Option Value} {st : List Value} {h : Hp} : ex (d) 89 22 [l0, l1, l2] (.null :: st) h = ex d 89 23 [l0, clr l1, some .null] st h := (ex_of d89_22 (d) [l0, l1, l2] (.null :: st) h).trans (rfl)
theorem x89_22q {d : Nat} {l0 l1 l2 : Option Value} {st : List Value} {a : Option Nat} {h : Hp} : ex (d) 89 22 [l0, l1, l2] (va_rf a :: st) h = ex d 89 23 [l0, clr l1, some (va_rf a)] st h := (ex_of d89_22 (d) [l0, l1, l2] (va_rf a :: st) h).trans (by cases a <;> rfl)
theorem d89_23 : decode (mB 89) 23 = .ok (.aload_n 2, 1) := by decide +kernel
theorem x89_23 {d : Nat} {l0 l1 : Option Value} {st : List Value} {a : Nat} {h : Hp} : ex (d) 89 23 [l0, l1, some (.ref a)] st h = ex d 89 24 [l0, l1, some (.ref a)] (.ref a :: st) h := (ex_of d89_23 (d) [l0, l1, some (.ref a)] st h).trans (rfl)
theorem x89_23n {d : Nat} {l0 l1 : Option Value} {st : List Value} {h : Hp} : ex (d) 89 23 [l0, l1, some .null] st h = ex d 89 24 [l0, l1, some .null] (.null :: st) h := (ex_of d89_23 (d) [l0, l1, some .null] st h).trans (rfl)
theorem x89_23q {d : Nat} {l0 l1 : Option Value} {st : List Value} {a : Option Nat} {h : Hp} : ex (d) 89 23 [l0, l1, some (va_rf a)] st h = ex d 89 24 [l0, l1, some (va_rf a)] (va_rf a :: st) h := (ex_of d89_23 (d) [l0, l1, some (va_rf a)] st h).trans (by cases a <;> rfl)
theorem d89_24 : decode (mB 89) 24 = .ok (.ifnull 14, 3) := by decide +kernel
theorem x89_24n {d : Nat} {L : Lc} {st : List Value} {h : Hp} : ex (d) 89 24 L (.null :: st) h = ex d 89 38 L st h := (ex_of d89_24 (d) L (.null :: st) h).trans (rfl)
theorem x89_24 {d : Nat} {L : Lc} {st : List Value} {a : Nat} {h : Hp} : ex (d) 89 24 L (.ref a :: st) h = ex d 89 27 L st h := (ex_of d89_24 (d) L (.ref a :: st) h).trans (rfl)
theorem d89_27 : decode (mB 89) 27 = .ok (.aload_n 2, 1) := by decide +kernel
theorem x89_27 {d : Nat} {l0 l1 : Option Value} {st : List Value} {a : Nat} {h : Hp} : ex (d) 89 27 [l0, l1, some (.ref a)] st h = ex d 89 28 [l0, l1, some (.ref a)] (.ref a :: st) h := (ex_of d89_27 (d) [l0, l1, some (.ref a)] st h).trans (rfl)
theorem x89_27n {d : Nat} {l0 l1 : Option Value} {st : List Value} {h : Hp} : ex (d) 89 27 [l0, l1, some .null] st h = ex d 89 28 [l0, l1, some .null] (.null :: st) h := (ex_of d89_27 (d) [l0, l1, some .null] st h).trans (rfl)
theorem x89_27q {d : Nat} {l0 l1 : Option Value} {st : List Value} {a : Option Nat} {h : Hp} : ex (d) 89 27 [l0, l1, some (va_rf a)] st h = ex d 89 28 [l0, l1, some (va_rf a)] (va_rf a :: st) h := (ex_of d89_27 (d) [l0, l1, some (va_rf a)] st h).trans (by cases a <;> rfl)
theorem d89_28 : decode (mB 89) 28 = .ok (.getfield 326, 3) := by decide +kernel
theorem x89_28 {d : Nat} {L : Lc} {st : List Value} {a : Nat} {h : Hp} (ht : (h.2.1 a).1 = 2) : ex (d) 89 28 L (.ref a :: st) h = ex d 89 31 L (h.1 a 2 :: st) h := (ex_of d89_28 (d) L (.ref a :: st) h).trans (fin_get (mi := 89) f10_326 (tg1 ht rfl))
theorem d89_31 : decode (mB 89) 31 = .ok (.ifCond .ne 7, 3) := by decide +kernel
theorem x89_31 {d : Nat} {L : Lc} {st : List Value} {x : Int32} {h : Hp} : ex (d) 89 31 L (.int x :: st) h = if ¬ x = 0 then ex d 89 38 L st h else ex d 89 34 L st h := (ex_of d89_31 (d) L (.int x :: st) h).trans (fin_brq (off := 7) (tgt := 38) rfl (by decide))
theorem d89_34 : decode (mB 89) 34 = .ok (.aload_n 2, 1) := by decide +kernel
theorem x89_34 {d : Nat} {l0 l1 : Option Value} {st : List Value} {a : Nat} {h : Hp} : ex (d) 89 34 [l0, l1, some (.ref a)] st h = ex d 89 35 [l0, l1, some (.ref a)] (.ref a :: st) h := (ex_of d89_34 (d) [l0, l1, some (.ref a)] st h).trans (rfl)
theorem x89_34n {d : Nat} {l0 l1 : Option Value} {st : List Value} {h : Hp} : ex (d) 89 34 [l0, l1, some .null] st h = ex d 89 35 [l0, l1, some .null] (.null :: st) h := (ex_of d89_34 (d) [l0, l1, some .null] st h).trans (rfl)
theorem x89_34q {d : Nat} {l0 l1 : Option Value} {st : List Value} {a : Option Nat} {h : Hp} : ex (d) 89 34 [l0, l1, some (va_rf a)] st h = ex d 89 35 [l0, l1, some (va_rf a)] (va_rf a :: st) h := (ex_of d89_34 (d) [l0, l1, some (va_rf a)] st h).trans (by cases a <;> rfl)
theorem d89_35 : decode (mB 89) 35 = .ok (.goto 4, 3) := by decide +kernel
theorem x89_35 {d : Nat} {L : Lc} {st : List Value} {h : Hp} : ex (d) 89 35 L st h = ex d 89 39 L st h := (ex_of d89_35 (d) L st h).trans (rfl)
theorem d89_38 : decode (mB 89) 38 = .ok (.aconst_null, 1) := by decide +kernel
theorem x89_38 {d : Nat} {L : Lc} {st : List Value} {h : Hp} : ex (d) 89 38 L st h = ex d 89 39 L (.null :: st) h := (ex_of d89_38 (d) L st h).trans (rfl)
theorem d89_39 : decode (mB 89) 39 = .ok (.areturn, 1) := by decide +kernel
theorem x89_39 {d : Nat} {L : Lc} {a : Nat} {h : Hp} : ex (d) 89 39 L [.ref a] h = some (some (.ref a), h) := (ex_of d89_39 (d) L [.ref a] h).trans (rfl)
theorem x89_39n {d : Nat} {L : Lc}  {h : Hp} : ex (d) 89 39 L [.null] h = some (some .null, h) := (ex_of d89_39 (d) L [.null] h).trans (rfl)
theorem x89_39q {d : Nat} {L : Lc} {a : Option Nat} {h : Hp} : ex (d) 89 39 L [va_rf a] h = some (some (va_rf a), h) := (ex_of d89_39 (d) L [va_rf a] h).trans (by cases a <;> rfl)
theorem d90_0 : decode (mB 90) 0 = .ok (.aload_n 0, 1) := by decide +kernel
theorem x90_0 {d : Nat} {l1 l2 l3 l4 : Option Value} {st : List Value} {a : Nat} {h : Hp} : ex (d) 90 0 [some (.ref a), l1, l2, l3, l4] st h = ex d 90 1 [some (.ref a), l1, l2, l3, l4] (.ref a :: st) h := (ex_of d90_0 (d) [some (.ref a), l1, l2, l3, l4] st h).trans (rfl)
theorem d90_1 : decode (mB 90) 1 = .ok (.iload_n 1, 1) := by decide +kernel
theorem x90_1 {d : Nat} {l0 l2 l3 l4 : Option Value} {st : List Value} {x : Int32} {h : Hp} : ex (d) 90 1 [l0, some (.int x), l2, l3, l4] st h = ex d 90 2 [l0, some (.int x), l2, l3, l4] (.int x :: st) h := (ex_of d90_1 (d) [l0, some (.int x), l2, l3, l4] st h).trans (rfl)
theorem d90_2 : decode (mB 90) 2 = .ok (.invokevirtual 111, 3) := by decide +kernel
theorem x90_2 {d : Nat} {L : Lc} {a : Nat} {v0 : Int32} {h : Hp} (ht : (h.2.1 a).1 = 10) : ex (d + 1) 90 2 L (.int v0 :: .ref a :: []) h = bnd (ex d 86 0 [some (.ref a), some (.int v0)] [] h) (fun v h' => ex (d + 1) 90 5 L (v.toList ++ []) h') := (ex_of d90_2 (d + 1) L (.int v0 :: .ref a :: []) h).trans (fin_vi (mi := 90) i10_111 ht rfl rfl (by simp [cat1_i, cat1_r]) (by simp) (Nat.le_of_ble_eq_true rfl))
theorem d90_5 : decode (mB 90) 5 = .ok (.astore_n 3, 1) := by decide +kernel
theorem x90_5 {d : Nat} {l0 l1 l2 l3 l4 : Option Value} {st : List Value} {a : Nat} {h : Hp} : ex (d) 90 5 [l0, l1, l2, l3, l4] (.ref a :: st) h = ex d 90 6 [l0, l1, clr l2, some (.ref a), l4] st h := (ex_of d90_5 (d) [l0, l1, l2, l3, l4] (.ref a :: st) h).trans (rfl)
theorem x90_5n {d : Nat} {l0 l1 l2 l3 l4 : Option Value} {st : List Value} {h : Hp} : ex (d) 90 5 [l0, l1, l2, l3, l4] (.null :: st) h = ex d 90 6 [l0, l1, clr l2, some .null, l4] st h := (ex_of d90_5 (d) [l0, l1, l2, l3, l4] (.null :: st) h).trans (rfl)
theorem x90_5q {d : Nat} {l0 l1 l2 l3 l4 : Option Value} {st : List Value} {a : Option Nat} {h : Hp} : ex (d) 90 5 [l0, l1, l2, l3, l4] (va_rf a :: st) h = ex d 90 6 [l0, l1, clr l2, some (va_rf a), l4] st h := (ex_of d90_5 (d) [l0, l1, l2, l3, l4] (va_rf a :: st) h).trans (by cases a <;> rfl)
theorem d90_6 : decode (mB 90) 6 = .ok (.aload_n 3, 1) := by decide +kernel
theorem x90_6 {d : Nat} {l0 l1 l2 l4 : Option Value} {st : List Value} {a : Nat} {h : Hp} : ex (d) 90 6 [l0, l1, l2, some (.ref a), l4] st h = ex d 90 7 [l0, l1, l2, some (.ref a), l4] (.ref a :: st) h := (ex_of d90_6 (d) [l0, l1, l2, some (.ref a), l4] st h).trans (rfl)
theorem x90_6n {d : Nat} {l0 l1 l2 l4 : Option Value} {st : List Value} {h : Hp} : ex (d) 90 6 [l0, l1, l2, some .null, l4] st h = ex d 90 7 [l0, l1, l2, some .null, l4] (.null :: st) h := (ex_of d90_6 (d) [l0, l1, l2, some .null, l4] st h).trans (rfl)
theorem x90_6q {d : Nat} {l0 l1 l2 l4 : Option Value} {st : List Value} {a : Option Nat} {h : Hp} : ex (d) 90 6 [l0, l1, l2, some (va_rf a), l4] st h = ex d 90 7 [l0, l1, l2, some (va_rf a), l4] (va_rf a :: st) h := (ex_of d90_6 (d) [l0, l1, l2, some (va_rf a), l4] st h).trans (by cases a <;> rfl)
theorem d90_7 : decode (mB 90) 7 = .ok (.ifnonnull 12, 3) := by decide +kernel
theorem x90_7n {d : Nat} {L : Lc} {st : List Value} {h : Hp} : ex (d) 90 7 L (.null :: st) h = ex d 90 10 L st h := (ex_of d90_7 (d) L (.null :: st) h).trans (rfl)
theorem x90_7 {d : Nat} {L : Lc} {st : List Value} {a : Nat} {h : Hp} : ex (d) 90 7 L (.ref a :: st) h = ex d 90 19 L st h := (ex_of d90_7 (d) L (.ref a :: st) h).trans (rfl)
theorem d90_10 : decode (mB 90) 10 = .ok (.aload_n 0, 1) := by decide +kernel
theorem x90_10 {d : Nat} {l1 l2 l3 l4 : Option Value} {st : List Value} {a : Nat} {h : Hp} : ex (d) 90 10 [some (.ref a), l1, l2, l3, l4] st h = ex d 90 11 [some (.ref a), l1, l2, l3, l4] (.ref a :: st) h := (ex_of d90_10 (d) [some (.ref a), l1, l2, l3, l4] st h).trans (rfl)
theorem d90_11 : decode (mB 90) 11 = .ok (.bipush 10, 2) := by decide +kernel
theorem x90_11 {d : Nat} {L : Lc} {st : List Value} {h : Hp} : ex (d) 90 11 L st h = ex d 90 13 L (.int (nI 10) :: st) h := (ex_of d90_11 (d) L st h).trans (rfl)
theorem d90_13 : decode (mB 90) 13 = .ok (.invokevirtual 57, 3) := by decide +kernel
theorem x90_13 {d : Nat} {L : Lc} {a : Nat} {v0 : Int32} {h : Hp} (ht : (h.2.1 a).1 = 10) : ex (d + 1) 90 13 L (.int v0 :: .ref a :: []) h = bnd (ex d 84 0 [some (.ref a), some (.int v0)] [] h) (fun v h' => ex (d + 1) 90 16 L (v.toList ++ []) h') := (ex_of d90_13 (d + 1) L (.int v0 :: .ref a :: []) h).trans (fin_vi (mi := 90) i10_57 ht rfl rfl (by simp [cat1_i, cat1_r]) (by simp) (Nat.le_of_ble_eq_true rfl))
theorem d90_16 : decode (mB 90) 16 = .ok (.pop, 1) := by decide +kernel
theorem x90_16 {d : Nat} {L : Lc} {st : List Value} {x : Int32} {h : Hp} : ex (d) 90 16 L (.int x :: st) h = ex d 90 17 L st h := (ex_of d90_16 (d) L (.int x :: st) h).trans (rfl)
theorem d90_17 : decode (mB 90) 17 = .ok (.aconst_null, 1) := by decide +kernel
theorem x90_17 {d : Nat} {L : Lc} {st : List Value} {h : Hp} : ex (d) 90 17 L st h = ex d 90 18 L (.null :: st) h := (ex_of d90_17 (d) L st h).trans (rfl)
theorem d90_18 : decode (mB 90) 18 = .ok (.areturn, 1) := by decide +kernel
theorem x90_18 {d : Nat} {L : Lc} {a : Nat} {h : Hp} : ex (d) 90 18 L [.ref a] h = some (some (.ref a), h) := (ex_of d90_18 (d) L [.ref a] h).trans (rfl)
theorem x90_18n {d : Nat} {L : Lc}  {h : Hp} : ex (d) 90 18 L [.null] h = some (some .null, h) := (ex_of d90_18 (d) L [.null] h).trans (rfl)
theorem x90_18q {d : Nat} {L : Lc} {a : Option Nat} {h : Hp} : ex (d) 90 18 L [va_rf a] h = some (some (va_rf a), h) := (ex_of d90_18 (d) L [va_rf a] h).trans (by cases a <;> rfl)
theorem d90_19 : decode (mB 90) 19 = .ok (.aload_n 3, 1) := by decide +kernel
theorem x90_19 {d : Nat} {l0 l1 l2 l4 : Option Value} {st : List Value} {a : Nat} {h : Hp} : ex (d) 90 19 [l0, l1, l2, some (.ref a), l4] st h = ex d 90 20 [l0, l1, l2, some (.ref a), l4] (.ref a :: st) h := (ex_of d90_19 (d) [l0, l1, l2, some (.ref a), l4] st h).trans (rfl)
theorem x90_19n {d : Nat} {l0 l1 l2 l4 : Option Value} {st : List Value} {h : Hp} : ex (d) 90 19 [l0, l1, l2, some .null, l4] st h = ex d 90 20 [l0, l1, l2, some .null, l4] (.null :: st) h := (ex_of d90_19 (d) [l0, l1, l2, some .null, l4] st h).trans (rfl)
theorem x90_19q {d : Nat} {l0 l1 l2 l4 : Option Value} {st : List Value} {a : Option Nat} {h : Hp} : ex (d) 90 19 [l0, l1, l2, some (va_rf a), l4] st h = ex d 90 20 [l0, l1, l2, some (va_rf a), l4] (va_rf a :: st) h := (ex_of d90_19 (d) [l0, l1, l2, some (va_rf a), l4] st h).trans (by cases a <;> rfl)
theorem d90_20 : decode (mB 90) 20 = .ok (.instanceof 87, 3) := by decide +kernel
theorem x90_20 {d : Nat} {L : Lc} {st : List Value} {a : Nat} {h : Hp} (ht : casts.contains ((h.2.1 a).1, 8) = true) : ex (d) 90 20 L (.ref a :: st) h = ex d 90 23 L (.int (nI 1) :: st) h := (ex_of d90_20 (d) L (.ref a :: st) h).trans (fin_ins (mi := 90) k10_87 rfl ht)
theorem x90_20o {d : Nat} {L : Lc} {st : List Value} {a : Nat} {h : Hp} (ht : nocasts.contains ((h.2.1 a).1, 8) = true) : ex (d) 90 20 L (.ref a :: st) h = ex d 90 23 L (.int (nI 0) :: st) h := (ex_of d90_20 (d) L (.ref a :: st) h).trans (fin_inso (mi := 90) k10_87 rfl ht)
theorem x90_20n {d : Nat} {L : Lc} {st : List Value} {h : Hp} : ex (d) 90 20 L (.null :: st) h = ex d 90 23 L (.int (nI 0) :: st) h := (ex_of d90_20 (d) L (.null :: st) h).trans (fin_insn (mi := 90) k10_87)
theorem d90_23 : decode (mB 90) 23 = .ok (.ifCond .eq 29, 3) := by decide +kernel
theorem x90_23 {d : Nat} {L : Lc} {st : List Value} {x : Int32} {h : Hp} : ex (d) 90 23 L (.int x :: st) h = if x = 0 then ex d 90 52 L st h else ex d 90 26 L st h := (ex_of d90_23 (d) L (.int x :: st) h).trans (fin_brq (off := 29) (tgt := 52) rfl (by decide))
theorem d90_26 : decode (mB 90) 26 = .ok (.aload_n 3, 1) := by decide +kernel
theorem x90_26 {d : Nat} {l0 l1 l2 l4 : Option Value} {st : List Value} {a : Nat} {h : Hp} : ex (d) 90 26 [l0, l1, l2, some (.ref a), l4] st h = ex d 90 27 [l0, l1, l2, some (.ref a), l4] (.ref a :: st) h := (ex_of d90_26 (d) [l0, l1, l2, some (.ref a), l4] st h).trans (rfl)
theorem x90_26n {d : Nat} {l0 l1 l2 l4 : Option Value} {st : List Value} {h : Hp} : ex (d) 90 26 [l0, l1, l2, some .null, l4] st h = ex d 90 27 [l0, l1, l2, some .null, l4] (.null :: st) h := (ex_of d90_26 (d) [l0, l1, l2, some .null, l4] st h).trans (rfl)
theorem x90_26q {d : Nat} {l0 l1 l2 l4 : Option Value} {st : List Value} {a : Option Nat} {h : Hp} : ex (d) 90 26 [l0, l1, l2, some (va_rf a), l4] st h = ex d 90 27 [l0, l1, l2, some (va_rf a), l4] (va_rf a :: st) h := (ex_of d90_26 (d) [l0, l1, l2, some (va_rf a), l4] st h).trans (by cases a <;> rfl)
theorem d90_27 : decode (mB 90) 27 = .ok (.checkcast 87, 3) := by decide +kernel
theorem x90_27 {d : Nat} {L : Lc} {st : List Value} {a : Nat} {h : Hp} (ht : casts.contains ((h.2.1 a).1, 8) = true) : ex (d) 90 27 L (.ref a :: st) h = ex d 90 30 L (.ref a :: st) h := (ex_of d90_27 (d) L (.ref a :: st) h).trans (fin_ckc (mi := 90) k10_87 rfl ht)
theorem d90_30 : decode (mB 90) 30 = .ok (.astore 4, 2) := by decide +kernel
theorem x90_30 {d : Nat} {l0 l1 l2 l3 l4 : Option Value} {st : List Value} {a : Nat} {h : Hp} : ex (d) 90 30 [l0, l1, l2, l3, l4] (.ref a :: st) h = ex d 90 32 [l0, l1, l2, clr l3, some (.ref a)] st h := (ex_of d90_30 (d) [l0, l1, l2, l3, l4] (.ref a :: st) h).trans (rfl)
theorem x90_30n {d : Nat} {l0 l1 l2 l3 l4 : Option Value} {st : List Value} {h : Hp} : ex (d) 90 30 [l0, l1, l2, l3, l4] (.null :: st) h = ex d 90 32 [l0, l1, l2, clr l3, some .null] st h := (ex_of d90_30 (d) [l0, l1, l2, l3, l4] (.null :: st) h).trans (rfl)
theorem x90_30q {d : Nat} {l0 l1 l2 l3 l4 : Option Value} {st : List Value} {a : Option Nat} {h : Hp} : ex (d) 90 30 [l0, l1, l2, l3, l4] (va_rf a :: st) h = ex d 90 32 [l0, l1, l2, clr l3, some (va_rf a)] st h := (ex_of d90_30 (d) [l0, l1, l2, l3, l4] (va_rf a :: st) h).trans (by cases a <;> rfl)
theorem d90_32 : decode (mB 90) 32 = .ok (.aload 4, 2) := by decide +kernel
theorem x90_32 {d : Nat} {l0 l1 l2 l3 : Option Value} {st : List Value} {a : Nat} {h : Hp} : ex (d) 90 32 [l0, l1, l2, l3, some (.ref a)] st h = ex d 90 34 [l0, l1, l2, l3, some (.ref a)] (.ref a :: st) h := (ex_of d90_32 (d) [l0, l1, l2, l3, some (.ref a)] st h).trans (rfl)
theorem x90_32n {d : Nat} {l0 l1 l2 l3 : Option Value} {st : List Value} {h : Hp} : ex (d) 90 32 [l0, l1, l2, l3, some .null] st h = ex d 90 34 [l0, l1, l2, l3, some .null] (.null :: st) h := (ex_of d90_32 (d) [l0, l1, l2, l3, some .null] st h).trans (rfl)
theorem x90_32q {d : Nat} {l0 l1 l2 l3 : Option Value} {st : List Value} {a : Option Nat} {h : Hp} : ex (d) 90 32 [l0, l1, l2, l3, some (va_rf a)] st h = ex d 90 34 [l0, l1, l2, l3, some (va_rf a)] (va_rf a :: st) h := (ex_of d90_32 (d) [l0, l1, l2, l3, some (va_rf a)] st h).trans (by cases a <;> rfl)
theorem d90_34 : decode (mB 90) 34 = .ok (.iload_n 2, 1) := by decide +kernel
theorem x90_34 {d : Nat} {l0 l1 l3 l4 : Option Value} {st : List Value} {x : Int32} {h : Hp} : ex (d) 90 34 [l0, l1, some (.int x), l3, l4] st h = ex d 90 35 [l0, l1, some (.int x), l3, l4] (.int x :: st) h := (ex_of d90_34 (d) [l0, l1, some (.int x), l3, l4] st h).trans (rfl)
theorem d90_35 : decode (mB 90) 35 = .ok (.invokevirtual 329, 3) := by decide +kernel
theorem x90_35 {d : Nat} {L : Lc} {a : Nat} {v0 : Int32} {h : Hp} (ht : (h.2.1 a).1 = 8) : ex (d + 1) 90 35 L (.int v0 :: .ref a :: []) h = bnd (ex d 36 0 [some (.ref a), some (.int v0)] [] h) (fun v h' => ex (d + 1) 90 38 L (v.toList ++ []) h') := (ex_of d90_35 (d + 1) L (.int v0 :: .ref a :: []) h).trans (fin_vi (mi := 90) i10_329 ht rfl rfl (by simp [cat1_i, cat1_r]) (by simp) (Nat.le_of_ble_eq_true rfl))
theorem d90_38 : decode (mB 90) 38 = .ok (.ifCond .eq 6, 3) := by decide +kernel
theorem x90_38 {d : Nat} {L : Lc} {st : List Value} {x : Int32} {h : Hp} : ex (d) 90 38 L (.int x :: st) h = if x = 0 then ex d 90 44 L st h else ex d 90 41 L st h := (ex_of d90_38 (d) L (.int x :: st) h).trans (fin_brq (off := 6) (tgt := 44) rfl (by decide))
theorem d90_41 : decode (mB 90) 41 = .ok (.aload 4, 2) := by decide +kernel
theorem x90_41 {d : Nat} {l0 l1 l2 l3 : Option Value} {st : List Value} {a : Nat} {h : Hp} : ex (d) 90 41 [l0, l1, l2, l3, some (.ref a)] st h = ex d 90 43 [l0, l1, l2, l3, some (.ref a)] (.ref a :: st) h := (ex_of d90_41 (d) [l0, l1, l2, l3, some (.ref a)] st h).trans (rfl)
theorem x90_41n {d : Nat} {l0 l1 l2 l3 : Option Value} {st : List Value} {h : Hp} : ex (d) 90 41 [l0, l1, l2, l3, some .null] st h = ex d 90 43 [l0, l1, l2, l3, some .null] (.null :: st) h := (ex_of d90_41 (d) [l0, l1, l2, l3, some .null] st h).trans (rfl)
theorem x90_41q {d : Nat} {l0 l1 l2 l3 : Option Value} {st : List Value} {a : Option Nat} {h : Hp} : ex (d) 90 41 [l0, l1, l2, l3, some (va_rf a)] st h = ex d 90 43 [l0, l1, l2, l3, some (va_rf a)] (va_rf a :: st) h := (ex_of d90_41 (d) [l0, l1, l2, l3, some (va_rf a)] st h).trans (by cases a <;> rfl)
theorem d90_43 : decode (mB 90) 43 = .ok (.areturn, 1) := by decide +kernel
theorem x90_43 {d : Nat} {L : Lc} {a : Nat} {h : Hp} : ex (d) 90 43 L [.ref a] h = some (some (.ref a), h) := (ex_of d90_43 (d) L [.ref a] h).trans (rfl)
theorem x90_43n {d : Nat} {L : Lc}  {h : Hp} : ex (d) 90 43 L [.null] h = some (some .null, h) := (ex_of d90_43 (d) L [.null] h).trans (rfl)
theorem x90_43q {d : Nat} {L : Lc} {a : Option Nat} {h : Hp} : ex (d) 90 43 L [va_rf a] h = some (some (va_rf a), h) := (ex_of d90_43 (d) L [va_rf a] h).trans (by cases a <;> rfl)
theorem d90_44 : decode (mB 90) 44 = .ok (.aload_n 0, 1) := by decide +kernel
theorem x90_44 {d : Nat} {l1 l2 l3 l4 : Option Value} {st : List Value} {a : Nat} {h : Hp} : ex (d) 90 44 [some (.ref a), l1, l2, l3, l4] st h = ex d 90 45 [some (.ref a), l1, l2, l3, l4] (.ref a :: st) h := (ex_of d90_44 (d) [some (.ref a), l1, l2, l3, l4] st h).trans (rfl)
theorem d90_45 : decode (mB 90) 45 = .ok (.iconst 2, 1) := by decide +kernel
theorem x90_45 {d : Nat} {L : Lc} {st : List Value} {h : Hp} : ex (d) 90 45 L st h = ex d 90 46 L (.int (nI 2) :: st) h := (ex_of d90_45 (d) L st h).trans (rfl)
theorem d90_46 : decode (mB 90) 46 = .ok (.invokevirtual 57, 3) := by decide +kernel
theorem x90_46 {d : Nat} {L : Lc} {a : Nat} {v0 : Int32} {h : Hp} (ht : (h.2.1 a).1 = 10) : ex (d + 1) 90 46 L (.int v0 :: .ref a :: []) h = bnd (ex d 84 0 [some (.ref a), some (.int v0)] [] h) (fun v h' => ex (d + 1) 90 49 L (v.toList ++ []) h') := (ex_of d90_46 (d + 1) L (.int v0 :: .ref a :: []) h).trans (fin_vi (mi := 90) i10_57 ht rfl rfl (by simp [cat1_i, cat1_r]) (by simp) (Nat.le_of_ble_eq_true rfl))
theorem d90_49 : decode (mB 90) 49 = .ok (.pop, 1) := by decide +kernel
theorem x90_49 {d : Nat} {L : Lc} {st : List Value} {x : Int32} {h : Hp} : ex (d) 90 49 L (.int x :: st) h = ex d 90 50 L st h := (ex_of d90_49 (d) L (.int x :: st) h).trans (rfl)
theorem d90_50 : decode (mB 90) 50 = .ok (.aconst_null, 1) := by decide +kernel
theorem x90_50 {d : Nat} {L : Lc} {st : List Value} {h : Hp} : ex (d) 90 50 L st h = ex d 90 51 L (.null :: st) h := (ex_of d90_50 (d) L st h).trans (rfl)
theorem d90_51 : decode (mB 90) 51 = .ok (.areturn, 1) := by decide +kernel
theorem x90_51 {d : Nat} {L : Lc} {a : Nat} {h : Hp} : ex (d) 90 51 L [.ref a] h = some (some (.ref a), h) := (ex_of d90_51 (d) L [.ref a] h).trans (rfl)
theorem x90_51n {d : Nat} {L : Lc}  {h : Hp} : ex (d) 90 51 L [.null] h = some (some .null, h) := (ex_of d90_51 (d) L [.null] h).trans (rfl)
theorem x90_51q {d : Nat} {L : Lc} {a : Option Nat} {h : Hp} : ex (d) 90 51 L [va_rf a] h = some (some (va_rf a), h) := (ex_of d90_51 (d) L [va_rf a] h).trans (by cases a <;> rfl)
theorem d90_52 : decode (mB 90) 52 = .ok (.aload_n 0, 1) := by decide +kernel
theorem x90_52 {d : Nat} {l1 l2 l3 l4 : Option Value} {st : List Value} {a : Nat} {h : Hp} : ex (d) 90 52 [some (.ref a), l1, l2, l3, l4] st h = ex d 90 53 [some (.ref a), l1, l2, l3, l4] (.ref a :: st) h := (ex_of d90_52 (d) [some (.ref a), l1, l2, l3, l4] st h).trans (rfl)
theorem d90_53 : decode (mB 90) 53 = .ok (.iconst 4, 1) := by decide +kernel
theorem x90_53 {d : Nat} {L : Lc} {st : List Value} {h : Hp} : ex (d) 90 53 L st h = ex d 90 54 L (.int (nI 4) :: st) h := (ex_of d90_53 (d) L st h).trans (rfl)
theorem d90_54 : decode (mB 90) 54 = .ok (.invokevirtual 57, 3) := by decide +kernel
theorem x90_54 {d : Nat} {L : Lc} {a : Nat} {v0 : Int32} {h : Hp} (ht : (h.2.1 a).1 = 10) : ex (d + 1) 90 54 L (.int v0 :: .ref a :: []) h = bnd (ex d 84 0 [some (.ref a), some (.int v0)] [] h) (fun v h' => ex (d + 1) 90 57 L (v.toList ++ []) h') := (ex_of d90_54 (d + 1) L (.int v0 :: .ref a :: []) h).trans (fin_vi (mi := 90) i10_57 ht rfl rfl (by simp [cat1_i, cat1_r]) (by simp) (Nat.le_of_ble_eq_true rfl))
theorem d90_57 : decode (mB 90) 57 = .ok (.pop, 1) := by decide +kernel
theorem x90_57 {d : Nat} {L : Lc} {st : List Value} {x : Int32} {h : Hp} : ex (d) 90 57 L (.int x :: st) h = ex d 90 58 L st h := (ex_of d90_57 (d) L (.int x :: st) h).trans (rfl)
theorem d90_58 : decode (mB 90) 58 = .ok (.aconst_null, 1) := by decide +kernel
theorem x90_58 {d : Nat} {L : Lc} {st : List Value} {h : Hp} : ex (d) 90 58 L st h = ex d 90 59 L (.null :: st) h := (ex_of d90_58 (d) L st h).trans (rfl)
theorem d90_59 : decode (mB 90) 59 = .ok (.areturn, 1) := by decide +kernel
theorem x90_59 {d : Nat} {L : Lc} {a : Nat} {h : Hp} : ex (d) 90 59 L [.ref a] h = some (some (.ref a), h) := (ex_of d90_59 (d) L [.ref a] h).trans (rfl)
theorem x90_59n {d : Nat} {L : Lc}  {h : Hp} : ex (d) 90 59 L [.null] h = some (some .null, h) := (ex_of d90_59 (d) L [.null] h).trans (rfl)
theorem x90_59q {d : Nat} {L : Lc} {a : Option Nat} {h : Hp} : ex (d) 90 59 L [va_rf a] h = some (some (va_rf a), h) := (ex_of d90_59 (d) L [va_rf a] h).trans (by cases a <;> rfl)
theorem d91_0 : decode (mB 91) 0 = .ok (.aload_n 0, 1) := by decide +kernel
theorem x91_0 {d : Nat} {l1 l2 l3 l4 : Option Value} {st : List Value} {a : Nat} {h : Hp} : ex (d) 91 0 [some (.ref a), l1, l2, l3, l4] st h = ex d 91 1 [some (.ref a), l1, l2, l3, l4] (.ref a :: st) h := (ex_of d91_0 (d) [some (.ref a), l1, l2, l3, l4] st h).trans (rfl)
theorem d91_1 : decode (mB 91) 1 = .ok (.iload_n 1, 1) := by decide +kernel
theorem x91_1 {d : Nat} {l0 l2 l3 l4 : Option Value} {st : List Value} {x : Int32} {h : Hp} : ex (d) 91 1 [l0, some (.int x), l2, l3, l4] st h = ex d 91 2 [l0, some (.int x), l2, l3, l4] (.int x :: st) h := (ex_of d91_1 (d) [l0, some (.int x), l2, l3, l4] st h).trans (rfl)
theorem d91_2 : decode (mB 91) 2 = .ok (.invokevirtual 111, 3) := by decide +kernel
theorem x91_2 {d : Nat} {L : Lc} {a : Nat} {v0 : Int32} {h : Hp} (ht : (h.2.1 a).1 = 10) : ex (d + 1) 91 2 L (.int v0 :: .ref a :: []) h = bnd (ex d 86 0 [some (.ref a), some (.int v0)] [] h) (fun v h' => ex (d + 1) 91 5 L (v.toList ++ []) h') := (ex_of d91_2 (d + 1) L (.int v0 :: .ref a :: []) h).trans (fin_vi (mi := 91) i10_111 ht rfl rfl (by simp [cat1_i, cat1_r]) (by simp) (Nat.le_of_ble_eq_true rfl))
theorem d91_5 : decode (mB 91) 5 = .ok (.astore_n 3, 1) := by decide +kernel
theorem x91_5 {d : Nat} {l0 l1 l2 l3 l4 : Option Value} {st : List Value} {a : Nat} {h : Hp} : ex (d) 91 5 [l0, l1, l2, l3, l4] (.ref a :: st) h = ex d 91 6 [l0, l1, clr l2, some (.ref a), l4] st h := (ex_of d91_5 (d) [l0, l1, l2, l3, l4] (.ref a :: st) h).trans (rfl)
theorem x91_5n {d : Nat} {l0 l1 l2 l3 l4 : Option Value} {st : List Value} {h : Hp} : ex (d) 91 5 [l0, l1, l2, l3, l4] (.null :: st) h = ex d 91 6 [l0, l1, clr l2, some .null, l4] st h := (ex_of d91_5 (d) [l0, l1, l2, l3, l4] (.null :: st) h).trans (rfl)
theorem x91_5q {d : Nat} {l0 l1 l2 l3 l4 : Option Value} {st : List Value} {a : Option Nat} {h : Hp} : ex (d) 91 5 [l0, l1, l2, l3, l4] (va_rf a :: st) h = ex d 91 6 [l0, l1, clr l2, some (va_rf a), l4] st h := (ex_of d91_5 (d) [l0, l1, l2, l3, l4] (va_rf a :: st) h).trans (by cases a <;> rfl)
theorem d91_6 : decode (mB 91) 6 = .ok (.aload_n 3, 1) := by decide +kernel
theorem x91_6 {d : Nat} {l0 l1 l2 l4 : Option Value} {st : List Value} {a : Nat} {h : Hp} : ex (d) 91 6 [l0, l1, l2, some (.ref a), l4] st h = ex d 91 7 [l0, l1, l2, some (.ref a), l4] (.ref a :: st) h := (ex_of d91_6 (d) [l0, l1, l2, some (.ref a), l4] st h).trans (rfl)
theorem x91_6n {d : Nat} {l0 l1 l2 l4 : Option Value} {st : List Value} {h : Hp} : ex (d) 91 6 [l0, l1, l2, some .null, l4] st h = ex d 91 7 [l0, l1, l2, some .null, l4] (.null :: st) h := (ex_of d91_6 (d) [l0, l1, l2, some .null, l4] st h).trans (rfl)
theorem x91_6q {d : Nat} {l0 l1 l2 l4 : Option Value} {st : List Value} {a : Option Nat} {h : Hp} : ex (d) 91 6 [l0, l1, l2, some (va_rf a), l4] st h = ex d 91 7 [l0, l1, l2, some (va_rf a), l4] (va_rf a :: st) h := (ex_of d91_6 (d) [l0, l1, l2, some (va_rf a), l4] st h).trans (by cases a <;> rfl)
theorem d91_7 : decode (mB 91) 7 = .ok (.ifnonnull 12, 3) := by decide +kernel
theorem x91_7n {d : Nat} {L : Lc} {st : List Value} {h : Hp} : ex (d) 91 7 L (.null :: st) h = ex d 91 10 L st h := (ex_of d91_7 (d) L (.null :: st) h).trans (rfl)
theorem x91_7 {d : Nat} {L : Lc} {st : List Value} {a : Nat} {h : Hp} : ex (d) 91 7 L (.ref a :: st) h = ex d 91 19 L st h := (ex_of d91_7 (d) L (.ref a :: st) h).trans (rfl)
theorem d91_10 : decode (mB 91) 10 = .ok (.aload_n 0, 1) := by decide +kernel
theorem x91_10 {d : Nat} {l1 l2 l3 l4 : Option Value} {st : List Value} {a : Nat} {h : Hp} : ex (d) 91 10 [some (.ref a), l1, l2, l3, l4] st h = ex d 91 11 [some (.ref a), l1, l2, l3, l4] (.ref a :: st) h := (ex_of d91_10 (d) [some (.ref a), l1, l2, l3, l4] st h).trans (rfl)
theorem d91_11 : decode (mB 91) 11 = .ok (.bipush 10, 2) := by decide +kernel
theorem x91_11 {d : Nat} {L : Lc} {st : List Value} {h : Hp} : ex (d) 91 11 L st h = ex d 91 13 L (.int (nI 10) :: st) h := (ex_of d91_11 (d) L st h).trans (rfl)
theorem d91_13 : decode (mB 91) 13 = .ok (.invokevirtual 57, 3) := by decide +kernel
theorem x91_13 {d : Nat} {L : Lc} {a : Nat} {v0 : Int32} {h : Hp} (ht : (h.2.1 a).1 = 10) : ex (d + 1) 91 13 L (.int v0 :: .ref a :: []) h = bnd (ex d 84 0 [some (.ref a), some (.int v0)] [] h) (fun v h' => ex (d + 1) 91 16 L (v.toList ++ []) h') := (ex_of d91_13 (d + 1) L (.int v0 :: .ref a :: []) h).trans (fin_vi (mi := 91) i10_57 ht rfl rfl (by simp [cat1_i, cat1_r]) (by simp) (Nat.le_of_ble_eq_true rfl))
theorem d91_16 : decode (mB 91) 16 = .ok (.pop, 1) := by decide +kernel
theorem x91_16 {d : Nat} {L : Lc} {st : List Value} {x : Int32} {h : Hp} : ex (d) 91 16 L (.int x :: st) h = ex d 91 17 L st h := (ex_of d91_16 (d) L (.int x :: st) h).trans (rfl)
theorem d91_17 : decode (mB 91) 17 = .ok (.aconst_null, 1) := by decide +kernel
theorem x91_17 {d : Nat} {L : Lc} {st : List Value} {h : Hp} : ex (d) 91 17 L st h = ex d 91 18 L (.null :: st) h := (ex_of d91_17 (d) L st h).trans (rfl)
theorem d91_18 : decode (mB 91) 18 = .ok (.areturn, 1) := by decide +kernel
theorem x91_18 {d : Nat} {L : Lc} {a : Nat} {h : Hp} : ex (d) 91 18 L [.ref a] h = some (some (.ref a), h) := (ex_of d91_18 (d) L [.ref a] h).trans (rfl)
theorem x91_18n {d : Nat} {L : Lc}  {h : Hp} : ex (d) 91 18 L [.null] h = some (some .null, h) := (ex_of d91_18 (d) L [.null] h).trans (rfl)
theorem x91_18q {d : Nat} {L : Lc} {a : Option Nat} {h : Hp} : ex (d) 91 18 L [va_rf a] h = some (some (va_rf a), h) := (ex_of d91_18 (d) L [va_rf a] h).trans (by cases a <;> rfl)
theorem d91_19 : decode (mB 91) 19 = .ok (.aload_n 3, 1) := by decide +kernel
theorem x91_19 {d : Nat} {l0 l1 l2 l4 : Option Value} {st : List Value} {a : Nat} {h : Hp} : ex (d) 91 19 [l0, l1, l2, some (.ref a), l4] st h = ex d 91 20 [l0, l1, l2, some (.ref a), l4] (.ref a :: st) h := (ex_of d91_19 (d) [l0, l1, l2, some (.ref a), l4] st h).trans (rfl)
theorem x91_19n {d : Nat} {l0 l1 l2 l4 : Option Value} {st : List Value} {h : Hp} : ex (d) 91 19 [l0, l1, l2, some .null, l4] st h = ex d 91 20 [l0, l1, l2, some .null, l4] (.null :: st) h := (ex_of d91_19 (d) [l0, l1, l2, some .null, l4] st h).trans (rfl)
theorem x91_19q {d : Nat} {l0 l1 l2 l4 : Option Value} {st : List Value} {a : Option Nat} {h : Hp} : ex (d) 91 19 [l0, l1, l2, some (va_rf a), l4] st h = ex d 91 20 [l0, l1, l2, some (va_rf a), l4] (va_rf a :: st) h := (ex_of d91_19 (d) [l0, l1, l2, some (va_rf a), l4] st h).trans (by cases a <;> rfl)
theorem d91_20 : decode (mB 91) 20 = .ok (.instanceof 71, 3) := by decide +kernel
theorem x91_20 {d : Nat} {L : Lc} {st : List Value} {a : Nat} {h : Hp} (ht : casts.contains ((h.2.1 a).1, 1) = true) : ex (d) 91 20 L (.ref a :: st) h = ex d 91 23 L (.int (nI 1) :: st) h := (ex_of d91_20 (d) L (.ref a :: st) h).trans (fin_ins (mi := 91) k10_71 rfl ht)
theorem x91_20o {d : Nat} {L : Lc} {st : List Value} {a : Nat} {h : Hp} (ht : nocasts.contains ((h.2.1 a).1, 1) = true) : ex (d) 91 20 L (.ref a :: st) h = ex d 91 23 L (.int (nI 0) :: st) h := (ex_of d91_20 (d) L (.ref a :: st) h).trans (fin_inso (mi := 91) k10_71 rfl ht)
theorem x91_20n {d : Nat} {L : Lc} {st : List Value} {h : Hp} : ex (d) 91 20 L (.null :: st) h = ex d 91 23 L (.int (nI 0) :: st) h := (ex_of d91_20 (d) L (.null :: st) h).trans (fin_insn (mi := 91) k10_71)
theorem d91_23 : decode (mB 91) 23 = .ok (.ifCond .eq 27, 3) := by decide +kernel
theorem x91_23 {d : Nat} {L : Lc} {st : List Value} {x : Int32} {h : Hp} : ex (d) 91 23 L (.int x :: st) h = if x = 0 then ex d 91 50 L st h else ex d 91 26 L st h := (ex_of d91_23 (d) L (.int x :: st) h).trans (fin_brq (off := 27) (tgt := 50) rfl (by decide))
theorem d91_26 : decode (mB 91) 26 = .ok (.aload_n 3, 1) := by decide +kernel
theorem x91_26 {d : Nat} {l0 l1 l2 l4 : Option Value} {st : List Value} {a : Nat} {h : Hp} : ex (d) 91 26 [l0, l1, l2, some (.ref a), l4] st h = ex d 91 27 [l0, l1, l2, some (.ref a), l4] (.ref a :: st) h := (ex_of d91_26 (d) [l0, l1, l2, some (.ref a), l4] st h).trans (rfl)
theorem x91_26n {d : Nat} {l0 l1 l2 l4 : Option Value} {st : List Value} {h : Hp} : ex (d) 91 26 [l0, l1, l2, some .null, l4] st h = ex d 91 27 [l0, l1, l2, some .null, l4] (.null :: st) h := (ex_of d91_26 (d) [l0, l1, l2, some .null, l4] st h).trans (rfl)
theorem x91_26q {d : Nat} {l0 l1 l2 l4 : Option Value} {st : List Value} {a : Option Nat} {h : Hp} : ex (d) 91 26 [l0, l1, l2, some (va_rf a), l4] st h = ex d 91 27 [l0, l1, l2, some (va_rf a), l4] (va_rf a :: st) h := (ex_of d91_26 (d) [l0, l1, l2, some (va_rf a), l4] st h).trans (by cases a <;> rfl)
theorem d91_27 : decode (mB 91) 27 = .ok (.checkcast 71, 3) := by decide +kernel
theorem x91_27 {d : Nat} {L : Lc} {st : List Value} {a : Nat} {h : Hp} (ht : casts.contains ((h.2.1 a).1, 1) = true) : ex (d) 91 27 L (.ref a :: st) h = ex d 91 30 L (.ref a :: st) h := (ex_of d91_27 (d) L (.ref a :: st) h).trans (fin_ckc (mi := 91) k10_71 rfl ht)
theorem d91_30 : decode (mB 91) 30 = .ok (.astore 4, 2) := by decide +kernel
theorem x91_30 {d : Nat} {l0 l1 l2 l3 l4 : Option Value} {st : List Value} {a : Nat} {h : Hp} : ex (d) 91 30 [l0, l1, l2, l3, l4] (.ref a :: st) h = ex d 91 32 [l0, l1, l2, clr l3, some (.ref a)] st h := (ex_of d91_30 (d) [l0, l1, l2, l3, l4] (.ref a :: st) h).trans (rfl)
theorem x91_30n {d : Nat} {l0 l1 l2 l3 l4 : Option Value} {st : List Value} {h : Hp} : ex (d) 91 30 [l0, l1, l2, l3, l4] (.null :: st) h = ex d 91 32 [l0, l1, l2, clr l3, some .null] st h := (ex_of d91_30 (d) [l0, l1, l2, l3, l4] (.null :: st) h).trans (rfl)
theorem x91_30q {d : Nat} {l0 l1 l2 l3 l4 : Option Value} {st : List Value} {a : Option Nat} {h : Hp} : ex (d) 91 30 [l0, l1, l2, l3, l4] (va_rf a :: st) h = ex d 91 32 [l0, l1, l2, clr l3, some (va_rf a)] st h := (ex_of d91_30 (d) [l0, l1, l2, l3, l4] (va_rf a :: st) h).trans (by cases a <;> rfl)
theorem d91_32 : decode (mB 91) 32 = .ok (.iload_n 2, 1) := by decide +kernel
theorem x91_32 {d : Nat} {l0 l1 l3 l4 : Option Value} {st : List Value} {x : Int32} {h : Hp} : ex (d) 91 32 [l0, l1, some (.int x), l3, l4] st h = ex d 91 33 [l0, l1, some (.int x), l3, l4] (.int x :: st) h := (ex_of d91_32 (d) [l0, l1, some (.int x), l3, l4] st h).trans (rfl)
theorem d91_33 : decode (mB 91) 33 = .ok (.invokestatic 194, 3) := by decide +kernel
theorem x91_33 {d : Nat} {L : Lc}  {v0 : Int32} {h : Hp} : ex (d + 1) 91 33 L (.int v0 :: []) h = bnd (ex d 93 0 [some (.int v0)] [] h) (fun v h' => ex (d + 1) 91 36 L (v.toList ++ []) h') := (ex_of d91_33 (d + 1) L (.int v0 :: []) h).trans (fin_st (mi := 91) i10_194 (Or.inl rfl) (by simp) (by simp [cat1_i, cat1_r]) (by simp) (Nat.le_of_ble_eq_true rfl))
theorem d91_36 : decode (mB 91) 36 = .ok (.ifCond .eq 6, 3) := by decide +kernel
theorem x91_36 {d : Nat} {L : Lc} {st : List Value} {x : Int32} {h : Hp} : ex (d) 91 36 L (.int x :: st) h = if x = 0 then ex d 91 42 L st h else ex d 91 39 L st h := (ex_of d91_36 (d) L (.int x :: st) h).trans (fin_brq (off := 6) (tgt := 42) rfl (by decide))
theorem d91_39 : decode (mB 91) 39 = .ok (.aload 4, 2) := by decide +kernel
theorem x91_39 {d : Nat} {l0 l1 l2 l3 : Option Value} {st : List Value} {a : Nat} {h : Hp} : ex (d) 91 39 [l0, l1, l2, l3, some (.ref a)] st h = ex d 91 41 [l0, l1, l2, l3, some (.ref a)] (.ref a :: st) h := (ex_of d91_39 (d) [l0, l1, l2, l3, some (.ref a)] st h).trans (rfl)
theorem x91_39n {d : Nat} {l0 l1 l2 l3 : Option Value} {st : List Value} {h : Hp} : ex (d) 91 39 [l0, l1, l2, l3, some .null] st h = ex d 91 41 [l0, l1, l2, l3, some .null] (.null :: st) h := (ex_of d91_39 (d) [l0, l1, l2, l3, some .null] st h).trans (rfl)
theorem x91_39q {d : Nat} {l0 l1 l2 l3 : Option Value} {st : List Value} {a : Option Nat} {h : Hp} : ex (d) 91 39 [l0, l1, l2, l3, some (va_rf a)] st h = ex d 91 41 [l0, l1, l2, l3, some (va_rf a)] (va_rf a :: st) h := (ex_of d91_39 (d) [l0, l1, l2, l3, some (va_rf a)] st h).trans (by cases a <;> rfl)
theorem d91_41 : decode (mB 91) 41 = .ok (.areturn, 1) := by decide +kernel
theorem x91_41 {d : Nat} {L : Lc} {a : Nat} {h : Hp} : ex (d) 91 41 L [.ref a] h = some (some (.ref a), h) := (ex_of d91_41 (d) L [.ref a] h).trans (rfl)
theorem x91_41n {d : Nat} {L : Lc}  {h : Hp} : ex (d) 91 41 L [.null] h = some (some .null, h) := (ex_of d91_41 (d) L [.null] h).trans (rfl)
theorem x91_41q {d : Nat} {L : Lc} {a : Option Nat} {h : Hp} : ex (d) 91 41 L [va_rf a] h = some (some (va_rf a), h) := (ex_of d91_41 (d) L [va_rf a] h).trans (by cases a <;> rfl)
theorem d91_42 : decode (mB 91) 42 = .ok (.aload_n 0, 1) := by decide +kernel
theorem x91_42 {d : Nat} {l1 l2 l3 l4 : Option Value} {st : List Value} {a : Nat} {h : Hp} : ex (d) 91 42 [some (.ref a), l1, l2, l3, l4] st h = ex d 91 43 [some (.ref a), l1, l2, l3, l4] (.ref a :: st) h := (ex_of d91_42 (d) [some (.ref a), l1, l2, l3, l4] st h).trans (rfl)
theorem d91_43 : decode (mB 91) 43 = .ok (.iconst 2, 1) := by decide +kernel
theorem x91_43 {d : Nat} {L : Lc} {st : List Value} {h : Hp} : ex (d) 91 43 L st h = ex d 91 44 L (.int (nI 2) :: st) h := (ex_of d91_43 (d) L st h).trans (rfl)
theorem d91_44 : decode (mB 91) 44 = .ok (.invokevirtual 57, 3) := by decide +kernel
theorem x91_44 {d : Nat} {L : Lc} {a : Nat} {v0 : Int32} {h : Hp} (ht : (h.2.1 a).1 = 10) : ex (d + 1) 91 44 L (.int v0 :: .ref a :: []) h = bnd (ex d 84 0 [some (.ref a), some (.int v0)] [] h) (fun v h' => ex (d + 1) 91 47 L (v.toList ++ []) h') := (ex_of d91_44 (d + 1) L (.int v0 :: .ref a :: []) h).trans (fin_vi (mi := 91) i10_57 ht rfl rfl (by simp [cat1_i, cat1_r]) (by simp) (Nat.le_of_ble_eq_true rfl))
theorem d91_47 : decode (mB 91) 47 = .ok (.pop, 1) := by decide +kernel
theorem x91_47 {d : Nat} {L : Lc} {st : List Value} {x : Int32} {h : Hp} : ex (d) 91 47 L (.int x :: st) h = ex d 91 48 L st h := (ex_of d91_47 (d) L (.int x :: st) h).trans (rfl)
theorem d91_48 : decode (mB 91) 48 = .ok (.aconst_null, 1) := by decide +kernel
theorem x91_48 {d : Nat} {L : Lc} {st : List Value} {h : Hp} : ex (d) 91 48 L st h = ex d 91 49 L (.null :: st) h := (ex_of d91_48 (d) L st h).trans (rfl)
theorem d91_49 : decode (mB 91) 49 = .ok (.areturn, 1) := by decide +kernel
theorem x91_49 {d : Nat} {L : Lc} {a : Nat} {h : Hp} : ex (d) 91 49 L [.ref a] h = some (some (.ref a), h) := (ex_of d91_49 (d) L [.ref a] h).trans (rfl)
theorem x91_49n {d : Nat} {L : Lc}  {h : Hp} : ex (d) 91 49 L [.null] h = some (some .null, h) := (ex_of d91_49 (d) L [.null] h).trans (rfl)
theorem x91_49q {d : Nat} {L : Lc} {a : Option Nat} {h : Hp} : ex (d) 91 49 L [va_rf a] h = some (some (va_rf a), h) := (ex_of d91_49 (d) L [va_rf a] h).trans (by cases a <;> rfl)
theorem d91_50 : decode (mB 91) 50 = .ok (.aload_n 0, 1) := by decide +kernel
theorem x91_50 {d : Nat} {l1 l2 l3 l4 : Option Value} {st : List Value} {a : Nat} {h : Hp} : ex (d) 91 50 [some (.ref a), l1, l2, l3, l4] st h = ex d 91 51 [some (.ref a), l1, l2, l3, l4] (.ref a :: st) h := (ex_of d91_50 (d) [some (.ref a), l1, l2, l3, l4] st h).trans (rfl)
theorem d91_51 : decode (mB 91) 51 = .ok (.iconst 4, 1) := by decide +kernel
theorem x91_51 {d : Nat} {L : Lc} {st : List Value} {h : Hp} : ex (d) 91 51 L st h = ex d 91 52 L (.int (nI 4) :: st) h := (ex_of d91_51 (d) L st h).trans (rfl)
theorem d91_52 : decode (mB 91) 52 = .ok (.invokevirtual 57, 3) := by decide +kernel
theorem x91_52 {d : Nat} {L : Lc} {a : Nat} {v0 : Int32} {h : Hp} (ht : (h.2.1 a).1 = 10) : ex (d + 1) 91 52 L (.int v0 :: .ref a :: []) h = bnd (ex d 84 0 [some (.ref a), some (.int v0)] [] h) (fun v h' => ex (d + 1) 91 55 L (v.toList ++ []) h') := (ex_of d91_52 (d + 1) L (.int v0 :: .ref a :: []) h).trans (fin_vi (mi := 91) i10_57 ht rfl rfl (by simp [cat1_i, cat1_r]) (by simp) (Nat.le_of_ble_eq_true rfl))
theorem d91_55 : decode (mB 91) 55 = .ok (.pop, 1) := by decide +kernel
theorem x91_55 {d : Nat} {L : Lc} {st : List Value} {x : Int32} {h : Hp} : ex (d) 91 55 L (.int x :: st) h = ex d 91 56 L st h := (ex_of d91_55 (d) L (.int x :: st) h).trans (rfl)
theorem d91_56 : decode (mB 91) 56 = .ok (.aconst_null, 1) := by decide +kernel
theorem x91_56 {d : Nat} {L : Lc} {st : List Value} {h : Hp} : ex (d) 91 56 L st h = ex d 91 57 L (.null :: st) h := (ex_of d91_56 (d) L st h).trans (rfl)
theorem d91_57 : decode (mB 91) 57 = .ok (.areturn, 1) := by decide +kernel
theorem x91_57 {d : Nat} {L : Lc} {a : Nat} {h : Hp} : ex (d) 91 57 L [.ref a] h = some (some (.ref a), h) := (ex_of d91_57 (d) L [.ref a] h).trans (rfl)
theorem x91_57n {d : Nat} {L : Lc}  {h : Hp} : ex (d) 91 57 L [.null] h = some (some .null, h) := (ex_of d91_57 (d) L [.null] h).trans (rfl)
theorem x91_57q {d : Nat} {L : Lc} {a : Option Nat} {h : Hp} : ex (d) 91 57 L [va_rf a] h = some (some (va_rf a), h) := (ex_of d91_57 (d) L [va_rf a] h).trans (by cases a <;> rfl)
theorem d92_0 : decode (mB 92) 0 = .ok (.iload_n 0, 1) := by decide +kernel
theorem x92_0 {d : Nat} {l1 l2 : Option Value} {st : List Value} {x : Int32} {h : Hp} : ex (d) 92 0 [some (.int x), l1, l2] st h = ex d 92 1 [some (.int x), l1, l2] (.int x :: st) h := (ex_of d92_0 (d) [some (.int x), l1, l2] st h).trans (rfl)
theorem d92_1 : decode (mB 92) 1 = .ok (.iload_n 1, 1) := by decide +kernel
theorem x92_1 {d : Nat} {l0 l2 : Option Value} {st : List Value} {x : Int32} {h : Hp} : ex (d) 92 1 [l0, some (.int x), l2] st h = ex d 92 2 [l0, some (.int x), l2] (.int x :: st) h := (ex_of d92_1 (d) [l0, some (.int x), l2] st h).trans (rfl)
theorem d92_2 : decode (mB 92) 2 = .ok (.if_icmp .lt 12, 3) := by decide +kernel
theorem x92_2 {d : Nat} {L : Lc} {st : List Value} {x y : Int32} {h : Hp} : ex (d) 92 2 L (.int y :: .int x :: st) h = if x < y then ex d 92 14 L st h else ex d 92 5 L st h := (ex_of d92_2 (d) L (.int y :: .int x :: st) h).trans (fin_brq (off := 12) (tgt := 14) rfl (by decide))
theorem d92_5 : decode (mB 92) 5 = .ok (.iload_n 0, 1) := by decide +kernel
theorem x92_5 {d : Nat} {l1 l2 : Option Value} {st : List Value} {x : Int32} {h : Hp} : ex (d) 92 5 [some (.int x), l1, l2] st h = ex d 92 6 [some (.int x), l1, l2] (.int x :: st) h := (ex_of d92_5 (d) [some (.int x), l1, l2] st h).trans (rfl)
theorem d92_6 : decode (mB 92) 6 = .ok (.iload_n 2, 1) := by decide +kernel
theorem x92_6 {d : Nat} {l0 l1 : Option Value} {st : List Value} {x : Int32} {h : Hp} : ex (d) 92 6 [l0, l1, some (.int x)] st h = ex d 92 7 [l0, l1, some (.int x)] (.int x :: st) h := (ex_of d92_6 (d) [l0, l1, some (.int x)] st h).trans (rfl)
theorem d92_7 : decode (mB 92) 7 = .ok (.if_icmp .gt 7, 3) := by decide +kernel
theorem x92_7 {d : Nat} {L : Lc} {st : List Value} {x y : Int32} {h : Hp} : ex (d) 92 7 L (.int y :: .int x :: st) h = if y < x then ex d 92 14 L st h else ex d 92 10 L st h := (ex_of d92_7 (d) L (.int y :: .int x :: st) h).trans (fin_brq (off := 7) (tgt := 14) rfl (by decide))
theorem d92_10 : decode (mB 92) 10 = .ok (.iconst 1, 1) := by decide +kernel
theorem x92_10 {d : Nat} {L : Lc} {st : List Value} {h : Hp} : ex (d) 92 10 L st h = ex d 92 11 L (.int (nI 1) :: st) h := (ex_of d92_10 (d) L st h).trans (rfl)
theorem d92_11 : decode (mB 92) 11 = .ok (.goto 4, 3) := by decide +kernel
theorem x92_11 {d : Nat} {L : Lc} {st : List Value} {h : Hp} : ex (d) 92 11 L st h = ex d 92 15 L st h := (ex_of d92_11 (d) L st h).trans (rfl)
theorem d92_14 : decode (mB 92) 14 = .ok (.iconst 0, 1) := by decide +kernel
theorem x92_14 {d : Nat} {L : Lc} {st : List Value} {h : Hp} : ex (d) 92 14 L st h = ex d 92 15 L (.int (nI 0) :: st) h := (ex_of d92_14 (d) L st h).trans (rfl)
theorem d92_15 : decode (mB 92) 15 = .ok (.ireturn, 1) := by decide +kernel
theorem x92_15 {d : Nat} {L : Lc} {x : Int32} {h : Hp} (hx : x = 0 ∨ x = 1) : ex (d) 92 15 L [.int x] h = some (some (.int x), h) := (ex_of d92_15 (d) L [.int x] h).trans (fin_retb rfl hx)
theorem d93_0 : decode (mB 93) 0 = .ok (.iload_n 0, 1) := by decide +kernel
theorem x93_0 {d : Nat} {st : List Value} {x : Int32} {h : Hp} : ex (d) 93 0 [some (.int x)] st h = ex d 93 1 [some (.int x)] (.int x :: st) h := (ex_of d93_0 (d) [some (.int x)] st h).trans (rfl)
theorem d93_1 : decode (mB 93) 1 = .ok (.iconst 0, 1) := by decide +kernel
theorem x93_1 {d : Nat} {L : Lc} {st : List Value} {h : Hp} : ex (d) 93 1 L st h = ex d 93 2 L (.int (nI 0) :: st) h := (ex_of d93_1 (d) L st h).trans (rfl)
theorem d93_2 : decode (mB 93) 2 = .ok (.iconst 5, 1) := by decide +kernel
theorem x93_2 {d : Nat} {L : Lc} {st : List Value} {h : Hp} : ex (d) 93 2 L st h = ex d 93 3 L (.int (nI 5) :: st) h := (ex_of d93_2 (d) L st h).trans (rfl)
theorem d93_3 : decode (mB 93) 3 = .ok (.invokestatic 50, 3) := by decide +kernel
theorem x93_3 {d : Nat} {L : Lc}  {v0 : Int32} {v1 : Int32} {v2 : Int32} {h : Hp} : ex (d + 1) 93 3 L (.int v2 :: .int v1 :: .int v0 :: []) h = bnd (ex d 92 0 [some (.int v0), some (.int v1), some (.int v2)] [] h) (fun v h' => ex (d + 1) 93 6 L (v.toList ++ []) h') := (ex_of d93_3 (d + 1) L (.int v2 :: .int v1 :: .int v0 :: []) h).trans (fin_st (mi := 93) i10_50 (Or.inl rfl) (by simp) (by simp [cat1_i, cat1_r]) (by simp) (Nat.le_of_ble_eq_true rfl))
theorem d93_6 : decode (mB 93) 6 = .ok (.ireturn, 1) := by decide +kernel
theorem x93_6 {d : Nat} {L : Lc} {x : Int32} {h : Hp} (hx : x = 0 ∨ x = 1) : ex (d) 93 6 L [.int x] h = some (some (.int x), h) := (ex_of d93_6 (d) L [.int x] h).trans (fin_retb rfl hx)
theorem d94_0 : decode (mB 94) 0 = .ok (.iload_n 0, 1) := by decide +kernel
theorem x94_0 {d : Nat} {st : List Value} {x : Int32} {h : Hp} : ex (d) 94 0 [some (.int x)] st h = ex d 94 1 [some (.int x)] (.int x :: st) h := (ex_of d94_0 (d) [some (.int x)] st h).trans (rfl)
theorem d94_1 : decode (mB 94) 1 = .ok (.iconst 0, 1) := by decide +kernel
theorem x94_1 {d : Nat} {L : Lc} {st : List Value} {h : Hp} : ex (d) 94 1 L st h = ex d 94 2 L (.int (nI 0) :: st) h := (ex_of d94_1 (d) L st h).trans (rfl)
theorem d94_2 : decode (mB 94) 2 = .ok (.bipush 9, 2) := by decide +kernel
theorem x94_2 {d : Nat} {L : Lc} {st : List Value} {h : Hp} : ex (d) 94 2 L st h = ex d 94 4 L (.int (nI 9) :: st) h := (ex_of d94_2 (d) L st h).trans (rfl)
theorem d94_4 : decode (mB 94) 4 = .ok (.invokestatic 50, 3) := by decide +kernel
theorem x94_4 {d : Nat} {L : Lc}  {v0 : Int32} {v1 : Int32} {v2 : Int32} {h : Hp} : ex (d + 1) 94 4 L (.int v2 :: .int v1 :: .int v0 :: []) h = bnd (ex d 92 0 [some (.int v0), some (.int v1), some (.int v2)] [] h) (fun v h' => ex (d + 1) 94 7 L (v.toList ++ []) h') := (ex_of d94_4 (d + 1) L (.int v2 :: .int v1 :: .int v0 :: []) h).trans (fin_st (mi := 94) i10_50 (Or.inl rfl) (by simp) (by simp [cat1_i, cat1_r]) (by simp) (Nat.le_of_ble_eq_true rfl))
theorem d94_7 : decode (mB 94) 7 = .ok (.ireturn, 1) := by decide +kernel
theorem x94_7 {d : Nat} {L : Lc} {x : Int32} {h : Hp} (hx : x = 0 ∨ x = 1) : ex (d) 94 7 L [.int x] h = some (some (.int x), h) := (ex_of d94_7 (d) L [.int x] h).trans (fin_retb rfl hx)
theorem d95_0 : decode (mB 95) 0 = .ok (.iload_n 0, 1) := by decide +kernel
theorem x95_0 {d : Nat} {st : List Value} {x : Int32} {h : Hp} : ex (d) 95 0 [some (.int x)] st h = ex d 95 1 [some (.int x)] (.int x :: st) h := (ex_of d95_0 (d) [some (.int x)] st h).trans (rfl)
theorem d95_1 : decode (mB 95) 1 = .ok (.bipush (-2), 2) := by decide +kernel
theorem x95_1 {d : Nat} {L : Lc} {st : List Value} {h : Hp} : ex (d) 95 1 L st h = ex d 95 3 L (.int (-2) :: st) h := (ex_of d95_1 (d) L st h).trans (rfl)
theorem d95_3 : decode (mB 95) 3 = .ok (.sipush 3000, 3) := by decide +kernel
theorem x95_3 {d : Nat} {L : Lc} {st : List Value} {h : Hp} : ex (d) 95 3 L st h = ex d 95 6 L (.int (nI 3000) :: st) h := (ex_of d95_3 (d) L st h).trans (rfl)
theorem d95_6 : decode (mB 95) 6 = .ok (.invokestatic 50, 3) := by decide +kernel
theorem x95_6 {d : Nat} {L : Lc}  {v0 : Int32} {v1 : Int32} {v2 : Int32} {h : Hp} : ex (d + 1) 95 6 L (.int v2 :: .int v1 :: .int v0 :: []) h = bnd (ex d 92 0 [some (.int v0), some (.int v1), some (.int v2)] [] h) (fun v h' => ex (d + 1) 95 9 L (v.toList ++ []) h') := (ex_of d95_6 (d + 1) L (.int v2 :: .int v1 :: .int v0 :: []) h).trans (fin_st (mi := 95) i10_50 (Or.inl rfl) (by simp) (by simp [cat1_i, cat1_r]) (by simp) (Nat.le_of_ble_eq_true rfl))
theorem d95_9 : decode (mB 95) 9 = .ok (.ireturn, 1) := by decide +kernel
theorem x95_9 {d : Nat} {L : Lc} {x : Int32} {h : Hp} (hx : x = 0 ∨ x = 1) : ex (d) 95 9 L [.int x] h = some (some (.int x), h) := (ex_of d95_9 (d) L [.int x] h).trans (fin_retb rfl hx)
theorem d96_0 : decode (mB 96) 0 = .ok (.aload_n 0, 1) := by decide +kernel
theorem x96_0 {d : Nat} {st : List Value} {a : Nat} {h : Hp} : ex (d) 96 0 [some (.ref a)] st h = ex d 96 1 [some (.ref a)] (.ref a :: st) h := (ex_of d96_0 (d) [some (.ref a)] st h).trans (rfl)
theorem d96_1 : decode (mB 96) 1 = .ok (.getfield 73, 3) := by decide +kernel
theorem x96_1 {d : Nat} {L : Lc} {st : List Value} {a : Nat} {h : Hp} (ht : (h.2.1 a).1 = 10) : ex (d) 96 1 L (.ref a :: st) h = ex d 96 4 L (h.1 a 1 :: st) h := (ex_of d96_1 (d) L (.ref a :: st) h).trans (fin_get (mi := 96) f10_73 (tg1 ht rfl))
theorem d96_4 : decode (mB 96) 4 = .ok (.sipush 200, 3) := by decide +kernel
theorem x96_4 {d : Nat} {L : Lc} {st : List Value} {h : Hp} : ex (d) 96 4 L st h = ex d 96 7 L (.int (nI 200) :: st) h := (ex_of d96_4 (d) L st h).trans (rfl)
theorem d96_7 : decode (mB 96) 7 = .ok (.if_icmp .ge 7, 3) := by decide +kernel
theorem x96_7 {d : Nat} {L : Lc} {st : List Value} {x y : Int32} {h : Hp} : ex (d) 96 7 L (.int y :: .int x :: st) h = if y ≤ x then ex d 96 14 L st h else ex d 96 10 L st h := (ex_of d96_7 (d) L (.int y :: .int x :: st) h).trans (fin_brq (off := 7) (tgt := 14) rfl (by decide))
theorem d96_10 : decode (mB 96) 10 = .ok (.iconst 1, 1) := by decide +kernel
theorem x96_10 {d : Nat} {L : Lc} {st : List Value} {h : Hp} : ex (d) 96 10 L st h = ex d 96 11 L (.int (nI 1) :: st) h := (ex_of d96_10 (d) L st h).trans (rfl)
theorem d96_11 : decode (mB 96) 11 = .ok (.goto 4, 3) := by decide +kernel
theorem x96_11 {d : Nat} {L : Lc} {st : List Value} {h : Hp} : ex (d) 96 11 L st h = ex d 96 15 L st h := (ex_of d96_11 (d) L st h).trans (rfl)
theorem d96_14 : decode (mB 96) 14 = .ok (.iconst 0, 1) := by decide +kernel
theorem x96_14 {d : Nat} {L : Lc} {st : List Value} {h : Hp} : ex (d) 96 14 L st h = ex d 96 15 L (.int (nI 0) :: st) h := (ex_of d96_14 (d) L st h).trans (rfl)
theorem d96_15 : decode (mB 96) 15 = .ok (.ireturn, 1) := by decide +kernel
theorem x96_15 {d : Nat} {L : Lc} {x : Int32} {h : Hp} (hx : x = 0 ∨ x = 1) : ex (d) 96 15 L [.int x] h = some (some (.int x), h) := (ex_of d96_15 (d) L [.int x] h).trans (fin_retb rfl hx)
theorem d97_0 : decode (mB 97) 0 = .ok (.aload_n 0, 1) := by decide +kernel
theorem x97_0 {d : Nat} {l1 : Option Value} {st : List Value} {a : Nat} {h : Hp} : ex (d) 97 0 [some (.ref a), l1] st h = ex d 97 1 [some (.ref a), l1] (.ref a :: st) h := (ex_of d97_0 (d) [some (.ref a), l1] st h).trans (rfl)
theorem d97_1 : decode (mB 97) 1 = .ok (.getfield 11, 3) := by decide +kernel
theorem x97_1 {d : Nat} {L : Lc} {st : List Value} {a : Nat} {h : Hp} (ht : (h.2.1 a).1 = 10) : ex (d) 97 1 L (.ref a :: st) h = ex d 97 4 L (h.1 a 0 :: st) h := (ex_of d97_1 (d) L (.ref a :: st) h).trans (fin_get (mi := 97) f10_11 (tg1 ht rfl))
theorem d97_4 : decode (mB 97) 4 = .ok (.aload_n 0, 1) := by decide +kernel
theorem x97_4 {d : Nat} {l1 : Option Value} {st : List Value} {a : Nat} {h : Hp} : ex (d) 97 4 [some (.ref a), l1] st h = ex d 97 5 [some (.ref a), l1] (.ref a :: st) h := (ex_of d97_4 (d) [some (.ref a), l1] st h).trans (rfl)
theorem d97_5 : decode (mB 97) 5 = .ok (.getfield 73, 3) := by decide +kernel
theorem x97_5 {d : Nat} {L : Lc} {st : List Value} {a : Nat} {h : Hp} (ht : (h.2.1 a).1 = 10) : ex (d) 97 5 L (.ref a :: st) h = ex d 97 8 L (h.1 a 1 :: st) h := (ex_of d97_5 (d) L (.ref a :: st) h).trans (fin_get (mi := 97) f10_73 (tg1 ht rfl))
theorem d97_8 : decode (mB 97) 8 = .ok (.aload_n 1, 1) := by decide +kernel
theorem x97_8 {d : Nat} {l0 : Option Value} {st : List Value} {a : Nat} {h : Hp} : ex (d) 97 8 [l0, some (.ref a)] st h = ex d 97 9 [l0, some (.ref a)] (.ref a :: st) h := (ex_of d97_8 (d) [l0, some (.ref a)] st h).trans (rfl)
theorem x97_8n {d : Nat} {l0 : Option Value} {st : List Value} {h : Hp} : ex (d) 97 8 [l0, some .null] st h = ex d 97 9 [l0, some .null] (.null :: st) h := (ex_of d97_8 (d) [l0, some .null] st h).trans (rfl)
theorem x97_8q {d : Nat} {l0 : Option Value} {st : List Value} {a : Option Nat} {h : Hp} : ex (d) 97 8 [l0, some (va_rf a)] st h = ex d 97 9 [l0, some (va_rf a)] (va_rf a :: st) h := (ex_of d97_8 (d) [l0, some (va_rf a)] st h).trans (by cases a <;> rfl)
theorem d97_9 : decode (mB 97) 9 = .ok (.aastore, 1) := by decide +kernel
theorem x97_9 {d : Nat} {L : Lc} {st : List Value} {a j v : Nat} {h : Hp} (ht : 21 ≤ (h.2.1 a).1 ∧ (h.2.1 a).1 ≤ 25) (hc : casts.contains ((h.2.1 v).1, elT (h.2.1 a).1) = true) (hj : j < (h.2.1 a).2) (hb : j < 2147483648) : ex (d) 97 9 L (.ref v :: .int (nI j) :: .ref a :: st) h = ex d 97 10 L st (mup h.1 a j (.ref v), h.2) := (ex_of d97_9 (d) L (.ref v :: .int (nI j) :: .ref a :: st) h).trans (fin_aastore ht hc hj hb)
theorem x97_9n {d : Nat} {L : Lc} {st : List Value} {a j : Nat} {h : Hp} (ht : 21 ≤ (h.2.1 a).1 ∧ (h.2.1 a).1 ≤ 25) (hj : j < (h.2.1 a).2) (hb : j < 2147483648) : ex (d) 97 9 L (.null :: .int (nI j) :: .ref a :: st) h = ex d 97 10 L st (mup h.1 a j .null, h.2) := (ex_of d97_9 (d) L (.null :: .int (nI j) :: .ref a :: st) h).trans (fin_aastoreN ht hj hb)
theorem d97_10 : decode (mB 97) 10 = .ok (.aload_n 0, 1) := by decide +kernel
theorem x97_10 {d : Nat} {l1 : Option Value} {st : List Value} {a : Nat} {h : Hp} : ex (d) 97 10 [some (.ref a), l1] st h = ex d 97 11 [some (.ref a), l1] (.ref a :: st) h := (ex_of d97_10 (d) [some (.ref a), l1] st h).trans (rfl)
theorem d97_11 : decode (mB 97) 11 = .ok (.dup, 1) := by decide +kernel
theorem x97_11 {d : Nat} {L : Lc} {st : List Value} {a : Nat} {h : Hp} : ex (d) 97 11 L (.ref a :: st) h = ex d 97 12 L (.ref a :: .ref a :: st) h := (ex_of d97_11 (d) L (.ref a :: st) h).trans (rfl)
theorem x97_11i {d : Nat} {L : Lc} {st : List Value} {x : Int32} {h : Hp} : ex (d) 97 11 L (.int x :: st) h = ex d 97 12 L (.int x :: .int x :: st) h := (ex_of d97_11 (d) L (.int x :: st) h).trans (rfl)
theorem d97_12 : decode (mB 97) 12 = .ok (.getfield 73, 3) := by decide +kernel
theorem x97_12 {d : Nat} {L : Lc} {st : List Value} {a : Nat} {h : Hp} (ht : (h.2.1 a).1 = 10) : ex (d) 97 12 L (.ref a :: st) h = ex d 97 15 L (h.1 a 1 :: st) h := (ex_of d97_12 (d) L (.ref a :: st) h).trans (fin_get (mi := 97) f10_73 (tg1 ht rfl))
theorem d97_15 : decode (mB 97) 15 = .ok (.iconst 1, 1) := by decide +kernel
theorem x97_15 {d : Nat} {L : Lc} {st : List Value} {h : Hp} : ex (d) 97 15 L st h = ex d 97 16 L (.int (nI 1) :: st) h := (ex_of d97_15 (d) L st h).trans (rfl)
theorem d97_16 : decode (mB 97) 16 = .ok (.iadd, 1) := by decide +kernel
theorem x97_16 {d : Nat} {L : Lc} {st : List Value} {x y : Int32} {h : Hp} : ex (d) 97 16 L (.int y :: .int x :: st) h = ex d 97 17 L (.int (x + y) :: st) h := (ex_of d97_16 (d) L (.int y :: .int x :: st) h).trans (rfl)
theorem d97_17 : decode (mB 97) 17 = .ok (.putfield 73, 3) := by decide +kernel
theorem x97_17 {d : Nat} {L : Lc} {st : List Value} {a : Nat} {x : Int32} {h : Hp} (ht : (h.2.1 a).1 = 10) : ex (d) 97 17 L (.int x :: .ref a :: st) h = ex d 97 20 L st (mup h.1 a 1 (.int x), h.2) := (ex_of d97_17 (d) L (.int x :: .ref a :: st) h).trans (fin_put (mi := 97) f10_73 ht rfl rfl (by decide +kernel))
theorem d97_20 : decode (mB 97) 20 = .ok (.aload_n 0, 1) := by decide +kernel
theorem x97_20 {d : Nat} {l1 : Option Value} {st : List Value} {a : Nat} {h : Hp} : ex (d) 97 20 [some (.ref a), l1] st h = ex d 97 21 [some (.ref a), l1] (.ref a :: st) h := (ex_of d97_20 (d) [some (.ref a), l1] st h).trans (rfl)
theorem d97_21 : decode (mB 97) 21 = .ok (.aload_n 1, 1) := by decide +kernel
theorem x97_21 {d : Nat} {l0 : Option Value} {st : List Value} {a : Nat} {h : Hp} : ex (d) 97 21 [l0, some (.ref a)] st h = ex d 97 22 [l0, some (.ref a)] (.ref a :: st) h := (ex_of d97_21 (d) [l0, some (.ref a)] st h).trans (rfl)
theorem x97_21n {d : Nat} {l0 : Option Value} {st : List Value} {h : Hp} : ex (d) 97 21 [l0, some .null] st h = ex d 97 22 [l0, some .null] (.null :: st) h := (ex_of d97_21 (d) [l0, some .null] st h).trans (rfl)
theorem x97_21q {d : Nat} {l0 : Option Value} {st : List Value} {a : Option Nat} {h : Hp} : ex (d) 97 21 [l0, some (va_rf a)] st h = ex d 97 22 [l0, some (va_rf a)] (va_rf a :: st) h := (ex_of d97_21 (d) [l0, some (va_rf a)] st h).trans (by cases a <;> rfl)
theorem d97_22 : decode (mB 97) 22 = .ok (.getfield 293, 3) := by decide +kernel
theorem x97_22 {d : Nat} {L : Lc} {st : List Value} {a : Nat} {h : Hp} (ht : isTh (h.2.1 a).1 = true) : ex (d) 97 22 L (.ref a :: st) h = ex d 97 25 L (h.1 a 0 :: st) h := (ex_of d97_22 (d) L (.ref a :: st) h).trans (fin_get (mi := 97) f10_293 ht)
theorem d97_25 : decode (mB 97) 25 = .ok (.invokevirtual 64, 3) := by decide +kernel
theorem x97_25 {d : Nat} {L : Lc} {a : Nat} {v0 : Int32} {h : Hp} (ht : (h.2.1 a).1 = 10) : ex (d + 1) 97 25 L (.int v0 :: .ref a :: []) h = bnd (ex d 85 0 [some (.ref a), some (.int v0)] [] h) (fun v h' => ex (d + 1) 97 28 L (v.toList ++ []) h') := (ex_of d97_25 (d + 1) L (.int v0 :: .ref a :: []) h).trans (fin_vi (mi := 97) i10_64 ht rfl rfl (by simp [cat1_i, cat1_r]) (by simp) (Nat.le_of_ble_eq_true rfl))
theorem d97_28 : decode (mB 97) 28 = .ok (.ireturn, 1) := by decide +kernel
theorem x97_28 {d : Nat} {L : Lc} {x : Int32} {h : Hp} : ex (d) 97 28 L [.int x] h = some (some (.int x), h) := (ex_of d97_28 (d) L [.int x] h).trans (rfl)
theorem d98_0 : decode (mB 98) 0 = .ok (.iload_n 2, 1) := by decide +kernel
theorem x98_0 {d : Nat} {l0 l1 l3 l4 : Option Value} {st : List Value} {x : Int32} {h : Hp} : ex (d) 98 0 [l0, l1, some (.int x), l3, l4] st h = ex d 98 1 [l0, l1, some (.int x), l3, l4] (.int x :: st) h := (ex_of d98_0 (d) [l0, l1, some (.int x), l3, l4] st h).trans (rfl)
theorem d98_1 : decode (mB 98) 1 = .ok (.iconst 1, 1) := by decide +kernel
theorem x98_1 {d : Nat} {L : Lc} {st : List Value} {h : Hp} : ex (d) 98 1 L st h = ex d 98 2 L (.int (nI 1) :: st) h := (ex_of d98_1 (d) L st h).trans (rfl)
theorem d98_2 : decode (mB 98) 2 = .ok (.iload_n 3, 1) := by decide +kernel
theorem x98_2 {d : Nat} {l0 l1 l2 l4 : Option Value} {st : List Value} {x : Int32} {h : Hp} : ex (d) 98 2 [l0, l1, l2, some (.int x), l4] st h = ex d 98 3 [l0, l1, l2, some (.int x), l4] (.int x :: st) h := (ex_of d98_2 (d) [l0, l1, l2, some (.int x), l4] st h).trans (rfl)
theorem d98_3 : decode (mB 98) 3 = .ok (.invokestatic 50, 3) := by decide +kernel
theorem x98_3 {d : Nat} {L : Lc}  {v0 : Int32} {v1 : Int32} {v2 : Int32} {h : Hp} : ex (d + 1) 98 3 L (.int v2 :: .int v1 :: .int v0 :: []) h = bnd (ex d 92 0 [some (.int v0), some (.int v1), some (.int v2)] [] h) (fun v h' => ex (d + 1) 98 6 L (v.toList ++ []) h') := (ex_of d98_3 (d + 1) L (.int v2 :: .int v1 :: .int v0 :: []) h).trans (fin_st (mi := 98) i10_50 (Or.inl rfl) (by simp) (by simp [cat1_i, cat1_r]) (by simp) (Nat.le_of_ble_eq_true rfl))
theorem d98_6 : decode (mB 98) 6 = .ok (.ifCond .eq 10, 3) := by decide +kernel
theorem x98_6 {d : Nat} {L : Lc} {st : List Value} {x : Int32} {h : Hp} : ex (d) 98 6 L (.int x :: st) h = if x = 0 then ex d 98 16 L st h else ex d 98 9 L st h := (ex_of d98_6 (d) L (.int x :: st) h).trans (fin_brq (off := 10) (tgt := 16) rfl (by decide))
theorem d98_9 : decode (mB 98) 9 = .ok (.aload_n 0, 1) := by decide +kernel
theorem x98_9 {d : Nat} {l1 l2 l3 l4 : Option Value} {st : List Value} {a : Nat} {h : Hp} : ex (d) 98 9 [some (.ref a), l1, l2, l3, l4] st h = ex d 98 10 [some (.ref a), l1, l2, l3, l4] (.ref a :: st) h := (ex_of d98_9 (d) [some (.ref a), l1, l2, l3, l4] st h).trans (rfl)
theorem d98_10 : decode (mB 98) 10 = .ok (.invokevirtual 67, 3) := by decide +kernel
theorem x98_10 {d : Nat} {L : Lc} {a : Nat} {h : Hp} (ht : (h.2.1 a).1 = 10) : ex (d + 1) 98 10 L (.ref a :: []) h = bnd (ex d 96 0 [some (.ref a)] [] h) (fun v h' => ex (d + 1) 98 13 L (v.toList ++ []) h') := (ex_of d98_10 (d + 1) L (.ref a :: []) h).trans (fin_vi (mi := 98) i10_67 ht rfl rfl (by simp [cat1_i, cat1_r]) (by simp) (Nat.le_of_ble_eq_true rfl))
theorem d98_13 : decode (mB 98) 13 = .ok (.ifCond .ne 10, 3) := by decide +kernel
theorem x98_13 {d : Nat} {L : Lc} {st : List Value} {x : Int32} {h : Hp} : ex (d) 98 13 L (.int x :: st) h = if ¬ x = 0 then ex d 98 23 L st h else ex d 98 16 L st h := (ex_of d98_13 (d) L (.int x :: st) h).trans (fin_brq (off := 10) (tgt := 23) rfl (by decide))
theorem d98_16 : decode (mB 98) 16 = .ok (.aload_n 0, 1) := by decide +kernel
theorem x98_16 {d : Nat} {l1 l2 l3 l4 : Option Value} {st : List Value} {a : Nat} {h : Hp} : ex (d) 98 16 [some (.ref a), l1, l2, l3, l4] st h = ex d 98 17 [some (.ref a), l1, l2, l3, l4] (.ref a :: st) h := (ex_of d98_16 (d) [some (.ref a), l1, l2, l3, l4] st h).trans (rfl)
theorem d98_17 : decode (mB 98) 17 = .ok (.bipush 6, 2) := by decide +kernel
theorem x98_17 {d : Nat} {L : Lc} {st : List Value} {h : Hp} : ex (d) 98 17 L st h = ex d 98 19 L (.int (nI 6) :: st) h := (ex_of d98_17 (d) L st h).trans (rfl)
theorem d98_19 : decode (mB 98) 19 = .ok (.invokevirtual 57, 3) := by decide +kernel
theorem x98_19 {d : Nat} {L : Lc} {a : Nat} {v0 : Int32} {h : Hp} (ht : (h.2.1 a).1 = 10) : ex (d + 1) 98 19 L (.int v0 :: .ref a :: []) h = bnd (ex d 84 0 [some (.ref a), some (.int v0)] [] h) (fun v h' => ex (d + 1) 98 22 L (v.toList ++ []) h') := (ex_of d98_19 (d + 1) L (.int v0 :: .ref a :: []) h).trans (fin_vi (mi := 98) i10_57 ht rfl rfl (by simp [cat1_i, cat1_r]) (by simp) (Nat.le_of_ble_eq_true rfl))
theorem d98_22 : decode (mB 98) 22 = .ok (.ireturn, 1) := by decide +kernel
theorem x98_22 {d : Nat} {L : Lc} {x : Int32} {h : Hp} : ex (d) 98 22 L [.int x] h = some (some (.int x), h) := (ex_of d98_22 (d) L [.int x] h).trans (rfl)
theorem d98_23 : decode (mB 98) 23 = .ok (.new 9, 3) := by decide +kernel
theorem x98_23 {d : Nat} {L : Lc} {st : List Value} {h : Hp} : ex (d) 98 23 L st h = ex d 98 26 L (.ref h.2.2.1 :: st) (mnw h.1 h.2.2.1 (fun k => dfv (pty 9 k)), mnw h.2.1 h.2.2.1 (9, 6), h.2.2.1 + 1, h.2.2.2 + 6) := (ex_of d98_23 (d) L st h).trans (fin_new (mi := 98) k10_9 rfl (by decide))
theorem d98_26 : decode (mB 98) 26 = .ok (.dup, 1) := by decide +kernel
theorem x98_26 {d : Nat} {L : Lc} {st : List Value} {a : Nat} {h : Hp} : ex (d) 98 26 L (.ref a :: st) h = ex d 98 27 L (.ref a :: .ref a :: st) h := (ex_of d98_26 (d) L (.ref a :: st) h).trans (rfl)
theorem x98_26i {d : Nat} {L : Lc} {st : List Value} {x : Int32} {h : Hp} : ex (d) 98 26 L (.int x :: st) h = ex d 98 27 L (.int x :: .int x :: st) h := (ex_of d98_26 (d) L (.int x :: st) h).trans (rfl)
theorem d98_27 : decode (mB 98) 27 = .ok (.aload_n 0, 1) := by decide +kernel
theorem x98_27 {d : Nat} {l1 l2 l3 l4 : Option Value} {st : List Value} {a : Nat} {h : Hp} : ex (d) 98 27 [some (.ref a), l1, l2, l3, l4] st h = ex d 98 28 [some (.ref a), l1, l2, l3, l4] (.ref a :: st) h := (ex_of d98_27 (d) [some (.ref a), l1, l2, l3, l4] st h).trans (rfl)
theorem d98_28 : decode (mB 98) 28 = .ok (.getfield 73, 3) := by decide +kernel
theorem x98_28 {d : Nat} {L : Lc} {st : List Value} {a : Nat} {h : Hp} (ht : (h.2.1 a).1 = 10) : ex (d) 98 28 L (.ref a :: st) h = ex d 98 31 L (h.1 a 1 :: st) h := (ex_of d98_28 (d) L (.ref a :: st) h).trans (fin_get (mi := 98) f10_73 (tg1 ht rfl))
theorem d98_31 : decode (mB 98) 31 = .ok (.iload_n 1, 1) := by decide +kernel
theorem x98_31 {d : Nat} {l0 l2 l3 l4 : Option Value} {st : List Value} {x : Int32} {h : Hp} : ex (d) 98 31 [l0, some (.int x), l2, l3, l4] st h = ex d 98 32 [l0, some (.int x), l2, l3, l4] (.int x :: st) h := (ex_of d98_31 (d) [l0, some (.int x), l2, l3, l4] st h).trans (rfl)
theorem d98_32 : decode (mB 98) 32 = .ok (.invokespecial 332, 3) := by decide +kernel
theorem x98_32 {d : Nat} {L : Lc} {s0 : Value} {a : Nat} {v0 : Int32} {v1 : Int32} {h : Hp} : ex (d + 1) 98 32 L (.int v1 :: .int v0 :: .ref a :: [s0]) h = bnd (ex d 38 0 [some (.ref a), some (.int v0), some (.int v1)] [] h) (fun v h' => ex (d + 1) 98 35 L (v.toList ++ [s0]) h') := (ex_of d98_32 (d + 1) L (.int v1 :: .int v0 :: .ref a :: [s0]) h).trans (fin_sp (mi := 98) i10_332 (Or.inl rfl) rfl (by simp [cat1_i, cat1_r]) (by simp) (Nat.le_of_ble_eq_true rfl))
theorem d98_35 : decode (mB 98) 35 = .ok (.astore 4, 2) := by decide +kernel
theorem x98_35 {d : Nat} {l0 l1 l2 l3 l4 : Option Value} {st : List Value} {a : Nat} {h : Hp} : ex (d) 98 35 [l0, l1, l2, l3, l4] (.ref a :: st) h = ex d 98 37 [l0, l1, l2, clr l3, some (.ref a)] st h := (ex_of d98_35 (d) [l0, l1, l2, l3, l4] (.ref a :: st) h).trans (rfl)
theorem x98_35n {d : Nat} {l0 l1 l2 l3 l4 : Option Value} {st : List Value} {h : Hp} : ex (d) 98 35 [l0, l1, l2, l3, l4] (.null :: st) h = ex d 98 37 [l0, l1, l2, clr l3, some .null] st h := (ex_of d98_35 (d) [l0, l1, l2, l3, l4] (.null :: st) h).trans (rfl)
theorem x98_35q {d : Nat} {l0 l1 l2 l3 l4 : Option Value} {st : List Value} {a : Option Nat} {h : Hp} : ex (d) 98 35 [l0, l1, l2, l3, l4] (va_rf a :: st) h = ex d 98 37 [l0, l1, l2, clr l3, some (va_rf a)] st h := (ex_of d98_35 (d) [l0, l1, l2, l3, l4] (va_rf a :: st) h).trans (by cases a <;> rfl)
theorem d98_37 : decode (mB 98) 37 = .ok (.aload 4, 2) := by decide +kernel
theorem x98_37 {d : Nat} {l0 l1 l2 l3 : Option Value} {st : List Value} {a : Nat} {h : Hp} : ex (d) 98 37 [l0, l1, l2, l3, some (.ref a)] st h = ex d 98 39 [l0, l1, l2, l3, some (.ref a)] (.ref a :: st) h := (ex_of d98_37 (d) [l0, l1, l2, l3, some (.ref a)] st h).trans (rfl)
theorem x98_37n {d : Nat} {l0 l1 l2 l3 : Option Value} {st : List Value} {h : Hp} : ex (d) 98 37 [l0, l1, l2, l3, some .null] st h = ex d 98 39 [l0, l1, l2, l3, some .null] (.null :: st) h := (ex_of d98_37 (d) [l0, l1, l2, l3, some .null] st h).trans (rfl)
theorem x98_37q {d : Nat} {l0 l1 l2 l3 : Option Value} {st : List Value} {a : Option Nat} {h : Hp} : ex (d) 98 37 [l0, l1, l2, l3, some (va_rf a)] st h = ex d 98 39 [l0, l1, l2, l3, some (va_rf a)] (va_rf a :: st) h := (ex_of d98_37 (d) [l0, l1, l2, l3, some (va_rf a)] st h).trans (by cases a <;> rfl)
theorem d98_39 : decode (mB 98) 39 = .ok (.new 15, 3) := by decide +kernel
theorem x98_39 {d : Nat} {L : Lc} {st : List Value} {h : Hp} : ex (d) 98 39 L st h = ex d 98 42 L (.ref h.2.2.1 :: st) (mnw h.1 h.2.2.1 (fun k => dfv (pty 3 k)), mnw h.2.1 h.2.2.1 (3, 3), h.2.2.1 + 1, h.2.2.2 + 3) := (ex_of d98_39 (d) L st h).trans (fin_new (mi := 98) k10_15 rfl (by decide))
theorem d98_42 : decode (mB 98) 42 = .ok (.dup, 1) := by decide +kernel
theorem x98_42 {d : Nat} {L : Lc} {st : List Value} {a : Nat} {h : Hp} : ex (d) 98 42 L (.ref a :: st) h = ex d 98 43 L (.ref a :: .ref a :: st) h := (ex_of d98_42 (d) L (.ref a :: st) h).trans (rfl)
theorem x98_42i {d : Nat} {L : Lc} {st : List Value} {x : Int32} {h : Hp} : ex (d) 98 42 L (.int x :: st) h = ex d 98 43 L (.int x :: .int x :: st) h := (ex_of d98_42 (d) L (.int x :: st) h).trans (rfl)
theorem d98_43 : decode (mB 98) 43 = .ok (.sipush 1000, 3) := by decide +kernel
theorem x98_43 {d : Nat} {L : Lc} {st : List Value} {h : Hp} : ex (d) 98 43 L st h = ex d 98 46 L (.int (nI 1000) :: st) h := (ex_of d98_43 (d) L st h).trans (rfl)
theorem d98_46 : decode (mB 98) 46 = .ok (.aload 4, 2) := by decide +kernel
theorem x98_46 {d : Nat} {l0 l1 l2 l3 : Option Value} {st : List Value} {a : Nat} {h : Hp} : ex (d) 98 46 [l0, l1, l2, l3, some (.ref a)] st h = ex d 98 48 [l0, l1, l2, l3, some (.ref a)] (.ref a :: st) h := (ex_of d98_46 (d) [l0, l1, l2, l3, some (.ref a)] st h).trans (rfl)
theorem x98_46n {d : Nat} {l0 l1 l2 l3 : Option Value} {st : List Value} {h : Hp} : ex (d) 98 46 [l0, l1, l2, l3, some .null] st h = ex d 98 48 [l0, l1, l2, l3, some .null] (.null :: st) h := (ex_of d98_46 (d) [l0, l1, l2, l3, some .null] st h).trans (rfl)
theorem x98_46q {d : Nat} {l0 l1 l2 l3 : Option Value} {st : List Value} {a : Option Nat} {h : Hp} : ex (d) 98 46 [l0, l1, l2, l3, some (va_rf a)] st h = ex d 98 48 [l0, l1, l2, l3, some (va_rf a)] (va_rf a :: st) h := (ex_of d98_46 (d) [l0, l1, l2, l3, some (va_rf a)] st h).trans (by cases a <;> rfl)
theorem d98_48 : decode (mB 98) 48 = .ok (.getfield 293, 3) := by decide +kernel
theorem x98_48 {d : Nat} {L : Lc} {st : List Value} {a : Nat} {h : Hp} (ht : isTh (h.2.1 a).1 = true) : ex (d) 98 48 L (.ref a :: st) h = ex d 98 51 L (h.1 a 0 :: st) h := (ex_of d98_48 (d) L (.ref a :: st) h).trans (fin_get (mi := 98) f10_293 ht)
theorem d98_51 : decode (mB 98) 51 = .ok (.iadd, 1) := by decide +kernel
theorem x98_51 {d : Nat} {L : Lc} {st : List Value} {x y : Int32} {h : Hp} : ex (d) 98 51 L (.int y :: .int x :: st) h = ex d 98 52 L (.int (x + y) :: st) h := (ex_of d98_51 (d) L (.int y :: .int x :: st) h).trans (rfl)
theorem d98_52 : decode (mB 98) 52 = .ok (.aload 4, 2) := by decide +kernel
theorem x98_52 {d : Nat} {l0 l1 l2 l3 : Option Value} {st : List Value} {a : Nat} {h : Hp} : ex (d) 98 52 [l0, l1, l2, l3, some (.ref a)] st h = ex d 98 54 [l0, l1, l2, l3, some (.ref a)] (.ref a :: st) h := (ex_of d98_52 (d) [l0, l1, l2, l3, some (.ref a)] st h).trans (rfl)
theorem x98_52n {d : Nat} {l0 l1 l2 l3 : Option Value} {st : List Value} {h : Hp} : ex (d) 98 52 [l0, l1, l2, l3, some .null] st h = ex d 98 54 [l0, l1, l2, l3, some .null] (.null :: st) h := (ex_of d98_52 (d) [l0, l1, l2, l3, some .null] st h).trans (rfl)
theorem x98_52q {d : Nat} {l0 l1 l2 l3 : Option Value} {st : List Value} {a : Option Nat} {h : Hp} : ex (d) 98 52 [l0, l1, l2, l3, some (va_rf a)] st h = ex d 98 54 [l0, l1, l2, l3, some (va_rf a)] (va_rf a :: st) h := (ex_of d98_52 (d) [l0, l1, l2, l3, some (va_rf a)] st h).trans (by cases a <;> rfl)
theorem d98_54 : decode (mB 98) 54 = .ok (.iload_n 2, 1) := by decide +kernel
theorem x98_54 {d : Nat} {l0 l1 l3 l4 : Option Value} {st : List Value} {x : Int32} {h : Hp} : ex (d) 98 54 [l0, l1, some (.int x), l3, l4] st h = ex d 98 55 [l0, l1, some (.int x), l3, l4] (.int x :: st) h := (ex_of d98_54 (d) [l0, l1, some (.int x), l3, l4] st h).trans (rfl)
theorem d98_55 : decode (mB 98) 55 = .ok (.invokespecial 61, 3) := by decide +kernel
theorem x98_55 {d : Nat} {L : Lc} {s0 s1 : Value} {a : Nat} {v0 : Int32} {v1 : Value} {v2 : Int32} {h : Hp} (hv1 : isR v1 = true) : ex (d + 1) 98 55 L (.int v2 :: v1 :: .int v0 :: .ref a :: [s0, s1]) h = bnd (ex d 5 0 [some (.ref a), some (.int v0), some v1, some (.int v2)] [] h) (fun v h' => ex (d + 1) 98 58 L (v.toList ++ [s0, s1]) h') := (ex_of d98_55 (d + 1) L (.int v2 :: v1 :: .int v0 :: .ref a :: [s0, s1]) h).trans (fin_sp (mi := 98) i10_61 (Or.inl rfl) rfl (by simp [cat1_i, cat1_r, isR_cat1 hv1]) (by simp) (Nat.le_of_ble_eq_true rfl))
theorem d98_58 : decode (mB 98) 58 = .ok (.putfield 320, 3) := by decide +kernel
theorem x98_58 {d : Nat} {L : Lc} {st : List Value} {a b : Nat} {h : Hp} (ht : isTh (h.2.1 a).1 = true) : ex (d) 98 58 L (.ref b :: .ref a :: st) h = ex d 98 61 L st (mup h.1 a 5 (.ref b), h.2) := (ex_of d98_58 (d) L (.ref b :: .ref a :: st) h).trans (fin_putT (mi := 98) f10_320 ht (allT ⟨rfl, rfl, by decide +kernel⟩ ⟨rfl, rfl, by decide +kernel⟩ ⟨rfl, rfl, by decide +kernel⟩))
theorem x98_58n {d : Nat} {L : Lc} {st : List Value} {a : Nat} {h : Hp} (ht : isTh (h.2.1 a).1 = true) : ex (d) 98 58 L (.null :: .ref a :: st) h = ex d 98 61 L st (mup h.1 a 5 .null, h.2) := (ex_of d98_58 (d) L (.null :: .ref a :: st) h).trans (fin_putT (mi := 98) f10_320 ht (allT ⟨rfl, rfl, by decide +kernel⟩ ⟨rfl, rfl, by decide +kernel⟩ ⟨rfl, rfl, by decide +kernel⟩))
theorem x98_58q {d : Nat} {L : Lc} {st : List Value} {a : Nat} {b : Option Nat} {h : Hp} (ht : isTh (h.2.1 a).1 = true) : ex (d) 98 58 L (va_rf b :: .ref a :: st) h = ex d 98 61 L st (mup h.1 a 5 (va_rf b), h.2) := (ex_of d98_58 (d) L (va_rf b :: .ref a :: st) h).trans (by cases b <;> exact fin_putT (mi := 98) f10_320 ht (allT ⟨rfl, rfl, by decide +kernel⟩ ⟨rfl, rfl, by decide +kernel⟩ ⟨rfl, rfl, by decide +kernel⟩))
theorem d98_61 : decode (mB 98) 61 = .ok (.aload_n 0, 1) := by decide +kernel
theorem x98_61 {d : Nat} {l1 l2 l3 l4 : Option Value} {st : List Value} {a : Nat} {h : Hp} : ex (d) 98 61 [some (.ref a), l1, l2, l3, l4] st h = ex d 98 62 [some (.ref a), l1, l2, l3, l4] (.ref a :: st) h := (ex_of d98_61 (d) [some (.ref a), l1, l2, l3, l4] st h).trans (rfl)
theorem d98_62 : decode (mB 98) 62 = .ok (.aload 4, 2) := by decide +kernel
theorem x98_62 {d : Nat} {l0 l1 l2 l3 : Option Value} {st : List Value} {a : Nat} {h : Hp} : ex (d) 98 62 [l0, l1, l2, l3, some (.ref a)] st h = ex d 98 64 [l0, l1, l2, l3, some (.ref a)] (.ref a :: st) h := (ex_of d98_62 (d) [l0, l1, l2, l3, some (.ref a)] st h).trans (rfl)
theorem x98_62n {d : Nat} {l0 l1 l2 l3 : Option Value} {st : List Value} {h : Hp} : ex (d) 98 62 [l0, l1, l2, l3, some .null] st h = ex d 98 64 [l0, l1, l2, l3, some .null] (.null :: st) h := (ex_of d98_62 (d) [l0, l1, l2, l3, some .null] st h).trans (rfl)
theorem x98_62q {d : Nat} {l0 l1 l2 l3 : Option Value} {st : List Value} {a : Option Nat} {h : Hp} : ex (d) 98 62 [l0, l1, l2, l3, some (va_rf a)] st h = ex d 98 64 [l0, l1, l2, l3, some (va_rf a)] (va_rf a :: st) h := (ex_of d98_62 (d) [l0, l1, l2, l3, some (va_rf a)] st h).trans (by cases a <;> rfl)
theorem d98_64 : decode (mB 98) 64 = .ok (.invokevirtual 79, 3) := by decide +kernel
theorem x98_64 {d : Nat} {L : Lc} {a : Nat} {v0 : Value} {h : Hp} (ht : (h.2.1 a).1 = 10) (hv0 : isR v0 = true) : ex (d + 1) 98 64 L (v0 :: .ref a :: []) h = bnd (ex d 97 0 [some (.ref a), some v0] [] h) (fun v h' => ex (d + 1) 98 67 L (v.toList ++ []) h') := (ex_of d98_64 (d + 1) L (v0 :: .ref a :: []) h).trans (fin_vi (mi := 98) i10_79 ht rfl rfl (by simp [cat1_i, cat1_r, isR_cat1 hv0]) (by simp) (Nat.le_of_ble_eq_true rfl))
theorem d98_67 : decode (mB 98) 67 = .ok (.ireturn, 1) := by decide +kernel
theorem x98_67 {d : Nat} {L : Lc} {x : Int32} {h : Hp} : ex (d) 98 67 L [.int x] h = some (some (.int x), h) := (ex_of d98_67 (d) L [.int x] h).trans (rfl)
theorem d99_0 : decode (mB 99) 0 = .ok (.aload_n 0, 1) := by decide +kernel
theorem x99_0 {d : Nat} {st : List Value} {a : Nat} {h : Hp} : ex (d) 99 0 [some (.ref a)] st h = ex d 99 1 [some (.ref a)] (.ref a :: st) h := (ex_of d99_0 (d) [some (.ref a)] st h).trans (rfl)
theorem d99_1 : decode (mB 99) 1 = .ok (.dup, 1) := by decide +kernel
theorem x99_1 {d : Nat} {L : Lc} {st : List Value} {a : Nat} {h : Hp} : ex (d) 99 1 L (.ref a :: st) h = ex d 99 2 L (.ref a :: .ref a :: st) h := (ex_of d99_1 (d) L (.ref a :: st) h).trans (rfl)
theorem x99_1i {d : Nat} {L : Lc} {st : List Value} {x : Int32} {h : Hp} : ex (d) 99 1 L (.int x :: st) h = ex d 99 2 L (.int x :: .int x :: st) h := (ex_of d99_1 (d) L (.int x :: st) h).trans (rfl)
theorem d99_2 : decode (mB 99) 2 = .ok (.getfield 304, 3) := by decide +kernel
theorem x99_2 {d : Nat} {L : Lc} {st : List Value} {a : Nat} {h : Hp} (ht : (h.2.1 a).1 = 10) : ex (d) 99 2 L (.ref a :: st) h = ex d 99 5 L (h.1 a 13 :: st) h := (ex_of d99_2 (d) L (.ref a :: st) h).trans (fin_get (mi := 99) f10_304 (tg1 ht rfl))
theorem d99_5 : decode (mB 99) 5 = .ok (.iconst 1, 1) := by decide +kernel
theorem x99_5 {d : Nat} {L : Lc} {st : List Value} {h : Hp} : ex (d) 99 5 L st h = ex d 99 6 L (.int (nI 1) :: st) h := (ex_of d99_5 (d) L st h).trans (rfl)
theorem d99_6 : decode (mB 99) 6 = .ok (.iadd, 1) := by decide +kernel
theorem x99_6 {d : Nat} {L : Lc} {st : List Value} {x y : Int32} {h : Hp} : ex (d) 99 6 L (.int y :: .int x :: st) h = ex d 99 7 L (.int (x + y) :: st) h := (ex_of d99_6 (d) L (.int y :: .int x :: st) h).trans (rfl)
theorem d99_7 : decode (mB 99) 7 = .ok (.putfield 304, 3) := by decide +kernel
theorem x99_7 {d : Nat} {L : Lc} {st : List Value} {a : Nat} {x : Int32} {h : Hp} (ht : (h.2.1 a).1 = 10) : ex (d) 99 7 L (.int x :: .ref a :: st) h = ex d 99 10 L st (mup h.1 a 13 (.int x), h.2) := (ex_of d99_7 (d) L (.int x :: .ref a :: st) h).trans (fin_put (mi := 99) f10_304 ht rfl rfl (by decide +kernel))
theorem d99_10 : decode (mB 99) 10 = .ok (.aload_n 0, 1) := by decide +kernel
theorem x99_10 {d : Nat} {st : List Value} {a : Nat} {h : Hp} : ex (d) 99 10 [some (.ref a)] st h = ex d 99 11 [some (.ref a)] (.ref a :: st) h := (ex_of d99_10 (d) [some (.ref a)] st h).trans (rfl)
theorem d99_11 : decode (mB 99) 11 = .ok (.dup, 1) := by decide +kernel
theorem x99_11 {d : Nat} {L : Lc} {st : List Value} {a : Nat} {h : Hp} : ex (d) 99 11 L (.ref a :: st) h = ex d 99 12 L (.ref a :: .ref a :: st) h := (ex_of d99_11 (d) L (.ref a :: st) h).trans (rfl)
theorem x99_11i {d : Nat} {L : Lc} {st : List Value} {x : Int32} {h : Hp} : ex (d) 99 11 L (.int x :: st) h = ex d 99 12 L (.int x :: .int x :: st) h := (ex_of d99_11 (d) L (.int x :: st) h).trans (rfl)
theorem d99_12 : decode (mB 99) 12 = .ok (.getfield 310, 3) := by decide +kernel
theorem x99_12 {d : Nat} {L : Lc} {st : List Value} {a : Nat} {h : Hp} (ht : (h.2.1 a).1 = 10) : ex (d) 99 12 L (.ref a :: st) h = ex d 99 15 L (h.1 a 15 :: st) h := (ex_of d99_12 (d) L (.ref a :: st) h).trans (fin_get (mi := 99) f10_310 (tg1 ht rfl))
theorem d99_15 : decode (mB 99) 15 = .ok (.iconst 1, 1) := by decide +kernel
theorem x99_15 {d : Nat} {L : Lc} {st : List Value} {h : Hp} : ex (d) 99 15 L st h = ex d 99 16 L (.int (nI 1) :: st) h := (ex_of d99_15 (d) L st h).trans (rfl)
theorem d99_16 : decode (mB 99) 16 = .ok (.iadd, 1) := by decide +kernel
theorem x99_16 {d : Nat} {L : Lc} {st : List Value} {x y : Int32} {h : Hp} : ex (d) 99 16 L (.int y :: .int x :: st) h = ex d 99 17 L (.int (x + y) :: st) h := (ex_of d99_16 (d) L (.int y :: .int x :: st) h).trans (rfl)
theorem d99_17 : decode (mB 99) 17 = .ok (.putfield 310, 3) := by decide +kernel
theorem x99_17 {d : Nat} {L : Lc} {st : List Value} {a : Nat} {x : Int32} {h : Hp} (ht : (h.2.1 a).1 = 10) : ex (d) 99 17 L (.int x :: .ref a :: st) h = ex d 99 20 L st (mup h.1 a 15 (.int x), h.2) := (ex_of d99_17 (d) L (.int x :: .ref a :: st) h).trans (fin_put (mi := 99) f10_310 ht rfl rfl (by decide +kernel))
theorem d99_20 : decode (mB 99) 20 = .ok (.return_, 1) := by decide +kernel
theorem x99_20 {d : Nat} {L : Lc}  {h : Hp} : ex (d) 99 20 L [] h = some (none, h) := (ex_of d99_20 (d) L [] h).trans (rfl)
theorem d100_0 : decode (mB 100) 0 = .ok (.aload_n 0, 1) := by decide +kernel
theorem x100_0 {d : Nat} {st : List Value} {a : Nat} {h : Hp} : ex (d) 100 0 [some (.ref a)] st h = ex d 100 1 [some (.ref a)] (.ref a :: st) h := (ex_of d100_0 (d) [some (.ref a)] st h).trans (rfl)
theorem d100_1 : decode (mB 100) 1 = .ok (.dup, 1) := by decide +kernel
theorem x100_1 {d : Nat} {L : Lc} {st : List Value} {a : Nat} {h : Hp} : ex (d) 100 1 L (.ref a :: st) h = ex d 100 2 L (.ref a :: .ref a :: st) h := (ex_of d100_1 (d) L (.ref a :: st) h).trans (rfl)
theorem x100_1i {d : Nat} {L : Lc} {st : List Value} {x : Int32} {h : Hp} : ex (d) 100 1 L (.int x :: st) h = ex d 100 2 L (.int x :: .int x :: st) h := (ex_of d100_1 (d) L (.int x :: st) h).trans (rfl)
theorem d100_2 : decode (mB 100) 2 = .ok (.getfield 307, 3) := by decide +kernel
theorem x100_2 {d : Nat} {L : Lc} {st : List Value} {a : Nat} {h : Hp} (ht : (h.2.1 a).1 = 10) : ex (d) 100 2 L (.ref a :: st) h = ex d 100 5 L (h.1 a 14 :: st) h := (ex_of d100_2 (d) L (.ref a :: st) h).trans (fin_get (mi := 100) f10_307 (tg1 ht rfl))
theorem d100_5 : decode (mB 100) 5 = .ok (.iconst 1, 1) := by decide +kernel
theorem x100_5 {d : Nat} {L : Lc} {st : List Value} {h : Hp} : ex (d) 100 5 L st h = ex d 100 6 L (.int (nI 1) :: st) h := (ex_of d100_5 (d) L st h).trans (rfl)
theorem d100_6 : decode (mB 100) 6 = .ok (.iadd, 1) := by decide +kernel
theorem x100_6 {d : Nat} {L : Lc} {st : List Value} {x y : Int32} {h : Hp} : ex (d) 100 6 L (.int y :: .int x :: st) h = ex d 100 7 L (.int (x + y) :: st) h := (ex_of d100_6 (d) L (.int y :: .int x :: st) h).trans (rfl)
theorem d100_7 : decode (mB 100) 7 = .ok (.putfield 307, 3) := by decide +kernel
theorem x100_7 {d : Nat} {L : Lc} {st : List Value} {a : Nat} {x : Int32} {h : Hp} (ht : (h.2.1 a).1 = 10) : ex (d) 100 7 L (.int x :: .ref a :: st) h = ex d 100 10 L st (mup h.1 a 14 (.int x), h.2) := (ex_of d100_7 (d) L (.int x :: .ref a :: st) h).trans (fin_put (mi := 100) f10_307 ht rfl rfl (by decide +kernel))
theorem d100_10 : decode (mB 100) 10 = .ok (.aload_n 0, 1) := by decide +kernel
theorem x100_10 {d : Nat} {st : List Value} {a : Nat} {h : Hp} : ex (d) 100 10 [some (.ref a)] st h = ex d 100 11 [some (.ref a)] (.ref a :: st) h := (ex_of d100_10 (d) [some (.ref a)] st h).trans (rfl)
theorem d100_11 : decode (mB 100) 11 = .ok (.dup, 1) := by decide +kernel
theorem x100_11 {d : Nat} {L : Lc} {st : List Value} {a : Nat} {h : Hp} : ex (d) 100 11 L (.ref a :: st) h = ex d 100 12 L (.ref a :: .ref a :: st) h := (ex_of d100_11 (d) L (.ref a :: st) h).trans (rfl)
theorem x100_11i {d : Nat} {L : Lc} {st : List Value} {x : Int32} {h : Hp} : ex (d) 100 11 L (.int x :: st) h = ex d 100 12 L (.int x :: .int x :: st) h := (ex_of d100_11 (d) L (.int x :: st) h).trans (rfl)
theorem d100_12 : decode (mB 100) 12 = .ok (.getfield 310, 3) := by decide +kernel
theorem x100_12 {d : Nat} {L : Lc} {st : List Value} {a : Nat} {h : Hp} (ht : (h.2.1 a).1 = 10) : ex (d) 100 12 L (.ref a :: st) h = ex d 100 15 L (h.1 a 15 :: st) h := (ex_of d100_12 (d) L (.ref a :: st) h).trans (fin_get (mi := 100) f10_310 (tg1 ht rfl))
theorem d100_15 : decode (mB 100) 15 = .ok (.iconst 1, 1) := by decide +kernel
theorem x100_15 {d : Nat} {L : Lc} {st : List Value} {h : Hp} : ex (d) 100 15 L st h = ex d 100 16 L (.int (nI 1) :: st) h := (ex_of d100_15 (d) L st h).trans (rfl)
theorem d100_16 : decode (mB 100) 16 = .ok (.iadd, 1) := by decide +kernel
theorem x100_16 {d : Nat} {L : Lc} {st : List Value} {x y : Int32} {h : Hp} : ex (d) 100 16 L (.int y :: .int x :: st) h = ex d 100 17 L (.int (x + y) :: st) h := (ex_of d100_16 (d) L (.int y :: .int x :: st) h).trans (rfl)
theorem d100_17 : decode (mB 100) 17 = .ok (.putfield 310, 3) := by decide +kernel
theorem x100_17 {d : Nat} {L : Lc} {st : List Value} {a : Nat} {x : Int32} {h : Hp} (ht : (h.2.1 a).1 = 10) : ex (d) 100 17 L (.int x :: .ref a :: st) h = ex d 100 20 L st (mup h.1 a 15 (.int x), h.2) := (ex_of d100_17 (d) L (.int x :: .ref a :: st) h).trans (fin_put (mi := 100) f10_310 ht rfl rfl (by decide +kernel))
theorem d100_20 : decode (mB 100) 20 = .ok (.return_, 1) := by decide +kernel
theorem x100_20 {d : Nat} {L : Lc}  {h : Hp} : ex (d) 100 20 L [] h = some (none, h) := (ex_of d100_20 (d) L [] h).trans (rfl)
theorem d101_0 : decode (mB 101) 0 = .ok (.aload_n 0, 1) := by decide +kernel
theorem x101_0 {d : Nat} {st : List Value} {a : Nat} {h : Hp} : ex (d) 101 0 [some (.ref a)] st h = ex d 101 1 [some (.ref a)] (.ref a :: st) h := (ex_of d101_0 (d) [some (.ref a)] st h).trans (rfl)
theorem d101_1 : decode (mB 101) 1 = .ok (.dup, 1) := by decide +kernel
theorem x101_1 {d : Nat} {L : Lc} {st : List Value} {a : Nat} {h : Hp} : ex (d) 101 1 L (.ref a :: st) h = ex d 101 2 L (.ref a :: .ref a :: st) h := (ex_of d101_1 (d) L (.ref a :: st) h).trans (rfl)
theorem x101_1i {d : Nat} {L : Lc} {st : List Value} {x : Int32} {h : Hp} : ex (d) 101 1 L (.int x :: st) h = ex d 101 2 L (.int x :: .int x :: st) h := (ex_of d101_1 (d) L (.int x :: st) h).trans (rfl)
theorem d101_2 : decode (mB 101) 2 = .ok (.getfield 310, 3) := by decide +kernel
theorem x101_2 {d : Nat} {L : Lc} {st : List Value} {a : Nat} {h : Hp} (ht : (h.2.1 a).1 = 10) : ex (d) 101 2 L (.ref a :: st) h = ex d 101 5 L (h.1 a 15 :: st) h := (ex_of d101_2 (d) L (.ref a :: st) h).trans (fin_get (mi := 101) f10_310 (tg1 ht rfl))
theorem d101_5 : decode (mB 101) 5 = .ok (.iconst 1, 1) := by decide +kernel
theorem x101_5 {d : Nat} {L : Lc} {st : List Value} {h : Hp} : ex (d) 101 5 L st h = ex d 101 6 L (.int (nI 1) :: st) h := (ex_of d101_5 (d) L st h).trans (rfl)
theorem d101_6 : decode (mB 101) 6 = .ok (.isub, 1) := by decide +kernel
theorem x101_6 {d : Nat} {L : Lc} {st : List Value} {x y : Int32} {h : Hp} : ex (d) 101 6 L (.int y :: .int x :: st) h = ex d 101 7 L (.int (x - y) :: st) h := (ex_of d101_6 (d) L (.int y :: .int x :: st) h).trans (rfl)
theorem d101_7 : decode (mB 101) 7 = .ok (.putfield 310, 3) := by decide +kernel
theorem x101_7 {d : Nat} {L : Lc} {st : List Value} {a : Nat} {x : Int32} {h : Hp} (ht : (h.2.1 a).1 = 10) : ex (d) 101 7 L (.int x :: .ref a :: st) h = ex d 101 10 L st (mup h.1 a 15 (.int x), h.2) := (ex_of d101_7 (d) L (.int x :: .ref a :: st) h).trans (fin_put (mi := 101) f10_310 ht rfl rfl (by decide +kernel))
theorem d101_10 : decode (mB 101) 10 = .ok (.return_, 1) := by decide +kernel
theorem x101_10 {d : Nat} {L : Lc}  {h : Hp} : ex (d) 101 10 L [] h = some (none, h) := (ex_of d101_10 (d) L [] h).trans (rfl)
theorem d102_0 : decode (mB 102) 0 = .ok (.aload_n 0, 1) := by decide +kernel
theorem x102_0 {d : Nat} {st : List Value} {a : Nat} {h : Hp} : ex (d) 102 0 [some (.ref a)] st h = ex d 102 1 [some (.ref a)] (.ref a :: st) h := (ex_of d102_0 (d) [some (.ref a)] st h).trans (rfl)
theorem d102_1 : decode (mB 102) 1 = .ok (.invokevirtual 283, 3) := by decide +kernel
theorem x102_1 {d : Nat} {L : Lc} {a : Nat} {h : Hp} (ht : (h.2.1 a).1 = 10) : ex (d + 1) 102 1 L (.ref a :: []) h = bnd (ex d 99 0 [some (.ref a)] [] h) (fun v h' => ex (d + 1) 102 4 L (v.toList ++ []) h') := (ex_of d102_1 (d + 1) L (.ref a :: []) h).trans (fin_vi (mi := 102) i10_283 ht rfl rfl (by simp [cat1_i, cat1_r]) (by simp) (Nat.le_of_ble_eq_true rfl))
theorem d102_4 : decode (mB 102) 4 = .ok (.aload_n 0, 1) := by decide +kernel
theorem x102_4 {d : Nat} {st : List Value} {a : Nat} {h : Hp} : ex (d) 102 4 [some (.ref a)] st h = ex d 102 5 [some (.ref a)] (.ref a :: st) h := (ex_of d102_4 (d) [some (.ref a)] st h).trans (rfl)
theorem d102_5 : decode (mB 102) 5 = .ok (.invokevirtual 333, 3) := by decide +kernel
theorem x102_5 {d : Nat} {L : Lc} {a : Nat} {h : Hp} (ht : (h.2.1 a).1 = 10) : ex (d + 1) 102 5 L (.ref a :: []) h = bnd (ex d 100 0 [some (.ref a)] [] h) (fun v h' => ex (d + 1) 102 8 L (v.toList ++ []) h') := (ex_of d102_5 (d + 1) L (.ref a :: []) h).trans (fin_vi (mi := 102) i10_333 ht rfl rfl (by simp [cat1_i, cat1_r]) (by simp) (Nat.le_of_ble_eq_true rfl))
theorem d102_8 : decode (mB 102) 8 = .ok (.return_, 1) := by decide +kernel
theorem x102_8 {d : Nat} {L : Lc}  {h : Hp} : ex (d) 102 8 L [] h = some (none, h) := (ex_of d102_8 (d) L [] h).trans (rfl)
theorem d103_0 : decode (mB 103) 0 = .ok (.aload_n 0, 1) := by decide +kernel
theorem x103_0 {d : Nat} {st : List Value} {a : Nat} {h : Hp} : ex (d) 103 0 [some (.ref a)] st h = ex d 103 1 [some (.ref a)] (.ref a :: st) h := (ex_of d103_0 (d) [some (.ref a)] st h).trans (rfl)
theorem d103_1 : decode (mB 103) 1 = .ok (.invokevirtual 290, 3) := by decide +kernel
theorem x103_1 {d : Nat} {L : Lc} {a : Nat} {h : Hp} (ht : (h.2.1 a).1 = 10) : ex (d + 1) 103 1 L (.ref a :: []) h = bnd (ex d 101 0 [some (.ref a)] [] h) (fun v h' => ex (d + 1) 103 4 L (v.toList ++ []) h') := (ex_of d103_1 (d + 1) L (.ref a :: []) h).trans (fin_vi (mi := 103) i10_290 ht rfl rfl (by simp [cat1_i, cat1_r]) (by simp) (Nat.le_of_ble_eq_true rfl))
theorem d103_4 : decode (mB 103) 4 = .ok (.aload_n 0, 1) := by decide +kernel
theorem x103_4 {d : Nat} {st : List Value} {a : Nat} {h : Hp} : ex (d) 103 4 [some (.ref a)] st h = ex d 103 5 [some (.ref a)] (.ref a :: st) h := (ex_of d103_4 (d) [some (.ref a)] st h).trans (rfl)
theorem d103_5 : decode (mB 103) 5 = .ok (.invokevirtual 290, 3) := by decide +kernel
theorem x103_5 {d : Nat} {L : Lc} {a : Nat} {h : Hp} (ht : (h.2.1 a).1 = 10) : ex (d + 1) 103 5 L (.ref a :: []) h = bnd (ex d 101 0 [some (.ref a)] [] h) (fun v h' => ex (d + 1) 103 8 L (v.toList ++ []) h') := (ex_of d103_5 (d + 1) L (.ref a :: []) h).trans (fin_vi (mi := 103) i10_290 ht rfl rfl (by simp [cat1_i, cat1_r]) (by simp) (Nat.le_of_ble_eq_true rfl))
theorem d103_8 : decode (mB 103) 8 = .ok (.return_, 1) := by decide +kernel
theorem x103_8 {d : Nat} {L : Lc}  {h : Hp} : ex (d) 103 8 L [] h = some (none, h) := (ex_of d103_8 (d) L [] h).trans (rfl)
theorem d104_0 : decode (mB 104) 0 = .ok (.aload_n 0, 1) := by decide +kernel
theorem x104_0 {d : Nat} {l1 : Option Value} {st : List Value} {a : Nat} {h : Hp} : ex (d) 104 0 [some (.ref a), l1] st h = ex d 104 1 [some (.ref a), l1] (.ref a :: st) h := (ex_of d104_0 (d) [some (.ref a), l1] st h).trans (rfl)
theorem d104_1 : decode (mB 104) 1 = .ok (.invokevirtual 283, 3) := by decide +kernel
theorem x104_1 {d : Nat} {L : Lc} {a : Nat} {h : Hp} (ht : (h.2.1 a).1 = 10) : ex (d + 1) 104 1 L (.ref a :: []) h = bnd (ex d 99 0 [some (.ref a)] [] h) (fun v h' => ex (d + 1) 104 4 L (v.toList ++ []) h') := (ex_of d104_1 (d + 1) L (.ref a :: []) h).trans (fin_vi (mi := 104) i10_283 ht rfl rfl (by simp [cat1_i, cat1_r]) (by simp) (Nat.le_of_ble_eq_true rfl))
theorem d104_4 : decode (mB 104) 4 = .ok (.iconst 0, 1) := by decide +kernel
theorem x104_4 {d : Nat} {L : Lc} {st : List Value} {h : Hp} : ex (d) 104 4 L st h = ex d 104 5 L (.int (nI 0) :: st) h := (ex_of d104_4 (d) L st h).trans (rfl)
theorem d104_5 : decode (mB 104) 5 = .ok (.istore_n 1, 1) := by decide +kernel
theorem x104_5 {d : Nat} {l0 l1 : Option Value} {st : List Value} {x : Int32} {h : Hp} : ex (d) 104 5 [l0, l1] (.int x :: st) h = ex d 104 6 [clr l0, some (.int x)] st h := (ex_of d104_5 (d) [l0, l1] (.int x :: st) h).trans (rfl)
theorem d104_6 : decode (mB 104) 6 = .ok (.iload_n 1, 1) := by decide +kernel
theorem x104_6 {d : Nat} {l0 : Option Value} {st : List Value} {x : Int32} {h : Hp} : ex (d) 104 6 [l0, some (.int x)] st h = ex d 104 7 [l0, some (.int x)] (.int x :: st) h := (ex_of d104_6 (d) [l0, some (.int x)] st h).trans (rfl)
theorem d104_7 : decode (mB 104) 7 = .ok (.aload_n 0, 1) := by decide +kernel
theorem x104_7 {d : Nat} {l1 : Option Value} {st : List Value} {a : Nat} {h : Hp} : ex (d) 104 7 [some (.ref a), l1] st h = ex d 104 8 [some (.ref a), l1] (.ref a :: st) h := (ex_of d104_7 (d) [some (.ref a), l1] st h).trans (rfl)
theorem d104_8 : decode (mB 104) 8 = .ok (.getfield 54, 3) := by decide +kernel
theorem x104_8 {d : Nat} {L : Lc} {st : List Value} {a : Nat} {h : Hp} (ht : (h.2.1 a).1 = 10) : ex (d) 104 8 L (.ref a :: st) h = ex d 104 11 L (h.1 a 3 :: st) h := (ex_of d104_8 (d) L (.ref a :: st) h).trans (fin_get (mi := 104) f10_54 (tg1 ht rfl))
theorem d104_11 : decode (mB 104) 11 = .ok (.if_icmp .ge 13, 3) := by decide +kernel
theorem x104_11 {d : Nat} {L : Lc} {st : List Value} {x y : Int32} {h : Hp} : ex (d) 104 11 L (.int y :: .int x :: st) h = if y ≤ x then ex d 104 24 L st h else ex d 104 14 L st h := (ex_of d104_11 (d) L (.int y :: .int x :: st) h).trans (fin_brq (off := 13) (tgt := 24) rfl (by decide))
theorem d104_14 : decode (mB 104) 14 = .ok (.aload_n 0, 1) := by decide +kernel
theorem x104_14 {d : Nat} {l1 : Option Value} {st : List Value} {a : Nat} {h : Hp} : ex (d) 104 14 [some (.ref a), l1] st h = ex d 104 15 [some (.ref a), l1] (.ref a :: st) h := (ex_of d104_14 (d) [some (.ref a), l1] st h).trans (rfl)
theorem d104_15 : decode (mB 104) 15 = .ok (.invokevirtual 333, 3) := by decide +kernel
theorem x104_15 {d : Nat} {L : Lc} {a : Nat} {h : Hp} (ht : (h.2.1 a).1 = 10) : ex (d + 1) 104 15 L (.ref a :: []) h = bnd (ex d 100 0 [some (.ref a)] [] h) (fun v h' => ex (d + 1) 104 18 L (v.toList ++ []) h') := (ex_of d104_15 (d + 1) L (.ref a :: []) h).trans (fin_vi (mi := 104) i10_333 ht rfl rfl (by simp [cat1_i, cat1_r]) (by simp) (Nat.le_of_ble_eq_true rfl))
theorem d104_18 : decode (mB 104) 18 = .ok (.iinc 1 1, 3) := by decide +kernel
theorem x104_18 {d : Nat} {l0 : Option Value} {st : List Value} {x : Int32} {h : Hp} : ex (d) 104 18 [l0, some (.int x)] st h = ex d 104 21 [clr l0, some (.int (x + (nI 1)))] st h := (ex_of d104_18 (d) [l0, some (.int x)] st h).trans (rfl)
theorem d104_21 : decode (mB 104) 21 = .ok (.goto (-15), 3) := by decide +kernel
theorem x104_21 {d : Nat} {L : Lc} {st : List Value} {h : Hp} : ex (d) 104 21 L st h = ex d 104 6 L st h := (ex_of d104_21 (d) L st h).trans (rfl)
theorem d104_24 : decode (mB 104) 24 = .ok (.return_, 1) := by decide +kernel
theorem x104_24 {d : Nat} {L : Lc}  {h : Hp} : ex (d) 104 24 L [] h = some (none, h) := (ex_of d104_24 (d) L [] h).trans (rfl)
theorem d105_0 : decode (mB 105) 0 = .ok (.iconst 0, 1) := by decide +kernel
theorem x105_0 {d : Nat} {L : Lc} {st : List Value} {h : Hp} : ex (d) 105 0 L st h = ex d 105 1 L (.int (nI 0) :: st) h := (ex_of d105_0 (d) L st h).trans (rfl)
theorem d105_1 : decode (mB 105) 1 = .ok (.istore_n 1, 1) := by decide +kernel
theorem x105_1 {d : Nat} {l0 l1 : Option Value} {st : List Value} {x : Int32} {h : Hp} : ex (d) 105 1 [l0, l1] (.int x :: st) h = ex d 105 2 [clr l0, some (.int x)] st h := (ex_of d105_1 (d) [l0, l1] (.int x :: st) h).trans (rfl)
theorem d105_2 : decode (mB 105) 2 = .ok (.iload_n 1, 1) := by decide +kernel
theorem x105_2 {d : Nat} {l0 : Option Value} {st : List Value} {x : Int32} {h : Hp} : ex (d) 105 2 [l0, some (.int x)] st h = ex d 105 3 [l0, some (.int x)] (.int x :: st) h := (ex_of d105_2 (d) [l0, some (.int x)] st h).trans (rfl)
theorem d105_3 : decode (mB 105) 3 = .ok (.aload_n 0, 1) := by decide +kernel
theorem x105_3 {d : Nat} {l1 : Option Value} {st : List Value} {a : Nat} {h : Hp} : ex (d) 105 3 [some (.ref a), l1] st h = ex d 105 4 [some (.ref a), l1] (.ref a :: st) h := (ex_of d105_3 (d) [some (.ref a), l1] st h).trans (rfl)
theorem d105_4 : decode (mB 105) 4 = .ok (.getfield 54, 3) := by decide +kernel
theorem x105_4 {d : Nat} {L : Lc} {st : List Value} {a : Nat} {h : Hp} (ht : (h.2.1 a).1 = 10) : ex (d) 105 4 L (.ref a :: st) h = ex d 105 7 L (h.1 a 3 :: st) h := (ex_of d105_4 (d) L (.ref a :: st) h).trans (fin_get (mi := 105) f10_54 (tg1 ht rfl))
theorem d105_7 : decode (mB 105) 7 = .ok (.if_icmp .ge 13, 3) := by decide +kernel
theorem x105_7 {d : Nat} {L : Lc} {st : List Value} {x y : Int32} {h : Hp} : ex (d) 105 7 L (.int y :: .int x :: st) h = if y ≤ x then ex d 105 20 L st h else ex d 105 10 L st h := (ex_of d105_7 (d) L (.int y :: .int x :: st) h).trans (fin_brq (off := 13) (tgt := 20) rfl (by decide))
theorem d105_10 : decode (mB 105) 10 = .ok (.aload_n 0, 1) := by decide +kernel
theorem x105_10 {d : Nat} {l1 : Option Value} {st : List Value} {a : Nat} {h : Hp} : ex (d) 105 10 [some (.ref a), l1] st h = ex d 105 11 [some (.ref a), l1] (.ref a :: st) h := (ex_of d105_10 (d) [some (.ref a), l1] st h).trans (rfl)
theorem d105_11 : decode (mB 105) 11 = .ok (.invokevirtual 290, 3) := by decide +kernel
theorem x105_11 {d : Nat} {L : Lc} {a : Nat} {h : Hp} (ht : (h.2.1 a).1 = 10) : ex (d + 1) 105 11 L (.ref a :: []) h = bnd (ex d 101 0 [some (.ref a)] [] h) (fun v h' => ex (d + 1) 105 14 L (v.toList ++ []) h') := (ex_of d105_11 (d + 1) L (.ref a :: []) h).trans (fin_vi (mi := 105) i10_290 ht rfl rfl (by simp [cat1_i, cat1_r]) (by simp) (Nat.le_of_ble_eq_true rfl))
theorem d105_14 : decode (mB 105) 14 = .ok (.iinc 1 1, 3) := by decide +kernel
theorem x105_14 {d : Nat} {l0 : Option Value} {st : List Value} {x : Int32} {h : Hp} : ex (d) 105 14 [l0, some (.int x)] st h = ex d 105 17 [clr l0, some (.int (x + (nI 1)))] st h := (ex_of d105_14 (d) [l0, some (.int x)] st h).trans (rfl)
theorem d105_17 : decode (mB 105) 17 = .ok (.goto (-15), 3) := by decide +kernel
theorem x105_17 {d : Nat} {L : Lc} {st : List Value} {h : Hp} : ex (d) 105 17 L st h = ex d 105 2 L st h := (ex_of d105_17 (d) L st h).trans (rfl)
theorem d105_20 : decode (mB 105) 20 = .ok (.aload_n 0, 1) := by decide +kernel
theorem x105_20 {d : Nat} {l1 : Option Value} {st : List Value} {a : Nat} {h : Hp} : ex (d) 105 20 [some (.ref a), l1] st h = ex d 105 21 [some (.ref a), l1] (.ref a :: st) h := (ex_of d105_20 (d) [some (.ref a), l1] st h).trans (rfl)
theorem d105_21 : decode (mB 105) 21 = .ok (.invokevirtual 290, 3) := by decide +kernel
theorem x105_21 {d : Nat} {L : Lc} {a : Nat} {h : Hp} (ht : (h.2.1 a).1 = 10) : ex (d + 1) 105 21 L (.ref a :: []) h = bnd (ex d 101 0 [some (.ref a)] [] h) (fun v h' => ex (d + 1) 105 24 L (v.toList ++ []) h') := (ex_of d105_21 (d + 1) L (.ref a :: []) h).trans (fin_vi (mi := 105) i10_290 ht rfl rfl (by simp [cat1_i, cat1_r]) (by simp) (Nat.le_of_ble_eq_true rfl))
theorem d105_24 : decode (mB 105) 24 = .ok (.return_, 1) := by decide +kernel
theorem x105_24 {d : Nat} {L : Lc}  {h : Hp} : ex (d) 105 24 L [] h = some (none, h) := (ex_of d105_24 (d) L [] h).trans (rfl)
theorem d106_0 : decode (mB 106) 0 = .ok (.aload_n 1, 1) := by decide +kernel
theorem x106_0 {d : Nat} {l0 l2 l3 l4 : Option Value} {st : List Value} {a : Nat} {h : Hp} : ex (d) 106 0 [l0, some (.ref a), l2, l3, l4] st h = ex d 106 1 [l0, some (.ref a), l2, l3, l4] (.ref a :: st) h := (ex_of d106_0 (d) [l0, some (.ref a), l2, l3, l4] st h).trans (rfl)
theorem x106_0n {d : Nat} {l0 l2 l3 l4 : Option Value} {st : List Value} {h : Hp} : ex (d) 106 0 [l0, some .null, l2, l3, l4] st h = ex d 106 1 [l0, some .null, l2, l3, l4] (.null :: st) h := (ex_of d106_0 (d) [l0, some .null, l2, l3, l4] st h).trans (rfl)
theorem x106_0q {d : Nat} {l0 l2 l3 l4 : Option Value} {st : List Value} {a : Option Nat} {h : Hp} : ex (d) 106 0 [l0, some (va_rf a), l2, l3, l4] st h = ex d 106 1 [l0, some (va_rf a), l2, l3, l4] (va_rf a :: st) h := (ex_of d106_0 (d) [l0, some (va_rf a), l2, l3, l4] st h).trans (by cases a <;> rfl)
theorem d106_1 : decode (mB 106) 1 = .ok (.iload_n 2, 1) := by decide +kernel
theorem x106_1 {d : Nat} {l0 l1 l3 l4 : Option Value} {st : List Value} {x : Int32} {h : Hp} : ex (d) 106 1 [l0, l1, some (.int x), l3, l4] st h = ex d 106 2 [l0, l1, some (.int x), l3, l4] (.int x :: st) h := (ex_of d106_1 (d) [l0, l1, some (.int x), l3, l4] st h).trans (rfl)
theorem d106_2 : decode (mB 106) 2 = .ok (.invokevirtual 336, 3) := by decide +kernel
theorem x106_2 {d : Nat} {L : Lc} {a : Nat} {v0 : Int32} {h : Hp} (ht : (h.2.1 a).1 = 3) : ex (d + 1) 106 2 L (.int v0 :: .ref a :: []) h = bnd (ex d 6 0 [some (.ref a), some (.int v0)] [] h) (fun v h' => ex (d + 1) 106 5 L (v.toList ++ []) h') := (ex_of d106_2 (d + 1) L (.int v0 :: .ref a :: []) h).trans (fin_vi (mi := 106) i10_336 ht rfl rfl (by simp [cat1_i, cat1_r]) (by simp) (Nat.le_of_ble_eq_true rfl))
theorem d106_5 : decode (mB 106) 5 = .ok (.ifCond .ne 9, 3) := by decide +kernel
theorem x106_5 {d : Nat} {L : Lc} {st : List Value} {x : Int32} {h : Hp} : ex (d) 106 5 L (.int x :: st) h = if ¬ x = 0 then ex d 106 14 L st h else ex d 106 8 L st h := (ex_of d106_5 (d) L (.int x :: st) h).trans (fin_brq (off := 9) (tgt := 14) rfl (by decide))
theorem d106_8 : decode (mB 106) 8 = .ok (.aload_n 0, 1) := by decide +kernel
theorem x106_8 {d : Nat} {l1 l2 l3 l4 : Option Value} {st : List Value} {a : Nat} {h : Hp} : ex (d) 106 8 [some (.ref a), l1, l2, l3, l4] st h = ex d 106 9 [some (.ref a), l1, l2, l3, l4] (.ref a :: st) h := (ex_of d106_8 (d) [some (.ref a), l1, l2, l3, l4] st h).trans (rfl)
theorem d106_9 : decode (mB 106) 9 = .ok (.iconst 2, 1) := by decide +kernel
theorem x106_9 {d : Nat} {L : Lc} {st : List Value} {h : Hp} : ex (d) 106 9 L st h = ex d 106 10 L (.int (nI 2) :: st) h := (ex_of d106_9 (d) L st h).trans (rfl)
theorem d106_10 : decode (mB 106) 10 = .ok (.invokevirtual 57, 3) := by decide +kernel
theorem x106_10 {d : Nat} {L : Lc} {a : Nat} {v0 : Int32} {h : Hp} (ht : (h.2.1 a).1 = 10) : ex (d + 1) 106 10 L (.int v0 :: .ref a :: []) h = bnd (ex d 84 0 [some (.ref a), some (.int v0)] [] h) (fun v h' => ex (d + 1) 106 13 L (v.toList ++ []) h') := (ex_of d106_10 (d + 1) L (.int v0 :: .ref a :: []) h).trans (fin_vi (mi := 106) i10_57 ht rfl rfl (by simp [cat1_i, cat1_r]) (by simp) (Nat.le_of_ble_eq_true rfl))
theorem d106_13 : decode (mB 106) 13 = .ok (.ireturn, 1) := by decide +kernel
theorem x106_13 {d : Nat} {L : Lc} {x : Int32} {h : Hp} : ex (d) 106 13 L [.int x] h = some (some (.int x), h) := (ex_of d106_13 (d) L [.int x] h).trans (rfl)
theorem d106_14 : decode (mB 106) 14 = .ok (.aload_n 3, 1) := by decide +kernel
theorem x106_14 {d : Nat} {l0 l1 l2 l4 : Option Value} {st : List Value} {a : Nat} {h : Hp} : ex (d) 106 14 [l0, l1, l2, some (.ref a), l4] st h = ex d 106 15 [l0, l1, l2, some (.ref a), l4] (.ref a :: st) h := (ex_of d106_14 (d) [l0, l1, l2, some (.ref a), l4] st h).trans (rfl)
theorem x106_14n {d : Nat} {l0 l1 l2 l4 : Option Value} {st : List Value} {h : Hp} : ex (d) 106 14 [l0, l1, l2, some .null, l4] st h = ex d 106 15 [l0, l1, l2, some .null, l4] (.null :: st) h := (ex_of d106_14 (d) [l0, l1, l2, some .null, l4] st h).trans (rfl)
theorem x106_14q {d : Nat} {l0 l1 l2 l4 : Option Value} {st : List Value} {a : Option Nat} {h : Hp} : ex (d) 106 14 [l0, l1, l2, some (va_rf a), l4] st h = ex d 106 15 [l0, l1, l2, some (va_rf a), l4] (va_rf a :: st) h := (ex_of d106_14 (d) [l0, l1, l2, some (va_rf a), l4] st h).trans (by cases a <;> rfl)
theorem d106_15 : decode (mB 106) 15 = .ok (.getfield 116, 3) := by decide +kernel
theorem x106_15 {d : Nat} {L : Lc} {st : List Value} {a : Nat} {h : Hp} (ht : isTh (h.2.1 a).1 = true) : ex (d) 106 15 L (.ref a :: st) h = ex d 106 18 L (h.1 a 2 :: st) h := (ex_of d106_15 (d) L (.ref a :: st) h).trans (fin_get (mi := 106) f10_116 ht)
theorem d106_18 : decode (mB 106) 18 = .ok (.ifCond .eq 10, 3) := by decide +kernel
theorem x106_18 {d : Nat} {L : Lc} {st : List Value} {x : Int32} {h : Hp} : ex (d) 106 18 L (.int x :: st) h = if x = 0 then ex d 106 28 L st h else ex d 106 21 L st h := (ex_of d106_18 (d) L (.int x :: st) h).trans (fin_brq (off := 10) (tgt := 28) rfl (by decide))
theorem d106_21 : decode (mB 106) 21 = .ok (.aload_n 0, 1) := by decide +kernel
theorem x106_21 {d : Nat} {l1 l2 l3 l4 : Option Value} {st : List Value} {a : Nat} {h : Hp} : ex (d) 106 21 [some (.ref a), l1, l2, l3, l4] st h = ex d 106 22 [some (.ref a), l1, l2, l3, l4] (.ref a :: st) h := (ex_of d106_21 (d) [some (.ref a), l1, l2, l3, l4] st h).trans (rfl)
theorem d106_22 : decode (mB 106) 22 = .ok (.bipush 8, 2) := by decide +kernel
theorem x106_22 {d : Nat} {L : Lc} {st : List Value} {h : Hp} : ex (d) 106 22 L st h = ex d 106 24 L (.int (nI 8) :: st) h := (ex_of d106_22 (d) L st h).trans (rfl)
theorem d106_24 : decode (mB 106) 24 = .ok (.invokevirtual 57, 3) := by decide +kernel
theorem x106_24 {d : Nat} {L : Lc} {a : Nat} {v0 : Int32} {h : Hp} (ht : (h.2.1 a).1 = 10) : ex (d + 1) 106 24 L (.int v0 :: .ref a :: []) h = bnd (ex d 84 0 [some (.ref a), some (.int v0)] [] h) (fun v h' => ex (d + 1) 106 27 L (v.toList ++ []) h') := (ex_of d106_24 (d + 1) L (.int v0 :: .ref a :: []) h).trans (fin_vi (mi := 106) i10_57 ht rfl rfl (by simp [cat1_i, cat1_r]) (by simp) (Nat.le_of_ble_eq_true rfl))
theorem d106_27 : decode (mB 106) 27 = .ok (.ireturn, 1) := by decide +kernel
theorem x106_27 {d : Nat} {L : Lc} {x : Int32} {h : Hp} : ex (d) 106 27 L [.int x] h = some (some (.int x), h) := (ex_of d106_27 (d) L [.int x] h).trans (rfl)
theorem d106_28 : decode (mB 106) 28 = .ok (.aload_n 1, 1) := by decide +kernel
theorem x106_28 {d : Nat} {l0 l2 l3 l4 : Option Value} {st : List Value} {a : Nat} {h : Hp} : ex (d) 106 28 [l0, some (.ref a), l2, l3, l4] st h = ex d 106 29 [l0, some (.ref a), l2, l3, l4] (.ref a :: st) h := (ex_of d106_28 (d) [l0, some (.ref a), l2, l3, l4] st h).trans (rfl)
theorem x106_28n {d : Nat} {l0 l2 l3 l4 : Option Value} {st : List Value} {h : Hp} : ex (d) 106 28 [l0, some .null, l2, l3, l4] st h = ex d 106 29 [l0, some .null, l2, l3, l4] (.null :: st) h := (ex_of d106_28 (d) [l0, some .null, l2, l3, l4] st h).trans (rfl)
theorem x106_28q {d : Nat} {l0 l2 l3 l4 : Option Value} {st : List Value} {a : Option Nat} {h : Hp} : ex (d) 106 28 [l0, some (va_rf a), l2, l3, l4] st h = ex d 106 29 [l0, some (va_rf a), l2, l3, l4] (va_rf a :: st) h := (ex_of d106_28 (d) [l0, some (va_rf a), l2, l3, l4] st h).trans (by cases a <;> rfl)
theorem d106_29 : decode (mB 106) 29 = .ok (.iload_n 2, 1) := by decide +kernel
theorem x106_29 {d : Nat} {l0 l1 l3 l4 : Option Value} {st : List Value} {x : Int32} {h : Hp} : ex (d) 106 29 [l0, l1, some (.int x), l3, l4] st h = ex d 106 30 [l0, l1, some (.int x), l3, l4] (.int x :: st) h := (ex_of d106_29 (d) [l0, l1, some (.int x), l3, l4] st h).trans (rfl)
theorem d106_30 : decode (mB 106) 30 = .ok (.aload_n 3, 1) := by decide +kernel
theorem x106_30 {d : Nat} {l0 l1 l2 l4 : Option Value} {st : List Value} {a : Nat} {h : Hp} : ex (d) 106 30 [l0, l1, l2, some (.ref a), l4] st h = ex d 106 31 [l0, l1, l2, some (.ref a), l4] (.ref a :: st) h := (ex_of d106_30 (d) [l0, l1, l2, some (.ref a), l4] st h).trans (rfl)
theorem x106_30n {d : Nat} {l0 l1 l2 l4 : Option Value} {st : List Value} {h : Hp} : ex (d) 106 30 [l0, l1, l2, some .null, l4] st h = ex d 106 31 [l0, l1, l2, some .null, l4] (.null :: st) h := (ex_of d106_30 (d) [l0, l1, l2, some .null, l4] st h).trans (rfl)
theorem x106_30q {d : Nat} {l0 l1 l2 l4 : Option Value} {st : List Value} {a : Option Nat} {h : Hp} : ex (d) 106 30 [l0, l1, l2, some (va_rf a), l4] st h = ex d 106 31 [l0, l1, l2, some (va_rf a), l4] (va_rf a :: st) h := (ex_of d106_30 (d) [l0, l1, l2, some (va_rf a), l4] st h).trans (by cases a <;> rfl)
theorem d106_31 : decode (mB 106) 31 = .ok (.invokestatic 339, 3) := by decide +kernel
theorem x106_31 {d : Nat} {L : Lc}  {v0 : Value} {v1 : Int32} {v2 : Value} {h : Hp} (hv0 : isR v0 = true) (hv2 : isR v2 = true) : ex (d + 1) 106 31 L (v2 :: .int v1 :: v0 :: []) h = bnd (ex d 111 0 [some v0, some (.int v1), some v2, none] [] h) (fun v h' => ex (d + 1) 106 34 L (v.toList ++ []) h') := (ex_of d106_31 (d + 1) L (v2 :: .int v1 :: v0 :: []) h).trans (fin_st (mi := 106) i10_339 (Or.inl rfl) (by simp) (by simp [cat1_i, cat1_r, isR_cat1 hv0, isR_cat1 hv2]) (by simp) (Nat.le_of_ble_eq_true rfl))
theorem d106_34 : decode (mB 106) 34 = .ok (.istore 4, 2) := by decide +kernel
theorem x106_34 {d : Nat} {l0 l1 l2 l3 l4 : Option Value} {st : List Value} {x : Int32} {h : Hp} : ex (d) 106 34 [l0, l1, l2, l3, l4] (.int x :: st) h = ex d 106 36 [l0, l1, l2, clr l3, some (.int x)] st h := (ex_of d106_34 (d) [l0, l1, l2, l3, l4] (.int x :: st) h).trans (rfl)
theorem d106_36 : decode (mB 106) 36 = .ok (.iload 4, 2) := by decide +kernel
theorem x106_36 {d : Nat} {l0 l1 l2 l3 : Option Value} {st : List Value} {x : Int32} {h : Hp} : ex (d) 106 36 [l0, l1, l2, l3, some (.int x)] st h = ex d 106 38 [l0, l1, l2, l3, some (.int x)] (.int x :: st) h := (ex_of d106_36 (d) [l0, l1, l2, l3, some (.int x)] st h).trans (rfl)
theorem d106_38 : decode (mB 106) 38 = .ok (.ifCond .eq 10, 3) := by decide +kernel
theorem x106_38 {d : Nat} {L : Lc} {st : List Value} {x : Int32} {h : Hp} : ex (d) 106 38 L (.int x :: st) h = if x = 0 then ex d 106 48 L st h else ex d 106 41 L st h := (ex_of d106_38 (d) L (.int x :: st) h).trans (fin_brq (off := 10) (tgt := 48) rfl (by decide))
theorem d106_41 : decode (mB 106) 41 = .ok (.aload_n 0, 1) := by decide +kernel
theorem x106_41 {d : Nat} {l1 l2 l3 l4 : Option Value} {st : List Value} {a : Nat} {h : Hp} : ex (d) 106 41 [some (.ref a), l1, l2, l3, l4] st h = ex d 106 42 [some (.ref a), l1, l2, l3, l4] (.ref a :: st) h := (ex_of d106_41 (d) [some (.ref a), l1, l2, l3, l4] st h).trans (rfl)
theorem d106_42 : decode (mB 106) 42 = .ok (.iload 4, 2) := by decide +kernel
theorem x106_42 {d : Nat} {l0 l1 l2 l3 : Option Value} {st : List Value} {x : Int32} {h : Hp} : ex (d) 106 42 [l0, l1, l2, l3, some (.int x)] st h = ex d 106 44 [l0, l1, l2, l3, some (.int x)] (.int x :: st) h := (ex_of d106_42 (d) [l0, l1, l2, l3, some (.int x)] st h).trans (rfl)
theorem d106_44 : decode (mB 106) 44 = .ok (.invokevirtual 57, 3) := by decide +kernel
theorem x106_44 {d : Nat} {L : Lc} {a : Nat} {v0 : Int32} {h : Hp} (ht : (h.2.1 a).1 = 10) : ex (d + 1) 106 44 L (.int v0 :: .ref a :: []) h = bnd (ex d 84 0 [some (.ref a), some (.int v0)] [] h) (fun v h' => ex (d + 1) 106 47 L (v.toList ++ []) h') := (ex_of d106_44 (d + 1) L (.int v0 :: .ref a :: []) h).trans (fin_vi (mi := 106) i10_57 ht rfl rfl (by simp [cat1_i, cat1_r]) (by simp) (Nat.le_of_ble_eq_true rfl))
theorem d106_47 : decode (mB 106) 47 = .ok (.ireturn, 1) := by decide +kernel
theorem x106_47 {d : Nat} {L : Lc} {x : Int32} {h : Hp} : ex (d) 106 47 L [.int x] h = some (some (.int x), h) := (ex_of d106_47 (d) L [.int x] h).trans (rfl)
theorem d106_48 : decode (mB 106) 48 = .ok (.aload_n 0, 1) := by decide +kernel
theorem x106_48 {d : Nat} {l1 l2 l3 l4 : Option Value} {st : List Value} {a : Nat} {h : Hp} : ex (d) 106 48 [some (.ref a), l1, l2, l3, l4] st h = ex d 106 49 [some (.ref a), l1, l2, l3, l4] (.ref a :: st) h := (ex_of d106_48 (d) [some (.ref a), l1, l2, l3, l4] st h).trans (rfl)
theorem d106_49 : decode (mB 106) 49 = .ok (.new 342, 3) := by decide +kernel
theorem x106_49 {d : Nat} {L : Lc} {st : List Value} {h : Hp} : ex (d) 106 49 L st h = ex d 106 52 L (.ref h.2.2.1 :: st) (mnw h.1 h.2.2.1 (fun k => dfv (pty 4 k)), mnw h.2.1 h.2.2.1 (4, 7), h.2.2.1 + 1, h.2.2.2 + 7) := (ex_of d106_49 (d) L st h).trans (fin_new (mi := 106) k10_342 rfl (by decide))
theorem d106_52 : decode (mB 106) 52 = .ok (.dup, 1) := by decide +kernel
theorem x106_52 {d : Nat} {L : Lc} {st : List Value} {a : Nat} {h : Hp} : ex (d) 106 52 L (.ref a :: st) h = ex d 106 53 L (.ref a :: .ref a :: st) h := (ex_of d106_52 (d) L (.ref a :: st) h).trans (rfl)
theorem x106_52i {d : Nat} {L : Lc} {st : List Value} {x : Int32} {h : Hp} : ex (d) 106 52 L (.int x :: st) h = ex d 106 53 L (.int x :: .int x :: st) h := (ex_of d106_52 (d) L (.int x :: st) h).trans (rfl)
theorem d106_53 : decode (mB 106) 53 = .ok (.aload_n 3, 1) := by decide +kernel
theorem x106_53 {d : Nat} {l0 l1 l2 l4 : Option Value} {st : List Value} {a : Nat} {h : Hp} : ex (d) 106 53 [l0, l1, l2, some (.ref a), l4] st h = ex d 106 54 [l0, l1, l2, some (.ref a), l4] (.ref a :: st) h := (ex_of d106_53 (d) [l0, l1, l2, some (.ref a), l4] st h).trans (rfl)
theorem x106_53n {d : Nat} {l0 l1 l2 l4 : Option Value} {st : List Value} {h : Hp} : ex (d) 106 53 [l0, l1, l2, some .null, l4] st h = ex d 106 54 [l0, l1, l2, some .null, l4] (.null :: st) h := (ex_of d106_53 (d) [l0, l1, l2, some .null, l4] st h).trans (rfl)
theorem x106_53q {d : Nat} {l0 l1 l2 l4 : Option Value} {st : List Value} {a : Option Nat} {h : Hp} : ex (d) 106 53 [l0, l1, l2, some (va_rf a), l4] st h = ex d 106 54 [l0, l1, l2, some (va_rf a), l4] (va_rf a :: st) h := (ex_of d106_53 (d) [l0, l1, l2, some (va_rf a), l4] st h).trans (by cases a <;> rfl)
theorem d106_54 : decode (mB 106) 54 = .ok (.aload_n 0, 1) := by decide +kernel
theorem x106_54 {d : Nat} {l1 l2 l3 l4 : Option Value} {st : List Value} {a : Nat} {h : Hp} : ex (d) 106 54 [some (.ref a), l1, l2, l3, l4] st h = ex d 106 55 [some (.ref a), l1, l2, l3, l4] (.ref a :: st) h := (ex_of d106_54 (d) [some (.ref a), l1, l2, l3, l4] st h).trans (rfl)
theorem d106_55 : decode (mB 106) 55 = .ok (.getfield 280, 3) := by decide +kernel
theorem x106_55 {d : Nat} {L : Lc} {st : List Value} {a : Nat} {h : Hp} (ht : (h.2.1 a).1 = 10) : ex (d) 106 55 L (.ref a :: st) h = ex d 106 58 L (h.1 a 11 :: st) h := (ex_of d106_55 (d) L (.ref a :: st) h).trans (fin_get (mi := 106) f10_280 (tg1 ht rfl))
theorem d106_58 : decode (mB 106) 58 = .ok (.aconst_null, 1) := by decide +kernel
theorem x106_58 {d : Nat} {L : Lc} {st : List Value} {h : Hp} : ex (d) 106 58 L st h = ex d 106 59 L (.null :: st) h := (ex_of d106_58 (d) L st h).trans (rfl)
theorem d106_59 : decode (mB 106) 59 = .ok (.iconst 0, 1) := by decide +kernel
theorem x106_59 {d : Nat} {L : Lc} {st : List Value} {h : Hp} : ex (d) 106 59 L st h = ex d 106 60 L (.int (nI 0) :: st) h := (ex_of d106_59 (d) L st h).trans (rfl)
theorem d106_60 : decode (mB 106) 60 = .ok (.invokespecial 344, 3) := by decide +kernel
theorem x106_60 {d : Nat} {L : Lc} {s0 s1 : Value} {a : Nat} {v0 : Value} {v1 : Int32} {v2 : Value} {v3 : Int32} {h : Hp} (hv0 : isR v0 = true) (hv2 : isR v2 = true) : ex (d + 1) 106 60 L (.int v3 :: v2 :: .int v1 :: v0 :: .ref a :: [s0, s1]) h = bnd (ex d 11 0 [some (.ref a), some v0, some (.int v1), some v2, some (.int v3)] [] h) (fun v h' => ex (d + 1) 106 63 L (v.toList ++ [s0, s1]) h') := (ex_of d106_60 (d + 1) L (.int v3 :: v2 :: .int v1 :: v0 :: .ref a :: [s0, s1]) h).trans (fin_sp (mi := 106) i10_344 (Or.inl rfl) rfl (by simp [cat1_i, cat1_r, isR_cat1 hv0, isR_cat1 hv2]) (by simp) (Nat.le_of_ble_eq_true rfl))
theorem d106_63 : decode (mB 106) 63 = .ok (.invokevirtual 162, 3) := by decide +kernel
theorem x106_63 {d : Nat} {L : Lc} {a : Nat} {v0 : Value} {h : Hp} (ht : (h.2.1 a).1 = 10) (hv0 : isR v0 = true) : ex (d + 1) 106 63 L (v0 :: .ref a :: []) h = bnd (ex d 115 0 [some (.ref a), some v0] [] h) (fun v h' => ex (d + 1) 106 66 L (v.toList ++ []) h') := (ex_of d106_63 (d + 1) L (v0 :: .ref a :: []) h).trans (fin_vi (mi := 106) i10_162 ht rfl rfl (by simp [cat1_i, cat1_r, isR_cat1 hv0]) (by simp) (Nat.le_of_ble_eq_true rfl))
theorem d106_66 : decode (mB 106) 66 = .ok (.aload_n 3, 1) := by decide +kernel
theorem x106_66 {d : Nat} {l0 l1 l2 l4 : Option Value} {st : List Value} {a : Nat} {h : Hp} : ex (d) 106 66 [l0, l1, l2, some (.ref a), l4] st h = ex d 106 67 [l0, l1, l2, some (.ref a), l4] (.ref a :: st) h := (ex_of d106_66 (d) [l0, l1, l2, some (.ref a), l4] st h).trans (rfl)
theorem x106_66n {d : Nat} {l0 l1 l2 l4 : Option Value} {st : List Value} {h : Hp} : ex (d) 106 66 [l0, l1, l2, some .null, l4] st h = ex d 106 67 [l0, l1, l2, some .null, l4] (.null :: st) h := (ex_of d106_66 (d) [l0, l1, l2, some .null, l4] st h).trans (rfl)
theorem x106_66q {d : Nat} {l0 l1 l2 l4 : Option Value} {st : List Value} {a : Option Nat} {h : Hp} : ex (d) 106 66 [l0, l1, l2, some (va_rf a), l4] st h = ex d 106 67 [l0, l1, l2, some (va_rf a), l4] (va_rf a :: st) h := (ex_of d106_66 (d) [l0, l1, l2, some (va_rf a), l4] st h).trans (by cases a <;> rfl)
theorem d106_67 : decode (mB 106) 67 = .ok (.iconst 1, 1) := by decide +kernel
theorem x106_67 {d : Nat} {L : Lc} {st : List Value} {h : Hp} : ex (d) 106 67 L st h = ex d 106 68 L (.int (nI 1) :: st) h := (ex_of d106_67 (d) L st h).trans (rfl)
theorem d106_68 : decode (mB 106) 68 = .ok (.aload_n 1, 1) := by decide +kernel
theorem x106_68 {d : Nat} {l0 l2 l3 l4 : Option Value} {st : List Value} {a : Nat} {h : Hp} : ex (d) 106 68 [l0, some (.ref a), l2, l3, l4] st h = ex d 106 69 [l0, some (.ref a), l2, l3, l4] (.ref a :: st) h := (ex_of d106_68 (d) [l0, some (.ref a), l2, l3, l4] st h).trans (rfl)
theorem x106_68n {d : Nat} {l0 l2 l3 l4 : Option Value} {st : List Value} {h : Hp} : ex (d) 106 68 [l0, some .null, l2, l3, l4] st h = ex d 106 69 [l0, some .null, l2, l3, l4] (.null :: st) h := (ex_of d106_68 (d) [l0, some .null, l2, l3, l4] st h).trans (rfl)
theorem x106_68q {d : Nat} {l0 l2 l3 l4 : Option Value} {st : List Value} {a : Option Nat} {h : Hp} : ex (d) 106 68 [l0, some (va_rf a), l2, l3, l4] st h = ex d 106 69 [l0, some (va_rf a), l2, l3, l4] (va_rf a :: st) h := (ex_of d106_68 (d) [l0, some (va_rf a), l2, l3, l4] st h).trans (by cases a <;> rfl)
theorem d106_69 : decode (mB 106) 69 = .ok (.iload_n 2, 1) := by decide +kernel
theorem x106_69 {d : Nat} {l0 l1 l3 l4 : Option Value} {st : List Value} {x : Int32} {h : Hp} : ex (d) 106 69 [l0, l1, some (.int x), l3, l4] st h = ex d 106 70 [l0, l1, some (.int x), l3, l4] (.int x :: st) h := (ex_of d106_69 (d) [l0, l1, some (.int x), l3, l4] st h).trans (rfl)
theorem d106_70 : decode (mB 106) 70 = .ok (.invokevirtual 347, 3) := by decide +kernel
theorem x106_70 {d : Nat} {L : Lc} {a : Nat} {v0 : Int32} {v1 : Value} {v2 : Int32} {h : Hp} (ht : isTh (h.2.1 a).1 = true) (hv1 : isR v1 = true) : ex (d + 1) 106 70 L (.int v2 :: v1 :: .int v0 :: .ref a :: []) h = bnd (ex d 42 0 [some (.ref a), some (.int v0), some v1, some (.int v2)] [] h) (fun v h' => ex (d + 1) 106 73 L (v.toList ++ []) h') := (ex_of d106_70 (d + 1) L (.int v2 :: v1 :: .int v0 :: .ref a :: []) h).trans (fin_viT (mi := 106) i10_347 ht (by decide +kernel) rfl (by simp [cat1_i, cat1_r, isR_cat1 hv1]) (by simp) (Nat.le_of_ble_eq_true rfl))
theorem d106_73 : decode (mB 106) 73 = .ok (.aload_n 0, 1) := by decide +kernel
theorem x106_73 {d : Nat} {l1 l2 l3 l4 : Option Value} {st : List Value} {a : Nat} {h : Hp} : ex (d) 106 73 [some (.ref a), l1, l2, l3, l4] st h = ex d 106 74 [some (.ref a), l1, l2, l3, l4] (.ref a :: st) h := (ex_of d106_73 (d) [some (.ref a), l1, l2, l3, l4] st h).trans (rfl)
theorem d106_74 : decode (mB 106) 74 = .ok (.iconst 1, 1) := by decide +kernel
theorem x106_74 {d : Nat} {L : Lc} {st : List Value} {h : Hp} : ex (d) 106 74 L st h = ex d 106 75 L (.int (nI 1) :: st) h := (ex_of d106_74 (d) L st h).trans (rfl)
theorem d106_75 : decode (mB 106) 75 = .ok (.invokevirtual 64, 3) := by decide +kernel
theorem x106_75 {d : Nat} {L : Lc} {a : Nat} {v0 : Int32} {h : Hp} (ht : (h.2.1 a).1 = 10) : ex (d + 1) 106 75 L (.int v0 :: .ref a :: []) h = bnd (ex d 85 0 [some (.ref a), some (.int v0)] [] h) (fun v h' => ex (d + 1) 106 78 L (v.toList ++ []) h') := (ex_of d106_75 (d + 1) L (.int v0 :: .ref a :: []) h).trans (fin_vi (mi := 106) i10_64 ht rfl rfl (by simp [cat1_i, cat1_r]) (by simp) (Nat.le_of_ble_eq_true rfl))
theorem d106_78 : decode (mB 106) 78 = .ok (.ireturn, 1) := by decide +kernel
theorem x106_78 {d : Nat} {L : Lc} {x : Int32} {h : Hp} : ex (d) 106 78 L [.int x] h = some (some (.int x), h) := (ex_of d106_78 (d) L [.int x] h).trans (rfl)
theorem d107_0 : decode (mB 107) 0 = .ok (.aload_n 1, 1) := by decide +kernel
theorem x107_0 {d : Nat} {l0 l2 l3 : Option Value} {st : List Value} {a : Nat} {h : Hp} : ex (d) 107 0 [l0, some (.ref a), l2, l3] st h = ex d 107 1 [l0, some (.ref a), l2, l3] (.ref a :: st) h := (ex_of d107_0 (d) [l0, some (.ref a), l2, l3] st h).trans (rfl)
theorem x107_0n {d : Nat} {l0 l2 l3 : Option Value} {st : List Value} {h : Hp} : ex (d) 107 0 [l0, some .null, l2, l3] st h = ex d 107 1 [l0, some .null, l2, l3] (.null :: st) h := (ex_of d107_0 (d) [l0, some .null, l2, l3] st h).trans (rfl)
theorem x107_0q {d : Nat} {l0 l2 l3 : Option Value} {st : List Value} {a : Option Nat} {h : Hp} : ex (d) 107 0 [l0, some (va_rf a), l2, l3] st h = ex d 107 1 [l0, some (va_rf a), l2, l3] (va_rf a :: st) h := (ex_of d107_0 (d) [l0, some (va_rf a), l2, l3] st h).trans (by cases a <;> rfl)
theorem d107_1 : decode (mB 107) 1 = .ok (.iload_n 2, 1) := by decide +kernel
theorem x107_1 {d : Nat} {l0 l1 l3 : Option Value} {st : List Value} {x : Int32} {h : Hp} : ex (d) 107 1 [l0, l1, some (.int x), l3] st h = ex d 107 2 [l0, l1, some (.int x), l3] (.int x :: st) h := (ex_of d107_1 (d) [l0, l1, some (.int x), l3] st h).trans (rfl)
theorem d107_2 : decode (mB 107) 2 = .ok (.invokevirtual 336, 3) := by decide +kernel
theorem x107_2 {d : Nat} {L : Lc} {a : Nat} {v0 : Int32} {h : Hp} (ht : (h.2.1 a).1 = 3) : ex (d + 1) 107 2 L (.int v0 :: .ref a :: []) h = bnd (ex d 6 0 [some (.ref a), some (.int v0)] [] h) (fun v h' => ex (d + 1) 107 5 L (v.toList ++ []) h') := (ex_of d107_2 (d + 1) L (.int v0 :: .ref a :: []) h).trans (fin_vi (mi := 107) i10_336 ht rfl rfl (by simp [cat1_i, cat1_r]) (by simp) (Nat.le_of_ble_eq_true rfl))
theorem d107_5 : decode (mB 107) 5 = .ok (.ifCond .ne 9, 3) := by decide +kernel
theorem x107_5 {d : Nat} {L : Lc} {st : List Value} {x : Int32} {h : Hp} : ex (d) 107 5 L (.int x :: st) h = if ¬ x = 0 then ex d 107 14 L st h else ex d 107 8 L st h := (ex_of d107_5 (d) L (.int x :: st) h).trans (fin_brq (off := 9) (tgt := 14) rfl (by decide))
theorem d107_8 : decode (mB 107) 8 = .ok (.aload_n 0, 1) := by decide +kernel
theorem x107_8 {d : Nat} {l1 l2 l3 : Option Value} {st : List Value} {a : Nat} {h : Hp} : ex (d) 107 8 [some (.ref a), l1, l2, l3] st h = ex d 107 9 [some (.ref a), l1, l2, l3] (.ref a :: st) h := (ex_of d107_8 (d) [some (.ref a), l1, l2, l3] st h).trans (rfl)
theorem d107_9 : decode (mB 107) 9 = .ok (.iconst 2, 1) := by decide +kernel
theorem x107_9 {d : Nat} {L : Lc} {st : List Value} {h : Hp} : ex (d) 107 9 L st h = ex d 107 10 L (.int (nI 2) :: st) h := (ex_of d107_9 (d) L st h).trans (rfl)
theorem d107_10 : decode (mB 107) 10 = .ok (.invokevirtual 57, 3) := by decide +kernel
theorem x107_10 {d : Nat} {L : Lc} {a : Nat} {v0 : Int32} {h : Hp} (ht : (h.2.1 a).1 = 10) : ex (d + 1) 107 10 L (.int v0 :: .ref a :: []) h = bnd (ex d 84 0 [some (.ref a), some (.int v0)] [] h) (fun v h' => ex (d + 1) 107 13 L (v.toList ++ []) h') := (ex_of d107_10 (d + 1) L (.int v0 :: .ref a :: []) h).trans (fin_vi (mi := 107) i10_57 ht rfl rfl (by simp [cat1_i, cat1_r]) (by simp) (Nat.le_of_ble_eq_true rfl))
theorem d107_13 : decode (mB 107) 13 = .ok (.ireturn, 1) := by decide +kernel
theorem x107_13 {d : Nat} {L : Lc} {x : Int32} {h : Hp} : ex (d) 107 13 L [.int x] h = some (some (.int x), h) := (ex_of d107_13 (d) L [.int x] h).trans (rfl)
theorem d107_14 : decode (mB 107) 14 = .ok (.aload_n 1, 1) := by decide +kernel
theorem x107_14 {d : Nat} {l0 l2 l3 : Option Value} {st : List Value} {a : Nat} {h : Hp} : ex (d) 107 14 [l0, some (.ref a), l2, l3] st h = ex d 107 15 [l0, some (.ref a), l2, l3] (.ref a :: st) h := (ex_of d107_14 (d) [l0, some (.ref a), l2, l3] st h).trans (rfl)
theorem x107_14n {d : Nat} {l0 l2 l3 : Option Value} {st : List Value} {h : Hp} : ex (d) 107 14 [l0, some .null, l2, l3] st h = ex d 107 15 [l0, some .null, l2, l3] (.null :: st) h := (ex_of d107_14 (d) [l0, some .null, l2, l3] st h).trans (rfl)
theorem x107_14q {d : Nat} {l0 l2 l3 : Option Value} {st : List Value} {a : Option Nat} {h : Hp} : ex (d) 107 14 [l0, some (va_rf a), l2, l3] st h = ex d 107 15 [l0, some (va_rf a), l2, l3] (va_rf a :: st) h := (ex_of d107_14 (d) [l0, some (va_rf a), l2, l3] st h).trans (by cases a <;> rfl)
theorem d107_15 : decode (mB 107) 15 = .ok (.getfield 351, 3) := by decide +kernel
theorem x107_15 {d : Nat} {L : Lc} {st : List Value} {a : Nat} {h : Hp} (ht : (h.2.1 a).1 = 3) : ex (d) 107 15 L (.ref a :: st) h = ex d 107 18 L (h.1 a 2 :: st) h := (ex_of d107_15 (d) L (.ref a :: st) h).trans (fin_get (mi := 107) f10_351 (tg1 ht rfl))
theorem d107_18 : decode (mB 107) 18 = .ok (.iload_n 2, 1) := by decide +kernel
theorem x107_18 {d : Nat} {l0 l1 l3 : Option Value} {st : List Value} {x : Int32} {h : Hp} : ex (d) 107 18 [l0, l1, some (.int x), l3] st h = ex d 107 19 [l0, l1, some (.int x), l3] (.int x :: st) h := (ex_of d107_18 (d) [l0, l1, some (.int x), l3] st h).trans (rfl)
theorem d107_19 : decode (mB 107) 19 = .ok (.aaload, 1) := by decide +kernel
theorem x107_19 {d : Nat} {L : Lc} {st : List Value} {a j : Nat} {h : Hp} (ht : 21 ≤ (h.2.1 a).1 ∧ (h.2.1 a).1 ≤ 26) (hj : j < (h.2.1 a).2) (hb : j < 2147483648) : ex (d) 107 19 L (.int (nI j) :: .ref a :: st) h = ex d 107 20 L (h.1 a j :: st) h := (ex_of d107_19 (d) L (.int (nI j) :: .ref a :: st) h).trans (fin_aaload ht hj hb)
theorem d107_20 : decode (mB 107) 20 = .ok (.astore_n 3, 1) := by decide +kernel
theorem x107_20 {d : Nat} {l0 l1 l2 l3 : Option Value} {st : List Value} {a : Nat} {h : Hp} : ex (d) 107 20 [l0, l1, l2, l3] (.ref a :: st) h = ex d 107 21 [l0, l1, clr l2, some (.ref a)] st h := (ex_of d107_20 (d) [l0, l1, l2, l3] (.ref a :: st) h).trans (rfl)
theorem x107_20n {d : Nat} {l0 l1 l2 l3 : Option Value} {st : List Value} {h : Hp} : ex (d) 107 20 [l0, l1, l2, l3] (.null :: st) h = ex d 107 21 [l0, l1, clr l2, some .null] st h := (ex_of d107_20 (d) [l0, l1, l2, l3] (.null :: st) h).trans (rfl)
theorem x107_20q {d : Nat} {l0 l1 l2 l3 : Option Value} {st : List Value} {a : Option Nat} {h : Hp} : ex (d) 107 20 [l0, l1, l2, l3] (va_rf a :: st) h = ex d 107 21 [l0, l1, clr l2, some (va_rf a)] st h := (ex_of d107_20 (d) [l0, l1, l2, l3] (va_rf a :: st) h).trans (by cases a <;> rfl)
theorem d107_21 : decode (mB 107) 21 = .ok (.aload_n 3, 1) := by decide +kernel
theorem x107_21 {d : Nat} {l0 l1 l2 : Option Value} {st : List Value} {a : Nat} {h : Hp} : ex (d) 107 21 [l0, l1, l2, some (.ref a)] st h = ex d 107 22 [l0, l1, l2, some (.ref a)] (.ref a :: st) h := (ex_of d107_21 (d) [l0, l1, l2, some (.ref a)] st h).trans (rfl)
theorem x107_21n {d : Nat} {l0 l1 l2 : Option Value} {st : List Value} {h : Hp} : ex (d) 107 21 [l0, l1, l2, some .null] st h = ex d 107 22 [l0, l1, l2, some .null] (.null :: st) h := (ex_of d107_21 (d) [l0, l1, l2, some .null] st h).trans (rfl)
theorem x107_21q {d : Nat} {l0 l1 l2 : Option Value} {st : List Value} {a : Option Nat} {h : Hp} : ex (d) 107 21 [l0, l1, l2, some (va_rf a)] st h = ex d 107 22 [l0, l1, l2, some (va_rf a)] (va_rf a :: st) h := (ex_of d107_21 (d) [l0, l1, l2, some (va_rf a)] st h).trans (by cases a <;> rfl)
theorem d107_22 : decode (mB 107) 22 = .ok (.ifnonnull 9, 3) := by decide +kernel
theorem x107_22n {d : Nat} {L : Lc} {st : List Value} {h : Hp} : ex (d) 107 22 L (.null :: st) h = ex d 107 25 L st h := (ex_of d107_22 (d) L (.null :: st) h).trans (rfl)
theorem x107_22 {d : Nat} {L : Lc} {st : List Value} {a : Nat} {h : Hp} : ex (d) 107 22 L (.ref a :: st) h = ex d 107 31 L st h := (ex_of d107_22 (d) L (.ref a :: st) h).trans (rfl)
theorem d107_25 : decode (mB 107) 25 = .ok (.aload_n 0, 1) := by decide +kernel
theorem x107_25 {d : Nat} {l1 l2 l3 : Option Value} {st : List Value} {a : Nat} {h : Hp} : ex (d) 107 25 [some (.ref a), l1, l2, l3] st h = ex d 107 26 [some (.ref a), l1, l2, l3] (.ref a :: st) h := (ex_of d107_25 (d) [some (.ref a), l1, l2, l3] st h).trans (rfl)
theorem d107_26 : decode (mB 107) 26 = .ok (.iconst 3, 1) := by decide +kernel
theorem x107_26 {d : Nat} {L : Lc} {st : List Value} {h : Hp} : ex (d) 107 26 L st h = ex d 107 27 L (.int (nI 3) :: st) h := (ex_of d107_26 (d) L st h).trans (rfl)
theorem d107_27 : decode (mB 107) 27 = .ok (.invokevirtual 57, 3) := by decide +kernel
theorem x107_27 {d : Nat} {L : Lc} {a : Nat} {v0 : Int32} {h : Hp} (ht : (h.2.1 a).1 = 10) : ex (d + 1) 107 27 L (.int v0 :: .ref a :: []) h = bnd (ex d 84 0 [some (.ref a), some (.int v0)] [] h) (fun v h' => ex (d + 1) 107 30 L (v.toList ++ []) h') := (ex_of d107_27 (d + 1) L (.int v0 :: .ref a :: []) h).trans (fin_vi (mi := 107) i10_57 ht rfl rfl (by simp [cat1_i, cat1_r]) (by simp) (Nat.le_of_ble_eq_true rfl))
theorem d107_30 : decode (mB 107) 30 = .ok (.ireturn, 1) := by decide +kernel
theorem x107_30 {d : Nat} {L : Lc} {x : Int32} {h : Hp} : ex (d) 107 30 L [.int x] h = some (some (.int x), h) := (ex_of d107_30 (d) L [.int x] h).trans (rfl)
theorem d107_31 : decode (mB 107) 31 = .ok (.aload_n 0, 1) := by decide +kernel
theorem x107_31 {d : Nat} {l1 l2 l3 : Option Value} {st : List Value} {a : Nat} {h : Hp} : ex (d) 107 31 [some (.ref a), l1, l2, l3] st h = ex d 107 32 [some (.ref a), l1, l2, l3] (.ref a :: st) h := (ex_of d107_31 (d) [some (.ref a), l1, l2, l3] st h).trans (rfl)
theorem d107_32 : decode (mB 107) 32 = .ok (.new 342, 3) := by decide +kernel
theorem x107_32 {d : Nat} {L : Lc} {st : List Value} {h : Hp} : ex (d) 107 32 L st h = ex d 107 35 L (.ref h.2.2.1 :: st) (mnw h.1 h.2.2.1 (fun k => dfv (pty 4 k)), mnw h.2.1 h.2.2.1 (4, 7), h.2.2.1 + 1, h.2.2.2 + 7) := (ex_of d107_32 (d) L st h).trans (fin_new (mi := 107) k10_342 rfl (by decide))
theorem d107_35 : decode (mB 107) 35 = .ok (.dup, 1) := by decide +kernel
theorem x107_35 {d : Nat} {L : Lc} {st : List Value} {a : Nat} {h : Hp} : ex (d) 107 35 L (.ref a :: st) h = ex d 107 36 L (.ref a :: .ref a :: st) h := (ex_of d107_35 (d) L (.ref a :: st) h).trans (rfl)
theorem x107_35i {d : Nat} {L : Lc} {st : List Value} {x : Int32} {h : Hp} : ex (d) 107 35 L (.int x :: st) h = ex d 107 36 L (.int x :: .int x :: st) h := (ex_of d107_35 (d) L (.int x :: st) h).trans (rfl)
theorem d107_36 : decode (mB 107) 36 = .ok (.aload_n 3, 1) := by decide +kernel
theorem x107_36 {d : Nat} {l0 l1 l2 : Option Value} {st : List Value} {a : Nat} {h : Hp} : ex (d) 107 36 [l0, l1, l2, some (.ref a)] st h = ex d 107 37 [l0, l1, l2, some (.ref a)] (.ref a :: st) h := (ex_of d107_36 (d) [l0, l1, l2, some (.ref a)] st h).trans (rfl)
theorem x107_36n {d : Nat} {l0 l1 l2 : Option Value} {st : List Value} {h : Hp} : ex (d) 107 36 [l0, l1, l2, some .null] st h = ex d 107 37 [l0, l1, l2, some .null] (.null :: st) h := (ex_of d107_36 (d) [l0, l1, l2, some .null] st h).trans (rfl)
theorem x107_36q {d : Nat} {l0 l1 l2 : Option Value} {st : List Value} {a : Option Nat} {h : Hp} : ex (d) 107 36 [l0, l1, l2, some (va_rf a)] st h = ex d 107 37 [l0, l1, l2, some (va_rf a)] (va_rf a :: st) h := (ex_of d107_36 (d) [l0, l1, l2, some (va_rf a)] st h).trans (by cases a <;> rfl)
theorem d107_37 : decode (mB 107) 37 = .ok (.aload_n 0, 1) := by decide +kernel
theorem x107_37 {d : Nat} {l1 l2 l3 : Option Value} {st : List Value} {a : Nat} {h : Hp} : ex (d) 107 37 [some (.ref a), l1, l2, l3] st h = ex d 107 38 [some (.ref a), l1, l2, l3] (.ref a :: st) h := (ex_of d107_37 (d) [some (.ref a), l1, l2, l3] st h).trans (rfl)
theorem d107_38 : decode (mB 107) 38 = .ok (.getfield 280, 3) := by decide +kernel
theorem x107_38 {d : Nat} {L : Lc} {st : List Value} {a : Nat} {h : Hp} (ht : (h.2.1 a).1 = 10) : ex (d) 107 38 L (.ref a :: st) h = ex d 107 41 L (h.1 a 11 :: st) h := (ex_of d107_38 (d) L (.ref a :: st) h).trans (fin_get (mi := 107) f10_280 (tg1 ht rfl))
theorem d107_41 : decode (mB 107) 41 = .ok (.aconst_null, 1) := by decide +kernel
theorem x107_41 {d : Nat} {L : Lc} {st : List Value} {h : Hp} : ex (d) 107 41 L st h = ex d 107 42 L (.null :: st) h := (ex_of d107_41 (d) L st h).trans (rfl)
theorem d107_42 : decode (mB 107) 42 = .ok (.iconst 0, 1) := by decide +kernel
theorem x107_42 {d : Nat} {L : Lc} {st : List Value} {h : Hp} : ex (d) 107 42 L st h = ex d 107 43 L (.int (nI 0) :: st) h := (ex_of d107_42 (d) L st h).trans (rfl)
theorem d107_43 : decode (mB 107) 43 = .ok (.invokespecial 344, 3) := by decide +kernel
theorem x107_43 {d : Nat} {L : Lc} {s0 s1 : Value} {a : Nat} {v0 : Value} {v1 : Int32} {v2 : Value} {v3 : Int32} {h : Hp} (hv0 : isR v0 = true) (hv2 : isR v2 = true) : ex (d + 1) 107 43 L (.int v3 :: v2 :: .int v1 :: v0 :: .ref a :: [s0, s1]) h = bnd (ex d 11 0 [some (.ref a), some v0, some (.int v1), some v2, some (.int v3)] [] h) (fun v h' => ex (d + 1) 107 46 L (v.toList ++ [s0, s1]) h') := (ex_of d107_43 (d + 1) L (.int v3 :: v2 :: .int v1 :: v0 :: .ref a :: [s0, s1]) h).trans (fin_sp (mi := 107) i10_344 (Or.inl rfl) rfl (by simp [cat1_i, cat1_r, isR_cat1 hv0, isR_cat1 hv2]) (by simp) (Nat.le_of_ble_eq_true rfl))
theorem d107_46 : decode (mB 107) 46 = .ok (.invokevirtual 162, 3) := by decide +kernel
theorem x107_46 {d : Nat} {L : Lc} {a : Nat} {v0 : Value} {h : Hp} (ht : (h.2.1 a).1 = 10) (hv0 : isR v0 = true) : ex (d + 1) 107 46 L (v0 :: .ref a :: []) h = bnd (ex d 115 0 [some (.ref a), some v0] [] h) (fun v h' => ex (d + 1) 107 49 L (v.toList ++ []) h') := (ex_of d107_46 (d + 1) L (v0 :: .ref a :: []) h).trans (fin_vi (mi := 107) i10_162 ht rfl rfl (by simp [cat1_i, cat1_r, isR_cat1 hv0]) (by simp) (Nat.le_of_ble_eq_true rfl))
theorem d107_49 : decode (mB 107) 49 = .ok (.aload_n 3, 1) := by decide +kernel
theorem x107_49 {d : Nat} {l0 l1 l2 : Option Value} {st : List Value} {a : Nat} {h : Hp} : ex (d) 107 49 [l0, l1, l2, some (.ref a)] st h = ex d 107 50 [l0, l1, l2, some (.ref a)] (.ref a :: st) h := (ex_of d107_49 (d) [l0, l1, l2, some (.ref a)] st h).trans (rfl)
theorem x107_49n {d : Nat} {l0 l1 l2 : Option Value} {st : List Value} {h : Hp} : ex (d) 107 49 [l0, l1, l2, some .null] st h = ex d 107 50 [l0, l1, l2, some .null] (.null :: st) h := (ex_of d107_49 (d) [l0, l1, l2, some .null] st h).trans (rfl)
theorem x107_49q {d : Nat} {l0 l1 l2 : Option Value} {st : List Value} {a : Option Nat} {h : Hp} : ex (d) 107 49 [l0, l1, l2, some (va_rf a)] st h = ex d 107 50 [l0, l1, l2, some (va_rf a)] (va_rf a :: st) h := (ex_of d107_49 (d) [l0, l1, l2, some (va_rf a)] st h).trans (by cases a <;> rfl)
theorem d107_50 : decode (mB 107) 50 = .ok (.iconst 0, 1) := by decide +kernel
theorem x107_50 {d : Nat} {L : Lc} {st : List Value} {h : Hp} : ex (d) 107 50 L st h = ex d 107 51 L (.int (nI 0) :: st) h := (ex_of d107_50 (d) L st h).trans (rfl)
theorem d107_51 : decode (mB 107) 51 = .ok (.aconst_null, 1) := by decide +kernel
theorem x107_51 {d : Nat} {L : Lc} {st : List Value} {h : Hp} : ex (d) 107 51 L st h = ex d 107 52 L (.null :: st) h := (ex_of d107_51 (d) L st h).trans (rfl)
theorem d107_52 : decode (mB 107) 52 = .ok (.iconst 0, 1) := by decide +kernel
theorem x107_52 {d : Nat} {L : Lc} {st : List Value} {h : Hp} : ex (d) 107 52 L st h = ex d 107 53 L (.int (nI 0) :: st) h := (ex_of d107_52 (d) L st h).trans (rfl)
theorem d107_53 : decode (mB 107) 53 = .ok (.invokevirtual 347, 3) := by decide +kernel
theorem x107_53 {d : Nat} {L : Lc} {a : Nat} {v0 : Int32} {v1 : Value} {v2 : Int32} {h : Hp} (ht : isTh (h.2.1 a).1 = true) (hv1 : isR v1 = true) : ex (d + 1) 107 53 L (.int v2 :: v1 :: .int v0 :: .ref a :: []) h = bnd (ex d 42 0 [some (.ref a), some (.int v0), some v1, some (.int v2)] [] h) (fun v h' => ex (d + 1) 107 56 L (v.toList ++ []) h') := (ex_of d107_53 (d + 1) L (.int v2 :: v1 :: .int v0 :: .ref a :: []) h).trans (fin_viT (mi := 107) i10_347 ht (by decide +kernel) rfl (by simp [cat1_i, cat1_r, isR_cat1 hv1]) (by simp) (Nat.le_of_ble_eq_true rfl))
theorem d107_56 : decode (mB 107) 56 = .ok (.aload_n 0, 1) := by decide +kernel
theorem x107_56 {d : Nat} {l1 l2 l3 : Option Value} {st : List Value} {a : Nat} {h : Hp} : ex (d) 107 56 [some (.ref a), l1, l2, l3] st h = ex d 107 57 [some (.ref a), l1, l2, l3] (.ref a :: st) h := (ex_of d107_56 (d) [some (.ref a), l1, l2, l3] st h).trans (rfl)
theorem d107_57 : decode (mB 107) 57 = .ok (.aload_n 3, 1) := by decide +kernel
theorem x107_57 {d : Nat} {l0 l1 l2 : Option Value} {st : List Value} {a : Nat} {h : Hp} : ex (d) 107 57 [l0, l1, l2, some (.ref a)] st h = ex d 107 58 [l0, l1, l2, some (.ref a)] (.ref a :: st) h := (ex_of d107_57 (d) [l0, l1, l2, some (.ref a)] st h).trans (rfl)
theorem x107_57n {d : Nat} {l0 l1 l2 : Option Value} {st : List Value} {h : Hp} : ex (d) 107 57 [l0, l1, l2, some .null] st h = ex d 107 58 [l0, l1, l2, some .null] (.null :: st) h := (ex_of d107_57 (d) [l0, l1, l2, some .null] st h).trans (rfl)
theorem x107_57q {d : Nat} {l0 l1 l2 : Option Value} {st : List Value} {a : Option Nat} {h : Hp} : ex (d) 107 57 [l0, l1, l2, some (va_rf a)] st h = ex d 107 58 [l0, l1, l2, some (va_rf a)] (va_rf a :: st) h := (ex_of d107_57 (d) [l0, l1, l2, some (va_rf a)] st h).trans (by cases a <;> rfl)
theorem d107_58 : decode (mB 107) 58 = .ok (.getfield 293, 3) := by decide +kernel
theorem x107_58 {d : Nat} {L : Lc} {st : List Value} {a : Nat} {h : Hp} (ht : isTh (h.2.1 a).1 = true) : ex (d) 107 58 L (.ref a :: st) h = ex d 107 61 L (h.1 a 0 :: st) h := (ex_of d107_58 (d) L (.ref a :: st) h).trans (fin_get (mi := 107) f10_293 ht)
theorem d107_61 : decode (mB 107) 61 = .ok (.invokevirtual 64, 3) := by decide +kernel
theorem x107_61 {d : Nat} {L : Lc} {a : Nat} {v0 : Int32} {h : Hp} (ht : (h.2.1 a).1 = 10) : ex (d + 1) 107 61 L (.int v0 :: .ref a :: []) h = bnd (ex d 85 0 [some (.ref a), some (.int v0)] [] h) (fun v h' => ex (d + 1) 107 64 L (v.toList ++ []) h') := (ex_of d107_61 (d + 1) L (.int v0 :: .ref a :: []) h).trans (fin_vi (mi := 107) i10_64 ht rfl rfl (by simp [cat1_i, cat1_r]) (by simp) (Nat.le_of_ble_eq_true rfl))
theorem d107_64 : decode (mB 107) 64 = .ok (.ireturn, 1) := by decide +kernel
theorem x107_64 {d : Nat} {L : Lc} {x : Int32} {h : Hp} : ex (d) 107 64 L [.int x] h = some (some (.int x), h) := (ex_of d107_64 (d) L [.int x] h).trans (rfl)
theorem d108_0 : decode (mB 108) 0 = .ok (.aload_n 1, 1) := by decide +kernel
theorem x108_0 {d : Nat} {l0 l2 l3 : Option Value} {st : List Value} {a : Nat} {h : Hp} : ex (d) 108 0 [l0, some (.ref a), l2, l3] st h = ex d 108 1 [l0, some (.ref a), l2, l3] (.ref a :: st) h := (ex_of d108_0 (d) [l0, some (.ref a), l2, l3] st h).trans (rfl)
theorem x108_0n {d : Nat} {l0 l2 l3 : Option Value} {st : List Value} {h : Hp} : ex (d) 108 0 [l0, some .null, l2, l3] st h = ex d 108 1 [l0, some .null, l2, l3] (.null :: st) h := (ex_of d108_0 (d) [l0, some .null, l2, l3] st h).trans (rfl)
theorem x108_0q {d : Nat} {l0 l2 l3 : Option Value} {st : List Value} {a : Option Nat} {h : Hp} : ex (d) 108 0 [l0, some (va_rf a), l2, l3] st h = ex d 108 1 [l0, some (va_rf a), l2, l3] (va_rf a :: st) h := (ex_of d108_0 (d) [l0, some (va_rf a), l2, l3] st h).trans (by cases a <;> rfl)
theorem d108_1 : decode (mB 108) 1 = .ok (.iload_n 2, 1) := by decide +kernel
theorem x108_1 {d : Nat} {l0 l1 l3 : Option Value} {st : List Value} {x : Int32} {h : Hp} : ex (d) 108 1 [l0, l1, some (.int x), l3] st h = ex d 108 2 [l0, l1, some (.int x), l3] (.int x :: st) h := (ex_of d108_1 (d) [l0, l1, some (.int x), l3] st h).trans (rfl)
theorem d108_2 : decode (mB 108) 2 = .ok (.invokevirtual 336, 3) := by decide +kernel
theorem x108_2 {d : Nat} {L : Lc} {a : Nat} {v0 : Int32} {h : Hp} (ht : (h.2.1 a).1 = 3) : ex (d + 1) 108 2 L (.int v0 :: .ref a :: []) h = bnd (ex d 6 0 [some (.ref a), some (.int v0)] [] h) (fun v h' => ex (d + 1) 108 5 L (v.toList ++ []) h') := (ex_of d108_2 (d + 1) L (.int v0 :: .ref a :: []) h).trans (fin_vi (mi := 108) i10_336 ht rfl rfl (by simp [cat1_i, cat1_r]) (by simp) (Nat.le_of_ble_eq_true rfl))
theorem d108_5 : decode (mB 108) 5 = .ok (.ifCond .ne 9, 3) := by decide +kernel
theorem x108_5 {d : Nat} {L : Lc} {st : List Value} {x : Int32} {h : Hp} : ex (d) 108 5 L (.int x :: st) h = if ¬ x = 0 then ex d 108 14 L st h else ex d 108 8 L st h := (ex_of d108_5 (d) L (.int x :: st) h).trans (fin_brq (off := 9) (tgt := 14) rfl (by decide))
theorem d108_8 : decode (mB 108) 8 = .ok (.aload_n 0, 1) := by decide +kernel
theorem x108_8 {d : Nat} {l1 l2 l3 : Option Value} {st : List Value} {a : Nat} {h : Hp} : ex (d) 108 8 [some (.ref a), l1, l2, l3] st h = ex d 108 9 [some (.ref a), l1, l2, l3] (.ref a :: st) h := (ex_of d108_8 (d) [some (.ref a), l1, l2, l3] st h).trans (rfl)
theorem d108_9 : decode (mB 108) 9 = .ok (.iconst 2, 1) := by decide +kernel
theorem x108_9 {d : Nat} {L : Lc} {st : List Value} {h : Hp} : ex (d) 108 9 L st h = ex d 108 10 L (.int (nI 2) :: st) h := (ex_of d108_9 (d) L st h).trans (rfl)
theorem d108_10 : decode (mB 108) 10 = .ok (.invokevirtual 57, 3) := by decide +kernel
theorem x108_10 {d : Nat} {L : Lc} {a : Nat} {v0 : Int32} {h : Hp} (ht : (h.2.1 a).1 = 10) : ex (d + 1) 108 10 L (.int v0 :: .ref a :: []) h = bnd (ex d 84 0 [some (.ref a), some (.int v0)] [] h) (fun v h' => ex (d + 1) 108 13 L (v.toList ++ []) h') := (ex_of d108_10 (d + 1) L (.int v0 :: .ref a :: []) h).trans (fin_vi (mi := 108) i10_57 ht rfl rfl (by simp [cat1_i, cat1_r]) (by simp) (Nat.le_of_ble_eq_true rfl))
theorem d108_13 : decode (mB 108) 13 = .ok (.ireturn, 1) := by decide +kernel
theorem x108_13 {d : Nat} {L : Lc} {x : Int32} {h : Hp} : ex (d) 108 13 L [.int x] h = some (some (.int x), h) := (ex_of d108_13 (d) L [.int x] h).trans (rfl)
theorem d108_14 : decode (mB 108) 14 = .ok (.aload_n 1, 1) := by decide +kernel
theorem x108_14 {d : Nat} {l0 l2 l3 : Option Value} {st : List Value} {a : Nat} {h : Hp} : ex (d) 108 14 [l0, some (.ref a), l2, l3] st h = ex d 108 15 [l0, some (.ref a), l2, l3] (.ref a :: st) h := (ex_of d108_14 (d) [l0, some (.ref a), l2, l3] st h).trans (rfl)
theorem x108_14n {d : Nat} {l0 l2 l3 : Option Value} {st : List Value} {h : Hp} : ex (d) 108 14 [l0, some .null, l2, l3] st h = ex d 108 15 [l0, some .null, l2, l3] (.null :: st) h := (ex_of d108_14 (d) [l0, some .null, l2, l3] st h).trans (rfl)
theorem x108_14q {d : Nat} {l0 l2 l3 : Option Value} {st : List Value} {a : Option Nat} {h : Hp} : ex (d) 108 14 [l0, some (va_rf a), l2, l3] st h = ex d 108 15 [l0, some (va_rf a), l2, l3] (va_rf a :: st) h := (ex_of d108_14 (d) [l0, some (va_rf a), l2, l3] st h).trans (by cases a <;> rfl)
theorem d108_15 : decode (mB 108) 15 = .ok (.getfield 351, 3) := by decide +kernel
theorem x108_15 {d : Nat} {L : Lc} {st : List Value} {a : Nat} {h : Hp} (ht : (h.2.1 a).1 = 3) : ex (d) 108 15 L (.ref a :: st) h = ex d 108 18 L (h.1 a 2 :: st) h := (ex_of d108_15 (d) L (.ref a :: st) h).trans (fin_get (mi := 108) f10_351 (tg1 ht rfl))
theorem d108_18 : decode (mB 108) 18 = .ok (.iload_n 2, 1) := by decide +kernel
theorem x108_18 {d : Nat} {l0 l1 l3 : Option Value} {st : List Value} {x : Int32} {h : Hp} : ex (d) 108 18 [l0, l1, some (.int x), l3] st h = ex d 108 19 [l0, l1, some (.int x), l3] (.int x :: st) h := (ex_of d108_18 (d) [l0, l1, some (.int x), l3] st h).trans (rfl)
theorem d108_19 : decode (mB 108) 19 = .ok (.aaload, 1) := by decide +kernel
theorem x108_19 {d : Nat} {L : Lc} {st : List Value} {a j : Nat} {h : Hp} (ht : 21 ≤ (h.2.1 a).1 ∧ (h.2.1 a).1 ≤ 26) (hj : j < (h.2.1 a).2) (hb : j < 2147483648) : ex (d) 108 19 L (.int (nI j) :: .ref a :: st) h = ex d 108 20 L (h.1 a j :: st) h := (ex_of d108_19 (d) L (.int (nI j) :: .ref a :: st) h).trans (fin_aaload ht hj hb)
theorem d108_20 : decode (mB 108) 20 = .ok (.astore_n 3, 1) := by decide +kernel
theorem x108_20 {d : Nat} {l0 l1 l2 l3 : Option Value} {st : List Value} {a : Nat} {h : Hp} : ex (d) 108 20 [l0, l1, l2, l3] (.ref a :: st) h = ex d 108 21 [l0, l1, clr l2, some (.ref a)] st h := (ex_of d108_20 (d) [l0, l1, l2, l3] (.ref a :: st) h).trans (rfl)
theorem x108_20n {d : Nat} {l0 l1 l2 l3 : Option Value} {st : List Value} {h : Hp} : ex (d) 108 20 [l0, l1, l2, l3] (.null :: st) h = ex d 108 21 [l0, l1, clr l2, some .null] st h := (ex_of d108_20 (d) [l0, l1, l2, l3] (.null :: st) h).trans (rfl)
theorem x108_20q {d : Nat} {l0 l1 l2 l3 : Option Value} {st : List Value} {a : Option Nat} {h : Hp} : ex (d) 108 20 [l0, l1, l2, l3] (va_rf a :: st) h = ex d 108 21 [l0, l1, clr l2, some (va_rf a)] st h := (ex_of d108_20 (d) [l0, l1, l2, l3] (va_rf a :: st) h).trans (by cases a <;> rfl)
theorem d108_21 : decode (mB 108) 21 = .ok (.aload_n 3, 1) := by decide +kernel
theorem x108_21 {d : Nat} {l0 l1 l2 : Option Value} {st : List Value} {a : Nat} {h : Hp} : ex (d) 108 21 [l0, l1, l2, some (.ref a)] st h = ex d 108 22 [l0, l1, l2, some (.ref a)] (.ref a :: st) h := (ex_of d108_21 (d) [l0, l1, l2, some (.ref a)] st h).trans (rfl)
theorem x108_21n {d : Nat} {l0 l1 l2 : Option Value} {st : List Value} {h : Hp} : ex (d) 108 21 [l0, l1, l2, some .null] st h = ex d 108 22 [l0, l1, l2, some .null] (.null :: st) h := (ex_of d108_21 (d) [l0, l1, l2, some .null] st h).trans (rfl)
theorem x108_21q {d : Nat} {l0 l1 l2 : Option Value} {st : List Value} {a : Option Nat} {h : Hp} : ex (d) 108 21 [l0, l1, l2, some (va_rf a)] st h = ex d 108 22 [l0, l1, l2, some (va_rf a)] (va_rf a :: st) h := (ex_of d108_21 (d) [l0, l1, l2, some (va_rf a)] st h).trans (by cases a <;> rfl)
theorem d108_22 : decode (mB 108) 22 = .ok (.ifnonnull 11, 3) := by decide +kernel
theorem x108_22n {d : Nat} {L : Lc} {st : List Value} {h : Hp} : ex (d) 108 22 L (.null :: st) h = ex d 108 25 L st h := (ex_of d108_22 (d) L (.null :: st) h).trans (rfl)
theorem x108_22 {d : Nat} {L : Lc} {st : List Value} {a : Nat} {h : Hp} : ex (d) 108 22 L (.ref a :: st) h = ex d 108 33 L st h := (ex_of d108_22 (d) L (.ref a :: st) h).trans (rfl)
theorem d108_25 : decode (mB 108) 25 = .ok (.aload_n 0, 1) := by decide +kernel
theorem x108_25 {d : Nat} {l1 l2 l3 : Option Value} {st : List Value} {a : Nat} {h : Hp} : ex (d) 108 25 [some (.ref a), l1, l2, l3] st h = ex d 108 26 [some (.ref a), l1, l2, l3] (.ref a :: st) h := (ex_of d108_25 (d) [some (.ref a), l1, l2, l3] st h).trans (rfl)
theorem d108_26 : decode (mB 108) 26 = .ok (.iconst 3, 1) := by decide +kernel
theorem x108_26 {d : Nat} {L : Lc} {st : List Value} {h : Hp} : ex (d) 108 26 L st h = ex d 108 27 L (.int (nI 3) :: st) h := (ex_of d108_26 (d) L st h).trans (rfl)
theorem d108_27 : decode (mB 108) 27 = .ok (.invokevirtual 57, 3) := by decide +kernel
theorem x108_27 {d : Nat} {L : Lc} {a : Nat} {v0 : Int32} {h : Hp} (ht : (h.2.1 a).1 = 10) : ex (d + 1) 108 27 L (.int v0 :: .ref a :: []) h = bnd (ex d 84 0 [some (.ref a), some (.int v0)] [] h) (fun v h' => ex (d + 1) 108 30 L (v.toList ++ []) h') := (ex_of d108_27 (d + 1) L (.int v0 :: .ref a :: []) h).trans (fin_vi (mi := 108) i10_57 ht rfl rfl (by simp [cat1_i, cat1_r]) (by simp) (Nat.le_of_ble_eq_true rfl))
theorem d108_30 : decode (mB 108) 30 = .ok (.goto 11, 3) := by decide +kernel
theorem x108_30 {d : Nat} {L : Lc} {st : List Value} {h : Hp} : ex (d) 108 30 L st h = ex d 108 41 L st h := (ex_of d108_30 (d) L st h).trans (rfl)
theorem d108_33 : decode (mB 108) 33 = .ok (.aload_n 0, 1) := by decide +kernel
theorem x108_33 {d : Nat} {l1 l2 l3 : Option Value} {st : List Value} {a : Nat} {h : Hp} : ex (d) 108 33 [some (.ref a), l1, l2, l3] st h = ex d 108 34 [some (.ref a), l1, l2, l3] (.ref a :: st) h := (ex_of d108_33 (d) [some (.ref a), l1, l2, l3] st h).trans (rfl)
theorem d108_34 : decode (mB 108) 34 = .ok (.aload_n 3, 1) := by decide +kernel
theorem x108_34 {d : Nat} {l0 l1 l2 : Option Value} {st : List Value} {a : Nat} {h : Hp} : ex (d) 108 34 [l0, l1, l2, some (.ref a)] st h = ex d 108 35 [l0, l1, l2, some (.ref a)] (.ref a :: st) h := (ex_of d108_34 (d) [l0, l1, l2, some (.ref a)] st h).trans (rfl)
theorem x108_34n {d : Nat} {l0 l1 l2 : Option Value} {st : List Value} {h : Hp} : ex (d) 108 34 [l0, l1, l2, some .null] st h = ex d 108 35 [l0, l1, l2, some .null] (.null :: st) h := (ex_of d108_34 (d) [l0, l1, l2, some .null] st h).trans (rfl)
theorem x108_34q {d : Nat} {l0 l1 l2 : Option Value} {st : List Value} {a : Option Nat} {h : Hp} : ex (d) 108 34 [l0, l1, l2, some (va_rf a)] st h = ex d 108 35 [l0, l1, l2, some (va_rf a)] (va_rf a :: st) h := (ex_of d108_34 (d) [l0, l1, l2, some (va_rf a)] st h).trans (by cases a <;> rfl)
theorem d108_35 : decode (mB 108) 35 = .ok (.getfield 293, 3) := by decide +kernel
theorem x108_35 {d : Nat} {L : Lc} {st : List Value} {a : Nat} {h : Hp} (ht : isTh (h.2.1 a).1 = true) : ex (d) 108 35 L (.ref a :: st) h = ex d 108 38 L (h.1 a 0 :: st) h := (ex_of d108_35 (d) L (.ref a :: st) h).trans (fin_get (mi := 108) f10_293 ht)
theorem d108_38 : decode (mB 108) 38 = .ok (.invokevirtual 64, 3) := by decide +kernel
theorem x108_38 {d : Nat} {L : Lc} {a : Nat} {v0 : Int32} {h : Hp} (ht : (h.2.1 a).1 = 10) : ex (d + 1) 108 38 L (.int v0 :: .ref a :: []) h = bnd (ex d 85 0 [some (.ref a), some (.int v0)] [] h) (fun v h' => ex (d + 1) 108 41 L (v.toList ++ []) h') := (ex_of d108_38 (d + 1) L (.int v0 :: .ref a :: []) h).trans (fin_vi (mi := 108) i10_64 ht rfl rfl (by simp [cat1_i, cat1_r]) (by simp) (Nat.le_of_ble_eq_true rfl))
theorem d108_41 : decode (mB 108) 41 = .ok (.ireturn, 1) := by decide +kernel
theorem x108_41 {d : Nat} {L : Lc} {x : Int32} {h : Hp} : ex (d) 108 41 L [.int x] h = some (some (.int x), h) := (ex_of d108_41 (d) L [.int x] h).trans (rfl)
