/-! ===== x-rows, printed by wip/whole/gen/genx.py: X12_put, X12_slotFault, X12_take, X12_inside, X12_step, X12_undo, X12_partFault, X12_noteSize, X12_size, X12_reach, X12_priceOf, X12_alter, X12_sizeOf, X12_isActor, X12_actor, X12_measure, X12_needs ===== -/
theorem d160_0 : decode (mB 160) 0 = .ok (.aload_n 0, 1) := by decide +kernel
theorem x160_0 {d : Nat} {l1 l2 l3 l4 l5 : Option Value} {st : List Value} {a : Nat} {h : Hp} : ex (d) 160 0 [some (.ref a), l1, l2, l3, l4, l5] st h = ex d 160 1 [some (.ref a), l1, l2, l3, l4, l5] (.ref a :: st) h := (ex_of d160_0 (d) [some (.ref a), l1, l2, l3, l4, l5] st h).trans (rfl)
theorem d160_1 : decode (mB 160) 1 = .ok (.iload_n 1, 1) := by decide +kernel
theorem x160_1 {d : Nat} {l0 l2 l3 l4 l5 : Option Value} {st : List Value} {x : Int32} {h : Hp} : ex (d) 160 1 [l0, some (.int x), l2, l3, l4, l5] st h = ex d 160 2 [l0, some (.int x), l2, l3, l4, l5] (.int x :: st) h := (ex_of d160_1 (d) [l0, some (.int x), l2, l3, l4, l5] st h).trans (rfl)
theorem d160_2 : decode (mB 160) 2 = .ok (.invokevirtual 132, 3) := by decide +kernel
theorem x160_2 {d : Nat} {L : Lc} {a : Nat} {v0 : Int32} {h : Hp} (ht : (h.2.1 a).1 = 11) : ex (d + 1) 160 2 L (.int v0 :: .ref a :: []) h = bnd (ex d 140 0 [some (.ref a), some (.int v0), none] [] h) (fun v h' => ex (d + 1) 160 5 L (v.toList ++ []) h') := (ex_of d160_2 (d + 1) L (.int v0 :: .ref a :: []) h).trans (fin_vi (mi := 160) i11_132 ht rfl rfl (by simp [cat1_i, cat1_r]) (by simp) (Nat.le_of_ble_eq_true rfl))
theorem d160_5 : decode (mB 160) 5 = .ok (.istore 4, 2) := by decide +kernel
theorem x160_5 {d : Nat} {l0 l1 l2 l3 l4 l5 : Option Value} {st : List Value} {x : Int32} {h : Hp} : ex (d) 160 5 [l0, l1, l2, l3, l4, l5] (.int x :: st) h = ex d 160 7 [l0, l1, l2, clr l3, some (.int x), l5] st h := (ex_of d160_5 (d) [l0, l1, l2, l3, l4, l5] (.int x :: st) h).trans (rfl)
theorem d160_7 : decode (mB 160) 7 = .ok (.iload 4, 2) := by decide +kernel
theorem x160_7 {d : Nat} {l0 l1 l2 l3 l5 : Option Value} {st : List Value} {x : Int32} {h : Hp} : ex (d) 160 7 [l0, l1, l2, l3, some (.int x), l5] st h = ex d 160 9 [l0, l1, l2, l3, some (.int x), l5] (.int x :: st) h := (ex_of d160_7 (d) [l0, l1, l2, l3, some (.int x), l5] st h).trans (rfl)
theorem d160_9 : decode (mB 160) 9 = .ok (.ifCond .ge 9, 3) := by decide +kernel
theorem x160_9 {d : Nat} {L : Lc} {st : List Value} {x : Int32} {h : Hp} : ex (d) 160 9 L (.int x :: st) h = if 0 ≤ x then ex d 160 18 L st h else ex d 160 12 L st h := (ex_of d160_9 (d) L (.int x :: st) h).trans (fin_brq (off := 9) (tgt := 18) rfl (by decide))
theorem d160_12 : decode (mB 160) 12 = .ok (.aload_n 0, 1) := by decide +kernel
theorem x160_12 {d : Nat} {l1 l2 l3 l4 l5 : Option Value} {st : List Value} {a : Nat} {h : Hp} : ex (d) 160 12 [some (.ref a), l1, l2, l3, l4, l5] st h = ex d 160 13 [some (.ref a), l1, l2, l3, l4, l5] (.ref a :: st) h := (ex_of d160_12 (d) [some (.ref a), l1, l2, l3, l4, l5] st h).trans (rfl)
theorem d160_13 : decode (mB 160) 13 = .ok (.iconst 1, 1) := by decide +kernel
theorem x160_13 {d : Nat} {L : Lc} {st : List Value} {h : Hp} : ex (d) 160 13 L st h = ex d 160 14 L (.int (nI 1) :: st) h := (ex_of d160_13 (d) L st h).trans (rfl)
theorem d160_14 : decode (mB 160) 14 = .ok (.invokevirtual 109, 3) := by decide +kernel
theorem x160_14 {d : Nat} {L : Lc} {a : Nat} {v0 : Int32} {h : Hp} (ht : (h.2.1 a).1 = 11) : ex (d + 1) 160 14 L (.int v0 :: .ref a :: []) h = bnd (ex d 135 0 [some (.ref a), some (.int v0)] [] h) (fun v h' => ex (d + 1) 160 17 L (v.toList ++ []) h') := (ex_of d160_14 (d + 1) L (.int v0 :: .ref a :: []) h).trans (fin_vi (mi := 160) i11_109 ht rfl rfl (by simp [cat1_i, cat1_r]) (by simp) (Nat.le_of_ble_eq_true rfl))
theorem d160_17 : decode (mB 160) 17 = .ok (.ireturn, 1) := by decide +kernel
theorem x160_17 {d : Nat} {L : Lc} {x : Int32} {h : Hp} : ex (d) 160 17 L [.int x] h = some (some (.int x), h) := (ex_of d160_17 (d) L [.int x] h).trans (rfl)
theorem d160_18 : decode (mB 160) 18 = .ok (.aload_n 0, 1) := by decide +kernel
theorem x160_18 {d : Nat} {l1 l2 l3 l4 l5 : Option Value} {st : List Value} {a : Nat} {h : Hp} : ex (d) 160 18 [some (.ref a), l1, l2, l3, l4, l5] st h = ex d 160 19 [some (.ref a), l1, l2, l3, l4, l5] (.ref a :: st) h := (ex_of d160_18 (d) [some (.ref a), l1, l2, l3, l4, l5] st h).trans (rfl)
theorem d160_19 : decode (mB 160) 19 = .ok (.iload_n 3, 1) := by decide +kernel
theorem x160_19 {d : Nat} {l0 l1 l2 l4 l5 : Option Value} {st : List Value} {x : Int32} {h : Hp} : ex (d) 160 19 [l0, l1, l2, some (.int x), l4, l5] st h = ex d 160 20 [l0, l1, l2, some (.int x), l4, l5] (.int x :: st) h := (ex_of d160_19 (d) [l0, l1, l2, some (.int x), l4, l5] st h).trans (rfl)
theorem d160_20 : decode (mB 160) 20 = .ok (.invokevirtual 105, 3) := by decide +kernel
theorem x160_20 {d : Nat} {L : Lc} {a : Nat} {v0 : Int32} {h : Hp} (ht : (h.2.1 a).1 = 11) : ex (d + 1) 160 20 L (.int v0 :: .ref a :: []) h = bnd (ex d 136 0 [some (.ref a), some (.int v0)] [] h) (fun v h' => ex (d + 1) 160 23 L (v.toList ++ []) h') := (ex_of d160_20 (d + 1) L (.int v0 :: .ref a :: []) h).trans (fin_vi (mi := 160) i11_105 ht rfl rfl (by simp [cat1_i, cat1_r]) (by simp) (Nat.le_of_ble_eq_true rfl))
theorem d160_23 : decode (mB 160) 23 = .ok (.ifCond .ne 10, 3) := by decide +kernel
theorem x160_23 {d : Nat} {L : Lc} {st : List Value} {x : Int32} {h : Hp} : ex (d) 160 23 L (.int x :: st) h = if ¬ x = 0 then ex d 160 33 L st h else ex d 160 26 L st h := (ex_of d160_23 (d) L (.int x :: st) h).trans (fin_brq (off := 10) (tgt := 33) rfl (by decide))
theorem d160_26 : decode (mB 160) 26 = .ok (.aload_n 0, 1) := by decide +kernel
theorem x160_26 {d : Nat} {l1 l2 l3 l4 l5 : Option Value} {st : List Value} {a : Nat} {h : Hp} : ex (d) 160 26 [some (.ref a), l1, l2, l3, l4, l5] st h = ex d 160 27 [some (.ref a), l1, l2, l3, l4, l5] (.ref a :: st) h := (ex_of d160_26 (d) [some (.ref a), l1, l2, l3, l4, l5] st h).trans (rfl)
theorem d160_27 : decode (mB 160) 27 = .ok (.bipush 10, 2) := by decide +kernel
theorem x160_27 {d : Nat} {L : Lc} {st : List Value} {h : Hp} : ex (d) 160 27 L st h = ex d 160 29 L (.int (nI 10) :: st) h := (ex_of d160_27 (d) L st h).trans (rfl)
theorem d160_29 : decode (mB 160) 29 = .ok (.invokevirtual 109, 3) := by decide +kernel
theorem x160_29 {d : Nat} {L : Lc} {a : Nat} {v0 : Int32} {h : Hp} (ht : (h.2.1 a).1 = 11) : ex (d + 1) 160 29 L (.int v0 :: .ref a :: []) h = bnd (ex d 135 0 [some (.ref a), some (.int v0)] [] h) (fun v h' => ex (d + 1) 160 32 L (v.toList ++ []) h') := (ex_of d160_29 (d + 1) L (.int v0 :: .ref a :: []) h).trans (fin_vi (mi := 160) i11_109 ht rfl rfl (by simp [cat1_i, cat1_r]) (by simp) (Nat.le_of_ble_eq_true rfl))
theorem d160_32 : decode (mB 160) 32 = .ok (.ireturn, 1) := by decide +kernel
theorem x160_32 {d : Nat} {L : Lc} {x : Int32} {h : Hp} : ex (d) 160 32 L [.int x] h = some (some (.int x), h) := (ex_of d160_32 (d) L [.int x] h).trans (rfl)
theorem d160_33 : decode (mB 160) 33 = .ok (.aload_n 0, 1) := by decide +kernel
theorem x160_33 {d : Nat} {l1 l2 l3 l4 l5 : Option Value} {st : List Value} {a : Nat} {h : Hp} : ex (d) 160 33 [some (.ref a), l1, l2, l3, l4, l5] st h = ex d 160 34 [some (.ref a), l1, l2, l3, l4, l5] (.ref a :: st) h := (ex_of d160_33 (d) [some (.ref a), l1, l2, l3, l4, l5] st h).trans (rfl)
theorem d160_34 : decode (mB 160) 34 = .ok (.invokevirtual 147, 3) := by decide +kernel
theorem x160_34 {d : Nat} {L : Lc} {a : Nat} {h : Hp} (ht : (h.2.1 a).1 = 11) : ex (d + 1) 160 34 L (.ref a :: []) h = bnd (ex d 153 0 [some (.ref a)] [] h) (fun v h' => ex (d + 1) 160 37 L (v.toList ++ []) h') := (ex_of d160_34 (d + 1) L (.ref a :: []) h).trans (fin_vi (mi := 160) i11_147 ht rfl rfl (by simp [cat1_i, cat1_r]) (by simp) (Nat.le_of_ble_eq_true rfl))
theorem d160_37 : decode (mB 160) 37 = .ok (.iload_n 2, 1) := by decide +kernel
theorem x160_37 {d : Nat} {l0 l1 l3 l4 l5 : Option Value} {st : List Value} {x : Int32} {h : Hp} : ex (d) 160 37 [l0, l1, some (.int x), l3, l4, l5] st h = ex d 160 38 [l0, l1, some (.int x), l3, l4, l5] (.int x :: st) h := (ex_of d160_37 (d) [l0, l1, some (.int x), l3, l4, l5] st h).trans (rfl)
theorem d160_38 : decode (mB 160) 38 = .ok (.iconst 0, 1) := by decide +kernel
theorem x160_38 {d : Nat} {L : Lc} {st : List Value} {h : Hp} : ex (d) 160 38 L st h = ex d 160 39 L (.int (nI 0) :: st) h := (ex_of d160_38 (d) L st h).trans (rfl)
theorem d160_39 : decode (mB 160) 39 = .ok (.aload_n 0, 1) := by decide +kernel
theorem x160_39 {d : Nat} {l1 l2 l3 l4 l5 : Option Value} {st : List Value} {a : Nat} {h : Hp} : ex (d) 160 39 [some (.ref a), l1, l2, l3, l4, l5] st h = ex d 160 40 [some (.ref a), l1, l2, l3, l4, l5] (.ref a :: st) h := (ex_of d160_39 (d) [some (.ref a), l1, l2, l3, l4, l5] st h).trans (rfl)
theorem d160_40 : decode (mB 160) 40 = .ok (.getfield 22, 3) := by decide +kernel
theorem x160_40 {d : Nat} {L : Lc} {st : List Value} {a : Nat} {h : Hp} (ht : (h.2.1 a).1 = 11) : ex (d) 160 40 L (.ref a :: st) h = ex d 160 43 L (h.1 a 6 :: st) h := (ex_of d160_40 (d) L (.ref a :: st) h).trans (fin_get (mi := 160) f11_22 (tg1 ht rfl))
theorem d160_43 : decode (mB 160) 43 = .ok (.iload 4, 2) := by decide +kernel
theorem x160_43 {d : Nat} {l0 l1 l2 l3 l5 : Option Value} {st : List Value} {x : Int32} {h : Hp} : ex (d) 160 43 [l0, l1, l2, l3, some (.int x), l5] st h = ex d 160 45 [l0, l1, l2, l3, some (.int x), l5] (.int x :: st) h := (ex_of d160_43 (d) [l0, l1, l2, l3, some (.int x), l5] st h).trans (rfl)
theorem d160_45 : decode (mB 160) 45 = .ok (.iaload, 1) := by decide +kernel
theorem x160_45 {d : Nat} {L : Lc} {st : List Value} {a j : Nat} {h : Hp} (ht : (h.2.1 a).1 = 20) (hj : j < (h.2.1 a).2) (hb : j < 2147483648) : ex (d) 160 45 L (.int (nI j) :: .ref a :: st) h = ex d 160 46 L (h.1 a j :: st) h := (ex_of d160_45 (d) L (.int (nI j) :: .ref a :: st) h).trans (fin_iaload (Or.inl ht) hj hb)
theorem d160_46 : decode (mB 160) 46 = .ok (.iconst 1, 1) := by decide +kernel
theorem x160_46 {d : Nat} {L : Lc} {st : List Value} {h : Hp} : ex (d) 160 46 L st h = ex d 160 47 L (.int (nI 1) :: st) h := (ex_of d160_46 (d) L st h).trans (rfl)
theorem d160_47 : decode (mB 160) 47 = .ok (.isub, 1) := by decide +kernel
theorem x160_47 {d : Nat} {L : Lc} {st : List Value} {x y : Int32} {h : Hp} : ex (d) 160 47 L (.int y :: .int x :: st) h = ex d 160 48 L (.int (x - y) :: st) h := (ex_of d160_47 (d) L (.int y :: .int x :: st) h).trans (rfl)
theorem d160_48 : decode (mB 160) 48 = .ok (.invokestatic 101, 3) := by decide +kernel
theorem x160_48 {d : Nat} {L : Lc}  {v0 : Int32} {v1 : Int32} {v2 : Int32} {h : Hp} : ex (d + 1) 160 48 L (.int v2 :: .int v1 :: .int v0 :: []) h = bnd (ex d 137 0 [some (.int v0), some (.int v1), some (.int v2)] [] h) (fun v h' => ex (d + 1) 160 51 L (v.toList ++ []) h') := (ex_of d160_48 (d + 1) L (.int v2 :: .int v1 :: .int v0 :: []) h).trans (fin_st (mi := 160) i11_101 (Or.inl rfl) (by simp) (by simp [cat1_i, cat1_r]) (by simp) (Nat.le_of_ble_eq_true rfl))
theorem d160_51 : decode (mB 160) 51 = .ok (.ifCond .ne 9, 3) := by decide +kernel
theorem x160_51 {d : Nat} {L : Lc} {st : List Value} {x : Int32} {h : Hp} : ex (d) 160 51 L (.int x :: st) h = if ¬ x = 0 then ex d 160 60 L st h else ex d 160 54 L st h := (ex_of d160_51 (d) L (.int x :: st) h).trans (fin_brq (off := 9) (tgt := 60) rfl (by decide))
theorem d160_54 : decode (mB 160) 54 = .ok (.aload_n 0, 1) := by decide +kernel
theorem x160_54 {d : Nat} {l1 l2 l3 l4 l5 : Option Value} {st : List Value} {a : Nat} {h : Hp} : ex (d) 160 54 [some (.ref a), l1, l2, l3, l4, l5] st h = ex d 160 55 [some (.ref a), l1, l2, l3, l4, l5] (.ref a :: st) h := (ex_of d160_54 (d) [some (.ref a), l1, l2, l3, l4, l5] st h).trans (rfl)
theorem d160_55 : decode (mB 160) 55 = .ok (.iconst 2, 1) := by decide +kernel
theorem x160_55 {d : Nat} {L : Lc} {st : List Value} {h : Hp} : ex (d) 160 55 L st h = ex d 160 56 L (.int (nI 2) :: st) h := (ex_of d160_55 (d) L st h).trans (rfl)
theorem d160_56 : decode (mB 160) 56 = .ok (.invokevirtual 109, 3) := by decide +kernel
theorem x160_56 {d : Nat} {L : Lc} {a : Nat} {v0 : Int32} {h : Hp} (ht : (h.2.1 a).1 = 11) : ex (d + 1) 160 56 L (.int v0 :: .ref a :: []) h = bnd (ex d 135 0 [some (.ref a), some (.int v0)] [] h) (fun v h' => ex (d + 1) 160 59 L (v.toList ++ []) h') := (ex_of d160_56 (d + 1) L (.int v0 :: .ref a :: []) h).trans (fin_vi (mi := 160) i11_109 ht rfl rfl (by simp [cat1_i, cat1_r]) (by simp) (Nat.le_of_ble_eq_true rfl))
theorem d160_59 : decode (mB 160) 59 = .ok (.ireturn, 1) := by decide +kernel
theorem x160_59 {d : Nat} {L : Lc} {x : Int32} {h : Hp} : ex (d) 160 59 L [.int x] h = some (some (.int x), h) := (ex_of d160_59 (d) L [.int x] h).trans (rfl)
theorem d160_60 : decode (mB 160) 60 = .ok (.aload_n 0, 1) := by decide +kernel
theorem x160_60 {d : Nat} {l1 l2 l3 l4 l5 : Option Value} {st : List Value} {a : Nat} {h : Hp} : ex (d) 160 60 [some (.ref a), l1, l2, l3, l4, l5] st h = ex d 160 61 [some (.ref a), l1, l2, l3, l4, l5] (.ref a :: st) h := (ex_of d160_60 (d) [some (.ref a), l1, l2, l3, l4, l5] st h).trans (rfl)
theorem d160_61 : decode (mB 160) 61 = .ok (.getfield 13, 3) := by decide +kernel
theorem x160_61 {d : Nat} {L : Lc} {st : List Value} {a : Nat} {h : Hp} (ht : (h.2.1 a).1 = 11) : ex (d) 160 61 L (.ref a :: st) h = ex d 160 64 L (h.1 a 3 :: st) h := (ex_of d160_61 (d) L (.ref a :: st) h).trans (fin_get (mi := 160) f11_13 (tg1 ht rfl))
theorem d160_64 : decode (mB 160) 64 = .ok (.iload_n 3, 1) := by decide +kernel
theorem x160_64 {d : Nat} {l0 l1 l2 l4 l5 : Option Value} {st : List Value} {x : Int32} {h : Hp} : ex (d) 160 64 [l0, l1, l2, some (.int x), l4, l5] st h = ex d 160 65 [l0, l1, l2, some (.int x), l4, l5] (.int x :: st) h := (ex_of d160_64 (d) [l0, l1, l2, some (.int x), l4, l5] st h).trans (rfl)
theorem d160_65 : decode (mB 160) 65 = .ok (.iaload, 1) := by decide +kernel
theorem x160_65 {d : Nat} {L : Lc} {st : List Value} {a j : Nat} {h : Hp} (ht : (h.2.1 a).1 = 20) (hj : j < (h.2.1 a).2) (hb : j < 2147483648) : ex (d) 160 65 L (.int (nI j) :: .ref a :: st) h = ex d 160 66 L (h.1 a j :: st) h := (ex_of d160_65 (d) L (.int (nI j) :: .ref a :: st) h).trans (fin_iaload (Or.inl ht) hj hb)
theorem d160_66 : decode (mB 160) 66 = .ok (.ifCond .eq 10, 3) := by decide +kernel
theorem x160_66 {d : Nat} {L : Lc} {st : List Value} {x : Int32} {h : Hp} : ex (d) 160 66 L (.int x :: st) h = if x = 0 then ex d 160 76 L st h else ex d 160 69 L st h := (ex_of d160_66 (d) L (.int x :: st) h).trans (fin_brq (off := 10) (tgt := 76) rfl (by decide))
theorem d160_69 : decode (mB 160) 69 = .ok (.aload_n 0, 1) := by decide +kernel
theorem x160_69 {d : Nat} {l1 l2 l3 l4 l5 : Option Value} {st : List Value} {a : Nat} {h : Hp} : ex (d) 160 69 [some (.ref a), l1, l2, l3, l4, l5] st h = ex d 160 70 [some (.ref a), l1, l2, l3, l4, l5] (.ref a :: st) h := (ex_of d160_69 (d) [some (.ref a), l1, l2, l3, l4, l5] st h).trans (rfl)
theorem d160_70 : decode (mB 160) 70 = .ok (.bipush 8, 2) := by decide +kernel
theorem x160_70 {d : Nat} {L : Lc} {st : List Value} {h : Hp} : ex (d) 160 70 L st h = ex d 160 72 L (.int (nI 8) :: st) h := (ex_of d160_70 (d) L st h).trans (rfl)
theorem d160_72 : decode (mB 160) 72 = .ok (.invokevirtual 109, 3) := by decide +kernel
theorem x160_72 {d : Nat} {L : Lc} {a : Nat} {v0 : Int32} {h : Hp} (ht : (h.2.1 a).1 = 11) : ex (d + 1) 160 72 L (.int v0 :: .ref a :: []) h = bnd (ex d 135 0 [some (.ref a), some (.int v0)] [] h) (fun v h' => ex (d + 1) 160 75 L (v.toList ++ []) h') := (ex_of d160_72 (d + 1) L (.int v0 :: .ref a :: []) h).trans (fin_vi (mi := 160) i11_109 ht rfl rfl (by simp [cat1_i, cat1_r]) (by simp) (Nat.le_of_ble_eq_true rfl))
theorem d160_75 : decode (mB 160) 75 = .ok (.ireturn, 1) := by decide +kernel
theorem x160_75 {d : Nat} {L : Lc} {x : Int32} {h : Hp} : ex (d) 160 75 L [.int x] h = some (some (.int x), h) := (ex_of d160_75 (d) L [.int x] h).trans (rfl)
theorem d160_76 : decode (mB 160) 76 = .ok (.aload_n 0, 1) := by decide +kernel
theorem x160_76 {d : Nat} {l1 l2 l3 l4 l5 : Option Value} {st : List Value} {a : Nat} {h : Hp} : ex (d) 160 76 [some (.ref a), l1, l2, l3, l4, l5] st h = ex d 160 77 [some (.ref a), l1, l2, l3, l4, l5] (.ref a :: st) h := (ex_of d160_76 (d) [some (.ref a), l1, l2, l3, l4, l5] st h).trans (rfl)
theorem d160_77 : decode (mB 160) 77 = .ok (.iload_n 1, 1) := by decide +kernel
theorem x160_77 {d : Nat} {l0 l2 l3 l4 l5 : Option Value} {st : List Value} {x : Int32} {h : Hp} : ex (d) 160 77 [l0, some (.int x), l2, l3, l4, l5] st h = ex d 160 78 [l0, some (.int x), l2, l3, l4, l5] (.int x :: st) h := (ex_of d160_77 (d) [l0, some (.int x), l2, l3, l4, l5] st h).trans (rfl)
theorem d160_78 : decode (mB 160) 78 = .ok (.iload_n 2, 1) := by decide +kernel
theorem x160_78 {d : Nat} {l0 l1 l3 l4 l5 : Option Value} {st : List Value} {x : Int32} {h : Hp} : ex (d) 160 78 [l0, l1, some (.int x), l3, l4, l5] st h = ex d 160 79 [l0, l1, some (.int x), l3, l4, l5] (.int x :: st) h := (ex_of d160_78 (d) [l0, l1, some (.int x), l3, l4, l5] st h).trans (rfl)
theorem d160_79 : decode (mB 160) 79 = .ok (.iload_n 3, 1) := by decide +kernel
theorem x160_79 {d : Nat} {l0 l1 l2 l4 l5 : Option Value} {st : List Value} {x : Int32} {h : Hp} : ex (d) 160 79 [l0, l1, l2, some (.int x), l4, l5] st h = ex d 160 80 [l0, l1, l2, some (.int x), l4, l5] (.int x :: st) h := (ex_of d160_79 (d) [l0, l1, l2, some (.int x), l4, l5] st h).trans (rfl)
theorem d160_80 : decode (mB 160) 80 = .ok (.invokevirtual 150, 3) := by decide +kernel
theorem x160_80 {d : Nat} {L : Lc} {a : Nat} {v0 : Int32} {v1 : Int32} {v2 : Int32} {h : Hp} (ht : (h.2.1 a).1 = 11) : ex (d + 1) 160 80 L (.int v2 :: .int v1 :: .int v0 :: .ref a :: []) h = bnd (ex d 159 0 [some (.ref a), some (.int v0), some (.int v1), some (.int v2)] [] h) (fun v h' => ex (d + 1) 160 83 L (v.toList ++ []) h') := (ex_of d160_80 (d + 1) L (.int v2 :: .int v1 :: .int v0 :: .ref a :: []) h).trans (fin_vi (mi := 160) i11_150 ht rfl rfl (by simp [cat1_i, cat1_r]) (by simp) (Nat.le_of_ble_eq_true rfl))
theorem d160_83 : decode (mB 160) 83 = .ok (.istore 5, 2) := by decide +kernel
theorem x160_83 {d : Nat} {l0 l1 l2 l3 l4 l5 : Option Value} {st : List Value} {x : Int32} {h : Hp} : ex (d) 160 83 [l0, l1, l2, l3, l4, l5] (.int x :: st) h = ex d 160 85 [l0, l1, l2, l3, clr l4, some (.int x)] st h := (ex_of d160_83 (d) [l0, l1, l2, l3, l4, l5] (.int x :: st) h).trans (rfl)
theorem d160_85 : decode (mB 160) 85 = .ok (.iload 5, 2) := by decide +kernel
theorem x160_85 {d : Nat} {l0 l1 l2 l3 l4 : Option Value} {st : List Value} {x : Int32} {h : Hp} : ex (d) 160 85 [l0, l1, l2, l3, l4, some (.int x)] st h = ex d 160 87 [l0, l1, l2, l3, l4, some (.int x)] (.int x :: st) h := (ex_of d160_85 (d) [l0, l1, l2, l3, l4, some (.int x)] st h).trans (rfl)
theorem d160_87 : decode (mB 160) 87 = .ok (.ifCond .le 10, 3) := by decide +kernel
theorem x160_87 {d : Nat} {L : Lc} {st : List Value} {x : Int32} {h : Hp} : ex (d) 160 87 L (.int x :: st) h = if x ≤ 0 then ex d 160 97 L st h else ex d 160 90 L st h := (ex_of d160_87 (d) L (.int x :: st) h).trans (fin_brq (off := 10) (tgt := 97) rfl (by decide))
theorem d160_90 : decode (mB 160) 90 = .ok (.aload_n 0, 1) := by decide +kernel
theorem x160_90 {d : Nat} {l1 l2 l3 l4 l5 : Option Value} {st : List Value} {a : Nat} {h : Hp} : ex (d) 160 90 [some (.ref a), l1, l2, l3, l4, l5] st h = ex d 160 91 [some (.ref a), l1, l2, l3, l4, l5] (.ref a :: st) h := (ex_of d160_90 (d) [some (.ref a), l1, l2, l3, l4, l5] st h).trans (rfl)
theorem d160_91 : decode (mB 160) 91 = .ok (.iload 5, 2) := by decide +kernel
theorem x160_91 {d : Nat} {l0 l1 l2 l3 l4 : Option Value} {st : List Value} {x : Int32} {h : Hp} : ex (d) 160 91 [l0, l1, l2, l3, l4, some (.int x)] st h = ex d 160 93 [l0, l1, l2, l3, l4, some (.int x)] (.int x :: st) h := (ex_of d160_91 (d) [l0, l1, l2, l3, l4, some (.int x)] st h).trans (rfl)
theorem d160_93 : decode (mB 160) 93 = .ok (.invokevirtual 109, 3) := by decide +kernel
theorem x160_93 {d : Nat} {L : Lc} {a : Nat} {v0 : Int32} {h : Hp} (ht : (h.2.1 a).1 = 11) : ex (d + 1) 160 93 L (.int v0 :: .ref a :: []) h = bnd (ex d 135 0 [some (.ref a), some (.int v0)] [] h) (fun v h' => ex (d + 1) 160 96 L (v.toList ++ []) h') := (ex_of d160_93 (d + 1) L (.int v0 :: .ref a :: []) h).trans (fin_vi (mi := 160) i11_109 ht rfl rfl (by simp [cat1_i, cat1_r]) (by simp) (Nat.le_of_ble_eq_true rfl))
theorem d160_96 : decode (mB 160) 96 = .ok (.ireturn, 1) := by decide +kernel
theorem x160_96 {d : Nat} {L : Lc} {x : Int32} {h : Hp} : ex (d) 160 96 L [.int x] h = some (some (.int x), h) := (ex_of d160_96 (d) L [.int x] h).trans (rfl)
theorem d160_97 : decode (mB 160) 97 = .ok (.aload_n 0, 1) := by decide +kernel
theorem x160_97 {d : Nat} {l1 l2 l3 l4 l5 : Option Value} {st : List Value} {a : Nat} {h : Hp} : ex (d) 160 97 [some (.ref a), l1, l2, l3, l4, l5] st h = ex d 160 98 [some (.ref a), l1, l2, l3, l4, l5] (.ref a :: st) h := (ex_of d160_97 (d) [some (.ref a), l1, l2, l3, l4, l5] st h).trans (rfl)
theorem d160_98 : decode (mB 160) 98 = .ok (.iload_n 1, 1) := by decide +kernel
theorem x160_98 {d : Nat} {l0 l2 l3 l4 l5 : Option Value} {st : List Value} {x : Int32} {h : Hp} : ex (d) 160 98 [l0, some (.int x), l2, l3, l4, l5] st h = ex d 160 99 [l0, some (.int x), l2, l3, l4, l5] (.int x :: st) h := (ex_of d160_98 (d) [l0, some (.int x), l2, l3, l4, l5] st h).trans (rfl)
theorem d160_99 : decode (mB 160) 99 = .ok (.iload_n 2, 1) := by decide +kernel
theorem x160_99 {d : Nat} {l0 l1 l3 l4 l5 : Option Value} {st : List Value} {x : Int32} {h : Hp} : ex (d) 160 99 [l0, l1, some (.int x), l3, l4, l5] st h = ex d 160 100 [l0, l1, some (.int x), l3, l4, l5] (.int x :: st) h := (ex_of d160_99 (d) [l0, l1, some (.int x), l3, l4, l5] st h).trans (rfl)
theorem d160_100 : decode (mB 160) 100 = .ok (.iload_n 3, 1) := by decide +kernel
theorem x160_100 {d : Nat} {l0 l1 l2 l4 l5 : Option Value} {st : List Value} {x : Int32} {h : Hp} : ex (d) 160 100 [l0, l1, l2, some (.int x), l4, l5] st h = ex d 160 101 [l0, l1, l2, some (.int x), l4, l5] (.int x :: st) h := (ex_of d160_100 (d) [l0, l1, l2, some (.int x), l4, l5] st h).trans (rfl)
theorem d160_101 : decode (mB 160) 101 = .ok (.invokevirtual 153, 3) := by decide +kernel
theorem x160_101 {d : Nat} {L : Lc} {a : Nat} {v0 : Int32} {v1 : Int32} {v2 : Int32} {h : Hp} (ht : (h.2.1 a).1 = 11) : ex (d + 1) 160 101 L (.int v2 :: .int v1 :: .int v0 :: .ref a :: []) h = bnd (ex d 155 0 [some (.ref a), some (.int v0), some (.int v1), some (.int v2)] [] h) (fun v h' => ex (d + 1) 160 104 L (v.toList ++ []) h') := (ex_of d160_101 (d + 1) L (.int v2 :: .int v1 :: .int v0 :: .ref a :: []) h).trans (fin_vi (mi := 160) i11_153 ht rfl rfl (by simp [cat1_i, cat1_r]) (by simp) (Nat.le_of_ble_eq_true rfl))
theorem d160_104 : decode (mB 160) 104 = .ok (.aload_n 0, 1) := by decide +kernel
theorem x160_104 {d : Nat} {l1 l2 l3 l4 l5 : Option Value} {st : List Value} {a : Nat} {h : Hp} : ex (d) 160 104 [some (.ref a), l1, l2, l3, l4, l5] st h = ex d 160 105 [some (.ref a), l1, l2, l3, l4, l5] (.ref a :: st) h := (ex_of d160_104 (d) [some (.ref a), l1, l2, l3, l4, l5] st h).trans (rfl)
theorem d160_105 : decode (mB 160) 105 = .ok (.iconst 0, 1) := by decide +kernel
theorem x160_105 {d : Nat} {L : Lc} {st : List Value} {h : Hp} : ex (d) 160 105 L st h = ex d 160 106 L (.int (nI 0) :: st) h := (ex_of d160_105 (d) L st h).trans (rfl)
theorem d160_106 : decode (mB 160) 106 = .ok (.iload_n 3, 1) := by decide +kernel
theorem x160_106 {d : Nat} {l0 l1 l2 l4 l5 : Option Value} {st : List Value} {x : Int32} {h : Hp} : ex (d) 160 106 [l0, l1, l2, some (.int x), l4, l5] st h = ex d 160 107 [l0, l1, l2, some (.int x), l4, l5] (.int x :: st) h := (ex_of d160_106 (d) [l0, l1, l2, some (.int x), l4, l5] st h).trans (rfl)
theorem d160_107 : decode (mB 160) 107 = .ok (.iconst 0, 1) := by decide +kernel
theorem x160_107 {d : Nat} {L : Lc} {st : List Value} {h : Hp} : ex (d) 160 107 L st h = ex d 160 108 L (.int (nI 0) :: st) h := (ex_of d160_107 (d) L st h).trans (rfl)
theorem d160_108 : decode (mB 160) 108 = .ok (.iconst 0, 1) := by decide +kernel
theorem x160_108 {d : Nat} {L : Lc} {st : List Value} {h : Hp} : ex (d) 160 108 L st h = ex d 160 109 L (.int (nI 0) :: st) h := (ex_of d160_108 (d) L st h).trans (rfl)
theorem d160_109 : decode (mB 160) 109 = .ok (.iconst 0, 1) := by decide +kernel
theorem x160_109 {d : Nat} {L : Lc} {st : List Value} {h : Hp} : ex (d) 160 109 L st h = ex d 160 110 L (.int (nI 0) :: st) h := (ex_of d160_109 (d) L st h).trans (rfl)
theorem d160_110 : decode (mB 160) 110 = .ok (.iconst 0, 1) := by decide +kernel
theorem x160_110 {d : Nat} {L : Lc} {st : List Value} {h : Hp} : ex (d) 160 110 L st h = ex d 160 111 L (.int (nI 0) :: st) h := (ex_of d160_110 (d) L st h).trans (rfl)
theorem d160_111 : decode (mB 160) 111 = .ok (.invokevirtual 157, 3) := by decide +kernel
theorem x160_111 {d : Nat} {L : Lc} {a : Nat} {v0 : Int32} {v1 : Int32} {v2 : Int32} {v3 : Int32} {v4 : Int32} {v5 : Int32} {h : Hp} (ht : (h.2.1 a).1 = 11) : ex (d + 1) 160 111 L (.int v5 :: .int v4 :: .int v3 :: .int v2 :: .int v1 :: .int v0 :: .ref a :: []) h = bnd (ex d 164 0 [some (.ref a), some (.int v0), some (.int v1), some (.int v2), some (.int v3), some (.int v4), some (.int v5), none, none] [] h) (fun v h' => ex (d + 1) 160 114 L (v.toList ++ []) h') := (ex_of d160_111 (d + 1) L (.int v5 :: .int v4 :: .int v3 :: .int v2 :: .int v1 :: .int v0 :: .ref a :: []) h).trans (fin_vi (mi := 160) i11_157 ht rfl rfl (by simp [cat1_i, cat1_r]) (by simp) (Nat.le_of_ble_eq_true rfl))
theorem d160_114 : decode (mB 160) 114 = .ok (.aload_n 0, 1) := by decide +kernel
theorem x160_114 {d : Nat} {l1 l2 l3 l4 l5 : Option Value} {st : List Value} {a : Nat} {h : Hp} : ex (d) 160 114 [some (.ref a), l1, l2, l3, l4, l5] st h = ex d 160 115 [some (.ref a), l1, l2, l3, l4, l5] (.ref a :: st) h := (ex_of d160_114 (d) [some (.ref a), l1, l2, l3, l4, l5] st h).trans (rfl)
theorem d160_115 : decode (mB 160) 115 = .ok (.iconst 1, 1) := by decide +kernel
theorem x160_115 {d : Nat} {L : Lc} {st : List Value} {h : Hp} : ex (d) 160 115 L st h = ex d 160 116 L (.int (nI 1) :: st) h := (ex_of d160_115 (d) L st h).trans (rfl)
theorem d160_116 : decode (mB 160) 116 = .ok (.invokevirtual 113, 3) := by decide +kernel
theorem x160_116 {d : Nat} {L : Lc} {a : Nat} {v0 : Int32} {h : Hp} (ht : (h.2.1 a).1 = 11) : ex (d + 1) 160 116 L (.int v0 :: .ref a :: []) h = bnd (ex d 134 0 [some (.ref a), some (.int v0)] [] h) (fun v h' => ex (d + 1) 160 119 L (v.toList ++ []) h') := (ex_of d160_116 (d + 1) L (.int v0 :: .ref a :: []) h).trans (fin_vi (mi := 160) i11_113 ht rfl rfl (by simp [cat1_i, cat1_r]) (by simp) (Nat.le_of_ble_eq_true rfl))
theorem d160_119 : decode (mB 160) 119 = .ok (.ireturn, 1) := by decide +kernel
theorem x160_119 {d : Nat} {L : Lc} {x : Int32} {h : Hp} : ex (d) 160 119 L [.int x] h = some (some (.int x), h) := (ex_of d160_119 (d) L [.int x] h).trans (rfl)
theorem d161_0 : decode (mB 161) 0 = .ok (.iload_n 2, 1) := by decide +kernel
theorem x161_0 {d : Nat} {l0 l1 : Option Value} {st : List Value} {x : Int32} {h : Hp} : ex (d) 161 0 [l0, l1, some (.int x)] st h = ex d 161 1 [l0, l1, some (.int x)] (.int x :: st) h := (ex_of d161_0 (d) [l0, l1, some (.int x)] st h).trans (rfl)
theorem d161_1 : decode (mB 161) 1 = .ok (.iconst 0, 1) := by decide +kernel
theorem x161_1 {d : Nat} {L : Lc} {st : List Value} {h : Hp} : ex (d) 161 1 L st h = ex d 161 2 L (.int (nI 0) :: st) h := (ex_of d161_1 (d) L st h).trans (rfl)
theorem d161_2 : decode (mB 161) 2 = .ok (.aload_n 0, 1) := by decide +kernel
theorem x161_2 {d : Nat} {l1 l2 : Option Value} {st : List Value} {a : Nat} {h : Hp} : ex (d) 161 2 [some (.ref a), l1, l2] st h = ex d 161 3 [some (.ref a), l1, l2] (.ref a :: st) h := (ex_of d161_2 (d) [some (.ref a), l1, l2] st h).trans (rfl)
theorem d161_3 : decode (mB 161) 3 = .ok (.getfield 22, 3) := by decide +kernel
theorem x161_3 {d : Nat} {L : Lc} {st : List Value} {a : Nat} {h : Hp} (ht : (h.2.1 a).1 = 11) : ex (d) 161 3 L (.ref a :: st) h = ex d 161 6 L (h.1 a 6 :: st) h := (ex_of d161_3 (d) L (.ref a :: st) h).trans (fin_get (mi := 161) f11_22 (tg1 ht rfl))
theorem d161_6 : decode (mB 161) 6 = .ok (.iload_n 1, 1) := by decide +kernel
theorem x161_6 {d : Nat} {l0 l2 : Option Value} {st : List Value} {x : Int32} {h : Hp} : ex (d) 161 6 [l0, some (.int x), l2] st h = ex d 161 7 [l0, some (.int x), l2] (.int x :: st) h := (ex_of d161_6 (d) [l0, some (.int x), l2] st h).trans (rfl)
theorem d161_7 : decode (mB 161) 7 = .ok (.iaload, 1) := by decide +kernel
theorem x161_7 {d : Nat} {L : Lc} {st : List Value} {a j : Nat} {h : Hp} (ht : (h.2.1 a).1 = 20) (hj : j < (h.2.1 a).2) (hb : j < 2147483648) : ex (d) 161 7 L (.int (nI j) :: .ref a :: st) h = ex d 161 8 L (h.1 a j :: st) h := (ex_of d161_7 (d) L (.int (nI j) :: .ref a :: st) h).trans (fin_iaload (Or.inl ht) hj hb)
theorem d161_8 : decode (mB 161) 8 = .ok (.iconst 1, 1) := by decide +kernel
theorem x161_8 {d : Nat} {L : Lc} {st : List Value} {h : Hp} : ex (d) 161 8 L st h = ex d 161 9 L (.int (nI 1) :: st) h := (ex_of d161_8 (d) L st h).trans (rfl)
theorem d161_9 : decode (mB 161) 9 = .ok (.isub, 1) := by decide +kernel
theorem x161_9 {d : Nat} {L : Lc} {st : List Value} {x y : Int32} {h : Hp} : ex (d) 161 9 L (.int y :: .int x :: st) h = ex d 161 10 L (.int (x - y) :: st) h := (ex_of d161_9 (d) L (.int y :: .int x :: st) h).trans (rfl)
theorem d161_10 : decode (mB 161) 10 = .ok (.invokestatic 101, 3) := by decide +kernel
theorem x161_10 {d : Nat} {L : Lc}  {v0 : Int32} {v1 : Int32} {v2 : Int32} {h : Hp} : ex (d + 1) 161 10 L (.int v2 :: .int v1 :: .int v0 :: []) h = bnd (ex d 137 0 [some (.int v0), some (.int v1), some (.int v2)] [] h) (fun v h' => ex (d + 1) 161 13 L (v.toList ++ []) h') := (ex_of d161_10 (d + 1) L (.int v2 :: .int v1 :: .int v0 :: []) h).trans (fin_st (mi := 161) i11_101 (Or.inl rfl) (by simp) (by simp [cat1_i, cat1_r]) (by simp) (Nat.le_of_ble_eq_true rfl))
theorem d161_13 : decode (mB 161) 13 = .ok (.ifCond .ne 7, 3) := by decide +kernel
theorem x161_13 {d : Nat} {L : Lc} {st : List Value} {x : Int32} {h : Hp} : ex (d) 161 13 L (.int x :: st) h = if ¬ x = 0 then ex d 161 20 L st h else ex d 161 16 L st h := (ex_of d161_13 (d) L (.int x :: st) h).trans (fin_brq (off := 7) (tgt := 20) rfl (by decide))
theorem d161_16 : decode (mB 161) 16 = .ok (.iconst 2, 1) := by decide +kernel
theorem x161_16 {d : Nat} {L : Lc} {st : List Value} {h : Hp} : ex (d) 161 16 L st h = ex d 161 17 L (.int (nI 2) :: st) h := (ex_of d161_16 (d) L st h).trans (rfl)
theorem d161_17 : decode (mB 161) 17 = .ok (.goto 17, 3) := by decide +kernel
theorem x161_17 {d : Nat} {L : Lc} {st : List Value} {h : Hp} : ex (d) 161 17 L st h = ex d 161 34 L st h := (ex_of d161_17 (d) L st h).trans (rfl)
theorem d161_20 : decode (mB 161) 20 = .ok (.aload_n 0, 1) := by decide +kernel
theorem x161_20 {d : Nat} {l1 l2 : Option Value} {st : List Value} {a : Nat} {h : Hp} : ex (d) 161 20 [some (.ref a), l1, l2] st h = ex d 161 21 [some (.ref a), l1, l2] (.ref a :: st) h := (ex_of d161_20 (d) [some (.ref a), l1, l2] st h).trans (rfl)
theorem d161_21 : decode (mB 161) 21 = .ok (.iload_n 1, 1) := by decide +kernel
theorem x161_21 {d : Nat} {l0 l2 : Option Value} {st : List Value} {x : Int32} {h : Hp} : ex (d) 161 21 [l0, some (.int x), l2] st h = ex d 161 22 [l0, some (.int x), l2] (.int x :: st) h := (ex_of d161_21 (d) [l0, some (.int x), l2] st h).trans (rfl)
theorem d161_22 : decode (mB 161) 22 = .ok (.iload_n 2, 1) := by decide +kernel
theorem x161_22 {d : Nat} {l0 l1 : Option Value} {st : List Value} {x : Int32} {h : Hp} : ex (d) 161 22 [l0, l1, some (.int x)] st h = ex d 161 23 [l0, l1, some (.int x)] (.int x :: st) h := (ex_of d161_22 (d) [l0, l1, some (.int x)] st h).trans (rfl)
theorem d161_23 : decode (mB 161) 23 = .ok (.invokevirtual 135, 3) := by decide +kernel
theorem x161_23 {d : Nat} {L : Lc} {a : Nat} {v0 : Int32} {v1 : Int32} {h : Hp} (ht : (h.2.1 a).1 = 11) : ex (d + 1) 161 23 L (.int v1 :: .int v0 :: .ref a :: []) h = bnd (ex d 154 0 [some (.ref a), some (.int v0), some (.int v1)] [] h) (fun v h' => ex (d + 1) 161 26 L (v.toList ++ []) h') := (ex_of d161_23 (d + 1) L (.int v1 :: .int v0 :: .ref a :: []) h).trans (fin_vi (mi := 161) i11_135 ht rfl rfl (by simp [cat1_i, cat1_r]) (by simp) (Nat.le_of_ble_eq_true rfl))
theorem d161_26 : decode (mB 161) 26 = .ok (.ifCond .ge 7, 3) := by decide +kernel
theorem x161_26 {d : Nat} {L : Lc} {st : List Value} {x : Int32} {h : Hp} : ex (d) 161 26 L (.int x :: st) h = if 0 ≤ x then ex d 161 33 L st h else ex d 161 29 L st h := (ex_of d161_26 (d) L (.int x :: st) h).trans (fin_brq (off := 7) (tgt := 33) rfl (by decide))
theorem d161_29 : decode (mB 161) 29 = .ok (.iconst 3, 1) := by decide +kernel
theorem x161_29 {d : Nat} {L : Lc} {st : List Value} {h : Hp} : ex (d) 161 29 L st h = ex d 161 30 L (.int (nI 3) :: st) h := (ex_of d161_29 (d) L st h).trans (rfl)
theorem d161_30 : decode (mB 161) 30 = .ok (.goto 4, 3) := by decide +kernel
theorem x161_30 {d : Nat} {L : Lc} {st : List Value} {h : Hp} : ex (d) 161 30 L st h = ex d 161 34 L st h := (ex_of d161_30 (d) L st h).trans (rfl)
theorem d161_33 : decode (mB 161) 33 = .ok (.iconst 0, 1) := by decide +kernel
theorem x161_33 {d : Nat} {L : Lc} {st : List Value} {h : Hp} : ex (d) 161 33 L st h = ex d 161 34 L (.int (nI 0) :: st) h := (ex_of d161_33 (d) L st h).trans (rfl)
theorem d161_34 : decode (mB 161) 34 = .ok (.ireturn, 1) := by decide +kernel
theorem x161_34 {d : Nat} {L : Lc} {x : Int32} {h : Hp} : ex (d) 161 34 L [.int x] h = some (some (.int x), h) := (ex_of d161_34 (d) L [.int x] h).trans (rfl)
theorem d162_0 : decode (mB 162) 0 = .ok (.aload_n 0, 1) := by decide +kernel
theorem x162_0 {d : Nat} {l1 l2 l3 l4 l5 : Option Value} {st : List Value} {a : Nat} {h : Hp} : ex (d) 162 0 [some (.ref a), l1, l2, l3, l4, l5] st h = ex d 162 1 [some (.ref a), l1, l2, l3, l4, l5] (.ref a :: st) h := (ex_of d162_0 (d) [some (.ref a), l1, l2, l3, l4, l5] st h).trans (rfl)
theorem d162_1 : decode (mB 162) 1 = .ok (.iload_n 1, 1) := by decide +kernel
theorem x162_1 {d : Nat} {l0 l2 l3 l4 l5 : Option Value} {st : List Value} {x : Int32} {h : Hp} : ex (d) 162 1 [l0, some (.int x), l2, l3, l4, l5] st h = ex d 162 2 [l0, some (.int x), l2, l3, l4, l5] (.int x :: st) h := (ex_of d162_1 (d) [l0, some (.int x), l2, l3, l4, l5] st h).trans (rfl)
theorem d162_2 : decode (mB 162) 2 = .ok (.invokevirtual 132, 3) := by decide +kernel
theorem x162_2 {d : Nat} {L : Lc} {a : Nat} {v0 : Int32} {h : Hp} (ht : (h.2.1 a).1 = 11) : ex (d + 1) 162 2 L (.int v0 :: .ref a :: []) h = bnd (ex d 140 0 [some (.ref a), some (.int v0), none] [] h) (fun v h' => ex (d + 1) 162 5 L (v.toList ++ []) h') := (ex_of d162_2 (d + 1) L (.int v0 :: .ref a :: []) h).trans (fin_vi (mi := 162) i11_132 ht rfl rfl (by simp [cat1_i, cat1_r]) (by simp) (Nat.le_of_ble_eq_true rfl))
theorem d162_5 : decode (mB 162) 5 = .ok (.istore_n 3, 1) := by decide +kernel
theorem x162_5 {d : Nat} {l0 l1 l2 l3 l4 l5 : Option Value} {st : List Value} {x : Int32} {h : Hp} : ex (d) 162 5 [l0, l1, l2, l3, l4, l5] (.int x :: st) h = ex d 162 6 [l0, l1, clr l2, some (.int x), l4, l5] st h := (ex_of d162_5 (d) [l0, l1, l2, l3, l4, l5] (.int x :: st) h).trans (rfl)
theorem d162_6 : decode (mB 162) 6 = .ok (.iload_n 3, 1) := by decide +kernel
theorem x162_6 {d : Nat} {l0 l1 l2 l4 l5 : Option Value} {st : List Value} {x : Int32} {h : Hp} : ex (d) 162 6 [l0, l1, l2, some (.int x), l4, l5] st h = ex d 162 7 [l0, l1, l2, some (.int x), l4, l5] (.int x :: st) h := (ex_of d162_6 (d) [l0, l1, l2, some (.int x), l4, l5] st h).trans (rfl)
theorem d162_7 : decode (mB 162) 7 = .ok (.ifCond .ge 9, 3) := by decide +kernel
theorem x162_7 {d : Nat} {L : Lc} {st : List Value} {x : Int32} {h : Hp} : ex (d) 162 7 L (.int x :: st) h = if 0 ≤ x then ex d 162 16 L st h else ex d 162 10 L st h := (ex_of d162_7 (d) L (.int x :: st) h).trans (fin_brq (off := 9) (tgt := 16) rfl (by decide))
theorem d162_10 : decode (mB 162) 10 = .ok (.aload_n 0, 1) := by decide +kernel
theorem x162_10 {d : Nat} {l1 l2 l3 l4 l5 : Option Value} {st : List Value} {a : Nat} {h : Hp} : ex (d) 162 10 [some (.ref a), l1, l2, l3, l4, l5] st h = ex d 162 11 [some (.ref a), l1, l2, l3, l4, l5] (.ref a :: st) h := (ex_of d162_10 (d) [some (.ref a), l1, l2, l3, l4, l5] st h).trans (rfl)
theorem d162_11 : decode (mB 162) 11 = .ok (.iconst 1, 1) := by decide +kernel
theorem x162_11 {d : Nat} {L : Lc} {st : List Value} {h : Hp} : ex (d) 162 11 L st h = ex d 162 12 L (.int (nI 1) :: st) h := (ex_of d162_11 (d) L st h).trans (rfl)
theorem d162_12 : decode (mB 162) 12 = .ok (.invokevirtual 109, 3) := by decide +kernel
theorem x162_12 {d : Nat} {L : Lc} {a : Nat} {v0 : Int32} {h : Hp} (ht : (h.2.1 a).1 = 11) : ex (d + 1) 162 12 L (.int v0 :: .ref a :: []) h = bnd (ex d 135 0 [some (.ref a), some (.int v0)] [] h) (fun v h' => ex (d + 1) 162 15 L (v.toList ++ []) h') := (ex_of d162_12 (d + 1) L (.int v0 :: .ref a :: []) h).trans (fin_vi (mi := 162) i11_109 ht rfl rfl (by simp [cat1_i, cat1_r]) (by simp) (Nat.le_of_ble_eq_true rfl))
theorem d162_15 : decode (mB 162) 15 = .ok (.ireturn, 1) := by decide +kernel
theorem x162_15 {d : Nat} {L : Lc} {x : Int32} {h : Hp} : ex (d) 162 15 L [.int x] h = some (some (.int x), h) := (ex_of d162_15 (d) L [.int x] h).trans (rfl)
theorem d162_16 : decode (mB 162) 16 = .ok (.aload_n 0, 1) := by decide +kernel
theorem x162_16 {d : Nat} {l1 l2 l3 l4 l5 : Option Value} {st : List Value} {a : Nat} {h : Hp} : ex (d) 162 16 [some (.ref a), l1, l2, l3, l4, l5] st h = ex d 162 17 [some (.ref a), l1, l2, l3, l4, l5] (.ref a :: st) h := (ex_of d162_16 (d) [some (.ref a), l1, l2, l3, l4, l5] st h).trans (rfl)
theorem d162_17 : decode (mB 162) 17 = .ok (.invokevirtual 147, 3) := by decide +kernel
theorem x162_17 {d : Nat} {L : Lc} {a : Nat} {h : Hp} (ht : (h.2.1 a).1 = 11) : ex (d + 1) 162 17 L (.ref a :: []) h = bnd (ex d 153 0 [some (.ref a)] [] h) (fun v h' => ex (d + 1) 162 20 L (v.toList ++ []) h') := (ex_of d162_17 (d + 1) L (.ref a :: []) h).trans (fin_vi (mi := 162) i11_147 ht rfl rfl (by simp [cat1_i, cat1_r]) (by simp) (Nat.le_of_ble_eq_true rfl))
theorem d162_20 : decode (mB 162) 20 = .ok (.aload_n 0, 1) := by decide +kernel
theorem x162_20 {d : Nat} {l1 l2 l3 l4 l5 : Option Value} {st : List Value} {a : Nat} {h : Hp} : ex (d) 162 20 [some (.ref a), l1, l2, l3, l4, l5] st h = ex d 162 21 [some (.ref a), l1, l2, l3, l4, l5] (.ref a :: st) h := (ex_of d162_20 (d) [some (.ref a), l1, l2, l3, l4, l5] st h).trans (rfl)
theorem d162_21 : decode (mB 162) 21 = .ok (.iload_n 3, 1) := by decide +kernel
theorem x162_21 {d : Nat} {l0 l1 l2 l4 l5 : Option Value} {st : List Value} {x : Int32} {h : Hp} : ex (d) 162 21 [l0, l1, l2, some (.int x), l4, l5] st h = ex d 162 22 [l0, l1, l2, some (.int x), l4, l5] (.int x :: st) h := (ex_of d162_21 (d) [l0, l1, l2, some (.int x), l4, l5] st h).trans (rfl)
theorem d162_22 : decode (mB 162) 22 = .ok (.iload_n 2, 1) := by decide +kernel
theorem x162_22 {d : Nat} {l0 l1 l3 l4 l5 : Option Value} {st : List Value} {x : Int32} {h : Hp} : ex (d) 162 22 [l0, l1, some (.int x), l3, l4, l5] st h = ex d 162 23 [l0, l1, some (.int x), l3, l4, l5] (.int x :: st) h := (ex_of d162_22 (d) [l0, l1, some (.int x), l3, l4, l5] st h).trans (rfl)
theorem d162_23 : decode (mB 162) 23 = .ok (.invokevirtual 161, 3) := by decide +kernel
theorem x162_23 {d : Nat} {L : Lc} {a : Nat} {v0 : Int32} {v1 : Int32} {h : Hp} (ht : (h.2.1 a).1 = 11) : ex (d + 1) 162 23 L (.int v1 :: .int v0 :: .ref a :: []) h = bnd (ex d 161 0 [some (.ref a), some (.int v0), some (.int v1)] [] h) (fun v h' => ex (d + 1) 162 26 L (v.toList ++ []) h') := (ex_of d162_23 (d + 1) L (.int v1 :: .int v0 :: .ref a :: []) h).trans (fin_vi (mi := 162) i11_161 ht rfl rfl (by simp [cat1_i, cat1_r]) (by simp) (Nat.le_of_ble_eq_true rfl))
theorem d162_26 : decode (mB 162) 26 = .ok (.istore 4, 2) := by decide +kernel
theorem x162_26 {d : Nat} {l0 l1 l2 l3 l4 l5 : Option Value} {st : List Value} {x : Int32} {h : Hp} : ex (d) 162 26 [l0, l1, l2, l3, l4, l5] (.int x :: st) h = ex d 162 28 [l0, l1, l2, clr l3, some (.int x), l5] st h := (ex_of d162_26 (d) [l0, l1, l2, l3, l4, l5] (.int x :: st) h).trans (rfl)
theorem d162_28 : decode (mB 162) 28 = .ok (.iload 4, 2) := by decide +kernel
theorem x162_28 {d : Nat} {l0 l1 l2 l3 l5 : Option Value} {st : List Value} {x : Int32} {h : Hp} : ex (d) 162 28 [l0, l1, l2, l3, some (.int x), l5] st h = ex d 162 30 [l0, l1, l2, l3, some (.int x), l5] (.int x :: st) h := (ex_of d162_28 (d) [l0, l1, l2, l3, some (.int x), l5] st h).trans (rfl)
theorem d162_30 : decode (mB 162) 30 = .ok (.ifCond .le 10, 3) := by decide +kernel
theorem x162_30 {d : Nat} {L : Lc} {st : List Value} {x : Int32} {h : Hp} : ex (d) 162 30 L (.int x :: st) h = if x ≤ 0 then ex d 162 40 L st h else ex d 162 33 L st h := (ex_of d162_30 (d) L (.int x :: st) h).trans (fin_brq (off := 10) (tgt := 40) rfl (by decide))
theorem d162_33 : decode (mB 162) 33 = .ok (.aload_n 0, 1) := by decide +kernel
theorem x162_33 {d : Nat} {l1 l2 l3 l4 l5 : Option Value} {st : List Value} {a : Nat} {h : Hp} : ex (d) 162 33 [some (.ref a), l1, l2, l3, l4, l5] st h = ex d 162 34 [some (.ref a), l1, l2, l3, l4, l5] (.ref a :: st) h := (ex_of d162_33 (d) [some (.ref a), l1, l2, l3, l4, l5] st h).trans (rfl)
theorem d162_34 : decode (mB 162) 34 = .ok (.iload 4, 2) := by decide +kernel
theorem x162_34 {d : Nat} {l0 l1 l2 l3 l5 : Option Value} {st : List Value} {x : Int32} {h : Hp} : ex (d) 162 34 [l0, l1, l2, l3, some (.int x), l5] st h = ex d 162 36 [l0, l1, l2, l3, some (.int x), l5] (.int x :: st) h := (ex_of d162_34 (d) [l0, l1, l2, l3, some (.int x), l5] st h).trans (rfl)
theorem d162_36 : decode (mB 162) 36 = .ok (.invokevirtual 109, 3) := by decide +kernel
theorem x162_36 {d : Nat} {L : Lc} {a : Nat} {v0 : Int32} {h : Hp} (ht : (h.2.1 a).1 = 11) : ex (d + 1) 162 36 L (.int v0 :: .ref a :: []) h = bnd (ex d 135 0 [some (.ref a), some (.int v0)] [] h) (fun v h' => ex (d + 1) 162 39 L (v.toList ++ []) h') := (ex_of d162_36 (d + 1) L (.int v0 :: .ref a :: []) h).trans (fin_vi (mi := 162) i11_109 ht rfl rfl (by simp [cat1_i, cat1_r]) (by simp) (Nat.le_of_ble_eq_true rfl))
theorem d162_39 : decode (mB 162) 39 = .ok (.ireturn, 1) := by decide +kernel
theorem x162_39 {d : Nat} {L : Lc} {x : Int32} {h : Hp} : ex (d) 162 39 L [.int x] h = some (some (.int x), h) := (ex_of d162_39 (d) L [.int x] h).trans (rfl)
theorem d162_40 : decode (mB 162) 40 = .ok (.aload_n 0, 1) := by decide +kernel
theorem x162_40 {d : Nat} {l1 l2 l3 l4 l5 : Option Value} {st : List Value} {a : Nat} {h : Hp} : ex (d) 162 40 [some (.ref a), l1, l2, l3, l4, l5] st h = ex d 162 41 [some (.ref a), l1, l2, l3, l4, l5] (.ref a :: st) h := (ex_of d162_40 (d) [some (.ref a), l1, l2, l3, l4, l5] st h).trans (rfl)
theorem d162_41 : decode (mB 162) 41 = .ok (.iload_n 3, 1) := by decide +kernel
theorem x162_41 {d : Nat} {l0 l1 l2 l4 l5 : Option Value} {st : List Value} {x : Int32} {h : Hp} : ex (d) 162 41 [l0, l1, l2, some (.int x), l4, l5] st h = ex d 162 42 [l0, l1, l2, some (.int x), l4, l5] (.int x :: st) h := (ex_of d162_41 (d) [l0, l1, l2, some (.int x), l4, l5] st h).trans (rfl)
theorem d162_42 : decode (mB 162) 42 = .ok (.iload_n 2, 1) := by decide +kernel
theorem x162_42 {d : Nat} {l0 l1 l3 l4 l5 : Option Value} {st : List Value} {x : Int32} {h : Hp} : ex (d) 162 42 [l0, l1, some (.int x), l3, l4, l5] st h = ex d 162 43 [l0, l1, some (.int x), l3, l4, l5] (.int x :: st) h := (ex_of d162_42 (d) [l0, l1, some (.int x), l3, l4, l5] st h).trans (rfl)
theorem d162_43 : decode (mB 162) 43 = .ok (.invokevirtual 135, 3) := by decide +kernel
theorem x162_43 {d : Nat} {L : Lc} {a : Nat} {v0 : Int32} {v1 : Int32} {h : Hp} (ht : (h.2.1 a).1 = 11) : ex (d + 1) 162 43 L (.int v1 :: .int v0 :: .ref a :: []) h = bnd (ex d 154 0 [some (.ref a), some (.int v0), some (.int v1)] [] h) (fun v h' => ex (d + 1) 162 46 L (v.toList ++ []) h') := (ex_of d162_43 (d + 1) L (.int v1 :: .int v0 :: .ref a :: []) h).trans (fin_vi (mi := 162) i11_135 ht rfl rfl (by simp [cat1_i, cat1_r]) (by simp) (Nat.le_of_ble_eq_true rfl))
theorem d162_46 : decode (mB 162) 46 = .ok (.istore 5, 2) := by decide +kernel
theorem x162_46 {d : Nat} {l0 l1 l2 l3 l4 l5 : Option Value} {st : List Value} {x : Int32} {h : Hp} : ex (d) 162 46 [l0, l1, l2, l3, l4, l5] (.int x :: st) h = ex d 162 48 [l0, l1, l2, l3, clr l4, some (.int x)] st h := (ex_of d162_46 (d) [l0, l1, l2, l3, l4, l5] (.int x :: st) h).trans (rfl)
theorem d162_48 : decode (mB 162) 48 = .ok (.aload_n 0, 1) := by decide +kernel
theorem x162_48 {d : Nat} {l1 l2 l3 l4 l5 : Option Value} {st : List Value} {a : Nat} {h : Hp} : ex (d) 162 48 [some (.ref a), l1, l2, l3, l4, l5] st h = ex d 162 49 [some (.ref a), l1, l2, l3, l4, l5] (.ref a :: st) h := (ex_of d162_48 (d) [some (.ref a), l1, l2, l3, l4, l5] st h).trans (rfl)
theorem d162_49 : decode (mB 162) 49 = .ok (.iload 5, 2) := by decide +kernel
theorem x162_49 {d : Nat} {l0 l1 l2 l3 l4 : Option Value} {st : List Value} {x : Int32} {h : Hp} : ex (d) 162 49 [l0, l1, l2, l3, l4, some (.int x)] st h = ex d 162 51 [l0, l1, l2, l3, l4, some (.int x)] (.int x :: st) h := (ex_of d162_49 (d) [l0, l1, l2, l3, l4, some (.int x)] st h).trans (rfl)
theorem d162_51 : decode (mB 162) 51 = .ok (.iconst 0, 1) := by decide +kernel
theorem x162_51 {d : Nat} {L : Lc} {st : List Value} {h : Hp} : ex (d) 162 51 L st h = ex d 162 52 L (.int (nI 0) :: st) h := (ex_of d162_51 (d) L st h).trans (rfl)
theorem d162_52 : decode (mB 162) 52 = .ok (.invokevirtual 164, 3) := by decide +kernel
theorem x162_52 {d : Nat} {L : Lc} {a : Nat} {v0 : Int32} {v1 : Int32} {h : Hp} (ht : (h.2.1 a).1 = 11) : ex (d + 1) 162 52 L (.int v1 :: .int v0 :: .ref a :: []) h = bnd (ex d 156 0 [some (.ref a), some (.int v0), some (.int v1)] [] h) (fun v h' => ex (d + 1) 162 55 L (v.toList ++ []) h') := (ex_of d162_52 (d + 1) L (.int v1 :: .int v0 :: .ref a :: []) h).trans (fin_vi (mi := 162) i11_164 ht rfl rfl (by simp [cat1_i, cat1_r]) (by simp) (Nat.le_of_ble_eq_true rfl))
theorem d162_55 : decode (mB 162) 55 = .ok (.aload_n 0, 1) := by decide +kernel
theorem x162_55 {d : Nat} {l1 l2 l3 l4 l5 : Option Value} {st : List Value} {a : Nat} {h : Hp} : ex (d) 162 55 [some (.ref a), l1, l2, l3, l4, l5] st h = ex d 162 56 [some (.ref a), l1, l2, l3, l4, l5] (.ref a :: st) h := (ex_of d162_55 (d) [some (.ref a), l1, l2, l3, l4, l5] st h).trans (rfl)
theorem d162_56 : decode (mB 162) 56 = .ok (.iconst 1, 1) := by decide +kernel
theorem x162_56 {d : Nat} {L : Lc} {st : List Value} {h : Hp} : ex (d) 162 56 L st h = ex d 162 57 L (.int (nI 1) :: st) h := (ex_of d162_56 (d) L st h).trans (rfl)
theorem d162_57 : decode (mB 162) 57 = .ok (.iload 5, 2) := by decide +kernel
theorem x162_57 {d : Nat} {l0 l1 l2 l3 l4 : Option Value} {st : List Value} {x : Int32} {h : Hp} : ex (d) 162 57 [l0, l1, l2, l3, l4, some (.int x)] st h = ex d 162 59 [l0, l1, l2, l3, l4, some (.int x)] (.int x :: st) h := (ex_of d162_57 (d) [l0, l1, l2, l3, l4, some (.int x)] st h).trans (rfl)
theorem d162_59 : decode (mB 162) 59 = .ok (.iload_n 1, 1) := by decide +kernel
theorem x162_59 {d : Nat} {l0 l2 l3 l4 l5 : Option Value} {st : List Value} {x : Int32} {h : Hp} : ex (d) 162 59 [l0, some (.int x), l2, l3, l4, l5] st h = ex d 162 60 [l0, some (.int x), l2, l3, l4, l5] (.int x :: st) h := (ex_of d162_59 (d) [l0, some (.int x), l2, l3, l4, l5] st h).trans (rfl)
theorem d162_60 : decode (mB 162) 60 = .ok (.iload_n 2, 1) := by decide +kernel
theorem x162_60 {d : Nat} {l0 l1 l3 l4 l5 : Option Value} {st : List Value} {x : Int32} {h : Hp} : ex (d) 162 60 [l0, l1, some (.int x), l3, l4, l5] st h = ex d 162 61 [l0, l1, some (.int x), l3, l4, l5] (.int x :: st) h := (ex_of d162_60 (d) [l0, l1, some (.int x), l3, l4, l5] st h).trans (rfl)
theorem d162_61 : decode (mB 162) 61 = .ok (.iconst 0, 1) := by decide +kernel
theorem x162_61 {d : Nat} {L : Lc} {st : List Value} {h : Hp} : ex (d) 162 61 L st h = ex d 162 62 L (.int (nI 0) :: st) h := (ex_of d162_61 (d) L st h).trans (rfl)
theorem d162_62 : decode (mB 162) 62 = .ok (.iconst 0, 1) := by decide +kernel
theorem x162_62 {d : Nat} {L : Lc} {st : List Value} {h : Hp} : ex (d) 162 62 L st h = ex d 162 63 L (.int (nI 0) :: st) h := (ex_of d162_62 (d) L st h).trans (rfl)
theorem d162_63 : decode (mB 162) 63 = .ok (.invokevirtual 157, 3) := by decide +kernel
theorem x162_63 {d : Nat} {L : Lc} {a : Nat} {v0 : Int32} {v1 : Int32} {v2 : Int32} {v3 : Int32} {v4 : Int32} {v5 : Int32} {h : Hp} (ht : (h.2.1 a).1 = 11) : ex (d + 1) 162 63 L (.int v5 :: .int v4 :: .int v3 :: .int v2 :: .int v1 :: .int v0 :: .ref a :: []) h = bnd (ex d 164 0 [some (.ref a), some (.int v0), some (.int v1), some (.int v2), some (.int v3), some (.int v4), some (.int v5), none, none] [] h) (fun v h' => ex (d + 1) 162 66 L (v.toList ++ []) h') := (ex_of d162_63 (d + 1) L (.int v5 :: .int v4 :: .int v3 :: .int v2 :: .int v1 :: .int v0 :: .ref a :: []) h).trans (fin_vi (mi := 162) i11_157 ht rfl rfl (by simp [cat1_i, cat1_r]) (by simp) (Nat.le_of_ble_eq_true rfl))
theorem d162_66 : decode (mB 162) 66 = .ok (.aload_n 0, 1) := by decide +kernel
theorem x162_66 {d : Nat} {l1 l2 l3 l4 l5 : Option Value} {st : List Value} {a : Nat} {h : Hp} : ex (d) 162 66 [some (.ref a), l1, l2, l3, l4, l5] st h = ex d 162 67 [some (.ref a), l1, l2, l3, l4, l5] (.ref a :: st) h := (ex_of d162_66 (d) [some (.ref a), l1, l2, l3, l4, l5] st h).trans (rfl)
theorem d162_67 : decode (mB 162) 67 = .ok (.iload 5, 2) := by decide +kernel
theorem x162_67 {d : Nat} {l0 l1 l2 l3 l4 : Option Value} {st : List Value} {x : Int32} {h : Hp} : ex (d) 162 67 [l0, l1, l2, l3, l4, some (.int x)] st h = ex d 162 69 [l0, l1, l2, l3, l4, some (.int x)] (.int x :: st) h := (ex_of d162_67 (d) [l0, l1, l2, l3, l4, some (.int x)] st h).trans (rfl)
theorem d162_69 : decode (mB 162) 69 = .ok (.invokevirtual 113, 3) := by decide +kernel
theorem x162_69 {d : Nat} {L : Lc} {a : Nat} {v0 : Int32} {h : Hp} (ht : (h.2.1 a).1 = 11) : ex (d + 1) 162 69 L (.int v0 :: .ref a :: []) h = bnd (ex d 134 0 [some (.ref a), some (.int v0)] [] h) (fun v h' => ex (d + 1) 162 72 L (v.toList ++ []) h') := (ex_of d162_69 (d + 1) L (.int v0 :: .ref a :: []) h).trans (fin_vi (mi := 162) i11_113 ht rfl rfl (by simp [cat1_i, cat1_r]) (by simp) (Nat.le_of_ble_eq_true rfl))
theorem d162_72 : decode (mB 162) 72 = .ok (.ireturn, 1) := by decide +kernel
theorem x162_72 {d : Nat} {L : Lc} {x : Int32} {h : Hp} : ex (d) 162 72 L [.int x] h = some (some (.int x), h) := (ex_of d162_72 (d) L [.int x] h).trans (rfl)
theorem d163_0 : decode (mB 163) 0 = .ok (.aload_n 0, 1) := by decide +kernel
theorem x163_0 {d : Nat} {l1 l2 l3 l4 : Option Value} {st : List Value} {a : Nat} {h : Hp} : ex (d) 163 0 [some (.ref a), l1, l2, l3, l4] st h = ex d 163 1 [some (.ref a), l1, l2, l3, l4] (.ref a :: st) h := (ex_of d163_0 (d) [some (.ref a), l1, l2, l3, l4] st h).trans (rfl)
theorem d163_1 : decode (mB 163) 1 = .ok (.iload_n 1, 1) := by decide +kernel
theorem x163_1 {d : Nat} {l0 l2 l3 l4 : Option Value} {st : List Value} {x : Int32} {h : Hp} : ex (d) 163 1 [l0, some (.int x), l2, l3, l4] st h = ex d 163 2 [l0, some (.int x), l2, l3, l4] (.int x :: st) h := (ex_of d163_1 (d) [l0, some (.int x), l2, l3, l4] st h).trans (rfl)
theorem d163_2 : decode (mB 163) 2 = .ok (.invokevirtual 132, 3) := by decide +kernel
theorem x163_2 {d : Nat} {L : Lc} {a : Nat} {v0 : Int32} {h : Hp} (ht : (h.2.1 a).1 = 11) : ex (d + 1) 163 2 L (.int v0 :: .ref a :: []) h = bnd (ex d 140 0 [some (.ref a), some (.int v0), none] [] h) (fun v h' => ex (d + 1) 163 5 L (v.toList ++ []) h') := (ex_of d163_2 (d + 1) L (.int v0 :: .ref a :: []) h).trans (fin_vi (mi := 163) i11_132 ht rfl rfl (by simp [cat1_i, cat1_r]) (by simp) (Nat.le_of_ble_eq_true rfl))
theorem d163_5 : decode (mB 163) 5 = .ok (.istore_n 3, 1) := by decide +kernel
theorem x163_5 {d : Nat} {l0 l1 l2 l3 l4 : Option Value} {st : List Value} {x : Int32} {h : Hp} : ex (d) 163 5 [l0, l1, l2, l3, l4] (.int x :: st) h = ex d 163 6 [l0, l1, clr l2, some (.int x), l4] st h := (ex_of d163_5 (d) [l0, l1, l2, l3, l4] (.int x :: st) h).trans (rfl)
theorem d163_6 : decode (mB 163) 6 = .ok (.iload_n 3, 1) := by decide +kernel
theorem x163_6 {d : Nat} {l0 l1 l2 l4 : Option Value} {st : List Value} {x : Int32} {h : Hp} : ex (d) 163 6 [l0, l1, l2, some (.int x), l4] st h = ex d 163 7 [l0, l1, l2, some (.int x), l4] (.int x :: st) h := (ex_of d163_6 (d) [l0, l1, l2, some (.int x), l4] st h).trans (rfl)
theorem d163_7 : decode (mB 163) 7 = .ok (.ifCond .ge 9, 3) := by decide +kernel
theorem x163_7 {d : Nat} {L : Lc} {st : List Value} {x : Int32} {h : Hp} : ex (d) 163 7 L (.int x :: st) h = if 0 ≤ x then ex d 163 16 L st h else ex d 163 10 L st h := (ex_of d163_7 (d) L (.int x :: st) h).trans (fin_brq (off := 9) (tgt := 16) rfl (by decide))
theorem d163_10 : decode (mB 163) 10 = .ok (.aload_n 0, 1) := by decide +kernel
theorem x163_10 {d : Nat} {l1 l2 l3 l4 : Option Value} {st : List Value} {a : Nat} {h : Hp} : ex (d) 163 10 [some (.ref a), l1, l2, l3, l4] st h = ex d 163 11 [some (.ref a), l1, l2, l3, l4] (.ref a :: st) h := (ex_of d163_10 (d) [some (.ref a), l1, l2, l3, l4] st h).trans (rfl)
theorem d163_11 : decode (mB 163) 11 = .ok (.iconst 1, 1) := by decide +kernel
theorem x163_11 {d : Nat} {L : Lc} {st : List Value} {h : Hp} : ex (d) 163 11 L st h = ex d 163 12 L (.int (nI 1) :: st) h := (ex_of d163_11 (d) L st h).trans (rfl)
theorem d163_12 : decode (mB 163) 12 = .ok (.invokevirtual 109, 3) := by decide +kernel
theorem x163_12 {d : Nat} {L : Lc} {a : Nat} {v0 : Int32} {h : Hp} (ht : (h.2.1 a).1 = 11) : ex (d + 1) 163 12 L (.int v0 :: .ref a :: []) h = bnd (ex d 135 0 [some (.ref a), some (.int v0)] [] h) (fun v h' => ex (d + 1) 163 15 L (v.toList ++ []) h') := (ex_of d163_12 (d + 1) L (.int v0 :: .ref a :: []) h).trans (fin_vi (mi := 163) i11_109 ht rfl rfl (by simp [cat1_i, cat1_r]) (by simp) (Nat.le_of_ble_eq_true rfl))
theorem d163_15 : decode (mB 163) 15 = .ok (.ireturn, 1) := by decide +kernel
theorem x163_15 {d : Nat} {L : Lc} {x : Int32} {h : Hp} : ex (d) 163 15 L [.int x] h = some (some (.int x), h) := (ex_of d163_15 (d) L [.int x] h).trans (rfl)
theorem d163_16 : decode (mB 163) 16 = .ok (.aload_n 0, 1) := by decide +kernel
theorem x163_16 {d : Nat} {l1 l2 l3 l4 : Option Value} {st : List Value} {a : Nat} {h : Hp} : ex (d) 163 16 [some (.ref a), l1, l2, l3, l4] st h = ex d 163 17 [some (.ref a), l1, l2, l3, l4] (.ref a :: st) h := (ex_of d163_16 (d) [some (.ref a), l1, l2, l3, l4] st h).trans (rfl)
theorem d163_17 : decode (mB 163) 17 = .ok (.invokevirtual 147, 3) := by decide +kernel
theorem x163_17 {d : Nat} {L : Lc} {a : Nat} {h : Hp} (ht : (h.2.1 a).1 = 11) : ex (d + 1) 163 17 L (.ref a :: []) h = bnd (ex d 153 0 [some (.ref a)] [] h) (fun v h' => ex (d + 1) 163 20 L (v.toList ++ []) h') := (ex_of d163_17 (d + 1) L (.ref a :: []) h).trans (fin_vi (mi := 163) i11_147 ht rfl rfl (by simp [cat1_i, cat1_r]) (by simp) (Nat.le_of_ble_eq_true rfl))
theorem d163_20 : decode (mB 163) 20 = .ok (.aload_n 0, 1) := by decide +kernel
theorem x163_20 {d : Nat} {l1 l2 l3 l4 : Option Value} {st : List Value} {a : Nat} {h : Hp} : ex (d) 163 20 [some (.ref a), l1, l2, l3, l4] st h = ex d 163 21 [some (.ref a), l1, l2, l3, l4] (.ref a :: st) h := (ex_of d163_20 (d) [some (.ref a), l1, l2, l3, l4] st h).trans (rfl)
theorem d163_21 : decode (mB 163) 21 = .ok (.iload_n 3, 1) := by decide +kernel
theorem x163_21 {d : Nat} {l0 l1 l2 l4 : Option Value} {st : List Value} {x : Int32} {h : Hp} : ex (d) 163 21 [l0, l1, l2, some (.int x), l4] st h = ex d 163 22 [l0, l1, l2, some (.int x), l4] (.int x :: st) h := (ex_of d163_21 (d) [l0, l1, l2, some (.int x), l4] st h).trans (rfl)
theorem d163_22 : decode (mB 163) 22 = .ok (.iload_n 2, 1) := by decide +kernel
theorem x163_22 {d : Nat} {l0 l1 l3 l4 : Option Value} {st : List Value} {x : Int32} {h : Hp} : ex (d) 163 22 [l0, l1, some (.int x), l3, l4] st h = ex d 163 23 [l0, l1, some (.int x), l3, l4] (.int x :: st) h := (ex_of d163_22 (d) [l0, l1, some (.int x), l3, l4] st h).trans (rfl)
theorem d163_23 : decode (mB 163) 23 = .ok (.invokevirtual 161, 3) := by decide +kernel
theorem x163_23 {d : Nat} {L : Lc} {a : Nat} {v0 : Int32} {v1 : Int32} {h : Hp} (ht : (h.2.1 a).1 = 11) : ex (d + 1) 163 23 L (.int v1 :: .int v0 :: .ref a :: []) h = bnd (ex d 161 0 [some (.ref a), some (.int v0), some (.int v1)] [] h) (fun v h' => ex (d + 1) 163 26 L (v.toList ++ []) h') := (ex_of d163_23 (d + 1) L (.int v1 :: .int v0 :: .ref a :: []) h).trans (fin_vi (mi := 163) i11_161 ht rfl rfl (by simp [cat1_i, cat1_r]) (by simp) (Nat.le_of_ble_eq_true rfl))
theorem d163_26 : decode (mB 163) 26 = .ok (.istore 4, 2) := by decide +kernel
theorem x163_26 {d : Nat} {l0 l1 l2 l3 l4 : Option Value} {st : List Value} {x : Int32} {h : Hp} : ex (d) 163 26 [l0, l1, l2, l3, l4] (.int x :: st) h = ex d 163 28 [l0, l1, l2, clr l3, some (.int x)] st h := (ex_of d163_26 (d) [l0, l1, l2, l3, l4] (.int x :: st) h).trans (rfl)
theorem d163_28 : decode (mB 163) 28 = .ok (.iload 4, 2) := by decide +kernel
theorem x163_28 {d : Nat} {l0 l1 l2 l3 : Option Value} {st : List Value} {x : Int32} {h : Hp} : ex (d) 163 28 [l0, l1, l2, l3, some (.int x)] st h = ex d 163 30 [l0, l1, l2, l3, some (.int x)] (.int x :: st) h := (ex_of d163_28 (d) [l0, l1, l2, l3, some (.int x)] st h).trans (rfl)
theorem d163_30 : decode (mB 163) 30 = .ok (.ifCond .le 12, 3) := by decide +kernel
theorem x163_30 {d : Nat} {L : Lc} {st : List Value} {x : Int32} {h : Hp} : ex (d) 163 30 L (.int x :: st) h = if x ≤ 0 then ex d 163 42 L st h else ex d 163 33 L st h := (ex_of d163_30 (d) L (.int x :: st) h).trans (fin_brq (off := 12) (tgt := 42) rfl (by decide))
theorem d163_33 : decode (mB 163) 33 = .ok (.aload_n 0, 1) := by decide +kernel
theorem x163_33 {d : Nat} {l1 l2 l3 l4 : Option Value} {st : List Value} {a : Nat} {h : Hp} : ex (d) 163 33 [some (.ref a), l1, l2, l3, l4] st h = ex d 163 34 [some (.ref a), l1, l2, l3, l4] (.ref a :: st) h := (ex_of d163_33 (d) [some (.ref a), l1, l2, l3, l4] st h).trans (rfl)
theorem d163_34 : decode (mB 163) 34 = .ok (.iload 4, 2) := by decide +kernel
theorem x163_34 {d : Nat} {l0 l1 l2 l3 : Option Value} {st : List Value} {x : Int32} {h : Hp} : ex (d) 163 34 [l0, l1, l2, l3, some (.int x)] st h = ex d 163 36 [l0, l1, l2, l3, some (.int x)] (.int x :: st) h := (ex_of d163_34 (d) [l0, l1, l2, l3, some (.int x)] st h).trans (rfl)
theorem d163_36 : decode (mB 163) 36 = .ok (.invokevirtual 109, 3) := by decide +kernel
theorem x163_36 {d : Nat} {L : Lc} {a : Nat} {v0 : Int32} {h : Hp} (ht : (h.2.1 a).1 = 11) : ex (d + 1) 163 36 L (.int v0 :: .ref a :: []) h = bnd (ex d 135 0 [some (.ref a), some (.int v0)] [] h) (fun v h' => ex (d + 1) 163 39 L (v.toList ++ []) h') := (ex_of d163_36 (d + 1) L (.int v0 :: .ref a :: []) h).trans (fin_vi (mi := 163) i11_109 ht rfl rfl (by simp [cat1_i, cat1_r]) (by simp) (Nat.le_of_ble_eq_true rfl))
theorem d163_39 : decode (mB 163) 39 = .ok (.goto 13, 3) := by decide +kernel
theorem x163_39 {d : Nat} {L : Lc} {st : List Value} {h : Hp} : ex (d) 163 39 L st h = ex d 163 52 L st h := (ex_of d163_39 (d) L st h).trans (rfl)
theorem d163_42 : decode (mB 163) 42 = .ok (.aload_n 0, 1) := by decide +kernel
theorem x163_42 {d : Nat} {l1 l2 l3 l4 : Option Value} {st : List Value} {a : Nat} {h : Hp} : ex (d) 163 42 [some (.ref a), l1, l2, l3, l4] st h = ex d 163 43 [some (.ref a), l1, l2, l3, l4] (.ref a :: st) h := (ex_of d163_42 (d) [some (.ref a), l1, l2, l3, l4] st h).trans (rfl)
theorem d163_43 : decode (mB 163) 43 = .ok (.aload_n 0, 1) := by decide +kernel
theorem x163_43 {d : Nat} {l1 l2 l3 l4 : Option Value} {st : List Value} {a : Nat} {h : Hp} : ex (d) 163 43 [some (.ref a), l1, l2, l3, l4] st h = ex d 163 44 [some (.ref a), l1, l2, l3, l4] (.ref a :: st) h := (ex_of d163_43 (d) [some (.ref a), l1, l2, l3, l4] st h).trans (rfl)
theorem d163_44 : decode (mB 163) 44 = .ok (.iload_n 3, 1) := by decide +kernel
theorem x163_44 {d : Nat} {l0 l1 l2 l4 : Option Value} {st : List Value} {x : Int32} {h : Hp} : ex (d) 163 44 [l0, l1, l2, some (.int x), l4] st h = ex d 163 45 [l0, l1, l2, some (.int x), l4] (.int x :: st) h := (ex_of d163_44 (d) [l0, l1, l2, some (.int x), l4] st h).trans (rfl)
theorem d163_45 : decode (mB 163) 45 = .ok (.iload_n 2, 1) := by decide +kernel
theorem x163_45 {d : Nat} {l0 l1 l3 l4 : Option Value} {st : List Value} {x : Int32} {h : Hp} : ex (d) 163 45 [l0, l1, some (.int x), l3, l4] st h = ex d 163 46 [l0, l1, some (.int x), l3, l4] (.int x :: st) h := (ex_of d163_45 (d) [l0, l1, some (.int x), l3, l4] st h).trans (rfl)
theorem d163_46 : decode (mB 163) 46 = .ok (.invokevirtual 135, 3) := by decide +kernel
theorem x163_46 {d : Nat} {L : Lc} {s0 : Value} {a : Nat} {v0 : Int32} {v1 : Int32} {h : Hp} (ht : (h.2.1 a).1 = 11) : ex (d + 1) 163 46 L (.int v1 :: .int v0 :: .ref a :: [s0]) h = bnd (ex d 154 0 [some (.ref a), some (.int v0), some (.int v1)] [] h) (fun v h' => ex (d + 1) 163 49 L (v.toList ++ [s0]) h') := (ex_of d163_46 (d + 1) L (.int v1 :: .int v0 :: .ref a :: [s0]) h).trans (fin_vi (mi := 163) i11_135 ht rfl rfl (by simp [cat1_i, cat1_r]) (by simp) (Nat.le_of_ble_eq_true rfl))
theorem d163_49 : decode (mB 163) 49 = .ok (.invokevirtual 113, 3) := by decide +kernel
theorem x163_49 {d : Nat} {L : Lc} {a : Nat} {v0 : Int32} {h : Hp} (ht : (h.2.1 a).1 = 11) : ex (d + 1) 163 49 L (.int v0 :: .ref a :: []) h = bnd (ex d 134 0 [some (.ref a), some (.int v0)] [] h) (fun v h' => ex (d + 1) 163 52 L (v.toList ++ []) h') := (ex_of d163_49 (d + 1) L (.int v0 :: .ref a :: []) h).trans (fin_vi (mi := 163) i11_113 ht rfl rfl (by simp [cat1_i, cat1_r]) (by simp) (Nat.le_of_ble_eq_true rfl))
theorem d163_52 : decode (mB 163) 52 = .ok (.ireturn, 1) := by decide +kernel
theorem x163_52 {d : Nat} {L : Lc} {x : Int32} {h : Hp} : ex (d) 163 52 L [.int x] h = some (some (.int x), h) := (ex_of d163_52 (d) L [.int x] h).trans (rfl)
theorem d164_0 : decode (mB 164) 0 = .ok (.bipush 6, 2) := by decide +kernel
theorem x164_0 {d : Nat} {L : Lc} {st : List Value} {h : Hp} : ex (d) 164 0 L st h = ex d 164 2 L (.int (nI 6) :: st) h := (ex_of d164_0 (d) L st h).trans (rfl)
theorem d164_2 : decode (mB 164) 2 = .ok (.aload_n 0, 1) := by decide +kernel
theorem x164_2 {d : Nat} {l1 l2 l3 l4 l5 l6 l7 l8 : Option Value} {st : List Value} {a : Nat} {h : Hp} : ex (d) 164 2 [some (.ref a), l1, l2, l3, l4, l5, l6, l7, l8] st h = ex d 164 3 [some (.ref a), l1, l2, l3, l4, l5, l6, l7, l8] (.ref a :: st) h := (ex_of d164_2 (d) [some (.ref a), l1, l2, l3, l4, l5, l6, l7, l8] st h).trans (rfl)
theorem d164_3 : decode (mB 164) 3 = .ok (.getfield 168, 3) := by decide +kernel
theorem x164_3 {d : Nat} {L : Lc} {st : List Value} {a : Nat} {h : Hp} (ht : (h.2.1 a).1 = 11) : ex (d) 164 3 L (.ref a :: st) h = ex d 164 6 L (h.1 a 17 :: st) h := (ex_of d164_3 (d) L (.ref a :: st) h).trans (fin_get (mi := 164) f11_168 (tg1 ht rfl))
theorem d164_6 : decode (mB 164) 6 = .ok (.imul, 1) := by decide +kernel
theorem x164_6 {d : Nat} {L : Lc} {st : List Value} {x y : Int32} {h : Hp} : ex (d) 164 6 L (.int y :: .int x :: st) h = ex d 164 7 L (.int (x * y) :: st) h := (ex_of d164_6 (d) L (.int y :: .int x :: st) h).trans (rfl)
theorem d164_7 : decode (mB 164) 7 = .ok (.bipush 6, 2) := by decide +kernel
theorem x164_7 {d : Nat} {L : Lc} {st : List Value} {h : Hp} : ex (d) 164 7 L st h = ex d 164 9 L (.int (nI 6) :: st) h := (ex_of d164_7 (d) L st h).trans (rfl)
theorem d164_9 : decode (mB 164) 9 = .ok (.iadd, 1) := by decide +kernel
theorem x164_9 {d : Nat} {L : Lc} {st : List Value} {x y : Int32} {h : Hp} : ex (d) 164 9 L (.int y :: .int x :: st) h = ex d 164 10 L (.int (x + y) :: st) h := (ex_of d164_9 (d) L (.int y :: .int x :: st) h).trans (rfl)
theorem d164_10 : decode (mB 164) 10 = .ok (.aload_n 0, 1) := by decide +kernel
theorem x164_10 {d : Nat} {l1 l2 l3 l4 l5 l6 l7 l8 : Option Value} {st : List Value} {a : Nat} {h : Hp} : ex (d) 164 10 [some (.ref a), l1, l2, l3, l4, l5, l6, l7, l8] st h = ex d 164 11 [some (.ref a), l1, l2, l3, l4, l5, l6, l7, l8] (.ref a :: st) h := (ex_of d164_10 (d) [some (.ref a), l1, l2, l3, l4, l5, l6, l7, l8] st h).trans (rfl)
theorem d164_11 : decode (mB 164) 11 = .ok (.getfield 43, 3) := by decide +kernel
theorem x164_11 {d : Nat} {L : Lc} {st : List Value} {a : Nat} {h : Hp} (ht : (h.2.1 a).1 = 11) : ex (d) 164 11 L (.ref a :: st) h = ex d 164 14 L (h.1 a 16 :: st) h := (ex_of d164_11 (d) L (.ref a :: st) h).trans (fin_get (mi := 164) f11_43 (tg1 ht rfl))
theorem d164_14 : decode (mB 164) 14 = .ok (.arraylength, 1) := by decide +kernel
theorem x164_14 {d : Nat} {L : Lc} {st : List Value} {a : Nat} {h : Hp} (ht : 20 ≤ (h.2.1 a).1 ∧ (h.2.1 a).1 ≤ 30) : ex (d) 164 14 L (.ref a :: st) h = ex d 164 15 L (.int (nI (h.2.1 a).2) :: st) h := (ex_of d164_14 (d) L (.ref a :: st) h).trans (fin_alen ht)
theorem d164_15 : decode (mB 164) 15 = .ok (.if_icmp .le 53, 3) := by decide +kernel
theorem x164_15 {d : Nat} {L : Lc} {st : List Value} {x y : Int32} {h : Hp} : ex (d) 164 15 L (.int y :: .int x :: st) h = if x ≤ y then ex d 164 68 L st h else ex d 164 18 L st h := (ex_of d164_15 (d) L (.int y :: .int x :: st) h).trans (fin_brq (off := 53) (tgt := 68) rfl (by decide))
theorem d164_18 : decode (mB 164) 18 = .ok (.iconst 2, 1) := by decide +kernel
theorem x164_18 {d : Nat} {L : Lc} {st : List Value} {h : Hp} : ex (d) 164 18 L st h = ex d 164 19 L (.int (nI 2) :: st) h := (ex_of d164_18 (d) L st h).trans (rfl)
theorem d164_19 : decode (mB 164) 19 = .ok (.aload_n 0, 1) := by decide +kernel
theorem x164_19 {d : Nat} {l1 l2 l3 l4 l5 l6 l7 l8 : Option Value} {st : List Value} {a : Nat} {h : Hp} : ex (d) 164 19 [some (.ref a), l1, l2, l3, l4, l5, l6, l7, l8] st h = ex d 164 20 [some (.ref a), l1, l2, l3, l4, l5, l6, l7, l8] (.ref a :: st) h := (ex_of d164_19 (d) [some (.ref a), l1, l2, l3, l4, l5, l6, l7, l8] st h).trans (rfl)
theorem d164_20 : decode (mB 164) 20 = .ok (.getfield 43, 3) := by decide +kernel
theorem x164_20 {d : Nat} {L : Lc} {st : List Value} {a : Nat} {h : Hp} (ht : (h.2.1 a).1 = 11) : ex (d) 164 20 L (.ref a :: st) h = ex d 164 23 L (h.1 a 16 :: st) h := (ex_of d164_20 (d) L (.ref a :: st) h).trans (fin_get (mi := 164) f11_43 (tg1 ht rfl))
theorem d164_23 : decode (mB 164) 23 = .ok (.arraylength, 1) := by decide +kernel
theorem x164_23 {d : Nat} {L : Lc} {st : List Value} {a : Nat} {h : Hp} (ht : 20 ≤ (h.2.1 a).1 ∧ (h.2.1 a).1 ≤ 30) : ex (d) 164 23 L (.ref a :: st) h = ex d 164 24 L (.int (nI (h.2.1 a).2) :: st) h := (ex_of d164_23 (d) L (.ref a :: st) h).trans (fin_alen ht)
theorem d164_24 : decode (mB 164) 24 = .ok (.imul, 1) := by decide +kernel
theorem x164_24 {d : Nat} {L : Lc} {st : List Value} {x y : Int32} {h : Hp} : ex (d) 164 24 L (.int y :: .int x :: st) h = ex d 164 25 L (.int (x * y) :: st) h := (ex_of d164_24 (d) L (.int y :: .int x :: st) h).trans (rfl)
theorem d164_25 : decode (mB 164) 25 = .ok (.newarray .int, 2) := by decide +kernel
theorem x164_25 {d : Nat} {L : Lc} {st : List Value} {n : Nat} {h : Hp} (hn : n ≤ 10000) : ex (d) 164 25 L (.int (nI n) :: st) h = ex d 164 27 L (.ref h.2.2.1 :: st) (mnw h.1 h.2.2.1 (fun _ => .int 0), mnw h.2.1 h.2.2.1 (20, n), h.2.2.1 + 1, h.2.2.2 + n) := (ex_of d164_25 (d) L (.int (nI n) :: st) h).trans (fin_nwa hn)
theorem d164_27 : decode (mB 164) 27 = .ok (.astore 7, 2) := by decide +kernel
theorem x164_27 {d : Nat} {l0 l1 l2 l3 l4 l5 l6 l7 l8 : Option Value} {st : List Value} {a : Nat} {h : Hp} : ex (d) 164 27 [l0, l1, l2, l3, l4, l5, l6, l7, l8] (.ref a :: st) h = ex d 164 29 [l0, l1, l2, l3, l4, l5, clr l6, some (.ref a), l8] st h := (ex_of d164_27 (d) [l0, l1, l2, l3, l4, l5, l6, l7, l8] (.ref a :: st) h).trans (rfl)
theorem x164_27n {d : Nat} {l0 l1 l2 l3 l4 l5 l6 l7 l8 : Option Value} {st : List Value} {h : Hp} : ex (d) 164 27 [l0, l1, l2, l3, l4, l5, l6, l7, l8] (.null :: st) h = ex d 164 29 [l0, l1, l2, l3, l4, l5, clr l6, some .null, l8] st h := (ex_of d164_27 (d) [l0, l1, l2, l3, l4, l5, l6, l7, l8] (.null :: st) h).trans (rfl)
theorem x164_27q {d : Nat} {l0 l1 l2 l3 l4 l5 l6 l7 l8 : Option Value} {st : List Value} {a : Option Nat} {h : Hp} : ex (d) 164 27 [l0, l1, l2, l3, l4, l5, l6, l7, l8] (va_rf a :: st) h = ex d 164 29 [l0, l1, l2, l3, l4, l5, clr l6, some (va_rf a), l8] st h := (ex_of d164_27 (d) [l0, l1, l2, l3, l4, l5, l6, l7, l8] (va_rf a :: st) h).trans (by cases a <;> rfl)
theorem d164_29 : decode (mB 164) 29 = .ok (.iconst 0, 1) := by decide +kernel
theorem x164_29 {d : Nat} {L : Lc} {st : List Value} {h : Hp} : ex (d) 164 29 L st h = ex d 164 30 L (.int (nI 0) :: st) h := (ex_of d164_29 (d) L st h).trans (rfl)
theorem d164_30 : decode (mB 164) 30 = .ok (.istore 8, 2) := by decide +kernel
theorem x164_30 {d : Nat} {l0 l1 l2 l3 l4 l5 l6 l7 l8 : Option Value} {st : List Value} {x : Int32} {h : Hp} : ex (d) 164 30 [l0, l1, l2, l3, l4, l5, l6, l7, l8] (.int x :: st) h = ex d 164 32 [l0, l1, l2, l3, l4, l5, l6, clr l7, some (.int x)] st h := (ex_of d164_30 (d) [l0, l1, l2, l3, l4, l5, l6, l7, l8] (.int x :: st) h).trans (rfl)
theorem d164_32 : decode (mB 164) 32 = .ok (.iload 8, 2) := by decide +kernel
theorem x164_32 {d : Nat} {l0 l1 l2 l3 l4 l5 l6 l7 : Option Value} {st : List Value} {x : Int32} {h : Hp} : ex (d) 164 32 [l0, l1, l2, l3, l4, l5, l6, l7, some (.int x)] st h = ex d 164 34 [l0, l1, l2, l3, l4, l5, l6, l7, some (.int x)] (.int x :: st) h := (ex_of d164_32 (d) [l0, l1, l2, l3, l4, l5, l6, l7, some (.int x)] st h).trans (rfl)
theorem d164_34 : decode (mB 164) 34 = .ok (.bipush 6, 2) := by decide +kernel
theorem x164_34 {d : Nat} {L : Lc} {st : List Value} {h : Hp} : ex (d) 164 34 L st h = ex d 164 36 L (.int (nI 6) :: st) h := (ex_of d164_34 (d) L st h).trans (rfl)
theorem d164_36 : decode (mB 164) 36 = .ok (.aload_n 0, 1) := by decide +kernel
theorem x164_36 {d : Nat} {l1 l2 l3 l4 l5 l6 l7 l8 : Option Value} {st : List Value} {a : Nat} {h : Hp} : ex (d) 164 36 [some (.ref a), l1, l2, l3, l4, l5, l6, l7, l8] st h = ex d 164 37 [some (.ref a), l1, l2, l3, l4, l5, l6, l7, l8] (.ref a :: st) h := (ex_of d164_36 (d) [some (.ref a), l1, l2, l3, l4, l5, l6, l7, l8] st h).trans (rfl)
theorem d164_37 : decode (mB 164) 37 = .ok (.getfield 168, 3) := by decide +kernel
theorem x164_37 {d : Nat} {L : Lc} {st : List Value} {a : Nat} {h : Hp} (ht : (h.2.1 a).1 = 11) : ex (d) 164 37 L (.ref a :: st) h = ex d 164 40 L (h.1 a 17 :: st) h := (ex_of d164_37 (d) L (.ref a :: st) h).trans (fin_get (mi := 164) f11_168 (tg1 ht rfl))
theorem d164_40 : decode (mB 164) 40 = .ok (.imul, 1) := by decide +kernel
theorem x164_40 {d : Nat} {L : Lc} {st : List Value} {x y : Int32} {h : Hp} : ex (d) 164 40 L (.int y :: .int x :: st) h = ex d 164 41 L (.int (x * y) :: st) h := (ex_of d164_40 (d) L (.int y :: .int x :: st) h).trans (rfl)
theorem d164_41 : decode (mB 164) 41 = .ok (.if_icmp .ge 21, 3) := by decide +kernel
theorem x164_41 {d : Nat} {L : Lc} {st : List Value} {x y : Int32} {h : Hp} : ex (d) 164 41 L (.int y :: .int x :: st) h = if y ≤ x then ex d 164 62 L st h else ex d 164 44 L st h := (ex_of d164_41 (d) L (.int y :: .int x :: st) h).trans (fin_brq (off := 21) (tgt := 62) rfl (by decide))
theorem d164_44 : decode (mB 164) 44 = .ok (.aload 7, 2) := by decide +kernel
theorem x164_44 {d : Nat} {l0 l1 l2 l3 l4 l5 l6 l8 : Option Value} {st : List Value} {a : Nat} {h : Hp} : ex (d) 164 44 [l0, l1, l2, l3, l4, l5, l6, some (.ref a), l8] st h = ex d 164 46 [l0, l1, l2, l3, l4, l5, l6, some (.ref a), l8] (.ref a :: st) h := (ex_of d164_44 (d) [l0, l1, l2, l3, l4, l5, l6, some (.ref a), l8] st h).trans (rfl)
theorem x164_44n {d : Nat} {l0 l1 l2 l3 l4 l5 l6 l8 : Option Value} {st : List Value} {h : Hp} : ex (d) 164 44 [l0, l1, l2, l3, l4, l5, l6, some .null, l8] st h = ex d 164 46 [l0, l1, l2, l3, l4, l5, l6, some .null, l8] (.null :: st) h := (ex_of d164_44 (d) [l0, l1, l2, l3, l4, l5, l6, some .null, l8] st h).trans (rfl)
theorem x164_44q {d : Nat} {l0 l1 l2 l3 l4 l5 l6 l8 : Option Value} {st : List Value} {a : Option Nat} {h : Hp} : ex (d) 164 44 [l0, l1, l2, l3, l4, l5, l6, some (va_rf a), l8] st h = ex d 164 46 [l0, l1, l2, l3, l4, l5, l6, some (va_rf a), l8] (va_rf a :: st) h := (ex_of d164_44 (d) [l0, l1, l2, l3, l4, l5, l6, some (va_rf a), l8] st h).trans (by cases a <;> rfl)
theorem d164_46 : decode (mB 164) 46 = .ok (.iload 8, 2) := by decide +kernel
theorem x164_46 {d : Nat} {l0 l1 l2 l3 l4 l5 l6 l7 : Option Value} {st : List Value} {x : Int32} {h : Hp} : ex (d) 164 46 [l0, l1, l2, l3, l4, l5, l6, l7, some (.int x)] st h = ex d 164 48 [l0, l1, l2, l3, l4, l5, l6, l7, some (.int x)] (.int x :: st) h := (ex_of d164_46 (d) [l0, l1, l2, l3, l4, l5, l6, l7, some (.int x)] st h).trans (rfl)
theorem d164_48 : decode (mB 164) 48 = .ok (.aload_n 0, 1) := by decide +kernel
theorem x164_48 {d : Nat} {l1 l2 l3 l4 l5 l6 l7 l8 : Option Value} {st : List Value} {a : Nat} {h : Hp} : ex (d) 164 48 [some (.ref a), l1, l2, l3, l4, l5, l6, l7, l8] st h = ex d 164 49 [some (.ref a), l1, l2, l3, l4, l5, l6, l7, l8] (.ref a :: st) h := (ex_of d164_48 (d) [some (.ref a), l1, l2, l3, l4, l5, l6, l7, l8] st h).trans (rfl)
theorem d164_49 : decode (mB 164) 49 = .ok (.getfield 43, 3) := by decide +kernel
theorem x164_49 {d : Nat} {L : Lc} {st : List Value} {a : Nat} {h : Hp} (ht : (h.2.1 a).1 = 11) : ex (d) 164 49 L (.ref a :: st) h = ex d 164 52 L (h.1 a 16 :: st) h := (ex_of d164_49 (d) L (.ref a :: st) h).trans (fin_get (mi := 164) f11_43 (tg1 ht rfl))
theorem d164_52 : decode (mB 164) 52 = .ok (.iload 8, 2) := by decide +kernel
theorem x164_52 {d : Nat} {l0 l1 l2 l3 l4 l5 l6 l7 : Option Value} {st : List Value} {x : Int32} {h : Hp} : ex (d) 164 52 [l0, l1, l2, l3, l4, l5, l6, l7, some (.int x)] st h = ex d 164 54 [l0, l1, l2, l3, l4, l5, l6, l7, some (.int x)] (.int x :: st) h := (ex_of d164_52 (d) [l0, l1, l2, l3, l4, l5, l6, l7, some (.int x)] st h).trans (rfl)
theorem d164_54 : decode (mB 164) 54 = .ok (.iaload, 1) := by decide +kernel
theorem x164_54 {d : Nat} {L : Lc} {st : List Value} {a j : Nat} {h : Hp} (ht : (h.2.1 a).1 = 20) (hj : j < (h.2.1 a).2) (hb : j < 2147483648) : ex (d) 164 54 L (.int (nI j) :: .ref a :: st) h = ex d 164 55 L (h.1 a j :: st) h := (ex_of d164_54 (d) L (.int (nI j) :: .ref a :: st) h).trans (fin_iaload (Or.inl ht) hj hb)
theorem d164_55 : decode (mB 164) 55 = .ok (.iastore, 1) := by decide +kernel
theorem x164_55 {d : Nat} {L : Lc} {st : List Value} {a j : Nat} {x : Int32} {h : Hp} (ht : (h.2.1 a).1 = 20) (hj : j < (h.2.1 a).2) (hb : j < 2147483648) : ex (d) 164 55 L (.int x :: .int (nI j) :: .ref a :: st) h = ex d 164 56 L st (mup h.1 a j (.int x), h.2) := (ex_of d164_55 (d) L (.int x :: .int (nI j) :: .ref a :: st) h).trans (fin_iastore ht hj hb)
theorem d164_56 : decode (mB 164) 56 = .ok (.iinc 8 1, 3) := by decide +kernel
theorem x164_56 {d : Nat} {l0 l1 l2 l3 l4 l5 l6 l7 : Option Value} {st : List Value} {x : Int32} {h : Hp} : ex (d) 164 56 [l0, l1, l2, l3, l4, l5, l6, l7, some (.int x)] st h = ex d 164 59 [l0, l1, l2, l3, l4, l5, l6, clr l7, some (.int (x + (nI 1)))] st h := (ex_of d164_56 (d) [l0, l1, l2, l3, l4, l5, l6, l7, some (.int x)] st h).trans (rfl)
theorem d164_59 : decode (mB 164) 59 = .ok (.goto (-27), 3) := by decide +kernel
theorem x164_59 {d : Nat} {L : Lc} {st : List Value} {h : Hp} : ex (d) 164 59 L st h = ex d 164 32 L st h := (ex_of d164_59 (d) L st h).trans (rfl)
theorem d164_62 : decode (mB 164) 62 = .ok (.aload_n 0, 1) := by decide +kernel
theorem x164_62 {d : Nat} {l1 l2 l3 l4 l5 l6 l7 l8 : Option Value} {st : List Value} {a : Nat} {h : Hp} : ex (d) 164 62 [some (.ref a), l1, l2, l3, l4, l5, l6, l7, l8] st h = ex d 164 63 [some (.ref a), l1, l2, l3, l4, l5, l6, l7, l8] (.ref a :: st) h := (ex_of d164_62 (d) [some (.ref a), l1, l2, l3, l4, l5, l6, l7, l8] st h).trans (rfl)
theorem d164_63 : decode (mB 164) 63 = .ok (.aload 7, 2) := by decide +kernel
theorem x164_63 {d : Nat} {l0 l1 l2 l3 l4 l5 l6 l8 : Option Value} {st : List Value} {a : Nat} {h : Hp} : ex (d) 164 63 [l0, l1, l2, l3, l4, l5, l6, some (.ref a), l8] st h = ex d 164 65 [l0, l1, l2, l3, l4, l5, l6, some (.ref a), l8] (.ref a :: st) h := (ex_of d164_63 (d) [l0, l1, l2, l3, l4, l5, l6, some (.ref a), l8] st h).trans (rfl)
theorem x164_63n {d : Nat} {l0 l1 l2 l3 l4 l5 l6 l8 : Option Value} {st : List Value} {h : Hp} : ex (d) 164 63 [l0, l1, l2, l3, l4, l5, l6, some .null, l8] st h = ex d 164 65 [l0, l1, l2, l3, l4, l5, l6, some .null, l8] (.null :: st) h := (ex_of d164_63 (d) [l0, l1, l2, l3, l4, l5, l6, some .null, l8] st h).trans (rfl)
theorem x164_63q {d : Nat} {l0 l1 l2 l3 l4 l5 l6 l8 : Option Value} {st : List Value} {a : Option Nat} {h : Hp} : ex (d) 164 63 [l0, l1, l2, l3, l4, l5, l6, some (va_rf a), l8] st h = ex d 164 65 [l0, l1, l2, l3, l4, l5, l6, some (va_rf a), l8] (va_rf a :: st) h := (ex_of d164_63 (d) [l0, l1, l2, l3, l4, l5, l6, some (va_rf a), l8] st h).trans (by cases a <;> rfl)
theorem d164_65 : decode (mB 164) 65 = .ok (.putfield 43, 3) := by decide +kernel
theorem x164_65 {d : Nat} {L : Lc} {st : List Value} {a b : Nat} {h : Hp} (ht : (h.2.1 a).1 = 11) : ex (d) 164 65 L (.ref b :: .ref a :: st) h = ex d 164 68 L st (mup h.1 a 16 (.ref b), h.2) := (ex_of d164_65 (d) L (.ref b :: .ref a :: st) h).trans (fin_put (mi := 164) f11_43 ht rfl rfl (by decide +kernel))
theorem x164_65n {d : Nat} {L : Lc} {st : List Value} {a : Nat} {h : Hp} (ht : (h.2.1 a).1 = 11) : ex (d) 164 65 L (.null :: .ref a :: st) h = ex d 164 68 L st (mup h.1 a 16 .null, h.2) := (ex_of d164_65 (d) L (.null :: .ref a :: st) h).trans (fin_put (mi := 164) f11_43 ht rfl rfl (by decide +kernel))
theorem x164_65q {d : Nat} {L : Lc} {st : List Value} {a : Nat} {b : Option Nat} {h : Hp} (ht : (h.2.1 a).1 = 11) : ex (d) 164 65 L (va_rf b :: .ref a :: st) h = ex d 164 68 L st (mup h.1 a 16 (va_rf b), h.2) := (ex_of d164_65 (d) L (va_rf b :: .ref a :: st) h).trans (by cases b <;> exact fin_put (mi := 164) f11_43 ht rfl rfl (by decide +kernel))
theorem d164_68 : decode (mB 164) 68 = .ok (.bipush 6, 2) := by decide +kernel
theorem x164_68 {d : Nat} {L : Lc} {st : List Value} {h : Hp} : ex (d) 164 68 L st h = ex d 164 70 L (.int (nI 6) :: st) h := (ex_of d164_68 (d) L st h).trans (rfl)
theorem d164_70 : decode (mB 164) 70 = .ok (.aload_n 0, 1) := by decide +kernel
theorem x164_70 {d : Nat} {l1 l2 l3 l4 l5 l6 l7 l8 : Option Value} {st : List Value} {a : Nat} {h : Hp} : ex (d) 164 70 [some (.ref a), l1, l2, l3, l4, l5, l6, l7, l8] st h = ex d 164 71 [some (.ref a), l1, l2, l3, l4, l5, l6, l7, l8] (.ref a :: st) h := (ex_of d164_70 (d) [some (.ref a), l1, l2, l3, l4, l5, l6, l7, l8] st h).trans (rfl)
theorem d164_71 : decode (mB 164) 71 = .ok (.getfield 168, 3) := by decide +kernel
theorem x164_71 {d : Nat} {L : Lc} {st : List Value} {a : Nat} {h : Hp} (ht : (h.2.1 a).1 = 11) : ex (d) 164 71 L (.ref a :: st) h = ex d 164 74 L (h.1 a 17 :: st) h := (ex_of d164_71 (d) L (.ref a :: st) h).trans (fin_get (mi := 164) f11_168 (tg1 ht rfl))
theorem d164_74 : decode (mB 164) 74 = .ok (.imul, 1) := by decide +kernel
theorem x164_74 {d : Nat} {L : Lc} {st : List Value} {x y : Int32} {h : Hp} : ex (d) 164 74 L (.int y :: .int x :: st) h = ex d 164 75 L (.int (x * y) :: st) h := (ex_of d164_74 (d) L (.int y :: .int x :: st) h).trans (rfl)
theorem d164_75 : decode (mB 164) 75 = .ok (.istore 7, 2) := by decide +kernel
theorem x164_75 {d : Nat} {l0 l1 l2 l3 l4 l5 l6 l7 l8 : Option Value} {st : List Value} {x : Int32} {h : Hp} : ex (d) 164 75 [l0, l1, l2, l3, l4, l5, l6, l7, l8] (.int x :: st) h = ex d 164 77 [l0, l1, l2, l3, l4, l5, clr l6, some (.int x), l8] st h := (ex_of d164_75 (d) [l0, l1, l2, l3, l4, l5, l6, l7, l8] (.int x :: st) h).trans (rfl)
theorem d164_77 : decode (mB 164) 77 = .ok (.aload_n 0, 1) := by decide +kernel
theorem x164_77 {d : Nat} {l1 l2 l3 l4 l5 l6 l7 l8 : Option Value} {st : List Value} {a : Nat} {h : Hp} : ex (d) 164 77 [some (.ref a), l1, l2, l3, l4, l5, l6, l7, l8] st h = ex d 164 78 [some (.ref a), l1, l2, l3, l4, l5, l6, l7, l8] (.ref a :: st) h := (ex_of d164_77 (d) [some (.ref a), l1, l2, l3, l4, l5, l6, l7, l8] st h).trans (rfl)
theorem d164_78 : decode (mB 164) 78 = .ok (.getfield 43, 3) := by decide +kernel
theorem x164_78 {d : Nat} {L : Lc} {st : List Value} {a : Nat} {h : Hp} (ht : (h.2.1 a).1 = 11) : ex (d) 164 78 L (.ref a :: st) h = ex d 164 81 L (h.1 a 16 :: st) h := (ex_of d164_78 (d) L (.ref a :: st) h).trans (fin_get (mi := 164) f11_43 (tg1 ht rfl))
theorem d164_81 : decode (mB 164) 81 = .ok (.iload 7, 2) := by decide +kernel
theorem x164_81 {d : Nat} {l0 l1 l2 l3 l4 l5 l6 l8 : Option Value} {st : List Value} {x : Int32} {h : Hp} : ex (d) 164 81 [l0, l1, l2, l3, l4, l5, l6, some (.int x), l8] st h = ex d 164 83 [l0, l1, l2, l3, l4, l5, l6, some (.int x), l8] (.int x :: st) h := (ex_of d164_81 (d) [l0, l1, l2, l3, l4, l5, l6, some (.int x), l8] st h).trans (rfl)
theorem d164_83 : decode (mB 164) 83 = .ok (.iload_n 1, 1) := by decide +kernel
theorem x164_83 {d : Nat} {l0 l2 l3 l4 l5 l6 l7 l8 : Option Value} {st : List Value} {x : Int32} {h : Hp} : ex (d) 164 83 [l0, some (.int x), l2, l3, l4, l5, l6, l7, l8] st h = ex d 164 84 [l0, some (.int x), l2, l3, l4, l5, l6, l7, l8] (.int x :: st) h := (ex_of d164_83 (d) [l0, some (.int x), l2, l3, l4, l5, l6, l7, l8] st h).trans (rfl)
theorem d164_84 : decode (mB 164) 84 = .ok (.iastore, 1) := by decide +kernel
theorem x164_84 {d : Nat} {L : Lc} {st : List Value} {a j : Nat} {x : Int32} {h : Hp} (ht : (h.2.1 a).1 = 20) (hj : j < (h.2.1 a).2) (hb : j < 2147483648) : ex (d) 164 84 L (.int x :: .int (nI j) :: .ref a :: st) h = ex d 164 85 L st (mup h.1 a j (.int x), h.2) := (ex_of d164_84 (d) L (.int x :: .int (nI j) :: .ref a :: st) h).trans (fin_iastore ht hj hb)
theorem d164_85 : decode (mB 164) 85 = .ok (.aload_n 0, 1) := by decide +kernel
theorem x164_85 {d : Nat} {l1 l2 l3 l4 l5 l6 l7 l8 : Option Value} {st : List Value} {a : Nat} {h : Hp} : ex (d) 164 85 [some (.ref a), l1, l2, l3, l4, l5, l6, l7, l8] st h = ex d 164 86 [some (.ref a), l1, l2, l3, l4, l5, l6, l7, l8] (.ref a :: st) h := (ex_of d164_85 (d) [some (.ref a), l1, l2, l3, l4, l5, l6, l7, l8] st h).trans (rfl)
theorem d164_86 : decode (mB 164) 86 = .ok (.getfield 43, 3) := by decide +kernel
theorem x164_86 {d : Nat} {L : Lc} {st : List Value} {a : Nat} {h : Hp} (ht : (h.2.1 a).1 = 11) : ex (d) 164 86 L (.ref a :: st) h = ex d 164 89 L (h.1 a 16 :: st) h := (ex_of d164_86 (d) L (.ref a :: st) h).trans (fin_get (mi := 164) f11_43 (tg1 ht rfl))
theorem d164_89 : decode (mB 164) 89 = .ok (.iload 7, 2) := by decide +kernel
theorem x164_89 {d : Nat} {l0 l1 l2 l3 l4 l5 l6 l8 : Option Value} {st : List Value} {x : Int32} {h : Hp} : ex (d) 164 89 [l0, l1, l2, l3, l4, l5, l6, some (.int x), l8] st h = ex d 164 91 [l0, l1, l2, l3, l4, l5, l6, some (.int x), l8] (.int x :: st) h := (ex_of d164_89 (d) [l0, l1, l2, l3, l4, l5, l6, some (.int x), l8] st h).trans (rfl)
theorem d164_91 : decode (mB 164) 91 = .ok (.iconst 1, 1) := by decide +kernel
theorem x164_91 {d : Nat} {L : Lc} {st : List Value} {h : Hp} : ex (d) 164 91 L st h = ex d 164 92 L (.int (nI 1) :: st) h := (ex_of d164_91 (d) L st h).trans (rfl)
theorem d164_92 : decode (mB 164) 92 = .ok (.iadd, 1) := by decide +kernel
theorem x164_92 {d : Nat} {L : Lc} {st : List Value} {x y : Int32} {h : Hp} : ex (d) 164 92 L (.int y :: .int x :: st) h = ex d 164 93 L (.int (x + y) :: st) h := (ex_of d164_92 (d) L (.int y :: .int x :: st) h).trans (rfl)
theorem d164_93 : decode (mB 164) 93 = .ok (.iload_n 2, 1) := by decide +kernel
theorem x164_93 {d : Nat} {l0 l1 l3 l4 l5 l6 l7 l8 : Option Value} {st : List Value} {x : Int32} {h : Hp} : ex (d) 164 93 [l0, l1, some (.int x), l3, l4, l5, l6, l7, l8] st h = ex d 164 94 [l0, l1, some (.int x), l3, l4, l5, l6, l7, l8] (.int x :: st) h := (ex_of d164_93 (d) [l0, l1, some (.int x), l3, l4, l5, l6, l7, l8] st h).trans (rfl)
theorem d164_94 : decode (mB 164) 94 = .ok (.iastore, 1) := by decide +kernel
theorem x164_94 {d : Nat} {L : Lc} {st : List Value} {a j : Nat} {x : Int32} {h : Hp} (ht : (h.2.1 a).1 = 20) (hj : j < (h.2.1 a).2) (hb : j < 2147483648) : ex (d) 164 94 L (.int x :: .int (nI j) :: .ref a :: st) h = ex d 164 95 L st (mup h.1 a j (.int x), h.2) := (ex_of d164_94 (d) L (.int x :: .int (nI j) :: .ref a :: st) h).trans (fin_iastore ht hj hb)
theorem d164_95 : decode (mB 164) 95 = .ok (.aload_n 0, 1) := by decide +kernel
theorem x164_95 {d : Nat} {l1 l2 l3 l4 l5 l6 l7 l8 : Option Value} {st : List Value} {a : Nat} {h : Hp} : ex (d) 164 95 [some (.ref a), l1, l2, l3, l4, l5, l6, l7, l8] st h = ex d 164 96 [some (.ref a), l1, l2, l3, l4, l5, l6, l7, l8] (.ref a :: st) h := (ex_of d164_95 (d) [some (.ref a), l1, l2, l3, l4, l5, l6, l7, l8] st h).trans (rfl)
theorem d164_96 : decode (mB 164) 96 = .ok (.getfield 43, 3) := by decide +kernel
theorem x164_96 {d : Nat} {L : Lc} {st : List Value} {a : Nat} {h : Hp} (ht : (h.2.1 a).1 = 11) : ex (d) 164 96 L (.ref a :: st) h = ex d 164 99 L (h.1 a 16 :: st) h := (ex_of d164_96 (d) L (.ref a :: st) h).trans (fin_get (mi := 164) f11_43 (tg1 ht rfl))
theorem d164_99 : decode (mB 164) 99 = .ok (.iload 7, 2) := by decide +kernel
theorem x164_99 {d : Nat} {l0 l1 l2 l3 l4 l5 l6 l8 : Option Value} {st : List Value} {x : Int32} {h : Hp} : ex (d) 164 99 [l0, l1, l2, l3, l4, l5, l6, some (.int x), l8] st h = ex d 164 101 [l0, l1, l2, l3, l4, l5, l6, some (.int x), l8] (.int x :: st) h := (ex_of d164_99 (d) [l0, l1, l2, l3, l4, l5, l6, some (.int x), l8] st h).trans (rfl)
theorem d164_101 : decode (mB 164) 101 = .ok (.iconst 2, 1) := by decide +kernel
theorem x164_101 {d : Nat} {L : Lc} {st : List Value} {h : Hp} : ex (d) 164 101 L st h = ex d 164 102 L (.int (nI 2) :: st) h := (ex_of d164_101 (d) L st h).trans (rfl)
theorem d164_102 : decode (mB 164) 102 = .ok (.iadd, 1) := by decide +kernel
theorem x164_102 {d : Nat} {L : Lc} {st : List Value} {x y : Int32} {h : Hp} : ex (d) 164 102 L (.int y :: .int x :: st) h = ex d 164 103 L (.int (x + y) :: st) h := (ex_of d164_102 (d) L (.int y :: .int x :: st) h).trans (rfl)
theorem d164_103 : decode (mB 164) 103 = .ok (.iload_n 3, 1) := by decide +kernel
theorem x164_103 {d : Nat} {l0 l1 l2 l4 l5 l6 l7 l8 : Option Value} {st : List Value} {x : Int32} {h : Hp} : ex (d) 164 103 [l0, l1, l2, some (.int x), l4, l5, l6, l7, l8] st h = ex d 164 104 [l0, l1, l2, some (.int x), l4, l5, l6, l7, l8] (.int x :: st) h := (ex_of d164_103 (d) [l0, l1, l2, some (.int x), l4, l5, l6, l7, l8] st h).trans (rfl)
theorem d164_104 : decode (mB 164) 104 = .ok (.iastore, 1) := by decide +kernel
theorem x164_104 {d : Nat} {L : Lc} {st : List Value} {a j : Nat} {x : Int32} {h : Hp} (ht : (h.2.1 a).1 = 20) (hj : j < (h.2.1 a).2) (hb : j < 2147483648) : ex (d) 164 104 L (.int x :: .int (nI j) :: .ref a :: st) h = ex d 164 105 L st (mup h.1 a j (.int x), h.2) := (ex_of d164_104 (d) L (.int x :: .int (nI j) :: .ref a :: st) h).trans (fin_iastore ht hj hb)
theorem d164_105 : decode (mB 164) 105 = .ok (.aload_n 0, 1) := by decide +kernel
theorem x164_105 {d : Nat} {l1 l2 l3 l4 l5 l6 l7 l8 : Option Value} {st : List Value} {a : Nat} {h : Hp} : ex (d) 164 105 [some (.ref a), l1, l2, l3, l4, l5, l6, l7, l8] st h = ex d 164 106 [some (.ref a), l1, l2, l3, l4, l5, l6, l7, l8] (.ref a :: st) h := (ex_of d164_105 (d) [some (.ref a), l1, l2, l3, l4, l5, l6, l7, l8] st h).trans (rfl)
theorem d164_106 : decode (mB 164) 106 = .ok (.getfield 43, 3) := by decide +kernel
theorem x164_106 {d : Nat} {L : Lc} {st : List Value} {a : Nat} {h : Hp} (ht : (h.2.1 a).1 = 11) : ex (d) 164 106 L (.ref a :: st) h = ex d 164 109 L (h.1 a 16 :: st) h := (ex_of d164_106 (d) L (.ref a :: st) h).trans (fin_get (mi := 164) f11_43 (tg1 ht rfl))
theorem d164_109 : decode (mB 164) 109 = .ok (.iload 7, 2) := by decide +kernel
theorem x164_109 {d : Nat} {l0 l1 l2 l3 l4 l5 l6 l8 : Option Value} {st : List Value} {x : Int32} {h : Hp} : ex (d) 164 109 [l0, l1, l2, l3, l4, l5, l6, some (.int x), l8] st h = ex d 164 111 [l0, l1, l2, l3, l4, l5, l6, some (.int x), l8] (.int x :: st) h := (ex_of d164_109 (d) [l0, l1, l2, l3, l4, l5, l6, some (.int x), l8] st h).trans (rfl)
theorem d164_111 : decode (mB 164) 111 = .ok (.iconst 3, 1) := by decide +kernel
theorem x164_111 {d : Nat} {L : Lc} {st : List Value} {h : Hp} : ex (d) 164 111 L st h = ex d 164 112 L (.int (nI 3) :: st) h := (ex_of d164_111 (d) L st h).trans (rfl)
theorem d164_112 : decode (mB 164) 112 = .ok (.iadd, 1) := by decide +kernel
theorem x164_112 {d : Nat} {L : Lc} {st : List Value} {x y : Int32} {h : Hp} : ex (d) 164 112 L (.int y :: .int x :: st) h = ex d 164 113 L (.int (x + y) :: st) h := (ex_of d164_112 (d) L (.int y :: .int x :: st) h).trans (rfl)
theorem d164_113 : decode (mB 164) 113 = .ok (.iload 4, 2) := by decide +kernel
theorem x164_113 {d : Nat} {l0 l1 l2 l3 l5 l6 l7 l8 : Option Value} {st : List Value} {x : Int32} {h : Hp} : ex (d) 164 113 [l0, l1, l2, l3, some (.int x), l5, l6, l7, l8] st h = ex d 164 115 [l0, l1, l2, l3, some (.int x), l5, l6, l7, l8] (.int x :: st) h := (ex_of d164_113 (d) [l0, l1, l2, l3, some (.int x), l5, l6, l7, l8] st h).trans (rfl)
theorem d164_115 : decode (mB 164) 115 = .ok (.iastore, 1) := by decide +kernel
theorem x164_115 {d : Nat} {L : Lc} {st : List Value} {a j : Nat} {x : Int32} {h : Hp} (ht : (h.2.1 a).1 = 20) (hj : j < (h.2.1 a).2) (hb : j < 2147483648) : ex (d) 164 115 L (.int x :: .int (nI j) :: .ref a :: st) h = ex d 164 116 L st (mup h.1 a j (.int x), h.2) := (ex_of d164_115 (d) L (.int x :: .int (nI j) :: .ref a :: st) h).trans (fin_iastore ht hj hb)
theorem d164_116 : decode (mB 164) 116 = .ok (.aload_n 0, 1) := by decide +kernel
theorem x164_116 {d : Nat} {l1 l2 l3 l4 l5 l6 l7 l8 : Option Value} {st : List Value} {a : Nat} {h : Hp} : ex (d) 164 116 [some (.ref a), l1, l2, l3, l4, l5, l6, l7, l8] st h = ex d 164 117 [some (.ref a), l1, l2, l3, l4, l5, l6, l7, l8] (.ref a :: st) h := (ex_of d164_116 (d) [some (.ref a), l1, l2, l3, l4, l5, l6, l7, l8] st h).trans (rfl)
theorem d164_117 : decode (mB 164) 117 = .ok (.getfield 43, 3) := by decide +kernel
theorem x164_117 {d : Nat} {L : Lc} {st : List Value} {a : Nat} {h : Hp} (ht : (h.2.1 a).1 = 11) : ex (d) 164 117 L (.ref a :: st) h = ex d 164 120 L (h.1 a 16 :: st) h := (ex_of d164_117 (d) L (.ref a :: st) h).trans (fin_get (mi := 164) f11_43 (tg1 ht rfl))
theorem d164_120 : decode (mB 164) 120 = .ok (.iload 7, 2) := by decide +kernel
theorem x164_120 {d : Nat} {l0 l1 l2 l3 l4 l5 l6 l8 : Option Value} {st : List Value} {x : Int32} {h : Hp} : ex (d) 164 120 [l0, l1, l2, l3, l4, l5, l6, some (.int x), l8] st h = ex d 164 122 [l0, l1, l2, l3, l4, l5, l6, some (.int x), l8] (.int x :: st) h := (ex_of d164_120 (d) [l0, l1, l2, l3, l4, l5, l6, some (.int x), l8] st h).trans (rfl)
theorem d164_122 : decode (mB 164) 122 = .ok (.iconst 4, 1) := by decide +kernel
theorem x164_122 {d : Nat} {L : Lc} {st : List Value} {h : Hp} : ex (d) 164 122 L st h = ex d 164 123 L (.int (nI 4) :: st) h := (ex_of d164_122 (d) L st h).trans (rfl)
theorem d164_123 : decode (mB 164) 123 = .ok (.iadd, 1) := by decide +kernel
theorem x164_123 {d : Nat} {L : Lc} {st : List Value} {x y : Int32} {h : Hp} : ex (d) 164 123 L (.int y :: .int x :: st) h = ex d 164 124 L (.int (x + y) :: st) h := (ex_of d164_123 (d) L (.int y :: .int x :: st) h).trans (rfl)
theorem d164_124 : decode (mB 164) 124 = .ok (.iload 5, 2) := by decide +kernel
theorem x164_124 {d : Nat} {l0 l1 l2 l3 l4 l6 l7 l8 : Option Value} {st : List Value} {x : Int32} {h : Hp} : ex (d) 164 124 [l0, l1, l2, l3, l4, some (.int x), l6, l7, l8] st h = ex d 164 126 [l0, l1, l2, l3, l4, some (.int x), l6, l7, l8] (.int x :: st) h := (ex_of d164_124 (d) [l0, l1, l2, l3, l4, some (.int x), l6, l7, l8] st h).trans (rfl)
theorem d164_126 : decode (mB 164) 126 = .ok (.iastore, 1) := by decide +kernel
theorem x164_126 {d : Nat} {L : Lc} {st : List Value} {a j : Nat} {x : Int32} {h : Hp} (ht : (h.2.1 a).1 = 20) (hj : j < (h.2.1 a).2) (hb : j < 2147483648) : ex (d) 164 126 L (.int x :: .int (nI j) :: .ref a :: st) h = ex d 164 127 L st (mup h.1 a j (.int x), h.2) := (ex_of d164_126 (d) L (.int x :: .int (nI j) :: .ref a :: st) h).trans (fin_iastore ht hj hb)
theorem d164_127 : decode (mB 164) 127 = .ok (.aload_n 0, 1) := by decide +kernel
theorem x164_127 {d : Nat} {l1 l2 l3 l4 l5 l6 l7 l8 : Option Value} {st : List Value} {a : Nat} {h : Hp} : ex (d) 164 127 [some (.ref a), l1, l2, l3, l4, l5, l6, l7, l8] st h = ex d 164 128 [some (.ref a), l1, l2, l3, l4, l5, l6, l7, l8] (.ref a :: st) h := (ex_of d164_127 (d) [some (.ref a), l1, l2, l3, l4, l5, l6, l7, l8] st h).trans (rfl)
theorem d164_128 : decode (mB 164) 128 = .ok (.getfield 43, 3) := by decide +kernel
theorem x164_128 {d : Nat} {L : Lc} {st : List Value} {a : Nat} {h : Hp} (ht : (h.2.1 a).1 = 11) : ex (d) 164 128 L (.ref a :: st) h = ex d 164 131 L (h.1 a 16 :: st) h := (ex_of d164_128 (d) L (.ref a :: st) h).trans (fin_get (mi := 164) f11_43 (tg1 ht rfl))
theorem d164_131 : decode (mB 164) 131 = .ok (.iload 7, 2) := by decide +kernel
theorem x164_131 {d : Nat} {l0 l1 l2 l3 l4 l5 l6 l8 : Option Value} {st : List Value} {x : Int32} {h : Hp} : ex (d) 164 131 [l0, l1, l2, l3, l4, l5, l6, some (.int x), l8] st h = ex d 164 133 [l0, l1, l2, l3, l4, l5, l6, some (.int x), l8] (.int x :: st) h := (ex_of d164_131 (d) [l0, l1, l2, l3, l4, l5, l6, some (.int x), l8] st h).trans (rfl)
theorem d164_133 : decode (mB 164) 133 = .ok (.iconst 5, 1) := by decide +kernel
theorem x164_133 {d : Nat} {L : Lc} {st : List Value} {h : Hp} : ex (d) 164 133 L st h = ex d 164 134 L (.int (nI 5) :: st) h := (ex_of d164_133 (d) L st h).trans (rfl)
theorem d164_134 : decode (mB 164) 134 = .ok (.iadd, 1) := by decide +kernel
theorem x164_134 {d : Nat} {L : Lc} {st : List Value} {x y : Int32} {h : Hp} : ex (d) 164 134 L (.int y :: .int x :: st) h = ex d 164 135 L (.int (x + y) :: st) h := (ex_of d164_134 (d) L (.int y :: .int x :: st) h).trans (rfl)
theorem d164_135 : decode (mB 164) 135 = .ok (.iload 6, 2) := by decide +kernel
theorem x164_135 {d : Nat} {l0 l1 l2 l3 l4 l5 l7 l8 : Option Value} {st : List Value} {x : Int32} {h : Hp} : ex (d) 164 135 [l0, l1, l2, l3, l4, l5, some (.int x), l7, l8] st h = ex d 164 137 [l0, l1, l2, l3, l4, l5, some (.int x), l7, l8] (.int x :: st) h := (ex_of d164_135 (d) [l0, l1, l2, l3, l4, l5, some (.int x), l7, l8] st h).trans (rfl)
theorem d164_137 : decode (mB 164) 137 = .ok (.iastore, 1) := by decide +kernel
theorem x164_137 {d : Nat} {L : Lc} {st : List Value} {a j : Nat} {x : Int32} {h : Hp} (ht : (h.2.1 a).1 = 20) (hj : j < (h.2.1 a).2) (hb : j < 2147483648) : ex (d) 164 137 L (.int x :: .int (nI j) :: .ref a :: st) h = ex d 164 138 L st (mup h.1 a j (.int x), h.2) := (ex_of d164_137 (d) L (.int x :: .int (nI j) :: .ref a :: st) h).trans (fin_iastore ht hj hb)
theorem d164_138 : decode (mB 164) 138 = .ok (.aload_n 0, 1) := by decide +kernel
theorem x164_138 {d : Nat} {l1 l2 l3 l4 l5 l6 l7 l8 : Option Value} {st : List Value} {a : Nat} {h : Hp} : ex (d) 164 138 [some (.ref a), l1, l2, l3, l4, l5, l6, l7, l8] st h = ex d 164 139 [some (.ref a), l1, l2, l3, l4, l5, l6, l7, l8] (.ref a :: st) h := (ex_of d164_138 (d) [some (.ref a), l1, l2, l3, l4, l5, l6, l7, l8] st h).trans (rfl)
theorem d164_139 : decode (mB 164) 139 = .ok (.dup, 1) := by decide +kernel
theorem x164_139 {d : Nat} {L : Lc} {st : List Value} {a : Nat} {h : Hp} : ex (d) 164 139 L (.ref a :: st) h = ex d 164 140 L (.ref a :: .ref a :: st) h := (ex_of d164_139 (d) L (.ref a :: st) h).trans (rfl)
theorem x164_139i {d : Nat} {L : Lc} {st : List Value} {x : Int32} {h : Hp} : ex (d) 164 139 L (.int x :: st) h = ex d 164 140 L (.int x :: .int x :: st) h := (ex_of d164_139 (d) L (.int x :: st) h).trans (rfl)
theorem d164_140 : decode (mB 164) 140 = .ok (.getfield 168, 3) := by decide +kernel
theorem x164_140 {d : Nat} {L : Lc} {st : List Value} {a : Nat} {h : Hp} (ht : (h.2.1 a).1 = 11) : ex (d) 164 140 L (.ref a :: st) h = ex d 164 143 L (h.1 a 17 :: st) h := (ex_of d164_140 (d) L (.ref a :: st) h).trans (fin_get (mi := 164) f11_168 (tg1 ht rfl))
theorem d164_143 : decode (mB 164) 143 = .ok (.iconst 1, 1) := by decide +kernel
theorem x164_143 {d : Nat} {L : Lc} {st : List Value} {h : Hp} : ex (d) 164 143 L st h = ex d 164 144 L (.int (nI 1) :: st) h := (ex_of d164_143 (d) L st h).trans (rfl)
theorem d164_144 : decode (mB 164) 144 = .ok (.iadd, 1) := by decide +kernel
theorem x164_144 {d : Nat} {L : Lc} {st : List Value} {x y : Int32} {h : Hp} : ex (d) 164 144 L (.int y :: .int x :: st) h = ex d 164 145 L (.int (x + y) :: st) h := (ex_of d164_144 (d) L (.int y :: .int x :: st) h).trans (rfl)
theorem d164_145 : decode (mB 164) 145 = .ok (.putfield 168, 3) := by decide +kernel
theorem x164_145 {d : Nat} {L : Lc} {st : List Value} {a : Nat} {x : Int32} {h : Hp} (ht : (h.2.1 a).1 = 11) : ex (d) 164 145 L (.int x :: .ref a :: st) h = ex d 164 148 L st (mup h.1 a 17 (.int x), h.2) := (ex_of d164_145 (d) L (.int x :: .ref a :: st) h).trans (fin_put (mi := 164) f11_168 ht rfl rfl (by decide +kernel))
theorem d164_148 : decode (mB 164) 148 = .ok (.return_, 1) := by decide +kernel
theorem x164_148 {d : Nat} {L : Lc}  {h : Hp} : ex (d) 164 148 L [] h = some (none, h) := (ex_of d164_148 (d) L [] h).trans (rfl)
theorem d165_0 : decode (mB 165) 0 = .ok (.aload_n 0, 1) := by decide +kernel
theorem x165_0 {d : Nat} {l1 l2 l3 l4 l5 l6 : Option Value} {st : List Value} {a : Nat} {h : Hp} : ex (d) 165 0 [some (.ref a), l1, l2, l3, l4, l5, l6] st h = ex d 165 1 [some (.ref a), l1, l2, l3, l4, l5, l6] (.ref a :: st) h := (ex_of d165_0 (d) [some (.ref a), l1, l2, l3, l4, l5, l6] st h).trans (rfl)
theorem d165_1 : decode (mB 165) 1 = .ok (.getfield 168, 3) := by decide +kernel
theorem x165_1 {d : Nat} {L : Lc} {st : List Value} {a : Nat} {h : Hp} (ht : (h.2.1 a).1 = 11) : ex (d) 165 1 L (.ref a :: st) h = ex d 165 4 L (h.1 a 17 :: st) h := (ex_of d165_1 (d) L (.ref a :: st) h).trans (fin_get (mi := 165) f11_168 (tg1 ht rfl))
theorem d165_4 : decode (mB 165) 4 = .ok (.ifCond .ne 10, 3) := by decide +kernel
theorem x165_4 {d : Nat} {L : Lc} {st : List Value} {x : Int32} {h : Hp} : ex (d) 165 4 L (.int x :: st) h = if ¬ x = 0 then ex d 165 14 L st h else ex d 165 7 L st h := (ex_of d165_4 (d) L (.int x :: st) h).trans (fin_brq (off := 10) (tgt := 14) rfl (by decide))
theorem d165_7 : decode (mB 165) 7 = .ok (.aload_n 0, 1) := by decide +kernel
theorem x165_7 {d : Nat} {l1 l2 l3 l4 l5 l6 : Option Value} {st : List Value} {a : Nat} {h : Hp} : ex (d) 165 7 [some (.ref a), l1, l2, l3, l4, l5, l6] st h = ex d 165 8 [some (.ref a), l1, l2, l3, l4, l5, l6] (.ref a :: st) h := (ex_of d165_7 (d) [some (.ref a), l1, l2, l3, l4, l5, l6] st h).trans (rfl)
theorem d165_8 : decode (mB 165) 8 = .ok (.bipush 11, 2) := by decide +kernel
theorem x165_8 {d : Nat} {L : Lc} {st : List Value} {h : Hp} : ex (d) 165 8 L st h = ex d 165 10 L (.int (nI 11) :: st) h := (ex_of d165_8 (d) L st h).trans (rfl)
theorem d165_10 : decode (mB 165) 10 = .ok (.invokevirtual 109, 3) := by decide +kernel
theorem x165_10 {d : Nat} {L : Lc} {a : Nat} {v0 : Int32} {h : Hp} (ht : (h.2.1 a).1 = 11) : ex (d + 1) 165 10 L (.int v0 :: .ref a :: []) h = bnd (ex d 135 0 [some (.ref a), some (.int v0)] [] h) (fun v h' => ex (d + 1) 165 13 L (v.toList ++ []) h') := (ex_of d165_10 (d + 1) L (.int v0 :: .ref a :: []) h).trans (fin_vi (mi := 165) i11_109 ht rfl rfl (by simp [cat1_i, cat1_r]) (by simp) (Nat.le_of_ble_eq_true rfl))
theorem d165_13 : decode (mB 165) 13 = .ok (.ireturn, 1) := by decide +kernel
theorem x165_13 {d : Nat} {L : Lc} {x : Int32} {h : Hp} : ex (d) 165 13 L [.int x] h = some (some (.int x), h) := (ex_of d165_13 (d) L [.int x] h).trans (rfl)
theorem d165_14 : decode (mB 165) 14 = .ok (.aload_n 0, 1) := by decide +kernel
theorem x165_14 {d : Nat} {l1 l2 l3 l4 l5 l6 : Option Value} {st : List Value} {a : Nat} {h : Hp} : ex (d) 165 14 [some (.ref a), l1, l2, l3, l4, l5, l6] st h = ex d 165 15 [some (.ref a), l1, l2, l3, l4, l5, l6] (.ref a :: st) h := (ex_of d165_14 (d) [some (.ref a), l1, l2, l3, l4, l5, l6] st h).trans (rfl)
theorem d165_15 : decode (mB 165) 15 = .ok (.dup, 1) := by decide +kernel
theorem x165_15 {d : Nat} {L : Lc} {st : List Value} {a : Nat} {h : Hp} : ex (d) 165 15 L (.ref a :: st) h = ex d 165 16 L (.ref a :: .ref a :: st) h := (ex_of d165_15 (d) L (.ref a :: st) h).trans (rfl)
theorem x165_15i {d : Nat} {L : Lc} {st : List Value} {x : Int32} {h : Hp} : ex (d) 165 15 L (.int x :: st) h = ex d 165 16 L (.int x :: .int x :: st) h := (ex_of d165_15 (d) L (.int x :: st) h).trans (rfl)
theorem d165_16 : decode (mB 165) 16 = .ok (.getfield 168, 3) := by decide +kernel
theorem x165_16 {d : Nat} {L : Lc} {st : List Value} {a : Nat} {h : Hp} (ht : (h.2.1 a).1 = 11) : ex (d) 165 16 L (.ref a :: st) h = ex d 165 19 L (h.1 a 17 :: st) h := (ex_of d165_16 (d) L (.ref a :: st) h).trans (fin_get (mi := 165) f11_168 (tg1 ht rfl))
theorem d165_19 : decode (mB 165) 19 = .ok (.iconst 1, 1) := by decide +kernel
theorem x165_19 {d : Nat} {L : Lc} {st : List Value} {h : Hp} : ex (d) 165 19 L st h = ex d 165 20 L (.int (nI 1) :: st) h := (ex_of d165_19 (d) L st h).trans (rfl)
theorem d165_20 : decode (mB 165) 20 = .ok (.isub, 1) := by decide +kernel
theorem x165_20 {d : Nat} {L : Lc} {st : List Value} {x y : Int32} {h : Hp} : ex (d) 165 20 L (.int y :: .int x :: st) h = ex d 165 21 L (.int (x - y) :: st) h := (ex_of d165_20 (d) L (.int y :: .int x :: st) h).trans (rfl)
theorem d165_21 : decode (mB 165) 21 = .ok (.putfield 168, 3) := by decide +kernel
theorem x165_21 {d : Nat} {L : Lc} {st : List Value} {a : Nat} {x : Int32} {h : Hp} (ht : (h.2.1 a).1 = 11) : ex (d) 165 21 L (.int x :: .ref a :: st) h = ex d 165 24 L st (mup h.1 a 17 (.int x), h.2) := (ex_of d165_21 (d) L (.int x :: .ref a :: st) h).trans (fin_put (mi := 165) f11_168 ht rfl rfl (by decide +kernel))
theorem d165_24 : decode (mB 165) 24 = .ok (.bipush 6, 2) := by decide +kernel
theorem x165_24 {d : Nat} {L : Lc} {st : List Value} {h : Hp} : ex (d) 165 24 L st h = ex d 165 26 L (.int (nI 6) :: st) h := (ex_of d165_24 (d) L st h).trans (rfl)
theorem d165_26 : decode (mB 165) 26 = .ok (.aload_n 0, 1) := by decide +kernel
theorem x165_26 {d : Nat} {l1 l2 l3 l4 l5 l6 : Option Value} {st : List Value} {a : Nat} {h : Hp} : ex (d) 165 26 [some (.ref a), l1, l2, l3, l4, l5, l6] st h = ex d 165 27 [some (.ref a), l1, l2, l3, l4, l5, l6] (.ref a :: st) h := (ex_of d165_26 (d) [some (.ref a), l1, l2, l3, l4, l5, l6] st h).trans (rfl)
theorem d165_27 : decode (mB 165) 27 = .ok (.getfield 168, 3) := by decide +kernel
theorem x165_27 {d : Nat} {L : Lc} {st : List Value} {a : Nat} {h : Hp} (ht : (h.2.1 a).1 = 11) : ex (d) 165 27 L (.ref a :: st) h = ex d 165 30 L (h.1 a 17 :: st) h := (ex_of d165_27 (d) L (.ref a :: st) h).trans (fin_get (mi := 165) f11_168 (tg1 ht rfl))
theorem d165_30 : decode (mB 165) 30 = .ok (.imul, 1) := by decide +kernel
theorem x165_30 {d : Nat} {L : Lc} {st : List Value} {x y : Int32} {h : Hp} : ex (d) 165 30 L (.int y :: .int x :: st) h = ex d 165 31 L (.int (x * y) :: st) h := (ex_of d165_30 (d) L (.int y :: .int x :: st) h).trans (rfl)
theorem d165_31 : decode (mB 165) 31 = .ok (.istore_n 1, 1) := by decide +kernel
theorem x165_31 {d : Nat} {l0 l1 l2 l3 l4 l5 l6 : Option Value} {st : List Value} {x : Int32} {h : Hp} : ex (d) 165 31 [l0, l1, l2, l3, l4, l5, l6] (.int x :: st) h = ex d 165 32 [clr l0, some (.int x), l2, l3, l4, l5, l6] st h := (ex_of d165_31 (d) [l0, l1, l2, l3, l4, l5, l6] (.int x :: st) h).trans (rfl)
theorem d165_32 : decode (mB 165) 32 = .ok (.aload_n 0, 1) := by decide +kernel
theorem x165_32 {d : Nat} {l1 l2 l3 l4 l5 l6 : Option Value} {st : List Value} {a : Nat} {h : Hp} : ex (d) 165 32 [some (.ref a), l1, l2, l3, l4, l5, l6] st h = ex d 165 33 [some (.ref a), l1, l2, l3, l4, l5, l6] (.ref a :: st) h := (ex_of d165_32 (d) [some (.ref a), l1, l2, l3, l4, l5, l6] st h).trans (rfl)
theorem d165_33 : decode (mB 165) 33 = .ok (.getfield 43, 3) := by decide +kernel
theorem x165_33 {d : Nat} {L : Lc} {st : List Value} {a : Nat} {h : Hp} (ht : (h.2.1 a).1 = 11) : ex (d) 165 33 L (.ref a :: st) h = ex d 165 36 L (h.1 a 16 :: st) h := (ex_of d165_33 (d) L (.ref a :: st) h).trans (fin_get (mi := 165) f11_43 (tg1 ht rfl))
theorem d165_36 : decode (mB 165) 36 = .ok (.iload_n 1, 1) := by decide +kernel
theorem x165_36 {d : Nat} {l0 l2 l3 l4 l5 l6 : Option Value} {st : List Value} {x : Int32} {h : Hp} : ex (d) 165 36 [l0, some (.int x), l2, l3, l4, l5, l6] st h = ex d 165 37 [l0, some (.int x), l2, l3, l4, l5, l6] (.int x :: st) h := (ex_of d165_36 (d) [l0, some (.int x), l2, l3, l4, l5, l6] st h).trans (rfl)
theorem d165_37 : decode (mB 165) 37 = .ok (.iconst 1, 1) := by decide +kernel
theorem x165_37 {d : Nat} {L : Lc} {st : List Value} {h : Hp} : ex (d) 165 37 L st h = ex d 165 38 L (.int (nI 1) :: st) h := (ex_of d165_37 (d) L st h).trans (rfl)
theorem d165_38 : decode (mB 165) 38 = .ok (.iadd, 1) := by decide +kernel
theorem x165_38 {d : Nat} {L : Lc} {st : List Value} {x y : Int32} {h : Hp} : ex (d) 165 38 L (.int y :: .int x :: st) h = ex d 165 39 L (.int (x + y) :: st) h := (ex_of d165_38 (d) L (.int y :: .int x :: st) h).trans (rfl)
theorem d165_39 : decode (mB 165) 39 = .ok (.iaload, 1) := by decide +kernel
theorem x165_39 {d : Nat} {L : Lc} {st : List Value} {a j : Nat} {h : Hp} (ht : (h.2.1 a).1 = 20) (hj : j < (h.2.1 a).2) (hb : j < 2147483648) : ex (d) 165 39 L (.int (nI j) :: .ref a :: st) h = ex d 165 40 L (h.1 a j :: st) h := (ex_of d165_39 (d) L (.int (nI j) :: .ref a :: st) h).trans (fin_iaload (Or.inl ht) hj hb)
theorem d165_40 : decode (mB 165) 40 = .ok (.istore_n 2, 1) := by decide +kernel
theorem x165_40 {d : Nat} {l0 l1 l2 l3 l4 l5 l6 : Option Value} {st : List Value} {x : Int32} {h : Hp} : ex (d) 165 40 [l0, l1, l2, l3, l4, l5, l6] (.int x :: st) h = ex d 165 41 [l0, clr l1, some (.int x), l3, l4, l5, l6] st h := (ex_of d165_40 (d) [l0, l1, l2, l3, l4, l5, l6] (.int x :: st) h).trans (rfl)
theorem d165_41 : decode (mB 165) 41 = .ok (.aload_n 0, 1) := by decide +kernel
theorem x165_41 {d : Nat} {l1 l2 l3 l4 l5 l6 : Option Value} {st : List Value} {a : Nat} {h : Hp} : ex (d) 165 41 [some (.ref a), l1, l2, l3, l4, l5, l6] st h = ex d 165 42 [some (.ref a), l1, l2, l3, l4, l5, l6] (.ref a :: st) h := (ex_of d165_41 (d) [some (.ref a), l1, l2, l3, l4, l5, l6] st h).trans (rfl)
theorem d165_42 : decode (mB 165) 42 = .ok (.getfield 43, 3) := by decide +kernel
theorem x165_42 {d : Nat} {L : Lc} {st : List Value} {a : Nat} {h : Hp} (ht : (h.2.1 a).1 = 11) : ex (d) 165 42 L (.ref a :: st) h = ex d 165 45 L (h.1 a 16 :: st) h := (ex_of d165_42 (d) L (.ref a :: st) h).trans (fin_get (mi := 165) f11_43 (tg1 ht rfl))
theorem d165_45 : decode (mB 165) 45 = .ok (.iload_n 1, 1) := by decide +kernel
theorem x165_45 {d : Nat} {l0 l2 l3 l4 l5 l6 : Option Value} {st : List Value} {x : Int32} {h : Hp} : ex (d) 165 45 [l0, some (.int x), l2, l3, l4, l5, l6] st h = ex d 165 46 [l0, some (.int x), l2, l3, l4, l5, l6] (.int x :: st) h := (ex_of d165_45 (d) [l0, some (.int x), l2, l3, l4, l5, l6] st h).trans (rfl)
theorem d165_46 : decode (mB 165) 46 = .ok (.iconst 2, 1) := by decide +kernel
theorem x165_46 {d : Nat} {L : Lc} {st : List Value} {h : Hp} : ex (d) 165 46 L st h = ex d 165 47 L (.int (nI 2) :: st) h := (ex_of d165_46 (d) L st h).trans (rfl)
theorem d165_47 : decode (mB 165) 47 = .ok (.iadd, 1) := by decide +kernel
theorem x165_47 {d : Nat} {L : Lc} {st : List Value} {x y : Int32} {h : Hp} : ex (d) 165 47 L (.int y :: .int x :: st) h = ex d 165 48 L (.int (x + y) :: st) h := (ex_of d165_47 (d) L (.int y :: .int x :: st) h).trans (rfl)
theorem d165_48 : decode (mB 165) 48 = .ok (.iaload, 1) := by decide +kernel
theorem x165_48 {d : Nat} {L : Lc} {st : List Value} {a j : Nat} {h : Hp} (ht : (h.2.1 a).1 = 20) (hj : j < (h.2.1 a).2) (hb : j < 2147483648) : ex (d) 165 48 L (.int (nI j) :: .ref a :: st) h = ex d 165 49 L (h.1 a j :: st) h := (ex_of d165_48 (d) L (.int (nI j) :: .ref a :: st) h).trans (fin_iaload (Or.inl ht) hj hb)
theorem d165_49 : decode (mB 165) 49 = .ok (.istore_n 3, 1) := by decide +kernel
theorem x165_49 {d : Nat} {l0 l1 l2 l3 l4 l5 l6 : Option Value} {st : List Value} {x : Int32} {h : Hp} : ex (d) 165 49 [l0, l1, l2, l3, l4, l5, l6] (.int x :: st) h = ex d 165 50 [l0, l1, clr l2, some (.int x), l4, l5, l6] st h := (ex_of d165_49 (d) [l0, l1, l2, l3, l4, l5, l6] (.int x :: st) h).trans (rfl)
theorem d165_50 : decode (mB 165) 50 = .ok (.aload_n 0, 1) := by decide +kernel
theorem x165_50 {d : Nat} {l1 l2 l3 l4 l5 l6 : Option Value} {st : List Value} {a : Nat} {h : Hp} : ex (d) 165 50 [some (.ref a), l1, l2, l3, l4, l5, l6] st h = ex d 165 51 [some (.ref a), l1, l2, l3, l4, l5, l6] (.ref a :: st) h := (ex_of d165_50 (d) [some (.ref a), l1, l2, l3, l4, l5, l6] st h).trans (rfl)
theorem d165_51 : decode (mB 165) 51 = .ok (.getfield 43, 3) := by decide +kernel
theorem x165_51 {d : Nat} {L : Lc} {st : List Value} {a : Nat} {h : Hp} (ht : (h.2.1 a).1 = 11) : ex (d) 165 51 L (.ref a :: st) h = ex d 165 54 L (h.1 a 16 :: st) h := (ex_of d165_51 (d) L (.ref a :: st) h).trans (fin_get (mi := 165) f11_43 (tg1 ht rfl))
theorem d165_54 : decode (mB 165) 54 = .ok (.iload_n 1, 1) := by decide +kernel
theorem x165_54 {d : Nat} {l0 l2 l3 l4 l5 l6 : Option Value} {st : List Value} {x : Int32} {h : Hp} : ex (d) 165 54 [l0, some (.int x), l2, l3, l4, l5, l6] st h = ex d 165 55 [l0, some (.int x), l2, l3, l4, l5, l6] (.int x :: st) h := (ex_of d165_54 (d) [l0, some (.int x), l2, l3, l4, l5, l6] st h).trans (rfl)
theorem d165_55 : decode (mB 165) 55 = .ok (.iconst 3, 1) := by decide +kernel
theorem x165_55 {d : Nat} {L : Lc} {st : List Value} {h : Hp} : ex (d) 165 55 L st h = ex d 165 56 L (.int (nI 3) :: st) h := (ex_of d165_55 (d) L st h).trans (rfl)
theorem d165_56 : decode (mB 165) 56 = .ok (.iadd, 1) := by decide +kernel
theorem x165_56 {d : Nat} {L : Lc} {st : List Value} {x y : Int32} {h : Hp} : ex (d) 165 56 L (.int y :: .int x :: st) h = ex d 165 57 L (.int (x + y) :: st) h := (ex_of d165_56 (d) L (.int y :: .int x :: st) h).trans (rfl)
theorem d165_57 : decode (mB 165) 57 = .ok (.iaload, 1) := by decide +kernel
theorem x165_57 {d : Nat} {L : Lc} {st : List Value} {a j : Nat} {h : Hp} (ht : (h.2.1 a).1 = 20) (hj : j < (h.2.1 a).2) (hb : j < 2147483648) : ex (d) 165 57 L (.int (nI j) :: .ref a :: st) h = ex d 165 58 L (h.1 a j :: st) h := (ex_of d165_57 (d) L (.int (nI j) :: .ref a :: st) h).trans (fin_iaload (Or.inl ht) hj hb)
theorem d165_58 : decode (mB 165) 58 = .ok (.istore 4, 2) := by decide +kernel
theorem x165_58 {d : Nat} {l0 l1 l2 l3 l4 l5 l6 : Option Value} {st : List Value} {x : Int32} {h : Hp} : ex (d) 165 58 [l0, l1, l2, l3, l4, l5, l6] (.int x :: st) h = ex d 165 60 [l0, l1, l2, clr l3, some (.int x), l5, l6] st h := (ex_of d165_58 (d) [l0, l1, l2, l3, l4, l5, l6] (.int x :: st) h).trans (rfl)
theorem d165_60 : decode (mB 165) 60 = .ok (.aload_n 0, 1) := by decide +kernel
theorem x165_60 {d : Nat} {l1 l2 l3 l4 l5 l6 : Option Value} {st : List Value} {a : Nat} {h : Hp} : ex (d) 165 60 [some (.ref a), l1, l2, l3, l4, l5, l6] st h = ex d 165 61 [some (.ref a), l1, l2, l3, l4, l5, l6] (.ref a :: st) h := (ex_of d165_60 (d) [some (.ref a), l1, l2, l3, l4, l5, l6] st h).trans (rfl)
theorem d165_61 : decode (mB 165) 61 = .ok (.getfield 43, 3) := by decide +kernel
theorem x165_61 {d : Nat} {L : Lc} {st : List Value} {a : Nat} {h : Hp} (ht : (h.2.1 a).1 = 11) : ex (d) 165 61 L (.ref a :: st) h = ex d 165 64 L (h.1 a 16 :: st) h := (ex_of d165_61 (d) L (.ref a :: st) h).trans (fin_get (mi := 165) f11_43 (tg1 ht rfl))
theorem d165_64 : decode (mB 165) 64 = .ok (.iload_n 1, 1) := by decide +kernel
theorem x165_64 {d : Nat} {l0 l2 l3 l4 l5 l6 : Option Value} {st : List Value} {x : Int32} {h : Hp} : ex (d) 165 64 [l0, some (.int x), l2, l3, l4, l5, l6] st h = ex d 165 65 [l0, some (.int x), l2, l3, l4, l5, l6] (.int x :: st) h := (ex_of d165_64 (d) [l0, some (.int x), l2, l3, l4, l5, l6] st h).trans (rfl)
theorem d165_65 : decode (mB 165) 65 = .ok (.iconst 4, 1) := by decide +kernel
theorem x165_65 {d : Nat} {L : Lc} {st : List Value} {h : Hp} : ex (d) 165 65 L st h = ex d 165 66 L (.int (nI 4) :: st) h := (ex_of d165_65 (d) L st h).trans (rfl)
theorem d165_66 : decode (mB 165) 66 = .ok (.iadd, 1) := by decide +kernel
theorem x165_66 {d : Nat} {L : Lc} {st : List Value} {x y : Int32} {h : Hp} : ex (d) 165 66 L (.int y :: .int x :: st) h = ex d 165 67 L (.int (x + y) :: st) h := (ex_of d165_66 (d) L (.int y :: .int x :: st) h).trans (rfl)
theorem d165_67 : decode (mB 165) 67 = .ok (.iaload, 1) := by decide +kernel
theorem x165_67 {d : Nat} {L : Lc} {st : List Value} {a j : Nat} {h : Hp} (ht : (h.2.1 a).1 = 20) (hj : j < (h.2.1 a).2) (hb : j < 2147483648) : ex (d) 165 67 L (.int (nI j) :: .ref a :: st) h = ex d 165 68 L (h.1 a j :: st) h := (ex_of d165_67 (d) L (.int (nI j) :: .ref a :: st) h).trans (fin_iaload (Or.inl ht) hj hb)
theorem d165_68 : decode (mB 165) 68 = .ok (.istore 5, 2) := by decide +kernel
theorem x165_68 {d : Nat} {l0 l1 l2 l3 l4 l5 l6 : Option Value} {st : List Value} {x : Int32} {h : Hp} : ex (d) 165 68 [l0, l1, l2, l3, l4, l5, l6] (.int x :: st) h = ex d 165 70 [l0, l1, l2, l3, clr l4, some (.int x), l6] st h := (ex_of d165_68 (d) [l0, l1, l2, l3, l4, l5, l6] (.int x :: st) h).trans (rfl)
theorem d165_70 : decode (mB 165) 70 = .ok (.aload_n 0, 1) := by decide +kernel
theorem x165_70 {d : Nat} {l1 l2 l3 l4 l5 l6 : Option Value} {st : List Value} {a : Nat} {h : Hp} : ex (d) 165 70 [some (.ref a), l1, l2, l3, l4, l5, l6] st h = ex d 165 71 [some (.ref a), l1, l2, l3, l4, l5, l6] (.ref a :: st) h := (ex_of d165_70 (d) [some (.ref a), l1, l2, l3, l4, l5, l6] st h).trans (rfl)
theorem d165_71 : decode (mB 165) 71 = .ok (.getfield 43, 3) := by decide +kernel
theorem x165_71 {d : Nat} {L : Lc} {st : List Value} {a : Nat} {h : Hp} (ht : (h.2.1 a).1 = 11) : ex (d) 165 71 L (.ref a :: st) h = ex d 165 74 L (h.1 a 16 :: st) h := (ex_of d165_71 (d) L (.ref a :: st) h).trans (fin_get (mi := 165) f11_43 (tg1 ht rfl))
theorem d165_74 : decode (mB 165) 74 = .ok (.iload_n 1, 1) := by decide +kernel
theorem x165_74 {d : Nat} {l0 l2 l3 l4 l5 l6 : Option Value} {st : List Value} {x : Int32} {h : Hp} : ex (d) 165 74 [l0, some (.int x), l2, l3, l4, l5, l6] st h = ex d 165 75 [l0, some (.int x), l2, l3, l4, l5, l6] (.int x :: st) h := (ex_of d165_74 (d) [l0, some (.int x), l2, l3, l4, l5, l6] st h).trans (rfl)
theorem d165_75 : decode (mB 165) 75 = .ok (.iconst 5, 1) := by decide +kernel
theorem x165_75 {d : Nat} {L : Lc} {st : List Value} {h : Hp} : ex (d) 165 75 L st h = ex d 165 76 L (.int (nI 5) :: st) h := (ex_of d165_75 (d) L st h).trans (rfl)
theorem d165_76 : decode (mB 165) 76 = .ok (.iadd, 1) := by decide +kernel
theorem x165_76 {d : Nat} {L : Lc} {st : List Value} {x y : Int32} {h : Hp} : ex (d) 165 76 L (.int y :: .int x :: st) h = ex d 165 77 L (.int (x + y) :: st) h := (ex_of d165_76 (d) L (.int y :: .int x :: st) h).trans (rfl)
theorem d165_77 : decode (mB 165) 77 = .ok (.iaload, 1) := by decide +kernel
theorem x165_77 {d : Nat} {L : Lc} {st : List Value} {a j : Nat} {h : Hp} (ht : (h.2.1 a).1 = 20) (hj : j < (h.2.1 a).2) (hb : j < 2147483648) : ex (d) 165 77 L (.int (nI j) :: .ref a :: st) h = ex d 165 78 L (h.1 a j :: st) h := (ex_of d165_77 (d) L (.int (nI j) :: .ref a :: st) h).trans (fin_iaload (Or.inl ht) hj hb)
theorem d165_78 : decode (mB 165) 78 = .ok (.istore 6, 2) := by decide +kernel
theorem x165_78 {d : Nat} {l0 l1 l2 l3 l4 l5 l6 : Option Value} {st : List Value} {x : Int32} {h : Hp} : ex (d) 165 78 [l0, l1, l2, l3, l4, l5, l6] (.int x :: st) h = ex d 165 80 [l0, l1, l2, l3, l4, clr l5, some (.int x)] st h := (ex_of d165_78 (d) [l0, l1, l2, l3, l4, l5, l6] (.int x :: st) h).trans (rfl)
theorem d165_80 : decode (mB 165) 80 = .ok (.aload_n 0, 1) := by decide +kernel
theorem x165_80 {d : Nat} {l1 l2 l3 l4 l5 l6 : Option Value} {st : List Value} {a : Nat} {h : Hp} : ex (d) 165 80 [some (.ref a), l1, l2, l3, l4, l5, l6] st h = ex d 165 81 [some (.ref a), l1, l2, l3, l4, l5, l6] (.ref a :: st) h := (ex_of d165_80 (d) [some (.ref a), l1, l2, l3, l4, l5, l6] st h).trans (rfl)
theorem d165_81 : decode (mB 165) 81 = .ok (.getfield 43, 3) := by decide +kernel
theorem x165_81 {d : Nat} {L : Lc} {st : List Value} {a : Nat} {h : Hp} (ht : (h.2.1 a).1 = 11) : ex (d) 165 81 L (.ref a :: st) h = ex d 165 84 L (h.1 a 16 :: st) h := (ex_of d165_81 (d) L (.ref a :: st) h).trans (fin_get (mi := 165) f11_43 (tg1 ht rfl))
theorem d165_84 : decode (mB 165) 84 = .ok (.iload_n 1, 1) := by decide +kernel
theorem x165_84 {d : Nat} {l0 l2 l3 l4 l5 l6 : Option Value} {st : List Value} {x : Int32} {h : Hp} : ex (d) 165 84 [l0, some (.int x), l2, l3, l4, l5, l6] st h = ex d 165 85 [l0, some (.int x), l2, l3, l4, l5, l6] (.int x :: st) h := (ex_of d165_84 (d) [l0, some (.int x), l2, l3, l4, l5, l6] st h).trans (rfl)
theorem d165_85 : decode (mB 165) 85 = .ok (.iaload, 1) := by decide +kernel
theorem x165_85 {d : Nat} {L : Lc} {st : List Value} {a j : Nat} {h : Hp} (ht : (h.2.1 a).1 = 20) (hj : j < (h.2.1 a).2) (hb : j < 2147483648) : ex (d) 165 85 L (.int (nI j) :: .ref a :: st) h = ex d 165 86 L (h.1 a j :: st) h := (ex_of d165_85 (d) L (.int (nI j) :: .ref a :: st) h).trans (fin_iaload (Or.inl ht) hj hb)
theorem d165_86 : decode (mB 165) 86 = .ok (.tableswitch 136 0 4 #[34, 43, 54, 91, 101], 34) := by decide +kernel
theorem x165_86_0 {d : Nat} {L : Lc} {st : List Value} {h : Hp} : ex (d) 165 86 L (.int (nI 0) :: st) h = ex d 165 120 L st h := (ex_of d165_86 (d) L (.int (nI 0) :: st) h).trans (rfl)
theorem x165_86_1 {d : Nat} {L : Lc} {st : List Value} {h : Hp} : ex (d) 165 86 L (.int (nI 1) :: st) h = ex d 165 129 L st h := (ex_of d165_86 (d) L (.int (nI 1) :: st) h).trans (rfl)
theorem x165_86_2 {d : Nat} {L : Lc} {st : List Value} {h : Hp} : ex (d) 165 86 L (.int (nI 2) :: st) h = ex d 165 140 L st h := (ex_of d165_86 (d) L (.int (nI 2) :: st) h).trans (rfl)
theorem x165_86_3 {d : Nat} {L : Lc} {st : List Value} {h : Hp} : ex (d) 165 86 L (.int (nI 3) :: st) h = ex d 165 177 L st h := (ex_of d165_86 (d) L (.int (nI 3) :: st) h).trans (rfl)
theorem x165_86_4 {d : Nat} {L : Lc} {st : List Value} {h : Hp} : ex (d) 165 86 L (.int (nI 4) :: st) h = ex d 165 187 L st h := (ex_of d165_86 (d) L (.int (nI 4) :: st) h).trans (rfl)
theorem x165_86_o {d : Nat} {L : Lc} {st : List Value} {x : Int32} {h : Hp} (hx : x.toInt < 0 ∨ 4 < x.toInt) : ex (d) 165 86 L (.int x :: st) h = ex d 165 222 L st h := by
  refine (ex_of d165_86 _ _ _ _).trans ?_
  simp only [stp]
  rw [if_pos hx]
  rfl
theorem d165_120 : decode (mB 165) 120 = .ok (.aload_n 0, 1) := by decide +kernel
theorem x165_120 {d : Nat} {l1 l2 l3 l4 l5 l6 : Option Value} {st : List Value} {a : Nat} {h : Hp} : ex (d) 165 120 [some (.ref a), l1, l2, l3, l4, l5, l6] st h = ex d 165 121 [some (.ref a), l1, l2, l3, l4, l5, l6] (.ref a :: st) h := (ex_of d165_120 (d) [some (.ref a), l1, l2, l3, l4, l5, l6] st h).trans (rfl)
theorem d165_121 : decode (mB 165) 121 = .ok (.iload_n 2, 1) := by decide +kernel
theorem x165_121 {d : Nat} {l0 l1 l3 l4 l5 l6 : Option Value} {st : List Value} {x : Int32} {h : Hp} : ex (d) 165 121 [l0, l1, some (.int x), l3, l4, l5, l6] st h = ex d 165 122 [l0, l1, some (.int x), l3, l4, l5, l6] (.int x :: st) h := (ex_of d165_121 (d) [l0, l1, some (.int x), l3, l4, l5, l6] st h).trans (rfl)
theorem d165_122 : decode (mB 165) 122 = .ok (.iconst 0, 1) := by decide +kernel
theorem x165_122 {d : Nat} {L : Lc} {st : List Value} {h : Hp} : ex (d) 165 122 L st h = ex d 165 123 L (.int (nI 0) :: st) h := (ex_of d165_122 (d) L st h).trans (rfl)
theorem d165_123 : decode (mB 165) 123 = .ok (.invokevirtual 164, 3) := by decide +kernel
theorem x165_123 {d : Nat} {L : Lc} {a : Nat} {v0 : Int32} {v1 : Int32} {h : Hp} (ht : (h.2.1 a).1 = 11) : ex (d + 1) 165 123 L (.int v1 :: .int v0 :: .ref a :: []) h = bnd (ex d 156 0 [some (.ref a), some (.int v0), some (.int v1)] [] h) (fun v h' => ex (d + 1) 165 126 L (v.toList ++ []) h') := (ex_of d165_123 (d + 1) L (.int v1 :: .int v0 :: .ref a :: []) h).trans (fin_vi (mi := 165) i11_164 ht rfl rfl (by simp [cat1_i, cat1_r]) (by simp) (Nat.le_of_ble_eq_true rfl))
theorem d165_126 : decode (mB 165) 126 = .ok (.goto 124, 3) := by decide +kernel
theorem x165_126 {d : Nat} {L : Lc} {st : List Value} {h : Hp} : ex (d) 165 126 L st h = ex d 165 250 L st h := (ex_of d165_126 (d) L st h).trans (rfl)
theorem d165_129 : decode (mB 165) 129 = .ok (.aload_n 0, 1) := by decide +kernel
theorem x165_129 {d : Nat} {l1 l2 l3 l4 l5 l6 : Option Value} {st : List Value} {a : Nat} {h : Hp} : ex (d) 165 129 [some (.ref a), l1, l2, l3, l4, l5, l6] st h = ex d 165 130 [some (.ref a), l1, l2, l3, l4, l5, l6] (.ref a :: st) h := (ex_of d165_129 (d) [some (.ref a), l1, l2, l3, l4, l5, l6] st h).trans (rfl)
theorem d165_130 : decode (mB 165) 130 = .ok (.iload_n 3, 1) := by decide +kernel
theorem x165_130 {d : Nat} {l0 l1 l2 l4 l5 l6 : Option Value} {st : List Value} {x : Int32} {h : Hp} : ex (d) 165 130 [l0, l1, l2, some (.int x), l4, l5, l6] st h = ex d 165 131 [l0, l1, l2, some (.int x), l4, l5, l6] (.int x :: st) h := (ex_of d165_130 (d) [l0, l1, l2, some (.int x), l4, l5, l6] st h).trans (rfl)
theorem d165_131 : decode (mB 165) 131 = .ok (.iload 4, 2) := by decide +kernel
theorem x165_131 {d : Nat} {l0 l1 l2 l3 l5 l6 : Option Value} {st : List Value} {x : Int32} {h : Hp} : ex (d) 165 131 [l0, l1, l2, l3, some (.int x), l5, l6] st h = ex d 165 133 [l0, l1, l2, l3, some (.int x), l5, l6] (.int x :: st) h := (ex_of d165_131 (d) [l0, l1, l2, l3, some (.int x), l5, l6] st h).trans (rfl)
theorem d165_133 : decode (mB 165) 133 = .ok (.iload_n 2, 1) := by decide +kernel
theorem x165_133 {d : Nat} {l0 l1 l3 l4 l5 l6 : Option Value} {st : List Value} {x : Int32} {h : Hp} : ex (d) 165 133 [l0, l1, some (.int x), l3, l4, l5, l6] st h = ex d 165 134 [l0, l1, some (.int x), l3, l4, l5, l6] (.int x :: st) h := (ex_of d165_133 (d) [l0, l1, some (.int x), l3, l4, l5, l6] st h).trans (rfl)
theorem d165_134 : decode (mB 165) 134 = .ok (.invokevirtual 153, 3) := by decide +kernel
theorem x165_134 {d : Nat} {L : Lc} {a : Nat} {v0 : Int32} {v1 : Int32} {v2 : Int32} {h : Hp} (ht : (h.2.1 a).1 = 11) : ex (d + 1) 165 134 L (.int v2 :: .int v1 :: .int v0 :: .ref a :: []) h = bnd (ex d 155 0 [some (.ref a), some (.int v0), some (.int v1), some (.int v2)] [] h) (fun v h' => ex (d + 1) 165 137 L (v.toList ++ []) h') := (ex_of d165_134 (d + 1) L (.int v2 :: .int v1 :: .int v0 :: .ref a :: []) h).trans (fin_vi (mi := 165) i11_153 ht rfl rfl (by simp [cat1_i, cat1_r]) (by simp) (Nat.le_of_ble_eq_true rfl))
theorem d165_137 : decode (mB 165) 137 = .ok (.goto 113, 3) := by decide +kernel
theorem x165_137 {d : Nat} {L : Lc} {st : List Value} {h : Hp} : ex (d) 165 137 L st h = ex d 165 250 L st h := (ex_of d165_137 (d) L st h).trans (rfl)
theorem d165_140 : decode (mB 165) 140 = .ok (.aload_n 0, 1) := by decide +kernel
theorem x165_140 {d : Nat} {l1 l2 l3 l4 l5 l6 : Option Value} {st : List Value} {a : Nat} {h : Hp} : ex (d) 165 140 [some (.ref a), l1, l2, l3, l4, l5, l6] st h = ex d 165 141 [some (.ref a), l1, l2, l3, l4, l5, l6] (.ref a :: st) h := (ex_of d165_140 (d) [some (.ref a), l1, l2, l3, l4, l5, l6] st h).trans (rfl)
theorem d165_141 : decode (mB 165) 141 = .ok (.getfield 28, 3) := by decide +kernel
theorem x165_141 {d : Nat} {L : Lc} {st : List Value} {a : Nat} {h : Hp} (ht : (h.2.1 a).1 = 11) : ex (d) 165 141 L (.ref a :: st) h = ex d 165 144 L (h.1 a 9 :: st) h := (ex_of d165_141 (d) L (.ref a :: st) h).trans (fin_get (mi := 165) f11_28 (tg1 ht rfl))
theorem d165_144 : decode (mB 165) 144 = .ok (.iload_n 2, 1) := by decide +kernel
theorem x165_144 {d : Nat} {l0 l1 l3 l4 l5 l6 : Option Value} {st : List Value} {x : Int32} {h : Hp} : ex (d) 165 144 [l0, l1, some (.int x), l3, l4, l5, l6] st h = ex d 165 145 [l0, l1, some (.int x), l3, l4, l5, l6] (.int x :: st) h := (ex_of d165_144 (d) [l0, l1, some (.int x), l3, l4, l5, l6] st h).trans (rfl)
theorem d165_145 : decode (mB 165) 145 = .ok (.iload_n 3, 1) := by decide +kernel
theorem x165_145 {d : Nat} {l0 l1 l2 l4 l5 l6 : Option Value} {st : List Value} {x : Int32} {h : Hp} : ex (d) 165 145 [l0, l1, l2, some (.int x), l4, l5, l6] st h = ex d 165 146 [l0, l1, l2, some (.int x), l4, l5, l6] (.int x :: st) h := (ex_of d165_145 (d) [l0, l1, l2, some (.int x), l4, l5, l6] st h).trans (rfl)
theorem d165_146 : decode (mB 165) 146 = .ok (.iastore, 1) := by decide +kernel
theorem x165_146 {d : Nat} {L : Lc} {st : List Value} {a j : Nat} {x : Int32} {h : Hp} (ht : (h.2.1 a).1 = 20) (hj : j < (h.2.1 a).2) (hb : j < 2147483648) : ex (d) 165 146 L (.int x :: .int (nI j) :: .ref a :: st) h = ex d 165 147 L st (mup h.1 a j (.int x), h.2) := (ex_of d165_146 (d) L (.int x :: .int (nI j) :: .ref a :: st) h).trans (fin_iastore ht hj hb)
theorem d165_147 : decode (mB 165) 147 = .ok (.aload_n 0, 1) := by decide +kernel
theorem x165_147 {d : Nat} {l1 l2 l3 l4 l5 l6 : Option Value} {st : List Value} {a : Nat} {h : Hp} : ex (d) 165 147 [some (.ref a), l1, l2, l3, l4, l5, l6] st h = ex d 165 148 [some (.ref a), l1, l2, l3, l4, l5, l6] (.ref a :: st) h := (ex_of d165_147 (d) [some (.ref a), l1, l2, l3, l4, l5, l6] st h).trans (rfl)
theorem d165_148 : decode (mB 165) 148 = .ok (.getfield 31, 3) := by decide +kernel
theorem x165_148 {d : Nat} {L : Lc} {st : List Value} {a : Nat} {h : Hp} (ht : (h.2.1 a).1 = 11) : ex (d) 165 148 L (.ref a :: st) h = ex d 165 151 L (h.1 a 10 :: st) h := (ex_of d165_148 (d) L (.ref a :: st) h).trans (fin_get (mi := 165) f11_31 (tg1 ht rfl))
theorem d165_151 : decode (mB 165) 151 = .ok (.iload_n 2, 1) := by decide +kernel
theorem x165_151 {d : Nat} {l0 l1 l3 l4 l5 l6 : Option Value} {st : List Value} {x : Int32} {h : Hp} : ex (d) 165 151 [l0, l1, some (.int x), l3, l4, l5, l6] st h = ex d 165 152 [l0, l1, some (.int x), l3, l4, l5, l6] (.int x :: st) h := (ex_of d165_151 (d) [l0, l1, some (.int x), l3, l4, l5, l6] st h).trans (rfl)
theorem d165_152 : decode (mB 165) 152 = .ok (.iload 4, 2) := by decide +kernel
theorem x165_152 {d : Nat} {l0 l1 l2 l3 l5 l6 : Option Value} {st : List Value} {x : Int32} {h : Hp} : ex (d) 165 152 [l0, l1, l2, l3, some (.int x), l5, l6] st h = ex d 165 154 [l0, l1, l2, l3, some (.int x), l5, l6] (.int x :: st) h := (ex_of d165_152 (d) [l0, l1, l2, l3, some (.int x), l5, l6] st h).trans (rfl)
theorem d165_154 : decode (mB 165) 154 = .ok (.iastore, 1) := by decide +kernel
theorem x165_154 {d : Nat} {L : Lc} {st : List Value} {a j : Nat} {x : Int32} {h : Hp} (ht : (h.2.1 a).1 = 20) (hj : j < (h.2.1 a).2) (hb : j < 2147483648) : ex (d) 165 154 L (.int x :: .int (nI j) :: .ref a :: st) h = ex d 165 155 L st (mup h.1 a j (.int x), h.2) := (ex_of d165_154 (d) L (.int x :: .int (nI j) :: .ref a :: st) h).trans (fin_iastore ht hj hb)
theorem d165_155 : decode (mB 165) 155 = .ok (.aload_n 0, 1) := by decide +kernel
theorem x165_155 {d : Nat} {l1 l2 l3 l4 l5 l6 : Option Value} {st : List Value} {a : Nat} {h : Hp} : ex (d) 165 155 [some (.ref a), l1, l2, l3, l4, l5, l6] st h = ex d 165 156 [some (.ref a), l1, l2, l3, l4, l5, l6] (.ref a :: st) h := (ex_of d165_155 (d) [some (.ref a), l1, l2, l3, l4, l5, l6] st h).trans (rfl)
theorem d165_156 : decode (mB 165) 156 = .ok (.getfield 34, 3) := by decide +kernel
theorem x165_156 {d : Nat} {L : Lc} {st : List Value} {a : Nat} {h : Hp} (ht : (h.2.1 a).1 = 11) : ex (d) 165 156 L (.ref a :: st) h = ex d 165 159 L (h.1 a 11 :: st) h := (ex_of d165_156 (d) L (.ref a :: st) h).trans (fin_get (mi := 165) f11_34 (tg1 ht rfl))
theorem d165_159 : decode (mB 165) 159 = .ok (.iload_n 2, 1) := by decide +kernel
theorem x165_159 {d : Nat} {l0 l1 l3 l4 l5 l6 : Option Value} {st : List Value} {x : Int32} {h : Hp} : ex (d) 165 159 [l0, l1, some (.int x), l3, l4, l5, l6] st h = ex d 165 160 [l0, l1, some (.int x), l3, l4, l5, l6] (.int x :: st) h := (ex_of d165_159 (d) [l0, l1, some (.int x), l3, l4, l5, l6] st h).trans (rfl)
theorem d165_160 : decode (mB 165) 160 = .ok (.iload 5, 2) := by decide +kernel
theorem x165_160 {d : Nat} {l0 l1 l2 l3 l4 l6 : Option Value} {st : List Value} {x : Int32} {h : Hp} : ex (d) 165 160 [l0, l1, l2, l3, l4, some (.int x), l6] st h = ex d 165 162 [l0, l1, l2, l3, l4, some (.int x), l6] (.int x :: st) h := (ex_of d165_160 (d) [l0, l1, l2, l3, l4, some (.int x), l6] st h).trans (rfl)
theorem d165_162 : decode (mB 165) 162 = .ok (.iastore, 1) := by decide +kernel
theorem x165_162 {d : Nat} {L : Lc} {st : List Value} {a j : Nat} {x : Int32} {h : Hp} (ht : (h.2.1 a).1 = 20) (hj : j < (h.2.1 a).2) (hb : j < 2147483648) : ex (d) 165 162 L (.int x :: .int (nI j) :: .ref a :: st) h = ex d 165 163 L st (mup h.1 a j (.int x), h.2) := (ex_of d165_162 (d) L (.int x :: .int (nI j) :: .ref a :: st) h).trans (fin_iastore ht hj hb)
theorem d165_163 : decode (mB 165) 163 = .ok (.aload_n 0, 1) := by decide +kernel
theorem x165_163 {d : Nat} {l1 l2 l3 l4 l5 l6 : Option Value} {st : List Value} {a : Nat} {h : Hp} : ex (d) 165 163 [some (.ref a), l1, l2, l3, l4, l5, l6] st h = ex d 165 164 [some (.ref a), l1, l2, l3, l4, l5, l6] (.ref a :: st) h := (ex_of d165_163 (d) [some (.ref a), l1, l2, l3, l4, l5, l6] st h).trans (rfl)
theorem d165_164 : decode (mB 165) 164 = .ok (.dup, 1) := by decide +kernel
theorem x165_164 {d : Nat} {L : Lc} {st : List Value} {a : Nat} {h : Hp} : ex (d) 165 164 L (.ref a :: st) h = ex d 165 165 L (.ref a :: .ref a :: st) h := (ex_of d165_164 (d) L (.ref a :: st) h).trans (rfl)
theorem x165_164i {d : Nat} {L : Lc} {st : List Value} {x : Int32} {h : Hp} : ex (d) 165 164 L (.int x :: st) h = ex d 165 165 L (.int x :: .int x :: st) h := (ex_of d165_164 (d) L (.int x :: st) h).trans (rfl)
theorem d165_165 : decode (mB 165) 165 = .ok (.getfield 171, 3) := by decide +kernel
theorem x165_165 {d : Nat} {L : Lc} {st : List Value} {a : Nat} {h : Hp} (ht : (h.2.1 a).1 = 11) : ex (d) 165 165 L (.ref a :: st) h = ex d 165 168 L (h.1 a 18 :: st) h := (ex_of d165_165 (d) L (.ref a :: st) h).trans (fin_get (mi := 165) f11_171 (tg1 ht rfl))
theorem d165_168 : decode (mB 165) 168 = .ok (.iload 6, 2) := by decide +kernel
theorem x165_168 {d : Nat} {l0 l1 l2 l3 l4 l5 : Option Value} {st : List Value} {x : Int32} {h : Hp} : ex (d) 165 168 [l0, l1, l2, l3, l4, l5, some (.int x)] st h = ex d 165 170 [l0, l1, l2, l3, l4, l5, some (.int x)] (.int x :: st) h := (ex_of d165_168 (d) [l0, l1, l2, l3, l4, l5, some (.int x)] st h).trans (rfl)
theorem d165_170 : decode (mB 165) 170 = .ok (.isub, 1) := by decide +kernel
theorem x165_170 {d : Nat} {L : Lc} {st : List Value} {x y : Int32} {h : Hp} : ex (d) 165 170 L (.int y :: .int x :: st) h = ex d 165 171 L (.int (x - y) :: st) h := (ex_of d165_170 (d) L (.int y :: .int x :: st) h).trans (rfl)
theorem d165_171 : decode (mB 165) 171 = .ok (.putfield 171, 3) := by decide +kernel
theorem x165_171 {d : Nat} {L : Lc} {st : List Value} {a : Nat} {x : Int32} {h : Hp} (ht : (h.2.1 a).1 = 11) : ex (d) 165 171 L (.int x :: .ref a :: st) h = ex d 165 174 L st (mup h.1 a 18 (.int x), h.2) := (ex_of d165_171 (d) L (.int x :: .ref a :: st) h).trans (fin_put (mi := 165) f11_171 ht rfl rfl (by decide +kernel))
theorem d165_174 : decode (mB 165) 174 = .ok (.goto 76, 3) := by decide +kernel
theorem x165_174 {d : Nat} {L : Lc} {st : List Value} {h : Hp} : ex (d) 165 174 L st h = ex d 165 250 L st h := (ex_of d165_174 (d) L st h).trans (rfl)
theorem d165_177 : decode (mB 165) 177 = .ok (.aload_n 0, 1) := by decide +kernel
theorem x165_177 {d : Nat} {l1 l2 l3 l4 l5 l6 : Option Value} {st : List Value} {a : Nat} {h : Hp} : ex (d) 165 177 [some (.ref a), l1, l2, l3, l4, l5, l6] st h = ex d 165 178 [some (.ref a), l1, l2, l3, l4, l5, l6] (.ref a :: st) h := (ex_of d165_177 (d) [some (.ref a), l1, l2, l3, l4, l5, l6] st h).trans (rfl)
theorem d165_178 : decode (mB 165) 178 = .ok (.getfield 46, 3) := by decide +kernel
theorem x165_178 {d : Nat} {L : Lc} {st : List Value} {a : Nat} {h : Hp} (ht : (h.2.1 a).1 = 11) : ex (d) 165 178 L (.ref a :: st) h = ex d 165 181 L (h.1 a 20 :: st) h := (ex_of d165_178 (d) L (.ref a :: st) h).trans (fin_get (mi := 165) f11_46 (tg1 ht rfl))
theorem d165_181 : decode (mB 165) 181 = .ok (.iload_n 2, 1) := by decide +kernel
theorem x165_181 {d : Nat} {l0 l1 l3 l4 l5 l6 : Option Value} {st : List Value} {x : Int32} {h : Hp} : ex (d) 165 181 [l0, l1, some (.int x), l3, l4, l5, l6] st h = ex d 165 182 [l0, l1, some (.int x), l3, l4, l5, l6] (.int x :: st) h := (ex_of d165_181 (d) [l0, l1, some (.int x), l3, l4, l5, l6] st h).trans (rfl)
theorem d165_182 : decode (mB 165) 182 = .ok (.iload_n 3, 1) := by decide +kernel
theorem x165_182 {d : Nat} {l0 l1 l2 l4 l5 l6 : Option Value} {st : List Value} {x : Int32} {h : Hp} : ex (d) 165 182 [l0, l1, l2, some (.int x), l4, l5, l6] st h = ex d 165 183 [l0, l1, l2, some (.int x), l4, l5, l6] (.int x :: st) h := (ex_of d165_182 (d) [l0, l1, l2, some (.int x), l4, l5, l6] st h).trans (rfl)
theorem d165_183 : decode (mB 165) 183 = .ok (.iastore, 1) := by decide +kernel
theorem x165_183 {d : Nat} {L : Lc} {st : List Value} {a j : Nat} {x : Int32} {h : Hp} (ht : (h.2.1 a).1 = 20) (hj : j < (h.2.1 a).2) (hb : j < 2147483648) : ex (d) 165 183 L (.int x :: .int (nI j) :: .ref a :: st) h = ex d 165 184 L st (mup h.1 a j (.int x), h.2) := (ex_of d165_183 (d) L (.int x :: .int (nI j) :: .ref a :: st) h).trans (fin_iastore ht hj hb)
theorem d165_184 : decode (mB 165) 184 = .ok (.goto 66, 3) := by decide +kernel
theorem x165_184 {d : Nat} {L : Lc} {st : List Value} {h : Hp} : ex (d) 165 184 L st h = ex d 165 250 L st h := (ex_of d165_184 (d) L st h).trans (rfl)
theorem d165_187 : decode (mB 165) 187 = .ok (.aload_n 0, 1) := by decide +kernel
theorem x165_187 {d : Nat} {l1 l2 l3 l4 l5 l6 : Option Value} {st : List Value} {a : Nat} {h : Hp} : ex (d) 165 187 [some (.ref a), l1, l2, l3, l4, l5, l6] st h = ex d 165 188 [some (.ref a), l1, l2, l3, l4, l5, l6] (.ref a :: st) h := (ex_of d165_187 (d) [some (.ref a), l1, l2, l3, l4, l5, l6] st h).trans (rfl)
theorem d165_188 : decode (mB 165) 188 = .ok (.iload_n 3, 1) := by decide +kernel
theorem x165_188 {d : Nat} {l0 l1 l2 l4 l5 l6 : Option Value} {st : List Value} {x : Int32} {h : Hp} : ex (d) 165 188 [l0, l1, l2, some (.int x), l4, l5, l6] st h = ex d 165 189 [l0, l1, l2, some (.int x), l4, l5, l6] (.int x :: st) h := (ex_of d165_188 (d) [l0, l1, l2, some (.int x), l4, l5, l6] st h).trans (rfl)
theorem d165_189 : decode (mB 165) 189 = .ok (.iload 4, 2) := by decide +kernel
theorem x165_189 {d : Nat} {l0 l1 l2 l3 l5 l6 : Option Value} {st : List Value} {x : Int32} {h : Hp} : ex (d) 165 189 [l0, l1, l2, l3, some (.int x), l5, l6] st h = ex d 165 191 [l0, l1, l2, l3, some (.int x), l5, l6] (.int x :: st) h := (ex_of d165_189 (d) [l0, l1, l2, l3, some (.int x), l5, l6] st h).trans (rfl)
theorem d165_191 : decode (mB 165) 191 = .ok (.iload_n 2, 1) := by decide +kernel
theorem x165_191 {d : Nat} {l0 l1 l3 l4 l5 l6 : Option Value} {st : List Value} {x : Int32} {h : Hp} : ex (d) 165 191 [l0, l1, some (.int x), l3, l4, l5, l6] st h = ex d 165 192 [l0, l1, some (.int x), l3, l4, l5, l6] (.int x :: st) h := (ex_of d165_191 (d) [l0, l1, some (.int x), l3, l4, l5, l6] st h).trans (rfl)
theorem d165_192 : decode (mB 165) 192 = .ok (.invokevirtual 153, 3) := by decide +kernel
theorem x165_192 {d : Nat} {L : Lc} {a : Nat} {v0 : Int32} {v1 : Int32} {v2 : Int32} {h : Hp} (ht : (h.2.1 a).1 = 11) : ex (d + 1) 165 192 L (.int v2 :: .int v1 :: .int v0 :: .ref a :: []) h = bnd (ex d 155 0 [some (.ref a), some (.int v0), some (.int v1), some (.int v2)] [] h) (fun v h' => ex (d + 1) 165 195 L (v.toList ++ []) h') := (ex_of d165_192 (d + 1) L (.int v2 :: .int v1 :: .int v0 :: .ref a :: []) h).trans (fin_vi (mi := 165) i11_153 ht rfl rfl (by simp [cat1_i, cat1_r]) (by simp) (Nat.le_of_ble_eq_true rfl))
theorem d165_195 : decode (mB 165) 195 = .ok (.aload_n 0, 1) := by decide +kernel
theorem x165_195 {d : Nat} {l1 l2 l3 l4 l5 l6 : Option Value} {st : List Value} {a : Nat} {h : Hp} : ex (d) 165 195 [some (.ref a), l1, l2, l3, l4, l5, l6] st h = ex d 165 196 [some (.ref a), l1, l2, l3, l4, l5, l6] (.ref a :: st) h := (ex_of d165_195 (d) [some (.ref a), l1, l2, l3, l4, l5, l6] st h).trans (rfl)
theorem d165_196 : decode (mB 165) 196 = .ok (.dup, 1) := by decide +kernel
theorem x165_196 {d : Nat} {L : Lc} {st : List Value} {a : Nat} {h : Hp} : ex (d) 165 196 L (.ref a :: st) h = ex d 165 197 L (.ref a :: .ref a :: st) h := (ex_of d165_196 (d) L (.ref a :: st) h).trans (rfl)
theorem x165_196i {d : Nat} {L : Lc} {st : List Value} {x : Int32} {h : Hp} : ex (d) 165 196 L (.int x :: st) h = ex d 165 197 L (.int x :: .int x :: st) h := (ex_of d165_196 (d) L (.int x :: st) h).trans (rfl)
theorem d165_197 : decode (mB 165) 197 = .ok (.getfield 174, 3) := by decide +kernel
theorem x165_197 {d : Nat} {L : Lc} {st : List Value} {a : Nat} {h : Hp} (ht : (h.2.1 a).1 = 11) : ex (d) 165 197 L (.ref a :: st) h = ex d 165 200 L (h.1 a 34 :: st) h := (ex_of d165_197 (d) L (.ref a :: st) h).trans (fin_get (mi := 165) f11_174 (tg1 ht rfl))
theorem d165_200 : decode (mB 165) 200 = .ok (.aload_n 0, 1) := by decide +kernel
theorem x165_200 {d : Nat} {l1 l2 l3 l4 l5 l6 : Option Value} {st : List Value} {a : Nat} {h : Hp} : ex (d) 165 200 [some (.ref a), l1, l2, l3, l4, l5, l6] st h = ex d 165 201 [some (.ref a), l1, l2, l3, l4, l5, l6] (.ref a :: st) h := (ex_of d165_200 (d) [some (.ref a), l1, l2, l3, l4, l5, l6] st h).trans (rfl)
theorem d165_201 : decode (mB 165) 201 = .ok (.getfield 79, 3) := by decide +kernel
theorem x165_201 {d : Nat} {L : Lc} {st : List Value} {a : Nat} {h : Hp} (ht : (h.2.1 a).1 = 11) : ex (d) 165 201 L (.ref a :: st) h = ex d 165 204 L (h.1 a 37 :: st) h := (ex_of d165_201 (d) L (.ref a :: st) h).trans (fin_get (mi := 165) f11_79 (tg1 ht rfl))
theorem d165_204 : decode (mB 165) 204 = .ok (.iload 5, 2) := by decide +kernel
theorem x165_204 {d : Nat} {l0 l1 l2 l3 l4 l6 : Option Value} {st : List Value} {x : Int32} {h : Hp} : ex (d) 165 204 [l0, l1, l2, l3, l4, some (.int x), l6] st h = ex d 165 206 [l0, l1, l2, l3, l4, some (.int x), l6] (.int x :: st) h := (ex_of d165_204 (d) [l0, l1, l2, l3, l4, some (.int x), l6] st h).trans (rfl)
theorem d165_206 : decode (mB 165) 206 = .ok (.iaload, 1) := by decide +kernel
theorem x165_206 {d : Nat} {L : Lc} {st : List Value} {a j : Nat} {h : Hp} (ht : (h.2.1 a).1 = 20) (hj : j < (h.2.1 a).2) (hb : j < 2147483648) : ex (d) 165 206 L (.int (nI j) :: .ref a :: st) h = ex d 165 207 L (h.1 a j :: st) h := (ex_of d165_206 (d) L (.int (nI j) :: .ref a :: st) h).trans (fin_iaload (Or.inl ht) hj hb)
theorem d165_207 : decode (mB 165) 207 = .ok (.isub, 1) := by decide +kernel
theorem x165_207 {d : Nat} {L : Lc} {st : List Value} {x y : Int32} {h : Hp} : ex (d) 165 207 L (.int y :: .int x :: st) h = ex d 165 208 L (.int (x - y) :: st) h := (ex_of d165_207 (d) L (.int y :: .int x :: st) h).trans (rfl)
theorem d165_208 : decode (mB 165) 208 = .ok (.putfield 174, 3) := by decide +kernel
theorem x165_208 {d : Nat} {L : Lc} {st : List Value} {a : Nat} {x : Int32} {h : Hp} (ht : (h.2.1 a).1 = 11) : ex (d) 165 208 L (.int x :: .ref a :: st) h = ex d 165 211 L st (mup h.1 a 34 (.int x), h.2) := (ex_of d165_208 (d) L (.int x :: .ref a :: st) h).trans (fin_put (mi := 165) f11_174 ht rfl rfl (by decide +kernel))
theorem d165_211 : decode (mB 165) 211 = .ok (.aload_n 0, 1) := by decide +kernel
theorem x165_211 {d : Nat} {l1 l2 l3 l4 l5 l6 : Option Value} {st : List Value} {a : Nat} {h : Hp} : ex (d) 165 211 [some (.ref a), l1, l2, l3, l4, l5, l6] st h = ex d 165 212 [some (.ref a), l1, l2, l3, l4, l5, l6] (.ref a :: st) h := (ex_of d165_211 (d) [some (.ref a), l1, l2, l3, l4, l5, l6] st h).trans (rfl)
theorem d165_212 : decode (mB 165) 212 = .ok (.getfield 82, 3) := by decide +kernel
theorem x165_212 {d : Nat} {L : Lc} {st : List Value} {a : Nat} {h : Hp} (ht : (h.2.1 a).1 = 11) : ex (d) 165 212 L (.ref a :: st) h = ex d 165 215 L (h.1 a 38 :: st) h := (ex_of d165_212 (d) L (.ref a :: st) h).trans (fin_get (mi := 165) f11_82 (tg1 ht rfl))
theorem d165_215 : decode (mB 165) 215 = .ok (.iload 5, 2) := by decide +kernel
theorem x165_215 {d : Nat} {l0 l1 l2 l3 l4 l6 : Option Value} {st : List Value} {x : Int32} {h : Hp} : ex (d) 165 215 [l0, l1, l2, l3, l4, some (.int x), l6] st h = ex d 165 217 [l0, l1, l2, l3, l4, some (.int x), l6] (.int x :: st) h := (ex_of d165_215 (d) [l0, l1, l2, l3, l4, some (.int x), l6] st h).trans (rfl)
theorem d165_217 : decode (mB 165) 217 = .ok (.iconst 3, 1) := by decide +kernel
theorem x165_217 {d : Nat} {L : Lc} {st : List Value} {h : Hp} : ex (d) 165 217 L st h = ex d 165 218 L (.int (nI 3) :: st) h := (ex_of d165_217 (d) L st h).trans (rfl)
theorem d165_218 : decode (mB 165) 218 = .ok (.iastore, 1) := by decide +kernel
theorem x165_218 {d : Nat} {L : Lc} {st : List Value} {a j : Nat} {x : Int32} {h : Hp} (ht : (h.2.1 a).1 = 20) (hj : j < (h.2.1 a).2) (hb : j < 2147483648) : ex (d) 165 218 L (.int x :: .int (nI j) :: .ref a :: st) h = ex d 165 219 L st (mup h.1 a j (.int x), h.2) := (ex_of d165_218 (d) L (.int x :: .int (nI j) :: .ref a :: st) h).trans (fin_iastore ht hj hb)
theorem d165_219 : decode (mB 165) 219 = .ok (.goto 31, 3) := by decide +kernel
theorem x165_219 {d : Nat} {L : Lc} {st : List Value} {h : Hp} : ex (d) 165 219 L st h = ex d 165 250 L st h := (ex_of d165_219 (d) L st h).trans (rfl)
theorem d165_222 : decode (mB 165) 222 = .ok (.aload_n 0, 1) := by decide +kernel
theorem x165_222 {d : Nat} {l1 l2 l3 l4 l5 l6 : Option Value} {st : List Value} {a : Nat} {h : Hp} : ex (d) 165 222 [some (.ref a), l1, l2, l3, l4, l5, l6] st h = ex d 165 223 [some (.ref a), l1, l2, l3, l4, l5, l6] (.ref a :: st) h := (ex_of d165_222 (d) [some (.ref a), l1, l2, l3, l4, l5, l6] st h).trans (rfl)
theorem d165_223 : decode (mB 165) 223 = .ok (.aload_n 0, 1) := by decide +kernel
theorem x165_223 {d : Nat} {l1 l2 l3 l4 l5 l6 : Option Value} {st : List Value} {a : Nat} {h : Hp} : ex (d) 165 223 [some (.ref a), l1, l2, l3, l4, l5, l6] st h = ex d 165 224 [some (.ref a), l1, l2, l3, l4, l5, l6] (.ref a :: st) h := (ex_of d165_223 (d) [some (.ref a), l1, l2, l3, l4, l5, l6] st h).trans (rfl)
theorem d165_224 : decode (mB 165) 224 = .ok (.getfield 76, 3) := by decide +kernel
theorem x165_224 {d : Nat} {L : Lc} {st : List Value} {a : Nat} {h : Hp} (ht : (h.2.1 a).1 = 11) : ex (d) 165 224 L (.ref a :: st) h = ex d 165 227 L (h.1 a 36 :: st) h := (ex_of d165_224 (d) L (.ref a :: st) h).trans (fin_get (mi := 165) f11_76 (tg1 ht rfl))
theorem d165_227 : decode (mB 165) 227 = .ok (.iload_n 2, 1) := by decide +kernel
theorem x165_227 {d : Nat} {l0 l1 l3 l4 l5 l6 : Option Value} {st : List Value} {x : Int32} {h : Hp} : ex (d) 165 227 [l0, l1, some (.int x), l3, l4, l5, l6] st h = ex d 165 228 [l0, l1, some (.int x), l3, l4, l5, l6] (.int x :: st) h := (ex_of d165_227 (d) [l0, l1, some (.int x), l3, l4, l5, l6] st h).trans (rfl)
theorem d165_228 : decode (mB 165) 228 = .ok (.iaload, 1) := by decide +kernel
theorem x165_228 {d : Nat} {L : Lc} {st : List Value} {a j : Nat} {h : Hp} (ht : (h.2.1 a).1 = 20) (hj : j < (h.2.1 a).2) (hb : j < 2147483648) : ex (d) 165 228 L (.int (nI j) :: .ref a :: st) h = ex d 165 229 L (h.1 a j :: st) h := (ex_of d165_228 (d) L (.int (nI j) :: .ref a :: st) h).trans (fin_iaload (Or.inl ht) hj hb)
theorem d165_229 : decode (mB 165) 229 = .ok (.iconst 2, 1) := by decide +kernel
theorem x165_229 {d : Nat} {L : Lc} {st : List Value} {h : Hp} : ex (d) 165 229 L st h = ex d 165 230 L (.int (nI 2) :: st) h := (ex_of d165_229 (d) L st h).trans (rfl)
theorem d165_230 : decode (mB 165) 230 = .ok (.invokevirtual 164, 3) := by decide +kernel
theorem x165_230 {d : Nat} {L : Lc} {a : Nat} {v0 : Int32} {v1 : Int32} {h : Hp} (ht : (h.2.1 a).1 = 11) : ex (d + 1) 165 230 L (.int v1 :: .int v0 :: .ref a :: []) h = bnd (ex d 156 0 [some (.ref a), some (.int v0), some (.int v1)] [] h) (fun v h' => ex (d + 1) 165 233 L (v.toList ++ []) h') := (ex_of d165_230 (d + 1) L (.int v1 :: .int v0 :: .ref a :: []) h).trans (fin_vi (mi := 165) i11_164 ht rfl rfl (by simp [cat1_i, cat1_r]) (by simp) (Nat.le_of_ble_eq_true rfl))
theorem d165_233 : decode (mB 165) 233 = .ok (.aload_n 0, 1) := by decide +kernel
theorem x165_233 {d : Nat} {l1 l2 l3 l4 l5 l6 : Option Value} {st : List Value} {a : Nat} {h : Hp} : ex (d) 165 233 [some (.ref a), l1, l2, l3, l4, l5, l6] st h = ex d 165 234 [some (.ref a), l1, l2, l3, l4, l5, l6] (.ref a :: st) h := (ex_of d165_233 (d) [some (.ref a), l1, l2, l3, l4, l5, l6] st h).trans (rfl)
theorem d165_234 : decode (mB 165) 234 = .ok (.dup, 1) := by decide +kernel
theorem x165_234 {d : Nat} {L : Lc} {st : List Value} {a : Nat} {h : Hp} : ex (d) 165 234 L (.ref a :: st) h = ex d 165 235 L (.ref a :: .ref a :: st) h := (ex_of d165_234 (d) L (.ref a :: st) h).trans (rfl)
theorem x165_234i {d : Nat} {L : Lc} {st : List Value} {x : Int32} {h : Hp} : ex (d) 165 234 L (.int x :: st) h = ex d 165 235 L (.int x :: .int x :: st) h := (ex_of d165_234 (d) L (.int x :: st) h).trans (rfl)
theorem d165_235 : decode (mB 165) 235 = .ok (.getfield 174, 3) := by decide +kernel
theorem x165_235 {d : Nat} {L : Lc} {st : List Value} {a : Nat} {h : Hp} (ht : (h.2.1 a).1 = 11) : ex (d) 165 235 L (.ref a :: st) h = ex d 165 238 L (h.1 a 34 :: st) h := (ex_of d165_235 (d) L (.ref a :: st) h).trans (fin_get (mi := 165) f11_174 (tg1 ht rfl))
theorem d165_238 : decode (mB 165) 238 = .ok (.iload_n 3, 1) := by decide +kernel
theorem x165_238 {d : Nat} {l0 l1 l2 l4 l5 l6 : Option Value} {st : List Value} {x : Int32} {h : Hp} : ex (d) 165 238 [l0, l1, l2, some (.int x), l4, l5, l6] st h = ex d 165 239 [l0, l1, l2, some (.int x), l4, l5, l6] (.int x :: st) h := (ex_of d165_238 (d) [l0, l1, l2, some (.int x), l4, l5, l6] st h).trans (rfl)
theorem d165_239 : decode (mB 165) 239 = .ok (.iadd, 1) := by decide +kernel
theorem x165_239 {d : Nat} {L : Lc} {st : List Value} {x y : Int32} {h : Hp} : ex (d) 165 239 L (.int y :: .int x :: st) h = ex d 165 240 L (.int (x + y) :: st) h := (ex_of d165_239 (d) L (.int y :: .int x :: st) h).trans (rfl)
theorem d165_240 : decode (mB 165) 240 = .ok (.putfield 174, 3) := by decide +kernel
theorem x165_240 {d : Nat} {L : Lc} {st : List Value} {a : Nat} {x : Int32} {h : Hp} (ht : (h.2.1 a).1 = 11) : ex (d) 165 240 L (.int x :: .ref a :: st) h = ex d 165 243 L st (mup h.1 a 34 (.int x), h.2) := (ex_of d165_240 (d) L (.int x :: .ref a :: st) h).trans (fin_put (mi := 165) f11_174 ht rfl rfl (by decide +kernel))
theorem d165_243 : decode (mB 165) 243 = .ok (.aload_n 0, 1) := by decide +kernel
theorem x165_243 {d : Nat} {l1 l2 l3 l4 l5 l6 : Option Value} {st : List Value} {a : Nat} {h : Hp} : ex (d) 165 243 [some (.ref a), l1, l2, l3, l4, l5, l6] st h = ex d 165 244 [some (.ref a), l1, l2, l3, l4, l5, l6] (.ref a :: st) h := (ex_of d165_243 (d) [some (.ref a), l1, l2, l3, l4, l5, l6] st h).trans (rfl)
theorem d165_244 : decode (mB 165) 244 = .ok (.getfield 82, 3) := by decide +kernel
theorem x165_244 {d : Nat} {L : Lc} {st : List Value} {a : Nat} {h : Hp} (ht : (h.2.1 a).1 = 11) : ex (d) 165 244 L (.ref a :: st) h = ex d 165 247 L (h.1 a 38 :: st) h := (ex_of d165_244 (d) L (.ref a :: st) h).trans (fin_get (mi := 165) f11_82 (tg1 ht rfl))
theorem d165_247 : decode (mB 165) 247 = .ok (.iload_n 2, 1) := by decide +kernel
theorem x165_247 {d : Nat} {l0 l1 l3 l4 l5 l6 : Option Value} {st : List Value} {x : Int32} {h : Hp} : ex (d) 165 247 [l0, l1, some (.int x), l3, l4, l5, l6] st h = ex d 165 248 [l0, l1, some (.int x), l3, l4, l5, l6] (.int x :: st) h := (ex_of d165_247 (d) [l0, l1, some (.int x), l3, l4, l5, l6] st h).trans (rfl)
theorem d165_248 : decode (mB 165) 248 = .ok (.iconst 1, 1) := by decide +kernel
theorem x165_248 {d : Nat} {L : Lc} {st : List Value} {h : Hp} : ex (d) 165 248 L st h = ex d 165 249 L (.int (nI 1) :: st) h := (ex_of d165_248 (d) L st h).trans (rfl)
theorem d165_249 : decode (mB 165) 249 = .ok (.iastore, 1) := by decide +kernel
theorem x165_249 {d : Nat} {L : Lc} {st : List Value} {a j : Nat} {x : Int32} {h : Hp} (ht : (h.2.1 a).1 = 20) (hj : j < (h.2.1 a).2) (hb : j < 2147483648) : ex (d) 165 249 L (.int x :: .int (nI j) :: .ref a :: st) h = ex d 165 250 L st (mup h.1 a j (.int x), h.2) := (ex_of d165_249 (d) L (.int x :: .int (nI j) :: .ref a :: st) h).trans (fin_iastore ht hj hb)
theorem d165_250 : decode (mB 165) 250 = .ok (.aload_n 0, 1) := by decide +kernel
theorem x165_250 {d : Nat} {l1 l2 l3 l4 l5 l6 : Option Value} {st : List Value} {a : Nat} {h : Hp} : ex (d) 165 250 [some (.ref a), l1, l2, l3, l4, l5, l6] st h = ex d 165 251 [some (.ref a), l1, l2, l3, l4, l5, l6] (.ref a :: st) h := (ex_of d165_250 (d) [some (.ref a), l1, l2, l3, l4, l5, l6] st h).trans (rfl)
theorem d165_251 : decode (mB 165) 251 = .ok (.iconst 1, 1) := by decide +kernel
theorem x165_251 {d : Nat} {L : Lc} {st : List Value} {h : Hp} : ex (d) 165 251 L st h = ex d 165 252 L (.int (nI 1) :: st) h := (ex_of d165_251 (d) L st h).trans (rfl)
theorem d165_252 : decode (mB 165) 252 = .ok (.invokevirtual 113, 3) := by decide +kernel
theorem x165_252 {d : Nat} {L : Lc} {a : Nat} {v0 : Int32} {h : Hp} (ht : (h.2.1 a).1 = 11) : ex (d + 1) 165 252 L (.int v0 :: .ref a :: []) h = bnd (ex d 134 0 [some (.ref a), some (.int v0)] [] h) (fun v h' => ex (d + 1) 165 255 L (v.toList ++ []) h') := (ex_of d165_252 (d + 1) L (.int v0 :: .ref a :: []) h).trans (fin_vi (mi := 165) i11_113 ht rfl rfl (by simp [cat1_i, cat1_r]) (by simp) (Nat.le_of_ble_eq_true rfl))
theorem d165_255 : decode (mB 165) 255 = .ok (.ireturn, 1) := by decide +kernel
theorem x165_255 {d : Nat} {L : Lc} {x : Int32} {h : Hp} : ex (d) 165 255 L [.int x] h = some (some (.int x), h) := (ex_of d165_255 (d) L [.int x] h).trans (rfl)
theorem d166_0 : decode (mB 166) 0 = .ok (.aload_n 0, 1) := by decide +kernel
theorem x166_0 {d : Nat} {l1 l2 : Option Value} {st : List Value} {a : Nat} {h : Hp} : ex (d) 166 0 [some (.ref a), l1, l2] st h = ex d 166 1 [some (.ref a), l1, l2] (.ref a :: st) h := (ex_of d166_0 (d) [some (.ref a), l1, l2] st h).trans (rfl)
theorem d166_1 : decode (mB 166) 1 = .ok (.iload_n 1, 1) := by decide +kernel
theorem x166_1 {d : Nat} {l0 l2 : Option Value} {st : List Value} {x : Int32} {h : Hp} : ex (d) 166 1 [l0, some (.int x), l2] st h = ex d 166 2 [l0, some (.int x), l2] (.int x :: st) h := (ex_of d166_1 (d) [l0, some (.int x), l2] st h).trans (rfl)
theorem d166_2 : decode (mB 166) 2 = .ok (.invokevirtual 105, 3) := by decide +kernel
theorem x166_2 {d : Nat} {L : Lc} {a : Nat} {v0 : Int32} {h : Hp} (ht : (h.2.1 a).1 = 11) : ex (d + 1) 166 2 L (.int v0 :: .ref a :: []) h = bnd (ex d 136 0 [some (.ref a), some (.int v0)] [] h) (fun v h' => ex (d + 1) 166 5 L (v.toList ++ []) h') := (ex_of d166_2 (d + 1) L (.int v0 :: .ref a :: []) h).trans (fin_vi (mi := 166) i11_105 ht rfl rfl (by simp [cat1_i, cat1_r]) (by simp) (Nat.le_of_ble_eq_true rfl))
theorem d166_5 : decode (mB 166) 5 = .ok (.ifCond .ne 8, 3) := by decide +kernel
theorem x166_5 {d : Nat} {L : Lc} {st : List Value} {x : Int32} {h : Hp} : ex (d) 166 5 L (.int x :: st) h = if ¬ x = 0 then ex d 166 13 L st h else ex d 166 8 L st h := (ex_of d166_5 (d) L (.int x :: st) h).trans (fin_brq (off := 8) (tgt := 13) rfl (by decide))
theorem d166_8 : decode (mB 166) 8 = .ok (.bipush 10, 2) := by decide +kernel
theorem x166_8 {d : Nat} {L : Lc} {st : List Value} {h : Hp} : ex (d) 166 8 L st h = ex d 166 10 L (.int (nI 10) :: st) h := (ex_of d166_8 (d) L st h).trans (rfl)
theorem d166_10 : decode (mB 166) 10 = .ok (.goto 29, 3) := by decide +kernel
theorem x166_10 {d : Nat} {L : Lc} {st : List Value} {h : Hp} : ex (d) 166 10 L st h = ex d 166 39 L st h := (ex_of d166_10 (d) L st h).trans (rfl)
theorem d166_13 : decode (mB 166) 13 = .ok (.aload_n 0, 1) := by decide +kernel
theorem x166_13 {d : Nat} {l1 l2 : Option Value} {st : List Value} {a : Nat} {h : Hp} : ex (d) 166 13 [some (.ref a), l1, l2] st h = ex d 166 14 [some (.ref a), l1, l2] (.ref a :: st) h := (ex_of d166_13 (d) [some (.ref a), l1, l2] st h).trans (rfl)
theorem d166_14 : decode (mB 166) 14 = .ok (.iload_n 1, 1) := by decide +kernel
theorem x166_14 {d : Nat} {l0 l2 : Option Value} {st : List Value} {x : Int32} {h : Hp} : ex (d) 166 14 [l0, some (.int x), l2] st h = ex d 166 15 [l0, some (.int x), l2] (.int x :: st) h := (ex_of d166_14 (d) [l0, some (.int x), l2] st h).trans (rfl)
theorem d166_15 : decode (mB 166) 15 = .ok (.invokevirtual 138, 3) := by decide +kernel
theorem x166_15 {d : Nat} {L : Lc} {a : Nat} {v0 : Int32} {h : Hp} (ht : (h.2.1 a).1 = 11) : ex (d + 1) 166 15 L (.int v0 :: .ref a :: []) h = bnd (ex d 138 0 [some (.ref a), some (.int v0)] [] h) (fun v h' => ex (d + 1) 166 18 L (v.toList ++ []) h') := (ex_of d166_15 (d + 1) L (.int v0 :: .ref a :: []) h).trans (fin_vi (mi := 166) i11_138 ht rfl rfl (by simp [cat1_i, cat1_r]) (by simp) (Nat.le_of_ble_eq_true rfl))
theorem d166_18 : decode (mB 166) 18 = .ok (.ifCond .ne 7, 3) := by decide +kernel
theorem x166_18 {d : Nat} {L : Lc} {st : List Value} {x : Int32} {h : Hp} : ex (d) 166 18 L (.int x :: st) h = if ¬ x = 0 then ex d 166 25 L st h else ex d 166 21 L st h := (ex_of d166_18 (d) L (.int x :: st) h).trans (fin_brq (off := 7) (tgt := 25) rfl (by decide))
theorem d166_21 : decode (mB 166) 21 = .ok (.iconst 4, 1) := by decide +kernel
theorem x166_21 {d : Nat} {L : Lc} {st : List Value} {h : Hp} : ex (d) 166 21 L st h = ex d 166 22 L (.int (nI 4) :: st) h := (ex_of d166_21 (d) L st h).trans (rfl)
theorem d166_22 : decode (mB 166) 22 = .ok (.goto 17, 3) := by decide +kernel
theorem x166_22 {d : Nat} {L : Lc} {st : List Value} {h : Hp} : ex (d) 166 22 L st h = ex d 166 39 L st h := (ex_of d166_22 (d) L st h).trans (rfl)
theorem d166_25 : decode (mB 166) 25 = .ok (.iload_n 2, 1) := by decide +kernel
theorem x166_25 {d : Nat} {l0 l1 : Option Value} {st : List Value} {x : Int32} {h : Hp} : ex (d) 166 25 [l0, l1, some (.int x)] st h = ex d 166 26 [l0, l1, some (.int x)] (.int x :: st) h := (ex_of d166_25 (d) [l0, l1, some (.int x)] st h).trans (rfl)
theorem d166_26 : decode (mB 166) 26 = .ok (.iconst 0, 1) := by decide +kernel
theorem x166_26 {d : Nat} {L : Lc} {st : List Value} {h : Hp} : ex (d) 166 26 L st h = ex d 166 27 L (.int (nI 0) :: st) h := (ex_of d166_26 (d) L st h).trans (rfl)
theorem d166_27 : decode (mB 166) 27 = .ok (.iconst 5, 1) := by decide +kernel
theorem x166_27 {d : Nat} {L : Lc} {st : List Value} {h : Hp} : ex (d) 166 27 L st h = ex d 166 28 L (.int (nI 5) :: st) h := (ex_of d166_27 (d) L st h).trans (rfl)
theorem d166_28 : decode (mB 166) 28 = .ok (.invokestatic 101, 3) := by decide +kernel
theorem x166_28 {d : Nat} {L : Lc}  {v0 : Int32} {v1 : Int32} {v2 : Int32} {h : Hp} : ex (d + 1) 166 28 L (.int v2 :: .int v1 :: .int v0 :: []) h = bnd (ex d 137 0 [some (.int v0), some (.int v1), some (.int v2)] [] h) (fun v h' => ex (d + 1) 166 31 L (v.toList ++ []) h') := (ex_of d166_28 (d + 1) L (.int v2 :: .int v1 :: .int v0 :: []) h).trans (fin_st (mi := 166) i11_101 (Or.inl rfl) (by simp) (by simp [cat1_i, cat1_r]) (by simp) (Nat.le_of_ble_eq_true rfl))
theorem d166_31 : decode (mB 166) 31 = .ok (.ifCond .ne 7, 3) := by decide +kernel
theorem x166_31 {d : Nat} {L : Lc} {st : List Value} {x : Int32} {h : Hp} : ex (d) 166 31 L (.int x :: st) h = if ¬ x = 0 then ex d 166 38 L st h else ex d 166 34 L st h := (ex_of d166_31 (d) L (.int x :: st) h).trans (fin_brq (off := 7) (tgt := 38) rfl (by decide))
theorem d166_34 : decode (mB 166) 34 = .ok (.iconst 2, 1) := by decide +kernel
theorem x166_34 {d : Nat} {L : Lc} {st : List Value} {h : Hp} : ex (d) 166 34 L st h = ex d 166 35 L (.int (nI 2) :: st) h := (ex_of d166_34 (d) L st h).trans (rfl)
theorem d166_35 : decode (mB 166) 35 = .ok (.goto 4, 3) := by decide +kernel
theorem x166_35 {d : Nat} {L : Lc} {st : List Value} {h : Hp} : ex (d) 166 35 L st h = ex d 166 39 L st h := (ex_of d166_35 (d) L st h).trans (rfl)
theorem d166_38 : decode (mB 166) 38 = .ok (.iconst 0, 1) := by decide +kernel
theorem x166_38 {d : Nat} {L : Lc} {st : List Value} {h : Hp} : ex (d) 166 38 L st h = ex d 166 39 L (.int (nI 0) :: st) h := (ex_of d166_38 (d) L st h).trans (rfl)
theorem d166_39 : decode (mB 166) 39 = .ok (.ireturn, 1) := by decide +kernel
theorem x166_39 {d : Nat} {L : Lc} {x : Int32} {h : Hp} : ex (d) 166 39 L [.int x] h = some (some (.int x), h) := (ex_of d166_39 (d) L [.int x] h).trans (rfl)
theorem d167_0 : decode (mB 167) 0 = .ok (.aload_n 0, 1) := by decide +kernel
theorem x167_0 {d : Nat} {l1 l2 : Option Value} {st : List Value} {a : Nat} {h : Hp} : ex (d) 167 0 [some (.ref a), l1, l2] st h = ex d 167 1 [some (.ref a), l1, l2] (.ref a :: st) h := (ex_of d167_0 (d) [some (.ref a), l1, l2] st h).trans (rfl)
theorem d167_1 : decode (mB 167) 1 = .ok (.iconst 2, 1) := by decide +kernel
theorem x167_1 {d : Nat} {L : Lc} {st : List Value} {h : Hp} : ex (d) 167 1 L st h = ex d 167 2 L (.int (nI 2) :: st) h := (ex_of d167_1 (d) L st h).trans (rfl)
theorem d167_2 : decode (mB 167) 2 = .ok (.iload_n 1, 1) := by decide +kernel
theorem x167_2 {d : Nat} {l0 l2 : Option Value} {st : List Value} {x : Int32} {h : Hp} : ex (d) 167 2 [l0, some (.int x), l2] st h = ex d 167 3 [l0, some (.int x), l2] (.int x :: st) h := (ex_of d167_2 (d) [l0, some (.int x), l2] st h).trans (rfl)
theorem d167_3 : decode (mB 167) 3 = .ok (.aload_n 0, 1) := by decide +kernel
theorem x167_3 {d : Nat} {l1 l2 : Option Value} {st : List Value} {a : Nat} {h : Hp} : ex (d) 167 3 [some (.ref a), l1, l2] st h = ex d 167 4 [some (.ref a), l1, l2] (.ref a :: st) h := (ex_of d167_3 (d) [some (.ref a), l1, l2] st h).trans (rfl)
theorem d167_4 : decode (mB 167) 4 = .ok (.getfield 28, 3) := by decide +kernel
theorem x167_4 {d : Nat} {L : Lc} {st : List Value} {a : Nat} {h : Hp} (ht : (h.2.1 a).1 = 11) : ex (d) 167 4 L (.ref a :: st) h = ex d 167 7 L (h.1 a 9 :: st) h := (ex_of d167_4 (d) L (.ref a :: st) h).trans (fin_get (mi := 167) f11_28 (tg1 ht rfl))
theorem d167_7 : decode (mB 167) 7 = .ok (.iload_n 1, 1) := by decide +kernel
theorem x167_7 {d : Nat} {l0 l2 : Option Value} {st : List Value} {x : Int32} {h : Hp} : ex (d) 167 7 [l0, some (.int x), l2] st h = ex d 167 8 [l0, some (.int x), l2] (.int x :: st) h := (ex_of d167_7 (d) [l0, some (.int x), l2] st h).trans (rfl)
theorem d167_8 : decode (mB 167) 8 = .ok (.iaload, 1) := by decide +kernel
theorem x167_8 {d : Nat} {L : Lc} {st : List Value} {a j : Nat} {h : Hp} (ht : (h.2.1 a).1 = 20) (hj : j < (h.2.1 a).2) (hb : j < 2147483648) : ex (d) 167 8 L (.int (nI j) :: .ref a :: st) h = ex d 167 9 L (h.1 a j :: st) h := (ex_of d167_8 (d) L (.int (nI j) :: .ref a :: st) h).trans (fin_iaload (Or.inl ht) hj hb)
theorem d167_9 : decode (mB 167) 9 = .ok (.aload_n 0, 1) := by decide +kernel
theorem x167_9 {d : Nat} {l1 l2 : Option Value} {st : List Value} {a : Nat} {h : Hp} : ex (d) 167 9 [some (.ref a), l1, l2] st h = ex d 167 10 [some (.ref a), l1, l2] (.ref a :: st) h := (ex_of d167_9 (d) [some (.ref a), l1, l2] st h).trans (rfl)
theorem d167_10 : decode (mB 167) 10 = .ok (.getfield 31, 3) := by decide +kernel
theorem x167_10 {d : Nat} {L : Lc} {st : List Value} {a : Nat} {h : Hp} (ht : (h.2.1 a).1 = 11) : ex (d) 167 10 L (.ref a :: st) h = ex d 167 13 L (h.1 a 10 :: st) h := (ex_of d167_10 (d) L (.ref a :: st) h).trans (fin_get (mi := 167) f11_31 (tg1 ht rfl))
theorem d167_13 : decode (mB 167) 13 = .ok (.iload_n 1, 1) := by decide +kernel
theorem x167_13 {d : Nat} {l0 l2 : Option Value} {st : List Value} {x : Int32} {h : Hp} : ex (d) 167 13 [l0, some (.int x), l2] st h = ex d 167 14 [l0, some (.int x), l2] (.int x :: st) h := (ex_of d167_13 (d) [l0, some (.int x), l2] st h).trans (rfl)
theorem d167_14 : decode (mB 167) 14 = .ok (.iaload, 1) := by decide +kernel
theorem x167_14 {d : Nat} {L : Lc} {st : List Value} {a j : Nat} {h : Hp} (ht : (h.2.1 a).1 = 20) (hj : j < (h.2.1 a).2) (hb : j < 2147483648) : ex (d) 167 14 L (.int (nI j) :: .ref a :: st) h = ex d 167 15 L (h.1 a j :: st) h := (ex_of d167_14 (d) L (.int (nI j) :: .ref a :: st) h).trans (fin_iaload (Or.inl ht) hj hb)
theorem d167_15 : decode (mB 167) 15 = .ok (.aload_n 0, 1) := by decide +kernel
theorem x167_15 {d : Nat} {l1 l2 : Option Value} {st : List Value} {a : Nat} {h : Hp} : ex (d) 167 15 [some (.ref a), l1, l2] st h = ex d 167 16 [some (.ref a), l1, l2] (.ref a :: st) h := (ex_of d167_15 (d) [some (.ref a), l1, l2] st h).trans (rfl)
theorem d167_16 : decode (mB 167) 16 = .ok (.getfield 34, 3) := by decide +kernel
theorem x167_16 {d : Nat} {L : Lc} {st : List Value} {a : Nat} {h : Hp} (ht : (h.2.1 a).1 = 11) : ex (d) 167 16 L (.ref a :: st) h = ex d 167 19 L (h.1 a 11 :: st) h := (ex_of d167_16 (d) L (.ref a :: st) h).trans (fin_get (mi := 167) f11_34 (tg1 ht rfl))
theorem d167_19 : decode (mB 167) 19 = .ok (.iload_n 1, 1) := by decide +kernel
theorem x167_19 {d : Nat} {l0 l2 : Option Value} {st : List Value} {x : Int32} {h : Hp} : ex (d) 167 19 [l0, some (.int x), l2] st h = ex d 167 20 [l0, some (.int x), l2] (.int x :: st) h := (ex_of d167_19 (d) [l0, some (.int x), l2] st h).trans (rfl)
theorem d167_20 : decode (mB 167) 20 = .ok (.iaload, 1) := by decide +kernel
theorem x167_20 {d : Nat} {L : Lc} {st : List Value} {a j : Nat} {h : Hp} (ht : (h.2.1 a).1 = 20) (hj : j < (h.2.1 a).2) (hb : j < 2147483648) : ex (d) 167 20 L (.int (nI j) :: .ref a :: st) h = ex d 167 21 L (h.1 a j :: st) h := (ex_of d167_20 (d) L (.int (nI j) :: .ref a :: st) h).trans (fin_iaload (Or.inl ht) hj hb)
theorem d167_21 : decode (mB 167) 21 = .ok (.iload_n 2, 1) := by decide +kernel
theorem x167_21 {d : Nat} {l0 l1 : Option Value} {st : List Value} {x : Int32} {h : Hp} : ex (d) 167 21 [l0, l1, some (.int x)] st h = ex d 167 22 [l0, l1, some (.int x)] (.int x :: st) h := (ex_of d167_21 (d) [l0, l1, some (.int x)] st h).trans (rfl)
theorem d167_22 : decode (mB 167) 22 = .ok (.invokevirtual 157, 3) := by decide +kernel
theorem x167_22 {d : Nat} {L : Lc} {a : Nat} {v0 : Int32} {v1 : Int32} {v2 : Int32} {v3 : Int32} {v4 : Int32} {v5 : Int32} {h : Hp} (ht : (h.2.1 a).1 = 11) : ex (d + 1) 167 22 L (.int v5 :: .int v4 :: .int v3 :: .int v2 :: .int v1 :: .int v0 :: .ref a :: []) h = bnd (ex d 164 0 [some (.ref a), some (.int v0), some (.int v1), some (.int v2), some (.int v3), some (.int v4), some (.int v5), none, none] [] h) (fun v h' => ex (d + 1) 167 25 L (v.toList ++ []) h') := (ex_of d167_22 (d + 1) L (.int v5 :: .int v4 :: .int v3 :: .int v2 :: .int v1 :: .int v0 :: .ref a :: []) h).trans (fin_vi (mi := 167) i11_157 ht rfl rfl (by simp [cat1_i, cat1_r]) (by simp) (Nat.le_of_ble_eq_true rfl))
theorem d167_25 : decode (mB 167) 25 = .ok (.return_, 1) := by decide +kernel
theorem x167_25 {d : Nat} {L : Lc}  {h : Hp} : ex (d) 167 25 L [] h = some (none, h) := (ex_of d167_25 (d) L [] h).trans (rfl)
theorem d168_0 : decode (mB 168) 0 = .ok (.aload_n 0, 1) := by decide +kernel
theorem x168_0 {d : Nat} {l1 l2 l3 l4 l5 l6 : Option Value} {st : List Value} {a : Nat} {h : Hp} : ex (d) 168 0 [some (.ref a), l1, l2, l3, l4, l5, l6] st h = ex d 168 1 [some (.ref a), l1, l2, l3, l4, l5, l6] (.ref a :: st) h := (ex_of d168_0 (d) [some (.ref a), l1, l2, l3, l4, l5, l6] st h).trans (rfl)
theorem d168_1 : decode (mB 168) 1 = .ok (.iload_n 1, 1) := by decide +kernel
theorem x168_1 {d : Nat} {l0 l2 l3 l4 l5 l6 : Option Value} {st : List Value} {x : Int32} {h : Hp} : ex (d) 168 1 [l0, some (.int x), l2, l3, l4, l5, l6] st h = ex d 168 2 [l0, some (.int x), l2, l3, l4, l5, l6] (.int x :: st) h := (ex_of d168_1 (d) [l0, some (.int x), l2, l3, l4, l5, l6] st h).trans (rfl)
theorem d168_2 : decode (mB 168) 2 = .ok (.iload_n 2, 1) := by decide +kernel
theorem x168_2 {d : Nat} {l0 l1 l3 l4 l5 l6 : Option Value} {st : List Value} {x : Int32} {h : Hp} : ex (d) 168 2 [l0, l1, some (.int x), l3, l4, l5, l6] st h = ex d 168 3 [l0, l1, some (.int x), l3, l4, l5, l6] (.int x :: st) h := (ex_of d168_2 (d) [l0, l1, some (.int x), l3, l4, l5, l6] st h).trans (rfl)
theorem d168_3 : decode (mB 168) 3 = .ok (.invokevirtual 177, 3) := by decide +kernel
theorem x168_3 {d : Nat} {L : Lc} {a : Nat} {v0 : Int32} {v1 : Int32} {h : Hp} (ht : (h.2.1 a).1 = 11) : ex (d + 1) 168 3 L (.int v1 :: .int v0 :: .ref a :: []) h = bnd (ex d 166 0 [some (.ref a), some (.int v0), some (.int v1)] [] h) (fun v h' => ex (d + 1) 168 6 L (v.toList ++ []) h') := (ex_of d168_3 (d + 1) L (.int v1 :: .int v0 :: .ref a :: []) h).trans (fin_vi (mi := 168) i11_177 ht rfl rfl (by simp [cat1_i, cat1_r]) (by simp) (Nat.le_of_ble_eq_true rfl))
theorem d168_6 : decode (mB 168) 6 = .ok (.istore 4, 2) := by decide +kernel
theorem x168_6 {d : Nat} {l0 l1 l2 l3 l4 l5 l6 : Option Value} {st : List Value} {x : Int32} {h : Hp} : ex (d) 168 6 [l0, l1, l2, l3, l4, l5, l6] (.int x :: st) h = ex d 168 8 [l0, l1, l2, clr l3, some (.int x), l5, l6] st h := (ex_of d168_6 (d) [l0, l1, l2, l3, l4, l5, l6] (.int x :: st) h).trans (rfl)
theorem d168_8 : decode (mB 168) 8 = .ok (.iload 4, 2) := by decide +kernel
theorem x168_8 {d : Nat} {l0 l1 l2 l3 l5 l6 : Option Value} {st : List Value} {x : Int32} {h : Hp} : ex (d) 168 8 [l0, l1, l2, l3, some (.int x), l5, l6] st h = ex d 168 10 [l0, l1, l2, l3, some (.int x), l5, l6] (.int x :: st) h := (ex_of d168_8 (d) [l0, l1, l2, l3, some (.int x), l5, l6] st h).trans (rfl)
theorem d168_10 : decode (mB 168) 10 = .ok (.ifCond .le 10, 3) := by decide +kernel
theorem x168_10 {d : Nat} {L : Lc} {st : List Value} {x : Int32} {h : Hp} : ex (d) 168 10 L (.int x :: st) h = if x ≤ 0 then ex d 168 20 L st h else ex d 168 13 L st h := (ex_of d168_10 (d) L (.int x :: st) h).trans (fin_brq (off := 10) (tgt := 20) rfl (by decide))
theorem d168_13 : decode (mB 168) 13 = .ok (.aload_n 0, 1) := by decide +kernel
theorem x168_13 {d : Nat} {l1 l2 l3 l4 l5 l6 : Option Value} {st : List Value} {a : Nat} {h : Hp} : ex (d) 168 13 [some (.ref a), l1, l2, l3, l4, l5, l6] st h = ex d 168 14 [some (.ref a), l1, l2, l3, l4, l5, l6] (.ref a :: st) h := (ex_of d168_13 (d) [some (.ref a), l1, l2, l3, l4, l5, l6] st h).trans (rfl)
theorem d168_14 : decode (mB 168) 14 = .ok (.iload 4, 2) := by decide +kernel
theorem x168_14 {d : Nat} {l0 l1 l2 l3 l5 l6 : Option Value} {st : List Value} {x : Int32} {h : Hp} : ex (d) 168 14 [l0, l1, l2, l3, some (.int x), l5, l6] st h = ex d 168 16 [l0, l1, l2, l3, some (.int x), l5, l6] (.int x :: st) h := (ex_of d168_14 (d) [l0, l1, l2, l3, some (.int x), l5, l6] st h).trans (rfl)
theorem d168_16 : decode (mB 168) 16 = .ok (.invokevirtual 109, 3) := by decide +kernel
theorem x168_16 {d : Nat} {L : Lc} {a : Nat} {v0 : Int32} {h : Hp} (ht : (h.2.1 a).1 = 11) : ex (d + 1) 168 16 L (.int v0 :: .ref a :: []) h = bnd (ex d 135 0 [some (.ref a), some (.int v0)] [] h) (fun v h' => ex (d + 1) 168 19 L (v.toList ++ []) h') := (ex_of d168_16 (d + 1) L (.int v0 :: .ref a :: []) h).trans (fin_vi (mi := 168) i11_109 ht rfl rfl (by simp [cat1_i, cat1_r]) (by simp) (Nat.le_of_ble_eq_true rfl))
theorem d168_19 : decode (mB 168) 19 = .ok (.ireturn, 1) := by decide +kernel
theorem x168_19 {d : Nat} {L : Lc} {x : Int32} {h : Hp} : ex (d) 168 19 L [.int x] h = some (some (.int x), h) := (ex_of d168_19 (d) L [.int x] h).trans (rfl)
theorem d168_20 : decode (mB 168) 20 = .ok (.iload_n 3, 1) := by decide +kernel
theorem x168_20 {d : Nat} {l0 l1 l2 l4 l5 l6 : Option Value} {st : List Value} {x : Int32} {h : Hp} : ex (d) 168 20 [l0, l1, l2, some (.int x), l4, l5, l6] st h = ex d 168 21 [l0, l1, l2, some (.int x), l4, l5, l6] (.int x :: st) h := (ex_of d168_20 (d) [l0, l1, l2, some (.int x), l4, l5, l6] st h).trans (rfl)
theorem d168_21 : decode (mB 168) 21 = .ok (.iconst 0, 1) := by decide +kernel
theorem x168_21 {d : Nat} {L : Lc} {st : List Value} {h : Hp} : ex (d) 168 21 L st h = ex d 168 22 L (.int (nI 0) :: st) h := (ex_of d168_21 (d) L st h).trans (rfl)
theorem d168_22 : decode (mB 168) 22 = .ok (.sipush 255, 3) := by decide +kernel
theorem x168_22 {d : Nat} {L : Lc} {st : List Value} {h : Hp} : ex (d) 168 22 L st h = ex d 168 25 L (.int (nI 255) :: st) h := (ex_of d168_22 (d) L st h).trans (rfl)
theorem d168_25 : decode (mB 168) 25 = .ok (.invokestatic 101, 3) := by decide +kernel
theorem x168_25 {d : Nat} {L : Lc}  {v0 : Int32} {v1 : Int32} {v2 : Int32} {h : Hp} : ex (d + 1) 168 25 L (.int v2 :: .int v1 :: .int v0 :: []) h = bnd (ex d 137 0 [some (.int v0), some (.int v1), some (.int v2)] [] h) (fun v h' => ex (d + 1) 168 28 L (v.toList ++ []) h') := (ex_of d168_25 (d + 1) L (.int v2 :: .int v1 :: .int v0 :: []) h).trans (fin_st (mi := 168) i11_101 (Or.inl rfl) (by simp) (by simp [cat1_i, cat1_r]) (by simp) (Nat.le_of_ble_eq_true rfl))
theorem d168_28 : decode (mB 168) 28 = .ok (.ifCond .ne 10, 3) := by decide +kernel
theorem x168_28 {d : Nat} {L : Lc} {st : List Value} {x : Int32} {h : Hp} : ex (d) 168 28 L (.int x :: st) h = if ¬ x = 0 then ex d 168 38 L st h else ex d 168 31 L st h := (ex_of d168_28 (d) L (.int x :: st) h).trans (fin_brq (off := 10) (tgt := 38) rfl (by decide))
theorem d168_31 : decode (mB 168) 31 = .ok (.aload_n 0, 1) := by decide +kernel
theorem x168_31 {d : Nat} {l1 l2 l3 l4 l5 l6 : Option Value} {st : List Value} {a : Nat} {h : Hp} : ex (d) 168 31 [some (.ref a), l1, l2, l3, l4, l5, l6] st h = ex d 168 32 [some (.ref a), l1, l2, l3, l4, l5, l6] (.ref a :: st) h := (ex_of d168_31 (d) [some (.ref a), l1, l2, l3, l4, l5, l6] st h).trans (rfl)
theorem d168_32 : decode (mB 168) 32 = .ok (.bipush 6, 2) := by decide +kernel
theorem x168_32 {d : Nat} {L : Lc} {st : List Value} {h : Hp} : ex (d) 168 32 L st h = ex d 168 34 L (.int (nI 6) :: st) h := (ex_of d168_32 (d) L st h).trans (rfl)
theorem d168_34 : decode (mB 168) 34 = .ok (.invokevirtual 109, 3) := by decide +kernel
theorem x168_34 {d : Nat} {L : Lc} {a : Nat} {v0 : Int32} {h : Hp} (ht : (h.2.1 a).1 = 11) : ex (d + 1) 168 34 L (.int v0 :: .ref a :: []) h = bnd (ex d 135 0 [some (.ref a), some (.int v0)] [] h) (fun v h' => ex (d + 1) 168 37 L (v.toList ++ []) h') := (ex_of d168_34 (d + 1) L (.int v0 :: .ref a :: []) h).trans (fin_vi (mi := 168) i11_109 ht rfl rfl (by simp [cat1_i, cat1_r]) (by simp) (Nat.le_of_ble_eq_true rfl))
theorem d168_37 : decode (mB 168) 37 = .ok (.ireturn, 1) := by decide +kernel
theorem x168_37 {d : Nat} {L : Lc} {x : Int32} {h : Hp} : ex (d) 168 37 L [.int x] h = some (some (.int x), h) := (ex_of d168_37 (d) L [.int x] h).trans (rfl)
theorem d168_38 : decode (mB 168) 38 = .ok (.bipush 6, 2) := by decide +kernel
theorem x168_38 {d : Nat} {L : Lc} {st : List Value} {h : Hp} : ex (d) 168 38 L st h = ex d 168 40 L (.int (nI 6) :: st) h := (ex_of d168_38 (d) L st h).trans (rfl)
theorem d168_40 : decode (mB 168) 40 = .ok (.iload_n 1, 1) := by decide +kernel
theorem x168_40 {d : Nat} {l0 l2 l3 l4 l5 l6 : Option Value} {st : List Value} {x : Int32} {h : Hp} : ex (d) 168 40 [l0, some (.int x), l2, l3, l4, l5, l6] st h = ex d 168 41 [l0, some (.int x), l2, l3, l4, l5, l6] (.int x :: st) h := (ex_of d168_40 (d) [l0, some (.int x), l2, l3, l4, l5, l6] st h).trans (rfl)
theorem d168_41 : decode (mB 168) 41 = .ok (.imul, 1) := by decide +kernel
theorem x168_41 {d : Nat} {L : Lc} {st : List Value} {x y : Int32} {h : Hp} : ex (d) 168 41 L (.int y :: .int x :: st) h = ex d 168 42 L (.int (x * y) :: st) h := (ex_of d168_41 (d) L (.int y :: .int x :: st) h).trans (rfl)
theorem d168_42 : decode (mB 168) 42 = .ok (.iload_n 2, 1) := by decide +kernel
theorem x168_42 {d : Nat} {l0 l1 l3 l4 l5 l6 : Option Value} {st : List Value} {x : Int32} {h : Hp} : ex (d) 168 42 [l0, l1, some (.int x), l3, l4, l5, l6] st h = ex d 168 43 [l0, l1, some (.int x), l3, l4, l5, l6] (.int x :: st) h := (ex_of d168_42 (d) [l0, l1, some (.int x), l3, l4, l5, l6] st h).trans (rfl)
theorem d168_43 : decode (mB 168) 43 = .ok (.iadd, 1) := by decide +kernel
theorem x168_43 {d : Nat} {L : Lc} {st : List Value} {x y : Int32} {h : Hp} : ex (d) 168 43 L (.int y :: .int x :: st) h = ex d 168 44 L (.int (x + y) :: st) h := (ex_of d168_43 (d) L (.int y :: .int x :: st) h).trans (rfl)
theorem d168_44 : decode (mB 168) 44 = .ok (.istore 5, 2) := by decide +kernel
theorem x168_44 {d : Nat} {l0 l1 l2 l3 l4 l5 l6 : Option Value} {st : List Value} {x : Int32} {h : Hp} : ex (d) 168 44 [l0, l1, l2, l3, l4, l5, l6] (.int x :: st) h = ex d 168 46 [l0, l1, l2, l3, clr l4, some (.int x), l6] st h := (ex_of d168_44 (d) [l0, l1, l2, l3, l4, l5, l6] (.int x :: st) h).trans (rfl)
theorem d168_46 : decode (mB 168) 46 = .ok (.aload_n 0, 1) := by decide +kernel
theorem x168_46 {d : Nat} {l1 l2 l3 l4 l5 l6 : Option Value} {st : List Value} {a : Nat} {h : Hp} : ex (d) 168 46 [some (.ref a), l1, l2, l3, l4, l5, l6] st h = ex d 168 47 [some (.ref a), l1, l2, l3, l4, l5, l6] (.ref a :: st) h := (ex_of d168_46 (d) [some (.ref a), l1, l2, l3, l4, l5, l6] st h).trans (rfl)
theorem d168_47 : decode (mB 168) 47 = .ok (.getfield 28, 3) := by decide +kernel
theorem x168_47 {d : Nat} {L : Lc} {st : List Value} {a : Nat} {h : Hp} (ht : (h.2.1 a).1 = 11) : ex (d) 168 47 L (.ref a :: st) h = ex d 168 50 L (h.1 a 9 :: st) h := (ex_of d168_47 (d) L (.ref a :: st) h).trans (fin_get (mi := 168) f11_28 (tg1 ht rfl))
theorem d168_50 : decode (mB 168) 50 = .ok (.iload 5, 2) := by decide +kernel
theorem x168_50 {d : Nat} {l0 l1 l2 l3 l4 l6 : Option Value} {st : List Value} {x : Int32} {h : Hp} : ex (d) 168 50 [l0, l1, l2, l3, l4, some (.int x), l6] st h = ex d 168 52 [l0, l1, l2, l3, l4, some (.int x), l6] (.int x :: st) h := (ex_of d168_50 (d) [l0, l1, l2, l3, l4, some (.int x), l6] st h).trans (rfl)
theorem d168_52 : decode (mB 168) 52 = .ok (.iaload, 1) := by decide +kernel
theorem x168_52 {d : Nat} {L : Lc} {st : List Value} {a j : Nat} {h : Hp} (ht : (h.2.1 a).1 = 20) (hj : j < (h.2.1 a).2) (hb : j < 2147483648) : ex (d) 168 52 L (.int (nI j) :: .ref a :: st) h = ex d 168 53 L (h.1 a j :: st) h := (ex_of d168_52 (d) L (.int (nI j) :: .ref a :: st) h).trans (fin_iaload (Or.inl ht) hj hb)
theorem d168_53 : decode (mB 168) 53 = .ok (.istore 6, 2) := by decide +kernel
theorem x168_53 {d : Nat} {l0 l1 l2 l3 l4 l5 l6 : Option Value} {st : List Value} {x : Int32} {h : Hp} : ex (d) 168 53 [l0, l1, l2, l3, l4, l5, l6] (.int x :: st) h = ex d 168 55 [l0, l1, l2, l3, l4, clr l5, some (.int x)] st h := (ex_of d168_53 (d) [l0, l1, l2, l3, l4, l5, l6] (.int x :: st) h).trans (rfl)
theorem d168_55 : decode (mB 168) 55 = .ok (.aload_n 0, 1) := by decide +kernel
theorem x168_55 {d : Nat} {l1 l2 l3 l4 l5 l6 : Option Value} {st : List Value} {a : Nat} {h : Hp} : ex (d) 168 55 [some (.ref a), l1, l2, l3, l4, l5, l6] st h = ex d 168 56 [some (.ref a), l1, l2, l3, l4, l5, l6] (.ref a :: st) h := (ex_of d168_55 (d) [some (.ref a), l1, l2, l3, l4, l5, l6] st h).trans (rfl)
theorem d168_56 : decode (mB 168) 56 = .ok (.iload 5, 2) := by decide +kernel
theorem x168_56 {d : Nat} {l0 l1 l2 l3 l4 l6 : Option Value} {st : List Value} {x : Int32} {h : Hp} : ex (d) 168 56 [l0, l1, l2, l3, l4, some (.int x), l6] st h = ex d 168 58 [l0, l1, l2, l3, l4, some (.int x), l6] (.int x :: st) h := (ex_of d168_56 (d) [l0, l1, l2, l3, l4, some (.int x), l6] st h).trans (rfl)
theorem d168_58 : decode (mB 168) 58 = .ok (.iconst 0, 1) := by decide +kernel
theorem x168_58 {d : Nat} {L : Lc} {st : List Value} {h : Hp} : ex (d) 168 58 L st h = ex d 168 59 L (.int (nI 0) :: st) h := (ex_of d168_58 (d) L st h).trans (rfl)
theorem d168_59 : decode (mB 168) 59 = .ok (.invokevirtual 180, 3) := by decide +kernel
theorem x168_59 {d : Nat} {L : Lc} {a : Nat} {v0 : Int32} {v1 : Int32} {h : Hp} (ht : (h.2.1 a).1 = 11) : ex (d + 1) 168 59 L (.int v1 :: .int v0 :: .ref a :: []) h = bnd (ex d 167 0 [some (.ref a), some (.int v0), some (.int v1)] [] h) (fun v h' => ex (d + 1) 168 62 L (v.toList ++ []) h') := (ex_of d168_59 (d + 1) L (.int v1 :: .int v0 :: .ref a :: []) h).trans (fin_vi (mi := 168) i11_180 ht rfl rfl (by simp [cat1_i, cat1_r]) (by simp) (Nat.le_of_ble_eq_true rfl))
theorem d168_62 : decode (mB 168) 62 = .ok (.aload_n 0, 1) := by decide +kernel
theorem x168_62 {d : Nat} {l1 l2 l3 l4 l5 l6 : Option Value} {st : List Value} {a : Nat} {h : Hp} : ex (d) 168 62 [some (.ref a), l1, l2, l3, l4, l5, l6] st h = ex d 168 63 [some (.ref a), l1, l2, l3, l4, l5, l6] (.ref a :: st) h := (ex_of d168_62 (d) [some (.ref a), l1, l2, l3, l4, l5, l6] st h).trans (rfl)
theorem d168_63 : decode (mB 168) 63 = .ok (.getfield 28, 3) := by decide +kernel
theorem x168_63 {d : Nat} {L : Lc} {st : List Value} {a : Nat} {h : Hp} (ht : (h.2.1 a).1 = 11) : ex (d) 168 63 L (.ref a :: st) h = ex d 168 66 L (h.1 a 9 :: st) h := (ex_of d168_63 (d) L (.ref a :: st) h).trans (fin_get (mi := 168) f11_28 (tg1 ht rfl))
theorem d168_66 : decode (mB 168) 66 = .ok (.iload 5, 2) := by decide +kernel
theorem x168_66 {d : Nat} {l0 l1 l2 l3 l4 l6 : Option Value} {st : List Value} {x : Int32} {h : Hp} : ex (d) 168 66 [l0, l1, l2, l3, l4, some (.int x), l6] st h = ex d 168 68 [l0, l1, l2, l3, l4, some (.int x), l6] (.int x :: st) h := (ex_of d168_66 (d) [l0, l1, l2, l3, l4, some (.int x), l6] st h).trans (rfl)
theorem d168_68 : decode (mB 168) 68 = .ok (.iload_n 3, 1) := by decide +kernel
theorem x168_68 {d : Nat} {l0 l1 l2 l4 l5 l6 : Option Value} {st : List Value} {x : Int32} {h : Hp} : ex (d) 168 68 [l0, l1, l2, some (.int x), l4, l5, l6] st h = ex d 168 69 [l0, l1, l2, some (.int x), l4, l5, l6] (.int x :: st) h := (ex_of d168_68 (d) [l0, l1, l2, some (.int x), l4, l5, l6] st h).trans (rfl)
theorem d168_69 : decode (mB 168) 69 = .ok (.iastore, 1) := by decide +kernel
theorem x168_69 {d : Nat} {L : Lc} {st : List Value} {a j : Nat} {x : Int32} {h : Hp} (ht : (h.2.1 a).1 = 20) (hj : j < (h.2.1 a).2) (hb : j < 2147483648) : ex (d) 168 69 L (.int x :: .int (nI j) :: .ref a :: st) h = ex d 168 70 L st (mup h.1 a j (.int x), h.2) := (ex_of d168_69 (d) L (.int x :: .int (nI j) :: .ref a :: st) h).trans (fin_iastore ht hj hb)
theorem d168_70 : decode (mB 168) 70 = .ok (.aload_n 0, 1) := by decide +kernel
theorem x168_70 {d : Nat} {l1 l2 l3 l4 l5 l6 : Option Value} {st : List Value} {a : Nat} {h : Hp} : ex (d) 168 70 [some (.ref a), l1, l2, l3, l4, l5, l6] st h = ex d 168 71 [some (.ref a), l1, l2, l3, l4, l5, l6] (.ref a :: st) h := (ex_of d168_70 (d) [some (.ref a), l1, l2, l3, l4, l5, l6] st h).trans (rfl)
theorem d168_71 : decode (mB 168) 71 = .ok (.iload 6, 2) := by decide +kernel
theorem x168_71 {d : Nat} {l0 l1 l2 l3 l4 l5 : Option Value} {st : List Value} {x : Int32} {h : Hp} : ex (d) 168 71 [l0, l1, l2, l3, l4, l5, some (.int x)] st h = ex d 168 73 [l0, l1, l2, l3, l4, l5, some (.int x)] (.int x :: st) h := (ex_of d168_71 (d) [l0, l1, l2, l3, l4, l5, some (.int x)] st h).trans (rfl)
theorem d168_73 : decode (mB 168) 73 = .ok (.invokevirtual 113, 3) := by decide +kernel
theorem x168_73 {d : Nat} {L : Lc} {a : Nat} {v0 : Int32} {h : Hp} (ht : (h.2.1 a).1 = 11) : ex (d + 1) 168 73 L (.int v0 :: .ref a :: []) h = bnd (ex d 134 0 [some (.ref a), some (.int v0)] [] h) (fun v h' => ex (d + 1) 168 76 L (v.toList ++ []) h') := (ex_of d168_73 (d + 1) L (.int v0 :: .ref a :: []) h).trans (fin_vi (mi := 168) i11_113 ht rfl rfl (by simp [cat1_i, cat1_r]) (by simp) (Nat.le_of_ble_eq_true rfl))
theorem d168_76 : decode (mB 168) 76 = .ok (.ireturn, 1) := by decide +kernel
theorem x168_76 {d : Nat} {L : Lc} {x : Int32} {h : Hp} : ex (d) 168 76 L [.int x] h = some (some (.int x), h) := (ex_of d168_76 (d) L [.int x] h).trans (rfl)
theorem d169_0 : decode (mB 169) 0 = .ok (.aload_n 0, 1) := by decide +kernel
theorem x169_0 {d : Nat} {l1 l2 l3 l4 l5 l6 : Option Value} {st : List Value} {a : Nat} {h : Hp} : ex (d) 169 0 [some (.ref a), l1, l2, l3, l4, l5, l6] st h = ex d 169 1 [some (.ref a), l1, l2, l3, l4, l5, l6] (.ref a :: st) h := (ex_of d169_0 (d) [some (.ref a), l1, l2, l3, l4, l5, l6] st h).trans (rfl)
theorem d169_1 : decode (mB 169) 1 = .ok (.iload_n 1, 1) := by decide +kernel
theorem x169_1 {d : Nat} {l0 l2 l3 l4 l5 l6 : Option Value} {st : List Value} {x : Int32} {h : Hp} : ex (d) 169 1 [l0, some (.int x), l2, l3, l4, l5, l6] st h = ex d 169 2 [l0, some (.int x), l2, l3, l4, l5, l6] (.int x :: st) h := (ex_of d169_1 (d) [l0, some (.int x), l2, l3, l4, l5, l6] st h).trans (rfl)
theorem d169_2 : decode (mB 169) 2 = .ok (.iload_n 2, 1) := by decide +kernel
theorem x169_2 {d : Nat} {l0 l1 l3 l4 l5 l6 : Option Value} {st : List Value} {x : Int32} {h : Hp} : ex (d) 169 2 [l0, l1, some (.int x), l3, l4, l5, l6] st h = ex d 169 3 [l0, l1, some (.int x), l3, l4, l5, l6] (.int x :: st) h := (ex_of d169_2 (d) [l0, l1, some (.int x), l3, l4, l5, l6] st h).trans (rfl)
theorem d169_3 : decode (mB 169) 3 = .ok (.invokevirtual 177, 3) := by decide +kernel
theorem x169_3 {d : Nat} {L : Lc} {a : Nat} {v0 : Int32} {v1 : Int32} {h : Hp} (ht : (h.2.1 a).1 = 11) : ex (d + 1) 169 3 L (.int v1 :: .int v0 :: .ref a :: []) h = bnd (ex d 166 0 [some (.ref a), some (.int v0), some (.int v1)] [] h) (fun v h' => ex (d + 1) 169 6 L (v.toList ++ []) h') := (ex_of d169_3 (d + 1) L (.int v1 :: .int v0 :: .ref a :: []) h).trans (fin_vi (mi := 169) i11_177 ht rfl rfl (by simp [cat1_i, cat1_r]) (by simp) (Nat.le_of_ble_eq_true rfl))
theorem d169_6 : decode (mB 169) 6 = .ok (.istore 5, 2) := by decide +kernel
theorem x169_6 {d : Nat} {l0 l1 l2 l3 l4 l5 l6 : Option Value} {st : List Value} {x : Int32} {h : Hp} : ex (d) 169 6 [l0, l1, l2, l3, l4, l5, l6] (.int x :: st) h = ex d 169 8 [l0, l1, l2, l3, clr l4, some (.int x), l6] st h := (ex_of d169_6 (d) [l0, l1, l2, l3, l4, l5, l6] (.int x :: st) h).trans (rfl)
theorem d169_8 : decode (mB 169) 8 = .ok (.iload 5, 2) := by decide +kernel
theorem x169_8 {d : Nat} {l0 l1 l2 l3 l4 l6 : Option Value} {st : List Value} {x : Int32} {h : Hp} : ex (d) 169 8 [l0, l1, l2, l3, l4, some (.int x), l6] st h = ex d 169 10 [l0, l1, l2, l3, l4, some (.int x), l6] (.int x :: st) h := (ex_of d169_8 (d) [l0, l1, l2, l3, l4, some (.int x), l6] st h).trans (rfl)
theorem d169_10 : decode (mB 169) 10 = .ok (.ifCond .le 10, 3) := by decide +kernel
theorem x169_10 {d : Nat} {L : Lc} {st : List Value} {x : Int32} {h : Hp} : ex (d) 169 10 L (.int x :: st) h = if x ≤ 0 then ex d 169 20 L st h else ex d 169 13 L st h := (ex_of d169_10 (d) L (.int x :: st) h).trans (fin_brq (off := 10) (tgt := 20) rfl (by decide))
theorem d169_13 : decode (mB 169) 13 = .ok (.aload_n 0, 1) := by decide +kernel
theorem x169_13 {d : Nat} {l1 l2 l3 l4 l5 l6 : Option Value} {st : List Value} {a : Nat} {h : Hp} : ex (d) 169 13 [some (.ref a), l1, l2, l3, l4, l5, l6] st h = ex d 169 14 [some (.ref a), l1, l2, l3, l4, l5, l6] (.ref a :: st) h := (ex_of d169_13 (d) [some (.ref a), l1, l2, l3, l4, l5, l6] st h).trans (rfl)
theorem d169_14 : decode (mB 169) 14 = .ok (.iload 5, 2) := by decide +kernel
theorem x169_14 {d : Nat} {l0 l1 l2 l3 l4 l6 : Option Value} {st : List Value} {x : Int32} {h : Hp} : ex (d) 169 14 [l0, l1, l2, l3, l4, some (.int x), l6] st h = ex d 169 16 [l0, l1, l2, l3, l4, some (.int x), l6] (.int x :: st) h := (ex_of d169_14 (d) [l0, l1, l2, l3, l4, some (.int x), l6] st h).trans (rfl)
theorem d169_16 : decode (mB 169) 16 = .ok (.invokevirtual 109, 3) := by decide +kernel
theorem x169_16 {d : Nat} {L : Lc} {a : Nat} {v0 : Int32} {h : Hp} (ht : (h.2.1 a).1 = 11) : ex (d + 1) 169 16 L (.int v0 :: .ref a :: []) h = bnd (ex d 135 0 [some (.ref a), some (.int v0)] [] h) (fun v h' => ex (d + 1) 169 19 L (v.toList ++ []) h') := (ex_of d169_16 (d + 1) L (.int v0 :: .ref a :: []) h).trans (fin_vi (mi := 169) i11_109 ht rfl rfl (by simp [cat1_i, cat1_r]) (by simp) (Nat.le_of_ble_eq_true rfl))
theorem d169_19 : decode (mB 169) 19 = .ok (.ireturn, 1) := by decide +kernel
theorem x169_19 {d : Nat} {L : Lc} {x : Int32} {h : Hp} : ex (d) 169 19 L [.int x] h = some (some (.int x), h) := (ex_of d169_19 (d) L [.int x] h).trans (rfl)
theorem d169_20 : decode (mB 169) 20 = .ok (.iload_n 3, 1) := by decide +kernel
theorem x169_20 {d : Nat} {l0 l1 l2 l4 l5 l6 : Option Value} {st : List Value} {x : Int32} {h : Hp} : ex (d) 169 20 [l0, l1, l2, some (.int x), l4, l5, l6] st h = ex d 169 21 [l0, l1, l2, some (.int x), l4, l5, l6] (.int x :: st) h := (ex_of d169_20 (d) [l0, l1, l2, some (.int x), l4, l5, l6] st h).trans (rfl)
theorem d169_21 : decode (mB 169) 21 = .ok (.iconst 0, 1) := by decide +kernel
theorem x169_21 {d : Nat} {L : Lc} {st : List Value} {h : Hp} : ex (d) 169 21 L st h = ex d 169 22 L (.int (nI 0) :: st) h := (ex_of d169_21 (d) L st h).trans (rfl)
theorem d169_22 : decode (mB 169) 22 = .ok (.bipush 60, 2) := by decide +kernel
theorem x169_22 {d : Nat} {L : Lc} {st : List Value} {h : Hp} : ex (d) 169 22 L st h = ex d 169 24 L (.int (nI 60) :: st) h := (ex_of d169_22 (d) L st h).trans (rfl)
theorem d169_24 : decode (mB 169) 24 = .ok (.invokestatic 101, 3) := by decide +kernel
theorem x169_24 {d : Nat} {L : Lc}  {v0 : Int32} {v1 : Int32} {v2 : Int32} {h : Hp} : ex (d + 1) 169 24 L (.int v2 :: .int v1 :: .int v0 :: []) h = bnd (ex d 137 0 [some (.int v0), some (.int v1), some (.int v2)] [] h) (fun v h' => ex (d + 1) 169 27 L (v.toList ++ []) h') := (ex_of d169_24 (d + 1) L (.int v2 :: .int v1 :: .int v0 :: []) h).trans (fin_st (mi := 169) i11_101 (Or.inl rfl) (by simp) (by simp [cat1_i, cat1_r]) (by simp) (Nat.le_of_ble_eq_true rfl))
theorem d169_27 : decode (mB 169) 27 = .ok (.ifCond .eq 14, 3) := by decide +kernel
theorem x169_27 {d : Nat} {L : Lc} {st : List Value} {x : Int32} {h : Hp} : ex (d) 169 27 L (.int x :: st) h = if x = 0 then ex d 169 41 L st h else ex d 169 30 L st h := (ex_of d169_27 (d) L (.int x :: st) h).trans (fin_brq (off := 14) (tgt := 41) rfl (by decide))
theorem d169_30 : decode (mB 169) 30 = .ok (.iload 4, 2) := by decide +kernel
theorem x169_30 {d : Nat} {l0 l1 l2 l3 l5 l6 : Option Value} {st : List Value} {x : Int32} {h : Hp} : ex (d) 169 30 [l0, l1, l2, l3, some (.int x), l5, l6] st h = ex d 169 32 [l0, l1, l2, l3, some (.int x), l5, l6] (.int x :: st) h := (ex_of d169_30 (d) [l0, l1, l2, l3, some (.int x), l5, l6] st h).trans (rfl)
theorem d169_32 : decode (mB 169) 32 = .ok (.iconst 0, 1) := by decide +kernel
theorem x169_32 {d : Nat} {L : Lc} {st : List Value} {h : Hp} : ex (d) 169 32 L st h = ex d 169 33 L (.int (nI 0) :: st) h := (ex_of d169_32 (d) L st h).trans (rfl)
theorem d169_33 : decode (mB 169) 33 = .ok (.bipush 60, 2) := by decide +kernel
theorem x169_33 {d : Nat} {L : Lc} {st : List Value} {h : Hp} : ex (d) 169 33 L st h = ex d 169 35 L (.int (nI 60) :: st) h := (ex_of d169_33 (d) L st h).trans (rfl)
theorem d169_35 : decode (mB 169) 35 = .ok (.invokestatic 101, 3) := by decide +kernel
theorem x169_35 {d : Nat} {L : Lc}  {v0 : Int32} {v1 : Int32} {v2 : Int32} {h : Hp} : ex (d + 1) 169 35 L (.int v2 :: .int v1 :: .int v0 :: []) h = bnd (ex d 137 0 [some (.int v0), some (.int v1), some (.int v2)] [] h) (fun v h' => ex (d + 1) 169 38 L (v.toList ++ []) h') := (ex_of d169_35 (d + 1) L (.int v2 :: .int v1 :: .int v0 :: []) h).trans (fin_st (mi := 169) i11_101 (Or.inl rfl) (by simp) (by simp [cat1_i, cat1_r]) (by simp) (Nat.le_of_ble_eq_true rfl))
theorem d169_38 : decode (mB 169) 38 = .ok (.ifCond .ne 10, 3) := by decide +kernel
theorem x169_38 {d : Nat} {L : Lc} {st : List Value} {x : Int32} {h : Hp} : ex (d) 169 38 L (.int x :: st) h = if ¬ x = 0 then ex d 169 48 L st h else ex d 169 41 L st h := (ex_of d169_38 (d) L (.int x :: st) h).trans (fin_brq (off := 10) (tgt := 48) rfl (by decide))
theorem d169_41 : decode (mB 169) 41 = .ok (.aload_n 0, 1) := by decide +kernel
theorem x169_41 {d : Nat} {l1 l2 l3 l4 l5 l6 : Option Value} {st : List Value} {a : Nat} {h : Hp} : ex (d) 169 41 [some (.ref a), l1, l2, l3, l4, l5, l6] st h = ex d 169 42 [some (.ref a), l1, l2, l3, l4, l5, l6] (.ref a :: st) h := (ex_of d169_41 (d) [some (.ref a), l1, l2, l3, l4, l5, l6] st h).trans (rfl)
theorem d169_42 : decode (mB 169) 42 = .ok (.bipush 6, 2) := by decide +kernel
theorem x169_42 {d : Nat} {L : Lc} {st : List Value} {h : Hp} : ex (d) 169 42 L st h = ex d 169 44 L (.int (nI 6) :: st) h := (ex_of d169_42 (d) L st h).trans (rfl)
theorem d169_44 : decode (mB 169) 44 = .ok (.invokevirtual 109, 3) := by decide +kernel
theorem x169_44 {d : Nat} {L : Lc} {a : Nat} {v0 : Int32} {h : Hp} (ht : (h.2.1 a).1 = 11) : ex (d + 1) 169 44 L (.int v0 :: .ref a :: []) h = bnd (ex d 135 0 [some (.ref a), some (.int v0)] [] h) (fun v h' => ex (d + 1) 169 47 L (v.toList ++ []) h') := (ex_of d169_44 (d + 1) L (.int v0 :: .ref a :: []) h).trans (fin_vi (mi := 169) i11_109 ht rfl rfl (by simp [cat1_i, cat1_r]) (by simp) (Nat.le_of_ble_eq_true rfl))
theorem d169_47 : decode (mB 169) 47 = .ok (.ireturn, 1) := by decide +kernel
theorem x169_47 {d : Nat} {L : Lc} {x : Int32} {h : Hp} : ex (d) 169 47 L [.int x] h = some (some (.int x), h) := (ex_of d169_47 (d) L [.int x] h).trans (rfl)
theorem d169_48 : decode (mB 169) 48 = .ok (.bipush 6, 2) := by decide +kernel
theorem x169_48 {d : Nat} {L : Lc} {st : List Value} {h : Hp} : ex (d) 169 48 L st h = ex d 169 50 L (.int (nI 6) :: st) h := (ex_of d169_48 (d) L st h).trans (rfl)
theorem d169_50 : decode (mB 169) 50 = .ok (.iload_n 1, 1) := by decide +kernel
theorem x169_50 {d : Nat} {l0 l2 l3 l4 l5 l6 : Option Value} {st : List Value} {x : Int32} {h : Hp} : ex (d) 169 50 [l0, some (.int x), l2, l3, l4, l5, l6] st h = ex d 169 51 [l0, some (.int x), l2, l3, l4, l5, l6] (.int x :: st) h := (ex_of d169_50 (d) [l0, some (.int x), l2, l3, l4, l5, l6] st h).trans (rfl)
theorem d169_51 : decode (mB 169) 51 = .ok (.imul, 1) := by decide +kernel
theorem x169_51 {d : Nat} {L : Lc} {st : List Value} {x y : Int32} {h : Hp} : ex (d) 169 51 L (.int y :: .int x :: st) h = ex d 169 52 L (.int (x * y) :: st) h := (ex_of d169_51 (d) L (.int y :: .int x :: st) h).trans (rfl)
theorem d169_52 : decode (mB 169) 52 = .ok (.iload_n 2, 1) := by decide +kernel
theorem x169_52 {d : Nat} {l0 l1 l3 l4 l5 l6 : Option Value} {st : List Value} {x : Int32} {h : Hp} : ex (d) 169 52 [l0, l1, some (.int x), l3, l4, l5, l6] st h = ex d 169 53 [l0, l1, some (.int x), l3, l4, l5, l6] (.int x :: st) h := (ex_of d169_52 (d) [l0, l1, some (.int x), l3, l4, l5, l6] st h).trans (rfl)
theorem d169_53 : decode (mB 169) 53 = .ok (.iadd, 1) := by decide +kernel
theorem x169_53 {d : Nat} {L : Lc} {st : List Value} {x y : Int32} {h : Hp} : ex (d) 169 53 L (.int y :: .int x :: st) h = ex d 169 54 L (.int (x + y) :: st) h := (ex_of d169_53 (d) L (.int y :: .int x :: st) h).trans (rfl)
theorem d169_54 : decode (mB 169) 54 = .ok (.istore 6, 2) := by decide +kernel
theorem x169_54 {d : Nat} {l0 l1 l2 l3 l4 l5 l6 : Option Value} {st : List Value} {x : Int32} {h : Hp} : ex (d) 169 54 [l0, l1, l2, l3, l4, l5, l6] (.int x :: st) h = ex d 169 56 [l0, l1, l2, l3, l4, clr l5, some (.int x)] st h := (ex_of d169_54 (d) [l0, l1, l2, l3, l4, l5, l6] (.int x :: st) h).trans (rfl)
theorem d169_56 : decode (mB 169) 56 = .ok (.aload_n 0, 1) := by decide +kernel
theorem x169_56 {d : Nat} {l1 l2 l3 l4 l5 l6 : Option Value} {st : List Value} {a : Nat} {h : Hp} : ex (d) 169 56 [some (.ref a), l1, l2, l3, l4, l5, l6] st h = ex d 169 57 [some (.ref a), l1, l2, l3, l4, l5, l6] (.ref a :: st) h := (ex_of d169_56 (d) [some (.ref a), l1, l2, l3, l4, l5, l6] st h).trans (rfl)
theorem d169_57 : decode (mB 169) 57 = .ok (.iload 6, 2) := by decide +kernel
theorem x169_57 {d : Nat} {l0 l1 l2 l3 l4 l5 : Option Value} {st : List Value} {x : Int32} {h : Hp} : ex (d) 169 57 [l0, l1, l2, l3, l4, l5, some (.int x)] st h = ex d 169 59 [l0, l1, l2, l3, l4, l5, some (.int x)] (.int x :: st) h := (ex_of d169_57 (d) [l0, l1, l2, l3, l4, l5, some (.int x)] st h).trans (rfl)
theorem d169_59 : decode (mB 169) 59 = .ok (.iconst 0, 1) := by decide +kernel
theorem x169_59 {d : Nat} {L : Lc} {st : List Value} {h : Hp} : ex (d) 169 59 L st h = ex d 169 60 L (.int (nI 0) :: st) h := (ex_of d169_59 (d) L st h).trans (rfl)
theorem d169_60 : decode (mB 169) 60 = .ok (.invokevirtual 180, 3) := by decide +kernel
theorem x169_60 {d : Nat} {L : Lc} {a : Nat} {v0 : Int32} {v1 : Int32} {h : Hp} (ht : (h.2.1 a).1 = 11) : ex (d + 1) 169 60 L (.int v1 :: .int v0 :: .ref a :: []) h = bnd (ex d 167 0 [some (.ref a), some (.int v0), some (.int v1)] [] h) (fun v h' => ex (d + 1) 169 63 L (v.toList ++ []) h') := (ex_of d169_60 (d + 1) L (.int v1 :: .int v0 :: .ref a :: []) h).trans (fin_vi (mi := 169) i11_180 ht rfl rfl (by simp [cat1_i, cat1_r]) (by simp) (Nat.le_of_ble_eq_true rfl))
theorem d169_63 : decode (mB 169) 63 = .ok (.aload_n 0, 1) := by decide +kernel
theorem x169_63 {d : Nat} {l1 l2 l3 l4 l5 l6 : Option Value} {st : List Value} {a : Nat} {h : Hp} : ex (d) 169 63 [some (.ref a), l1, l2, l3, l4, l5, l6] st h = ex d 169 64 [some (.ref a), l1, l2, l3, l4, l5, l6] (.ref a :: st) h := (ex_of d169_63 (d) [some (.ref a), l1, l2, l3, l4, l5, l6] st h).trans (rfl)
theorem d169_64 : decode (mB 169) 64 = .ok (.getfield 31, 3) := by decide +kernel
theorem x169_64 {d : Nat} {L : Lc} {st : List Value} {a : Nat} {h : Hp} (ht : (h.2.1 a).1 = 11) : ex (d) 169 64 L (.ref a :: st) h = ex d 169 67 L (h.1 a 10 :: st) h := (ex_of d169_64 (d) L (.ref a :: st) h).trans (fin_get (mi := 169) f11_31 (tg1 ht rfl))
theorem d169_67 : decode (mB 169) 67 = .ok (.iload 6, 2) := by decide +kernel
theorem x169_67 {d : Nat} {l0 l1 l2 l3 l4 l5 : Option Value} {st : List Value} {x : Int32} {h : Hp} : ex (d) 169 67 [l0, l1, l2, l3, l4, l5, some (.int x)] st h = ex d 169 69 [l0, l1, l2, l3, l4, l5, some (.int x)] (.int x :: st) h := (ex_of d169_67 (d) [l0, l1, l2, l3, l4, l5, some (.int x)] st h).trans (rfl)
theorem d169_69 : decode (mB 169) 69 = .ok (.iload_n 3, 1) := by decide +kernel
theorem x169_69 {d : Nat} {l0 l1 l2 l4 l5 l6 : Option Value} {st : List Value} {x : Int32} {h : Hp} : ex (d) 169 69 [l0, l1, l2, some (.int x), l4, l5, l6] st h = ex d 169 70 [l0, l1, l2, some (.int x), l4, l5, l6] (.int x :: st) h := (ex_of d169_69 (d) [l0, l1, l2, some (.int x), l4, l5, l6] st h).trans (rfl)
theorem d169_70 : decode (mB 169) 70 = .ok (.iastore, 1) := by decide +kernel
theorem x169_70 {d : Nat} {L : Lc} {st : List Value} {a j : Nat} {x : Int32} {h : Hp} (ht : (h.2.1 a).1 = 20) (hj : j < (h.2.1 a).2) (hb : j < 2147483648) : ex (d) 169 70 L (.int x :: .int (nI j) :: .ref a :: st) h = ex d 169 71 L st (mup h.1 a j (.int x), h.2) := (ex_of d169_70 (d) L (.int x :: .int (nI j) :: .ref a :: st) h).trans (fin_iastore ht hj hb)
theorem d169_71 : decode (mB 169) 71 = .ok (.aload_n 0, 1) := by decide +kernel
theorem x169_71 {d : Nat} {l1 l2 l3 l4 l5 l6 : Option Value} {st : List Value} {a : Nat} {h : Hp} : ex (d) 169 71 [some (.ref a), l1, l2, l3, l4, l5, l6] st h = ex d 169 72 [some (.ref a), l1, l2, l3, l4, l5, l6] (.ref a :: st) h := (ex_of d169_71 (d) [some (.ref a), l1, l2, l3, l4, l5, l6] st h).trans (rfl)
theorem d169_72 : decode (mB 169) 72 = .ok (.getfield 34, 3) := by decide +kernel
theorem x169_72 {d : Nat} {L : Lc} {st : List Value} {a : Nat} {h : Hp} (ht : (h.2.1 a).1 = 11) : ex (d) 169 72 L (.ref a :: st) h = ex d 169 75 L (h.1 a 11 :: st) h := (ex_of d169_72 (d) L (.ref a :: st) h).trans (fin_get (mi := 169) f11_34 (tg1 ht rfl))
theorem d169_75 : decode (mB 169) 75 = .ok (.iload 6, 2) := by decide +kernel
theorem x169_75 {d : Nat} {l0 l1 l2 l3 l4 l5 : Option Value} {st : List Value} {x : Int32} {h : Hp} : ex (d) 169 75 [l0, l1, l2, l3, l4, l5, some (.int x)] st h = ex d 169 77 [l0, l1, l2, l3, l4, l5, some (.int x)] (.int x :: st) h := (ex_of d169_75 (d) [l0, l1, l2, l3, l4, l5, some (.int x)] st h).trans (rfl)
theorem d169_77 : decode (mB 169) 77 = .ok (.iload 4, 2) := by decide +kernel
theorem x169_77 {d : Nat} {l0 l1 l2 l3 l5 l6 : Option Value} {st : List Value} {x : Int32} {h : Hp} : ex (d) 169 77 [l0, l1, l2, l3, some (.int x), l5, l6] st h = ex d 169 79 [l0, l1, l2, l3, some (.int x), l5, l6] (.int x :: st) h := (ex_of d169_77 (d) [l0, l1, l2, l3, some (.int x), l5, l6] st h).trans (rfl)
theorem d169_79 : decode (mB 169) 79 = .ok (.iastore, 1) := by decide +kernel
theorem x169_79 {d : Nat} {L : Lc} {st : List Value} {a j : Nat} {x : Int32} {h : Hp} (ht : (h.2.1 a).1 = 20) (hj : j < (h.2.1 a).2) (hb : j < 2147483648) : ex (d) 169 79 L (.int x :: .int (nI j) :: .ref a :: st) h = ex d 169 80 L st (mup h.1 a j (.int x), h.2) := (ex_of d169_79 (d) L (.int x :: .int (nI j) :: .ref a :: st) h).trans (fin_iastore ht hj hb)
theorem d169_80 : decode (mB 169) 80 = .ok (.aload_n 0, 1) := by decide +kernel
theorem x169_80 {d : Nat} {l1 l2 l3 l4 l5 l6 : Option Value} {st : List Value} {a : Nat} {h : Hp} : ex (d) 169 80 [some (.ref a), l1, l2, l3, l4, l5, l6] st h = ex d 169 81 [some (.ref a), l1, l2, l3, l4, l5, l6] (.ref a :: st) h := (ex_of d169_80 (d) [some (.ref a), l1, l2, l3, l4, l5, l6] st h).trans (rfl)
theorem d169_81 : decode (mB 169) 81 = .ok (.iconst 1, 1) := by decide +kernel
theorem x169_81 {d : Nat} {L : Lc} {st : List Value} {h : Hp} : ex (d) 169 81 L st h = ex d 169 82 L (.int (nI 1) :: st) h := (ex_of d169_81 (d) L st h).trans (rfl)
theorem d169_82 : decode (mB 169) 82 = .ok (.invokevirtual 113, 3) := by decide +kernel
theorem x169_82 {d : Nat} {L : Lc} {a : Nat} {v0 : Int32} {h : Hp} (ht : (h.2.1 a).1 = 11) : ex (d + 1) 169 82 L (.int v0 :: .ref a :: []) h = bnd (ex d 134 0 [some (.ref a), some (.int v0)] [] h) (fun v h' => ex (d + 1) 169 85 L (v.toList ++ []) h') := (ex_of d169_82 (d + 1) L (.int v0 :: .ref a :: []) h).trans (fin_vi (mi := 169) i11_113 ht rfl rfl (by simp [cat1_i, cat1_r]) (by simp) (Nat.le_of_ble_eq_true rfl))
theorem d169_85 : decode (mB 169) 85 = .ok (.ireturn, 1) := by decide +kernel
theorem x169_85 {d : Nat} {L : Lc} {x : Int32} {h : Hp} : ex (d) 169 85 L [.int x] h = some (some (.int x), h) := (ex_of d169_85 (d) L [.int x] h).trans (rfl)
theorem d170_0 : decode (mB 170) 0 = .ok (.iload_n 0, 1) := by decide +kernel
theorem x170_0 {d : Nat} {l1 l2 : Option Value} {st : List Value} {x : Int32} {h : Hp} : ex (d) 170 0 [some (.int x), l1, l2] st h = ex d 170 1 [some (.int x), l1, l2] (.int x :: st) h := (ex_of d170_0 (d) [some (.int x), l1, l2] st h).trans (rfl)
theorem d170_1 : decode (mB 170) 1 = .ok (.iconst 3, 1) := by decide +kernel
theorem x170_1 {d : Nat} {L : Lc} {st : List Value} {h : Hp} : ex (d) 170 1 L st h = ex d 170 2 L (.int (nI 3) :: st) h := (ex_of d170_1 (d) L st h).trans (rfl)
theorem d170_2 : decode (mB 170) 2 = .ok (.if_icmp .ne 7, 3) := by decide +kernel
theorem x170_2 {d : Nat} {L : Lc} {st : List Value} {x y : Int32} {h : Hp} : ex (d) 170 2 L (.int y :: .int x :: st) h = if ¬ x = y then ex d 170 9 L st h else ex d 170 5 L st h := (ex_of d170_2 (d) L (.int y :: .int x :: st) h).trans (fin_brq (off := 7) (tgt := 9) rfl (by decide))
theorem d170_5 : decode (mB 170) 5 = .ok (.iconst 5, 1) := by decide +kernel
theorem x170_5 {d : Nat} {L : Lc} {st : List Value} {h : Hp} : ex (d) 170 5 L st h = ex d 170 6 L (.int (nI 5) :: st) h := (ex_of d170_5 (d) L st h).trans (rfl)
theorem d170_6 : decode (mB 170) 6 = .ok (.goto 13, 3) := by decide +kernel
theorem x170_6 {d : Nat} {L : Lc} {st : List Value} {h : Hp} : ex (d) 170 6 L st h = ex d 170 19 L st h := (ex_of d170_6 (d) L st h).trans (rfl)
theorem d170_9 : decode (mB 170) 9 = .ok (.iload_n 0, 1) := by decide +kernel
theorem x170_9 {d : Nat} {l1 l2 : Option Value} {st : List Value} {x : Int32} {h : Hp} : ex (d) 170 9 [some (.int x), l1, l2] st h = ex d 170 10 [some (.int x), l1, l2] (.int x :: st) h := (ex_of d170_9 (d) [some (.int x), l1, l2] st h).trans (rfl)
theorem d170_10 : decode (mB 170) 10 = .ok (.iconst 2, 1) := by decide +kernel
theorem x170_10 {d : Nat} {L : Lc} {st : List Value} {h : Hp} : ex (d) 170 10 L st h = ex d 170 11 L (.int (nI 2) :: st) h := (ex_of d170_10 (d) L st h).trans (rfl)
theorem d170_11 : decode (mB 170) 11 = .ok (.if_icmp .ne 7, 3) := by decide +kernel
theorem x170_11 {d : Nat} {L : Lc} {st : List Value} {x y : Int32} {h : Hp} : ex (d) 170 11 L (.int y :: .int x :: st) h = if ¬ x = y then ex d 170 18 L st h else ex d 170 14 L st h := (ex_of d170_11 (d) L (.int y :: .int x :: st) h).trans (fin_brq (off := 7) (tgt := 18) rfl (by decide))
theorem d170_14 : decode (mB 170) 14 = .ok (.iconst 3, 1) := by decide +kernel
theorem x170_14 {d : Nat} {L : Lc} {st : List Value} {h : Hp} : ex (d) 170 14 L st h = ex d 170 15 L (.int (nI 3) :: st) h := (ex_of d170_14 (d) L st h).trans (rfl)
theorem d170_15 : decode (mB 170) 15 = .ok (.goto 4, 3) := by decide +kernel
theorem x170_15 {d : Nat} {L : Lc} {st : List Value} {h : Hp} : ex (d) 170 15 L st h = ex d 170 19 L st h := (ex_of d170_15 (d) L st h).trans (rfl)
theorem d170_18 : decode (mB 170) 18 = .ok (.iconst 2, 1) := by decide +kernel
theorem x170_18 {d : Nat} {L : Lc} {st : List Value} {h : Hp} : ex (d) 170 18 L st h = ex d 170 19 L (.int (nI 2) :: st) h := (ex_of d170_18 (d) L st h).trans (rfl)
theorem d170_19 : decode (mB 170) 19 = .ok (.istore_n 2, 1) := by decide +kernel
theorem x170_19 {d : Nat} {l0 l1 l2 : Option Value} {st : List Value} {x : Int32} {h : Hp} : ex (d) 170 19 [l0, l1, l2] (.int x :: st) h = ex d 170 20 [l0, clr l1, some (.int x)] st h := (ex_of d170_19 (d) [l0, l1, l2] (.int x :: st) h).trans (rfl)
theorem d170_20 : decode (mB 170) 20 = .ok (.iload_n 2, 1) := by decide +kernel
theorem x170_20 {d : Nat} {l0 l1 : Option Value} {st : List Value} {x : Int32} {h : Hp} : ex (d) 170 20 [l0, l1, some (.int x)] st h = ex d 170 21 [l0, l1, some (.int x)] (.int x :: st) h := (ex_of d170_20 (d) [l0, l1, some (.int x)] st h).trans (rfl)
theorem d170_21 : decode (mB 170) 21 = .ok (.iload_n 1, 1) := by decide +kernel
theorem x170_21 {d : Nat} {l0 l2 : Option Value} {st : List Value} {x : Int32} {h : Hp} : ex (d) 170 21 [l0, some (.int x), l2] st h = ex d 170 22 [l0, some (.int x), l2] (.int x :: st) h := (ex_of d170_21 (d) [l0, some (.int x), l2] st h).trans (rfl)
theorem d170_22 : decode (mB 170) 22 = .ok (.imul, 1) := by decide +kernel
theorem x170_22 {d : Nat} {L : Lc} {st : List Value} {x y : Int32} {h : Hp} : ex (d) 170 22 L (.int y :: .int x :: st) h = ex d 170 23 L (.int (x * y) :: st) h := (ex_of d170_22 (d) L (.int y :: .int x :: st) h).trans (rfl)
theorem d170_23 : decode (mB 170) 23 = .ok (.iload_n 1, 1) := by decide +kernel
theorem x170_23 {d : Nat} {l0 l2 : Option Value} {st : List Value} {x : Int32} {h : Hp} : ex (d) 170 23 [l0, some (.int x), l2] st h = ex d 170 24 [l0, some (.int x), l2] (.int x :: st) h := (ex_of d170_23 (d) [l0, some (.int x), l2] st h).trans (rfl)
theorem d170_24 : decode (mB 170) 24 = .ok (.ifCond .le 17, 3) := by decide +kernel
theorem x170_24 {d : Nat} {L : Lc} {st : List Value} {x : Int32} {h : Hp} : ex (d) 170 24 L (.int x :: st) h = if x ≤ 0 then ex d 170 41 L st h else ex d 170 27 L st h := (ex_of d170_24 (d) L (.int x :: st) h).trans (fin_brq (off := 17) (tgt := 41) rfl (by decide))
theorem d170_27 : decode (mB 170) 27 = .ok (.iload_n 0, 1) := by decide +kernel
theorem x170_27 {d : Nat} {l1 l2 : Option Value} {st : List Value} {x : Int32} {h : Hp} : ex (d) 170 27 [some (.int x), l1, l2] st h = ex d 170 28 [some (.int x), l1, l2] (.int x :: st) h := (ex_of d170_27 (d) [some (.int x), l1, l2] st h).trans (rfl)
theorem d170_28 : decode (mB 170) 28 = .ok (.iconst 1, 1) := by decide +kernel
theorem x170_28 {d : Nat} {L : Lc} {st : List Value} {h : Hp} : ex (d) 170 28 L st h = ex d 170 29 L (.int (nI 1) :: st) h := (ex_of d170_28 (d) L st h).trans (rfl)
theorem d170_29 : decode (mB 170) 29 = .ok (.if_icmp .eq 8, 3) := by decide +kernel
theorem x170_29 {d : Nat} {L : Lc} {st : List Value} {x y : Int32} {h : Hp} : ex (d) 170 29 L (.int y :: .int x :: st) h = if x = y then ex d 170 37 L st h else ex d 170 32 L st h := (ex_of d170_29 (d) L (.int y :: .int x :: st) h).trans (fin_brq (off := 8) (tgt := 37) rfl (by decide))
theorem d170_32 : decode (mB 170) 32 = .ok (.iload_n 0, 1) := by decide +kernel
theorem x170_32 {d : Nat} {l1 l2 : Option Value} {st : List Value} {x : Int32} {h : Hp} : ex (d) 170 32 [some (.int x), l1, l2] st h = ex d 170 33 [some (.int x), l1, l2] (.int x :: st) h := (ex_of d170_32 (d) [some (.int x), l1, l2] st h).trans (rfl)
theorem d170_33 : decode (mB 170) 33 = .ok (.iconst 2, 1) := by decide +kernel
theorem x170_33 {d : Nat} {L : Lc} {st : List Value} {h : Hp} : ex (d) 170 33 L st h = ex d 170 34 L (.int (nI 2) :: st) h := (ex_of d170_33 (d) L st h).trans (rfl)
theorem d170_34 : decode (mB 170) 34 = .ok (.if_icmp .ne 7, 3) := by decide +kernel
theorem x170_34 {d : Nat} {L : Lc} {st : List Value} {x y : Int32} {h : Hp} : ex (d) 170 34 L (.int y :: .int x :: st) h = if ¬ x = y then ex d 170 41 L st h else ex d 170 37 L st h := (ex_of d170_34 (d) L (.int y :: .int x :: st) h).trans (fin_brq (off := 7) (tgt := 41) rfl (by decide))
theorem d170_37 : decode (mB 170) 37 = .ok (.iconst 4, 1) := by decide +kernel
theorem x170_37 {d : Nat} {L : Lc} {st : List Value} {h : Hp} : ex (d) 170 37 L st h = ex d 170 38 L (.int (nI 4) :: st) h := (ex_of d170_37 (d) L st h).trans (rfl)
theorem d170_38 : decode (mB 170) 38 = .ok (.goto 4, 3) := by decide +kernel
theorem x170_38 {d : Nat} {L : Lc} {st : List Value} {h : Hp} : ex (d) 170 38 L st h = ex d 170 42 L st h := (ex_of d170_38 (d) L st h).trans (rfl)
theorem d170_41 : decode (mB 170) 41 = .ok (.iconst 0, 1) := by decide +kernel
theorem x170_41 {d : Nat} {L : Lc} {st : List Value} {h : Hp} : ex (d) 170 41 L st h = ex d 170 42 L (.int (nI 0) :: st) h := (ex_of d170_41 (d) L st h).trans (rfl)
theorem d170_42 : decode (mB 170) 42 = .ok (.iadd, 1) := by decide +kernel
theorem x170_42 {d : Nat} {L : Lc} {st : List Value} {x y : Int32} {h : Hp} : ex (d) 170 42 L (.int y :: .int x :: st) h = ex d 170 43 L (.int (x + y) :: st) h := (ex_of d170_42 (d) L (.int y :: .int x :: st) h).trans (rfl)
theorem d170_43 : decode (mB 170) 43 = .ok (.ireturn, 1) := by decide +kernel
theorem x170_43 {d : Nat} {L : Lc} {x : Int32} {h : Hp} : ex (d) 170 43 L [.int x] h = some (some (.int x), h) := (ex_of d170_43 (d) L [.int x] h).trans (rfl)
theorem d171_0 : decode (mB 171) 0 = .ok (.aload_n 0, 1) := by decide +kernel
theorem x171_0 {d : Nat} {l1 l2 l3 l4 l5 l6 l7 l8 l9 l10 l11 l12 : Option Value} {st : List Value} {a : Nat} {h : Hp} : ex (d) 171 0 [some (.ref a), l1, l2, l3, l4, l5, l6, l7, l8, l9, l10, l11, l12] st h = ex d 171 1 [some (.ref a), l1, l2, l3, l4, l5, l6, l7, l8, l9, l10, l11, l12] (.ref a :: st) h := (ex_of d171_0 (d) [some (.ref a), l1, l2, l3, l4, l5, l6, l7, l8, l9, l10, l11, l12] st h).trans (rfl)
theorem d171_1 : decode (mB 171) 1 = .ok (.iload_n 1, 1) := by decide +kernel
theorem x171_1 {d : Nat} {l0 l2 l3 l4 l5 l6 l7 l8 l9 l10 l11 l12 : Option Value} {st : List Value} {x : Int32} {h : Hp} : ex (d) 171 1 [l0, some (.int x), l2, l3, l4, l5, l6, l7, l8, l9, l10, l11, l12] st h = ex d 171 2 [l0, some (.int x), l2, l3, l4, l5, l6, l7, l8, l9, l10, l11, l12] (.int x :: st) h := (ex_of d171_1 (d) [l0, some (.int x), l2, l3, l4, l5, l6, l7, l8, l9, l10, l11, l12] st h).trans (rfl)
theorem d171_2 : decode (mB 171) 2 = .ok (.iload_n 2, 1) := by decide +kernel
theorem x171_2 {d : Nat} {l0 l1 l3 l4 l5 l6 l7 l8 l9 l10 l11 l12 : Option Value} {st : List Value} {x : Int32} {h : Hp} : ex (d) 171 2 [l0, l1, some (.int x), l3, l4, l5, l6, l7, l8, l9, l10, l11, l12] st h = ex d 171 3 [l0, l1, some (.int x), l3, l4, l5, l6, l7, l8, l9, l10, l11, l12] (.int x :: st) h := (ex_of d171_2 (d) [l0, l1, some (.int x), l3, l4, l5, l6, l7, l8, l9, l10, l11, l12] st h).trans (rfl)
theorem d171_3 : decode (mB 171) 3 = .ok (.invokevirtual 177, 3) := by decide +kernel
theorem x171_3 {d : Nat} {L : Lc} {a : Nat} {v0 : Int32} {v1 : Int32} {h : Hp} (ht : (h.2.1 a).1 = 11) : ex (d + 1) 171 3 L (.int v1 :: .int v0 :: .ref a :: []) h = bnd (ex d 166 0 [some (.ref a), some (.int v0), some (.int v1)] [] h) (fun v h' => ex (d + 1) 171 6 L (v.toList ++ []) h') := (ex_of d171_3 (d + 1) L (.int v1 :: .int v0 :: .ref a :: []) h).trans (fin_vi (mi := 171) i11_177 ht rfl rfl (by simp [cat1_i, cat1_r]) (by simp) (Nat.le_of_ble_eq_true rfl))
theorem d171_6 : decode (mB 171) 6 = .ok (.istore 4, 2) := by decide +kernel
theorem x171_6 {d : Nat} {l0 l1 l2 l3 l4 l5 l6 l7 l8 l9 l10 l11 l12 : Option Value} {st : List Value} {x : Int32} {h : Hp} : ex (d) 171 6 [l0, l1, l2, l3, l4, l5, l6, l7, l8, l9, l10, l11, l12] (.int x :: st) h = ex d 171 8 [l0, l1, l2, clr l3, some (.int x), l5, l6, l7, l8, l9, l10, l11, l12] st h := (ex_of d171_6 (d) [l0, l1, l2, l3, l4, l5, l6, l7, l8, l9, l10, l11, l12] (.int x :: st) h).trans (rfl)
theorem d171_8 : decode (mB 171) 8 = .ok (.iload 4, 2) := by decide +kernel
theorem x171_8 {d : Nat} {l0 l1 l2 l3 l5 l6 l7 l8 l9 l10 l11 l12 : Option Value} {st : List Value} {x : Int32} {h : Hp} : ex (d) 171 8 [l0, l1, l2, l3, some (.int x), l5, l6, l7, l8, l9, l10, l11, l12] st h = ex d 171 10 [l0, l1, l2, l3, some (.int x), l5, l6, l7, l8, l9, l10, l11, l12] (.int x :: st) h := (ex_of d171_8 (d) [l0, l1, l2, l3, some (.int x), l5, l6, l7, l8, l9, l10, l11, l12] st h).trans (rfl)
theorem d171_10 : decode (mB 171) 10 = .ok (.ifCond .le 10, 3) := by decide +kernel
theorem x171_10 {d : Nat} {L : Lc} {st : List Value} {x : Int32} {h : Hp} : ex (d) 171 10 L (.int x :: st) h = if x ≤ 0 then ex d 171 20 L st h else ex d 171 13 L st h := (ex_of d171_10 (d) L (.int x :: st) h).trans (fin_brq (off := 10) (tgt := 20) rfl (by decide))
theorem d171_13 : decode (mB 171) 13 = .ok (.aload_n 0, 1) := by decide +kernel
theorem x171_13 {d : Nat} {l1 l2 l3 l4 l5 l6 l7 l8 l9 l10 l11 l12 : Option Value} {st : List Value} {a : Nat} {h : Hp} : ex (d) 171 13 [some (.ref a), l1, l2, l3, l4, l5, l6, l7, l8, l9, l10, l11, l12] st h = ex d 171 14 [some (.ref a), l1, l2, l3, l4, l5, l6, l7, l8, l9, l10, l11, l12] (.ref a :: st) h := (ex_of d171_13 (d) [some (.ref a), l1, l2, l3, l4, l5, l6, l7, l8, l9, l10, l11, l12] st h).trans (rfl)
theorem d171_14 : decode (mB 171) 14 = .ok (.iload 4, 2) := by decide +kernel
theorem x171_14 {d : Nat} {l0 l1 l2 l3 l5 l6 l7 l8 l9 l10 l11 l12 : Option Value} {st : List Value} {x : Int32} {h : Hp} : ex (d) 171 14 [l0, l1, l2, l3, some (.int x), l5, l6, l7, l8, l9, l10, l11, l12] st h = ex d 171 16 [l0, l1, l2, l3, some (.int x), l5, l6, l7, l8, l9, l10, l11, l12] (.int x :: st) h := (ex_of d171_14 (d) [l0, l1, l2, l3, some (.int x), l5, l6, l7, l8, l9, l10, l11, l12] st h).trans (rfl)
theorem d171_16 : decode (mB 171) 16 = .ok (.invokevirtual 109, 3) := by decide +kernel
theorem x171_16 {d : Nat} {L : Lc} {a : Nat} {v0 : Int32} {h : Hp} (ht : (h.2.1 a).1 = 11) : ex (d + 1) 171 16 L (.int v0 :: .ref a :: []) h = bnd (ex d 135 0 [some (.ref a), some (.int v0)] [] h) (fun v h' => ex (d + 1) 171 19 L (v.toList ++ []) h') := (ex_of d171_16 (d + 1) L (.int v0 :: .ref a :: []) h).trans (fin_vi (mi := 171) i11_109 ht rfl rfl (by simp [cat1_i, cat1_r]) (by simp) (Nat.le_of_ble_eq_true rfl))
theorem d171_19 : decode (mB 171) 19 = .ok (.ireturn, 1) := by decide +kernel
theorem x171_19 {d : Nat} {L : Lc} {x : Int32} {h : Hp} : ex (d) 171 19 L [.int x] h = some (some (.int x), h) := (ex_of d171_19 (d) L [.int x] h).trans (rfl)
theorem d171_20 : decode (mB 171) 20 = .ok (.bipush 6, 2) := by decide +kernel
theorem x171_20 {d : Nat} {L : Lc} {st : List Value} {h : Hp} : ex (d) 171 20 L st h = ex d 171 22 L (.int (nI 6) :: st) h := (ex_of d171_20 (d) L st h).trans (rfl)
theorem d171_22 : decode (mB 171) 22 = .ok (.iload_n 1, 1) := by decide +kernel
theorem x171_22 {d : Nat} {l0 l2 l3 l4 l5 l6 l7 l8 l9 l10 l11 l12 : Option Value} {st : List Value} {x : Int32} {h : Hp} : ex (d) 171 22 [l0, some (.int x), l2, l3, l4, l5, l6, l7, l8, l9, l10, l11, l12] st h = ex d 171 23 [l0, some (.int x), l2, l3, l4, l5, l6, l7, l8, l9, l10, l11, l12] (.int x :: st) h := (ex_of d171_22 (d) [l0, some (.int x), l2, l3, l4, l5, l6, l7, l8, l9, l10, l11, l12] st h).trans (rfl)
theorem d171_23 : decode (mB 171) 23 = .ok (.imul, 1) := by decide +kernel
theorem x171_23 {d : Nat} {L : Lc} {st : List Value} {x y : Int32} {h : Hp} : ex (d) 171 23 L (.int y :: .int x :: st) h = ex d 171 24 L (.int (x * y) :: st) h := (ex_of d171_23 (d) L (.int y :: .int x :: st) h).trans (rfl)
theorem d171_24 : decode (mB 171) 24 = .ok (.iload_n 2, 1) := by decide +kernel
theorem x171_24 {d : Nat} {l0 l1 l3 l4 l5 l6 l7 l8 l9 l10 l11 l12 : Option Value} {st : List Value} {x : Int32} {h : Hp} : ex (d) 171 24 [l0, l1, some (.int x), l3, l4, l5, l6, l7, l8, l9, l10, l11, l12] st h = ex d 171 25 [l0, l1, some (.int x), l3, l4, l5, l6, l7, l8, l9, l10, l11, l12] (.int x :: st) h := (ex_of d171_24 (d) [l0, l1, some (.int x), l3, l4, l5, l6, l7, l8, l9, l10, l11, l12] st h).trans (rfl)
theorem d171_25 : decode (mB 171) 25 = .ok (.iadd, 1) := by decide +kernel
theorem x171_25 {d : Nat} {L : Lc} {st : List Value} {x y : Int32} {h : Hp} : ex (d) 171 25 L (.int y :: .int x :: st) h = ex d 171 26 L (.int (x + y) :: st) h := (ex_of d171_25 (d) L (.int y :: .int x :: st) h).trans (rfl)
theorem d171_26 : decode (mB 171) 26 = .ok (.istore 5, 2) := by decide +kernel
theorem x171_26 {d : Nat} {l0 l1 l2 l3 l4 l5 l6 l7 l8 l9 l10 l11 l12 : Option Value} {st : List Value} {x : Int32} {h : Hp} : ex (d) 171 26 [l0, l1, l2, l3, l4, l5, l6, l7, l8, l9, l10, l11, l12] (.int x :: st) h = ex d 171 28 [l0, l1, l2, l3, clr l4, some (.int x), l6, l7, l8, l9, l10, l11, l12] st h := (ex_of d171_26 (d) [l0, l1, l2, l3, l4, l5, l6, l7, l8, l9, l10, l11, l12] (.int x :: st) h).trans (rfl)
theorem d171_28 : decode (mB 171) 28 = .ok (.aload_n 0, 1) := by decide +kernel
theorem x171_28 {d : Nat} {l1 l2 l3 l4 l5 l6 l7 l8 l9 l10 l11 l12 : Option Value} {st : List Value} {a : Nat} {h : Hp} : ex (d) 171 28 [some (.ref a), l1, l2, l3, l4, l5, l6, l7, l8, l9, l10, l11, l12] st h = ex d 171 29 [some (.ref a), l1, l2, l3, l4, l5, l6, l7, l8, l9, l10, l11, l12] (.ref a :: st) h := (ex_of d171_28 (d) [some (.ref a), l1, l2, l3, l4, l5, l6, l7, l8, l9, l10, l11, l12] st h).trans (rfl)
theorem d171_29 : decode (mB 171) 29 = .ok (.getfield 28, 3) := by decide +kernel
theorem x171_29 {d : Nat} {L : Lc} {st : List Value} {a : Nat} {h : Hp} (ht : (h.2.1 a).1 = 11) : ex (d) 171 29 L (.ref a :: st) h = ex d 171 32 L (h.1 a 9 :: st) h := (ex_of d171_29 (d) L (.ref a :: st) h).trans (fin_get (mi := 171) f11_28 (tg1 ht rfl))
theorem d171_32 : decode (mB 171) 32 = .ok (.iload 5, 2) := by decide +kernel
theorem x171_32 {d : Nat} {l0 l1 l2 l3 l4 l6 l7 l8 l9 l10 l11 l12 : Option Value} {st : List Value} {x : Int32} {h : Hp} : ex (d) 171 32 [l0, l1, l2, l3, l4, some (.int x), l6, l7, l8, l9, l10, l11, l12] st h = ex d 171 34 [l0, l1, l2, l3, l4, some (.int x), l6, l7, l8, l9, l10, l11, l12] (.int x :: st) h := (ex_of d171_32 (d) [l0, l1, l2, l3, l4, some (.int x), l6, l7, l8, l9, l10, l11, l12] st h).trans (rfl)
theorem d171_34 : decode (mB 171) 34 = .ok (.iaload, 1) := by decide +kernel
theorem x171_34 {d : Nat} {L : Lc} {st : List Value} {a j : Nat} {h : Hp} (ht : (h.2.1 a).1 = 20) (hj : j < (h.2.1 a).2) (hb : j < 2147483648) : ex (d) 171 34 L (.int (nI j) :: .ref a :: st) h = ex d 171 35 L (h.1 a j :: st) h := (ex_of d171_34 (d) L (.int (nI j) :: .ref a :: st) h).trans (fin_iaload (Or.inl ht) hj hb)
theorem d171_35 : decode (mB 171) 35 = .ok (.ifCond .ne 10, 3) := by decide +kernel
theorem x171_35 {d : Nat} {L : Lc} {st : List Value} {x : Int32} {h : Hp} : ex (d) 171 35 L (.int x :: st) h = if ¬ x = 0 then ex d 171 45 L st h else ex d 171 38 L st h := (ex_of d171_35 (d) L (.int x :: st) h).trans (fin_brq (off := 10) (tgt := 45) rfl (by decide))
theorem d171_38 : decode (mB 171) 38 = .ok (.aload_n 0, 1) := by decide +kernel
theorem x171_38 {d : Nat} {l1 l2 l3 l4 l5 l6 l7 l8 l9 l10 l11 l12 : Option Value} {st : List Value} {a : Nat} {h : Hp} : ex (d) 171 38 [some (.ref a), l1, l2, l3, l4, l5, l6, l7, l8, l9, l10, l11, l12] st h = ex d 171 39 [some (.ref a), l1, l2, l3, l4, l5, l6, l7, l8, l9, l10, l11, l12] (.ref a :: st) h := (ex_of d171_38 (d) [some (.ref a), l1, l2, l3, l4, l5, l6, l7, l8, l9, l10, l11, l12] st h).trans (rfl)
theorem d171_39 : decode (mB 171) 39 = .ok (.bipush 12, 2) := by decide +kernel
theorem x171_39 {d : Nat} {L : Lc} {st : List Value} {h : Hp} : ex (d) 171 39 L st h = ex d 171 41 L (.int (nI 12) :: st) h := (ex_of d171_39 (d) L st h).trans (rfl)
theorem d171_41 : decode (mB 171) 41 = .ok (.invokevirtual 109, 3) := by decide +kernel
theorem x171_41 {d : Nat} {L : Lc} {a : Nat} {v0 : Int32} {h : Hp} (ht : (h.2.1 a).1 = 11) : ex (d + 1) 171 41 L (.int v0 :: .ref a :: []) h = bnd (ex d 135 0 [some (.ref a), some (.int v0)] [] h) (fun v h' => ex (d + 1) 171 44 L (v.toList ++ []) h') := (ex_of d171_41 (d + 1) L (.int v0 :: .ref a :: []) h).trans (fin_vi (mi := 171) i11_109 ht rfl rfl (by simp [cat1_i, cat1_r]) (by simp) (Nat.le_of_ble_eq_true rfl))
theorem d171_44 : decode (mB 171) 44 = .ok (.ireturn, 1) := by decide +kernel
theorem x171_44 {d : Nat} {L : Lc} {x : Int32} {h : Hp} : ex (d) 171 44 L [.int x] h = some (some (.int x), h) := (ex_of d171_44 (d) L [.int x] h).trans (rfl)
theorem d171_45 : decode (mB 171) 45 = .ok (.aload_n 0, 1) := by decide +kernel
theorem x171_45 {d : Nat} {l1 l2 l3 l4 l5 l6 l7 l8 l9 l10 l11 l12 : Option Value} {st : List Value} {a : Nat} {h : Hp} : ex (d) 171 45 [some (.ref a), l1, l2, l3, l4, l5, l6, l7, l8, l9, l10, l11, l12] st h = ex d 171 46 [some (.ref a), l1, l2, l3, l4, l5, l6, l7, l8, l9, l10, l11, l12] (.ref a :: st) h := (ex_of d171_45 (d) [some (.ref a), l1, l2, l3, l4, l5, l6, l7, l8, l9, l10, l11, l12] st h).trans (rfl)
theorem d171_46 : decode (mB 171) 46 = .ok (.getfield 28, 3) := by decide +kernel
theorem x171_46 {d : Nat} {L : Lc} {st : List Value} {a : Nat} {h : Hp} (ht : (h.2.1 a).1 = 11) : ex (d) 171 46 L (.ref a :: st) h = ex d 171 49 L (h.1 a 9 :: st) h := (ex_of d171_46 (d) L (.ref a :: st) h).trans (fin_get (mi := 171) f11_28 (tg1 ht rfl))
theorem d171_49 : decode (mB 171) 49 = .ok (.iload 5, 2) := by decide +kernel
theorem x171_49 {d : Nat} {l0 l1 l2 l3 l4 l6 l7 l8 l9 l10 l11 l12 : Option Value} {st : List Value} {x : Int32} {h : Hp} : ex (d) 171 49 [l0, l1, l2, l3, l4, some (.int x), l6, l7, l8, l9, l10, l11, l12] st h = ex d 171 51 [l0, l1, l2, l3, l4, some (.int x), l6, l7, l8, l9, l10, l11, l12] (.int x :: st) h := (ex_of d171_49 (d) [l0, l1, l2, l3, l4, some (.int x), l6, l7, l8, l9, l10, l11, l12] st h).trans (rfl)
theorem d171_51 : decode (mB 171) 51 = .ok (.iaload, 1) := by decide +kernel
theorem x171_51 {d : Nat} {L : Lc} {st : List Value} {a j : Nat} {h : Hp} (ht : (h.2.1 a).1 = 20) (hj : j < (h.2.1 a).2) (hb : j < 2147483648) : ex (d) 171 51 L (.int (nI j) :: .ref a :: st) h = ex d 171 52 L (h.1 a j :: st) h := (ex_of d171_51 (d) L (.int (nI j) :: .ref a :: st) h).trans (fin_iaload (Or.inl ht) hj hb)
theorem d171_52 : decode (mB 171) 52 = .ok (.i2l, 1) := by decide +kernel
theorem x171_52 {d : Nat} {L : Lc} {st : List Value} {x : Int32} {h : Hp} : ex (d) 171 52 L (.int x :: st) h = ex d 171 53 L (.long x.toInt64 :: st) h := (ex_of d171_52 (d) L (.int x :: st) h).trans (rfl)
theorem d171_53 : decode (mB 171) 53 = .ok (.iload_n 3, 1) := by decide +kernel
theorem x171_53 {d : Nat} {l0 l1 l2 l4 l5 l6 l7 l8 l9 l10 l11 l12 : Option Value} {st : List Value} {x : Int32} {h : Hp} : ex (d) 171 53 [l0, l1, l2, some (.int x), l4, l5, l6, l7, l8, l9, l10, l11, l12] st h = ex d 171 54 [l0, l1, l2, some (.int x), l4, l5, l6, l7, l8, l9, l10, l11, l12] (.int x :: st) h := (ex_of d171_53 (d) [l0, l1, l2, some (.int x), l4, l5, l6, l7, l8, l9, l10, l11, l12] st h).trans (rfl)
theorem d171_54 : decode (mB 171) 54 = .ok (.i2l, 1) := by decide +kernel
theorem x171_54 {d : Nat} {L : Lc} {st : List Value} {x : Int32} {h : Hp} : ex (d) 171 54 L (.int x :: st) h = ex d 171 55 L (.long x.toInt64 :: st) h := (ex_of d171_54 (d) L (.int x :: st) h).trans (rfl)
theorem d171_55 : decode (mB 171) 55 = .ok (.ladd, 1) := by decide +kernel
theorem x171_55 {d : Nat} {L : Lc} {st : List Value} {x y : Int64} {h : Hp} : ex (d) 171 55 L (.long y :: .long x :: st) h = ex d 171 56 L (.long (x + y) :: st) h := (ex_of d171_55 (d) L (.long y :: .long x :: st) h).trans (rfl)
theorem d171_56 : decode (mB 171) 56 = .ok (.lstore 6, 2) := by decide +kernel
theorem x171_56 {d : Nat} {l0 l1 l2 l3 l4 l5 l6 l7 l8 l9 l10 l11 l12 : Option Value} {st : List Value} {x : Int64} {h : Hp} : ex (d) 171 56 [l0, l1, l2, l3, l4, l5, l6, l7, l8, l9, l10, l11, l12] (.long x :: st) h = ex d 171 58 [l0, l1, l2, l3, l4, clr l5, some (.long x), none, l8, l9, l10, l11, l12] st h := (ex_of d171_56 (d) [l0, l1, l2, l3, l4, l5, l6, l7, l8, l9, l10, l11, l12] (.long x :: st) h).trans (rfl)
theorem d171_58 : decode (mB 171) 58 = .ok (.aload_n 0, 1) := by decide +kernel
theorem x171_58 {d : Nat} {l1 l2 l3 l4 l5 l6 l7 l8 l9 l10 l11 l12 : Option Value} {st : List Value} {a : Nat} {h : Hp} : ex (d) 171 58 [some (.ref a), l1, l2, l3, l4, l5, l6, l7, l8, l9, l10, l11, l12] st h = ex d 171 59 [some (.ref a), l1, l2, l3, l4, l5, l6, l7, l8, l9, l10, l11, l12] (.ref a :: st) h := (ex_of d171_58 (d) [some (.ref a), l1, l2, l3, l4, l5, l6, l7, l8, l9, l10, l11, l12] st h).trans (rfl)
theorem d171_59 : decode (mB 171) 59 = .ok (.getfield 34, 3) := by decide +kernel
theorem x171_59 {d : Nat} {L : Lc} {st : List Value} {a : Nat} {h : Hp} (ht : (h.2.1 a).1 = 11) : ex (d) 171 59 L (.ref a :: st) h = ex d 171 62 L (h.1 a 11 :: st) h := (ex_of d171_59 (d) L (.ref a :: st) h).trans (fin_get (mi := 171) f11_34 (tg1 ht rfl))
theorem d171_62 : decode (mB 171) 62 = .ok (.iload 5, 2) := by decide +kernel
theorem x171_62 {d : Nat} {l0 l1 l2 l3 l4 l6 l7 l8 l9 l10 l11 l12 : Option Value} {st : List Value} {x : Int32} {h : Hp} : ex (d) 171 62 [l0, l1, l2, l3, l4, some (.int x), l6, l7, l8, l9, l10, l11, l12] st h = ex d 171 64 [l0, l1, l2, l3, l4, some (.int x), l6, l7, l8, l9, l10, l11, l12] (.int x :: st) h := (ex_of d171_62 (d) [l0, l1, l2, l3, l4, some (.int x), l6, l7, l8, l9, l10, l11, l12] st h).trans (rfl)
theorem d171_64 : decode (mB 171) 64 = .ok (.iaload, 1) := by decide +kernel
theorem x171_64 {d : Nat} {L : Lc} {st : List Value} {a j : Nat} {h : Hp} (ht : (h.2.1 a).1 = 20) (hj : j < (h.2.1 a).2) (hb : j < 2147483648) : ex (d) 171 64 L (.int (nI j) :: .ref a :: st) h = ex d 171 65 L (h.1 a j :: st) h := (ex_of d171_64 (d) L (.int (nI j) :: .ref a :: st) h).trans (fin_iaload (Or.inl ht) hj hb)
theorem d171_65 : decode (mB 171) 65 = .ok (.i2l, 1) := by decide +kernel
theorem x171_65 {d : Nat} {L : Lc} {st : List Value} {x : Int32} {h : Hp} : ex (d) 171 65 L (.int x :: st) h = ex d 171 66 L (.long x.toInt64 :: st) h := (ex_of d171_65 (d) L (.int x :: st) h).trans (rfl)
theorem d171_66 : decode (mB 171) 66 = .ok (.iload_n 3, 1) := by decide +kernel
theorem x171_66 {d : Nat} {l0 l1 l2 l4 l5 l6 l7 l8 l9 l10 l11 l12 : Option Value} {st : List Value} {x : Int32} {h : Hp} : ex (d) 171 66 [l0, l1, l2, some (.int x), l4, l5, l6, l7, l8, l9, l10, l11, l12] st h = ex d 171 67 [l0, l1, l2, some (.int x), l4, l5, l6, l7, l8, l9, l10, l11, l12] (.int x :: st) h := (ex_of d171_66 (d) [l0, l1, l2, some (.int x), l4, l5, l6, l7, l8, l9, l10, l11, l12] st h).trans (rfl)
theorem d171_67 : decode (mB 171) 67 = .ok (.i2l, 1) := by decide +kernel
theorem x171_67 {d : Nat} {L : Lc} {st : List Value} {x : Int32} {h : Hp} : ex (d) 171 67 L (.int x :: st) h = ex d 171 68 L (.long x.toInt64 :: st) h := (ex_of d171_67 (d) L (.int x :: st) h).trans (rfl)
theorem d171_68 : decode (mB 171) 68 = .ok (.lsub, 1) := by decide +kernel
theorem x171_68 {d : Nat} {L : Lc} {st : List Value} {x y : Int64} {h : Hp} : ex (d) 171 68 L (.long y :: .long x :: st) h = ex d 171 69 L (.long (x - y) :: st) h := (ex_of d171_68 (d) L (.long y :: .long x :: st) h).trans (rfl)
theorem d171_69 : decode (mB 171) 69 = .ok (.lstore 8, 2) := by decide +kernel
theorem x171_69 {d : Nat} {l0 l1 l2 l3 l4 l5 l6 l7 l8 l9 l10 l11 l12 : Option Value} {st : List Value} {x : Int64} {h : Hp} : ex (d) 171 69 [l0, l1, l2, l3, l4, l5, l6, l7, l8, l9, l10, l11, l12] (.long x :: st) h = ex d 171 71 [l0, l1, l2, l3, l4, l5, l6, clr l7, some (.long x), none, l10, l11, l12] st h := (ex_of d171_69 (d) [l0, l1, l2, l3, l4, l5, l6, l7, l8, l9, l10, l11, l12] (.long x :: st) h).trans (rfl)
theorem d171_71 : decode (mB 171) 71 = .ok (.aload_n 0, 1) := by decide +kernel
theorem x171_71 {d : Nat} {l1 l2 l3 l4 l5 l6 l7 l8 l9 l10 l11 l12 : Option Value} {st : List Value} {a : Nat} {h : Hp} : ex (d) 171 71 [some (.ref a), l1, l2, l3, l4, l5, l6, l7, l8, l9, l10, l11, l12] st h = ex d 171 72 [some (.ref a), l1, l2, l3, l4, l5, l6, l7, l8, l9, l10, l11, l12] (.ref a :: st) h := (ex_of d171_71 (d) [some (.ref a), l1, l2, l3, l4, l5, l6, l7, l8, l9, l10, l11, l12] st h).trans (rfl)
theorem d171_72 : decode (mB 171) 72 = .ok (.getfield 31, 3) := by decide +kernel
theorem x171_72 {d : Nat} {L : Lc} {st : List Value} {a : Nat} {h : Hp} (ht : (h.2.1 a).1 = 11) : ex (d) 171 72 L (.ref a :: st) h = ex d 171 75 L (h.1 a 10 :: st) h := (ex_of d171_72 (d) L (.ref a :: st) h).trans (fin_get (mi := 171) f11_31 (tg1 ht rfl))
theorem d171_75 : decode (mB 171) 75 = .ok (.iload 5, 2) := by decide +kernel
theorem x171_75 {d : Nat} {l0 l1 l2 l3 l4 l6 l7 l8 l9 l10 l11 l12 : Option Value} {st : List Value} {x : Int32} {h : Hp} : ex (d) 171 75 [l0, l1, l2, l3, l4, some (.int x), l6, l7, l8, l9, l10, l11, l12] st h = ex d 171 77 [l0, l1, l2, l3, l4, some (.int x), l6, l7, l8, l9, l10, l11, l12] (.int x :: st) h := (ex_of d171_75 (d) [l0, l1, l2, l3, l4, some (.int x), l6, l7, l8, l9, l10, l11, l12] st h).trans (rfl)
theorem d171_77 : decode (mB 171) 77 = .ok (.iaload, 1) := by decide +kernel
theorem x171_77 {d : Nat} {L : Lc} {st : List Value} {a j : Nat} {h : Hp} (ht : (h.2.1 a).1 = 20) (hj : j < (h.2.1 a).2) (hb : j < 2147483648) : ex (d) 171 77 L (.int (nI j) :: .ref a :: st) h = ex d 171 78 L (h.1 a j :: st) h := (ex_of d171_77 (d) L (.int (nI j) :: .ref a :: st) h).trans (fin_iaload (Or.inl ht) hj hb)
theorem d171_78 : decode (mB 171) 78 = .ok (.i2l, 1) := by decide +kernel
theorem x171_78 {d : Nat} {L : Lc} {st : List Value} {x : Int32} {h : Hp} : ex (d) 171 78 L (.int x :: st) h = ex d 171 79 L (.long x.toInt64 :: st) h := (ex_of d171_78 (d) L (.int x :: st) h).trans (rfl)
theorem d171_79 : decode (mB 171) 79 = .ok (.iload_n 3, 1) := by decide +kernel
theorem x171_79 {d : Nat} {l0 l1 l2 l4 l5 l6 l7 l8 l9 l10 l11 l12 : Option Value} {st : List Value} {x : Int32} {h : Hp} : ex (d) 171 79 [l0, l1, l2, some (.int x), l4, l5, l6, l7, l8, l9, l10, l11, l12] st h = ex d 171 80 [l0, l1, l2, some (.int x), l4, l5, l6, l7, l8, l9, l10, l11, l12] (.int x :: st) h := (ex_of d171_79 (d) [l0, l1, l2, some (.int x), l4, l5, l6, l7, l8, l9, l10, l11, l12] st h).trans (rfl)
theorem d171_80 : decode (mB 171) 80 = .ok (.i2l, 1) := by decide +kernel
theorem x171_80 {d : Nat} {L : Lc} {st : List Value} {x : Int32} {h : Hp} : ex (d) 171 80 L (.int x :: st) h = ex d 171 81 L (.long x.toInt64 :: st) h := (ex_of d171_80 (d) L (.int x :: st) h).trans (rfl)
theorem d171_81 : decode (mB 171) 81 = .ok (.ladd, 1) := by decide +kernel
theorem x171_81 {d : Nat} {L : Lc} {st : List Value} {x y : Int64} {h : Hp} : ex (d) 171 81 L (.long y :: .long x :: st) h = ex d 171 82 L (.long (x + y) :: st) h := (ex_of d171_81 (d) L (.long y :: .long x :: st) h).trans (rfl)
theorem d171_82 : decode (mB 171) 82 = .ok (.lstore 10, 2) := by decide +kernel
theorem x171_82 {d : Nat} {l0 l1 l2 l3 l4 l5 l6 l7 l8 l9 l10 l11 l12 : Option Value} {st : List Value} {x : Int64} {h : Hp} : ex (d) 171 82 [l0, l1, l2, l3, l4, l5, l6, l7, l8, l9, l10, l11, l12] (.long x :: st) h = ex d 171 84 [l0, l1, l2, l3, l4, l5, l6, l7, l8, clr l9, some (.long x), none, l12] st h := (ex_of d171_82 (d) [l0, l1, l2, l3, l4, l5, l6, l7, l8, l9, l10, l11, l12] (.long x :: st) h).trans (rfl)
theorem d171_84 : decode (mB 171) 84 = .ok (.lload 6, 2) := by decide +kernel
theorem x171_84 {d : Nat} {l0 l1 l2 l3 l4 l5 l7 l8 l9 l10 l11 l12 : Option Value} {st : List Value} {x : Int64} {h : Hp} : ex (d) 171 84 [l0, l1, l2, l3, l4, l5, some (.long x), l7, l8, l9, l10, l11, l12] st h = ex d 171 86 [l0, l1, l2, l3, l4, l5, some (.long x), l7, l8, l9, l10, l11, l12] (.long x :: st) h := (ex_of d171_84 (d) [l0, l1, l2, l3, l4, l5, some (.long x), l7, l8, l9, l10, l11, l12] st h).trans (rfl)
theorem d171_86 : decode (mB 171) 86 = .ok (.lconst 1, 1) := by decide +kernel
theorem x171_86 {d : Nat} {L : Lc} {st : List Value} {h : Hp} : ex (d) 171 86 L st h = ex d 171 87 L (.long 1 :: st) h := (ex_of d171_86 (d) L st h).trans (rfl)
theorem d171_87 : decode (mB 171) 87 = .ok (.lcmp, 1) := by decide +kernel
theorem x171_87 {d : Nat} {L : Lc} {st : List Value} {x y : Int64} {h : Hp} : ex (d) 171 87 L (.long y :: .long x :: st) h = ex d 171 88 L (.int (lg_cmp x y) :: st) h := (ex_of d171_87 (d) L (.long y :: .long x :: st) h).trans (rfl)
theorem d171_88 : decode (mB 171) 88 = .ok (.ifCond .lt 44, 3) := by decide +kernel
theorem x171_88 {d : Nat} {L : Lc} {st : List Value} {x : Int32} {h : Hp} : ex (d) 171 88 L (.int x :: st) h = if x < 0 then ex d 171 132 L st h else ex d 171 91 L st h := (ex_of d171_88 (d) L (.int x :: st) h).trans (fin_brq (off := 44) (tgt := 132) rfl (by decide))
theorem d171_91 : decode (mB 171) 91 = .ok (.lload 6, 2) := by decide +kernel
theorem x171_91 {d : Nat} {l0 l1 l2 l3 l4 l5 l7 l8 l9 l10 l11 l12 : Option Value} {st : List Value} {x : Int64} {h : Hp} : ex (d) 171 91 [l0, l1, l2, l3, l4, l5, some (.long x), l7, l8, l9, l10, l11, l12] st h = ex d 171 93 [l0, l1, l2, l3, l4, l5, some (.long x), l7, l8, l9, l10, l11, l12] (.long x :: st) h := (ex_of d171_91 (d) [l0, l1, l2, l3, l4, l5, some (.long x), l7, l8, l9, l10, l11, l12] st h).trans (rfl)
theorem d171_93 : decode (mB 171) 93 = .ok (.ldc2_w 183, 3) := by decide +kernel
theorem x171_93 {d : Nat} {L : Lc} {st : List Value} {h : Hp} : ex (d) 171 93 L st h = ex d 171 96 L (.long 255 :: st) h := (ex_of d171_93 (d) L st h).trans (fin_ldc2 (mi := 171) c11_183)
theorem d171_96 : decode (mB 171) 96 = .ok (.lcmp, 1) := by decide +kernel
theorem x171_96 {d : Nat} {L : Lc} {st : List Value} {x y : Int64} {h : Hp} : ex (d) 171 96 L (.long y :: .long x :: st) h = ex d 171 97 L (.int (lg_cmp x y) :: st) h := (ex_of d171_96 (d) L (.long y :: .long x :: st) h).trans (rfl)
theorem d171_97 : decode (mB 171) 97 = .ok (.ifCond .gt 35, 3) := by decide +kernel
theorem x171_97 {d : Nat} {L : Lc} {st : List Value} {x : Int32} {h : Hp} : ex (d) 171 97 L (.int x :: st) h = if 0 < x then ex d 171 132 L st h else ex d 171 100 L st h := (ex_of d171_97 (d) L (.int x :: st) h).trans (fin_brq (off := 35) (tgt := 132) rfl (by decide))
theorem d171_100 : decode (mB 171) 100 = .ok (.lload 8, 2) := by decide +kernel
theorem x171_100 {d : Nat} {l0 l1 l2 l3 l4 l5 l6 l7 l9 l10 l11 l12 : Option Value} {st : List Value} {x : Int64} {h : Hp} : ex (d) 171 100 [l0, l1, l2, l3, l4, l5, l6, l7, some (.long x), l9, l10, l11, l12] st h = ex d 171 102 [l0, l1, l2, l3, l4, l5, l6, l7, some (.long x), l9, l10, l11, l12] (.long x :: st) h := (ex_of d171_100 (d) [l0, l1, l2, l3, l4, l5, l6, l7, some (.long x), l9, l10, l11, l12] st h).trans (rfl)
theorem d171_102 : decode (mB 171) 102 = .ok (.lconst 0, 1) := by decide +kernel
theorem x171_102 {d : Nat} {L : Lc} {st : List Value} {h : Hp} : ex (d) 171 102 L st h = ex d 171 103 L (.long 0 :: st) h := (ex_of d171_102 (d) L st h).trans (rfl)
theorem d171_103 : decode (mB 171) 103 = .ok (.lcmp, 1) := by decide +kernel
theorem x171_103 {d : Nat} {L : Lc} {st : List Value} {x y : Int64} {h : Hp} : ex (d) 171 103 L (.long y :: .long x :: st) h = ex d 171 104 L (.int (lg_cmp x y) :: st) h := (ex_of d171_103 (d) L (.long y :: .long x :: st) h).trans (rfl)
theorem d171_104 : decode (mB 171) 104 = .ok (.ifCond .lt 28, 3) := by decide +kernel
theorem x171_104 {d : Nat} {L : Lc} {st : List Value} {x : Int32} {h : Hp} : ex (d) 171 104 L (.int x :: st) h = if x < 0 then ex d 171 132 L st h else ex d 171 107 L st h := (ex_of d171_104 (d) L (.int x :: st) h).trans (fin_brq (off := 28) (tgt := 132) rfl (by decide))
theorem d171_107 : decode (mB 171) 107 = .ok (.lload 8, 2) := by decide +kernel
theorem x171_107 {d : Nat} {l0 l1 l2 l3 l4 l5 l6 l7 l9 l10 l11 l12 : Option Value} {st : List Value} {x : Int64} {h : Hp} : ex (d) 171 107 [l0, l1, l2, l3, l4, l5, l6, l7, some (.long x), l9, l10, l11, l12] st h = ex d 171 109 [l0, l1, l2, l3, l4, l5, l6, l7, some (.long x), l9, l10, l11, l12] (.long x :: st) h := (ex_of d171_107 (d) [l0, l1, l2, l3, l4, l5, l6, l7, some (.long x), l9, l10, l11, l12] st h).trans (rfl)
theorem d171_109 : decode (mB 171) 109 = .ok (.ldc2_w 183, 3) := by decide +kernel
theorem x171_109 {d : Nat} {L : Lc} {st : List Value} {h : Hp} : ex (d) 171 109 L st h = ex d 171 112 L (.long 255 :: st) h := (ex_of d171_109 (d) L st h).trans (fin_ldc2 (mi := 171) c11_183)
theorem d171_112 : decode (mB 171) 112 = .ok (.lcmp, 1) := by decide +kernel
theorem x171_112 {d : Nat} {L : Lc} {st : List Value} {x y : Int64} {h : Hp} : ex (d) 171 112 L (.long y :: .long x :: st) h = ex d 171 113 L (.int (lg_cmp x y) :: st) h := (ex_of d171_112 (d) L (.long y :: .long x :: st) h).trans (rfl)
theorem d171_113 : decode (mB 171) 113 = .ok (.ifCond .gt 19, 3) := by decide +kernel
theorem x171_113 {d : Nat} {L : Lc} {st : List Value} {x : Int32} {h : Hp} : ex (d) 171 113 L (.int x :: st) h = if 0 < x then ex d 171 132 L st h else ex d 171 116 L st h := (ex_of d171_113 (d) L (.int x :: st) h).trans (fin_brq (off := 19) (tgt := 132) rfl (by decide))
theorem d171_116 : decode (mB 171) 116 = .ok (.lload 10, 2) := by decide +kernel
theorem x171_116 {d : Nat} {l0 l1 l2 l3 l4 l5 l6 l7 l8 l9 l11 l12 : Option Value} {st : List Value} {x : Int64} {h : Hp} : ex (d) 171 116 [l0, l1, l2, l3, l4, l5, l6, l7, l8, l9, some (.long x), l11, l12] st h = ex d 171 118 [l0, l1, l2, l3, l4, l5, l6, l7, l8, l9, some (.long x), l11, l12] (.long x :: st) h := (ex_of d171_116 (d) [l0, l1, l2, l3, l4, l5, l6, l7, l8, l9, some (.long x), l11, l12] st h).trans (rfl)
theorem d171_118 : decode (mB 171) 118 = .ok (.lconst 0, 1) := by decide +kernel
theorem x171_118 {d : Nat} {L : Lc} {st : List Value} {h : Hp} : ex (d) 171 118 L st h = ex d 171 119 L (.long 0 :: st) h := (ex_of d171_118 (d) L st h).trans (rfl)
theorem d171_119 : decode (mB 171) 119 = .ok (.lcmp, 1) := by decide +kernel
theorem x171_119 {d : Nat} {L : Lc} {st : List Value} {x y : Int64} {h : Hp} : ex (d) 171 119 L (.long y :: .long x :: st) h = ex d 171 120 L (.int (lg_cmp x y) :: st) h := (ex_of d171_119 (d) L (.long y :: .long x :: st) h).trans (rfl)
theorem d171_120 : decode (mB 171) 120 = .ok (.ifCond .lt 12, 3) := by decide +kernel
theorem x171_120 {d : Nat} {L : Lc} {st : List Value} {x : Int32} {h : Hp} : ex (d) 171 120 L (.int x :: st) h = if x < 0 then ex d 171 132 L st h else ex d 171 123 L st h := (ex_of d171_120 (d) L (.int x :: st) h).trans (fin_brq (off := 12) (tgt := 132) rfl (by decide))
theorem d171_123 : decode (mB 171) 123 = .ok (.lload 10, 2) := by decide +kernel
theorem x171_123 {d : Nat} {l0 l1 l2 l3 l4 l5 l6 l7 l8 l9 l11 l12 : Option Value} {st : List Value} {x : Int64} {h : Hp} : ex (d) 171 123 [l0, l1, l2, l3, l4, l5, l6, l7, l8, l9, some (.long x), l11, l12] st h = ex d 171 125 [l0, l1, l2, l3, l4, l5, l6, l7, l8, l9, some (.long x), l11, l12] (.long x :: st) h := (ex_of d171_123 (d) [l0, l1, l2, l3, l4, l5, l6, l7, l8, l9, some (.long x), l11, l12] st h).trans (rfl)
theorem d171_125 : decode (mB 171) 125 = .ok (.ldc2_w 183, 3) := by decide +kernel
theorem x171_125 {d : Nat} {L : Lc} {st : List Value} {h : Hp} : ex (d) 171 125 L st h = ex d 171 128 L (.long 255 :: st) h := (ex_of d171_125 (d) L st h).trans (fin_ldc2 (mi := 171) c11_183)
theorem d171_128 : decode (mB 171) 128 = .ok (.lcmp, 1) := by decide +kernel
theorem x171_128 {d : Nat} {L : Lc} {st : List Value} {x y : Int64} {h : Hp} : ex (d) 171 128 L (.long y :: .long x :: st) h = ex d 171 129 L (.int (lg_cmp x y) :: st) h := (ex_of d171_128 (d) L (.long y :: .long x :: st) h).trans (rfl)
theorem d171_129 : decode (mB 171) 129 = .ok (.ifCond .le 10, 3) := by decide +kernel
theorem x171_129 {d : Nat} {L : Lc} {st : List Value} {x : Int32} {h : Hp} : ex (d) 171 129 L (.int x :: st) h = if x ≤ 0 then ex d 171 139 L st h else ex d 171 132 L st h := (ex_of d171_129 (d) L (.int x :: st) h).trans (fin_brq (off := 10) (tgt := 139) rfl (by decide))
theorem d171_132 : decode (mB 171) 132 = .ok (.aload_n 0, 1) := by decide +kernel
theorem x171_132 {d : Nat} {l1 l2 l3 l4 l5 l6 l7 l8 l9 l10 l11 l12 : Option Value} {st : List Value} {a : Nat} {h : Hp} : ex (d) 171 132 [some (.ref a), l1, l2, l3, l4, l5, l6, l7, l8, l9, l10, l11, l12] st h = ex d 171 133 [some (.ref a), l1, l2, l3, l4, l5, l6, l7, l8, l9, l10, l11, l12] (.ref a :: st) h := (ex_of d171_132 (d) [some (.ref a), l1, l2, l3, l4, l5, l6, l7, l8, l9, l10, l11, l12] st h).trans (rfl)
theorem d171_133 : decode (mB 171) 133 = .ok (.bipush 6, 2) := by decide +kernel
theorem x171_133 {d : Nat} {L : Lc} {st : List Value} {h : Hp} : ex (d) 171 133 L st h = ex d 171 135 L (.int (nI 6) :: st) h := (ex_of d171_133 (d) L st h).trans (rfl)
theorem d171_135 : decode (mB 171) 135 = .ok (.invokevirtual 109, 3) := by decide +kernel
theorem x171_135 {d : Nat} {L : Lc} {a : Nat} {v0 : Int32} {h : Hp} (ht : (h.2.1 a).1 = 11) : ex (d + 1) 171 135 L (.int v0 :: .ref a :: []) h = bnd (ex d 135 0 [some (.ref a), some (.int v0)] [] h) (fun v h' => ex (d + 1) 171 138 L (v.toList ++ []) h') := (ex_of d171_135 (d + 1) L (.int v0 :: .ref a :: []) h).trans (fin_vi (mi := 171) i11_109 ht rfl rfl (by simp [cat1_i, cat1_r]) (by simp) (Nat.le_of_ble_eq_true rfl))
theorem d171_138 : decode (mB 171) 138 = .ok (.ireturn, 1) := by decide +kernel
theorem x171_138 {d : Nat} {L : Lc} {x : Int32} {h : Hp} : ex (d) 171 138 L [.int x] h = some (some (.int x), h) := (ex_of d171_138 (d) L [.int x] h).trans (rfl)
theorem d171_139 : decode (mB 171) 139 = .ok (.aload_n 0, 1) := by decide +kernel
theorem x171_139 {d : Nat} {l1 l2 l3 l4 l5 l6 l7 l8 l9 l10 l11 l12 : Option Value} {st : List Value} {a : Nat} {h : Hp} : ex (d) 171 139 [some (.ref a), l1, l2, l3, l4, l5, l6, l7, l8, l9, l10, l11, l12] st h = ex d 171 140 [some (.ref a), l1, l2, l3, l4, l5, l6, l7, l8, l9, l10, l11, l12] (.ref a :: st) h := (ex_of d171_139 (d) [some (.ref a), l1, l2, l3, l4, l5, l6, l7, l8, l9, l10, l11, l12] st h).trans (rfl)
theorem d171_140 : decode (mB 171) 140 = .ok (.getfield 9, 3) := by decide +kernel
theorem x171_140 {d : Nat} {L : Lc} {st : List Value} {a : Nat} {h : Hp} (ht : (h.2.1 a).1 = 11) : ex (d) 171 140 L (.ref a :: st) h = ex d 171 143 L (h.1 a 2 :: st) h := (ex_of d171_140 (d) L (.ref a :: st) h).trans (fin_get (mi := 171) f11_9 (tg1 ht rfl))
theorem d171_143 : decode (mB 171) 143 = .ok (.iload_n 1, 1) := by decide +kernel
theorem x171_143 {d : Nat} {l0 l2 l3 l4 l5 l6 l7 l8 l9 l10 l11 l12 : Option Value} {st : List Value} {x : Int32} {h : Hp} : ex (d) 171 143 [l0, some (.int x), l2, l3, l4, l5, l6, l7, l8, l9, l10, l11, l12] st h = ex d 171 144 [l0, some (.int x), l2, l3, l4, l5, l6, l7, l8, l9, l10, l11, l12] (.int x :: st) h := (ex_of d171_143 (d) [l0, some (.int x), l2, l3, l4, l5, l6, l7, l8, l9, l10, l11, l12] st h).trans (rfl)
theorem d171_144 : decode (mB 171) 144 = .ok (.iaload, 1) := by decide +kernel
theorem x171_144 {d : Nat} {L : Lc} {st : List Value} {a j : Nat} {h : Hp} (ht : (h.2.1 a).1 = 20) (hj : j < (h.2.1 a).2) (hb : j < 2147483648) : ex (d) 171 144 L (.int (nI j) :: .ref a :: st) h = ex d 171 145 L (h.1 a j :: st) h := (ex_of d171_144 (d) L (.int (nI j) :: .ref a :: st) h).trans (fin_iaload (Or.inl ht) hj hb)
theorem d171_145 : decode (mB 171) 145 = .ok (.iload_n 3, 1) := by decide +kernel
theorem x171_145 {d : Nat} {l0 l1 l2 l4 l5 l6 l7 l8 l9 l10 l11 l12 : Option Value} {st : List Value} {x : Int32} {h : Hp} : ex (d) 171 145 [l0, l1, l2, some (.int x), l4, l5, l6, l7, l8, l9, l10, l11, l12] st h = ex d 171 146 [l0, l1, l2, some (.int x), l4, l5, l6, l7, l8, l9, l10, l11, l12] (.int x :: st) h := (ex_of d171_145 (d) [l0, l1, l2, some (.int x), l4, l5, l6, l7, l8, l9, l10, l11, l12] st h).trans (rfl)
theorem d171_146 : decode (mB 171) 146 = .ok (.ifCond .ge 8, 3) := by decide +kernel
theorem x171_146 {d : Nat} {L : Lc} {st : List Value} {x : Int32} {h : Hp} : ex (d) 171 146 L (.int x :: st) h = if 0 ≤ x then ex d 171 154 L st h else ex d 171 149 L st h := (ex_of d171_146 (d) L (.int x :: st) h).trans (fin_brq (off := 8) (tgt := 154) rfl (by decide))
theorem d171_149 : decode (mB 171) 149 = .ok (.iload_n 3, 1) := by decide +kernel
theorem x171_149 {d : Nat} {l0 l1 l2 l4 l5 l6 l7 l8 l9 l10 l11 l12 : Option Value} {st : List Value} {x : Int32} {h : Hp} : ex (d) 171 149 [l0, l1, l2, some (.int x), l4, l5, l6, l7, l8, l9, l10, l11, l12] st h = ex d 171 150 [l0, l1, l2, some (.int x), l4, l5, l6, l7, l8, l9, l10, l11, l12] (.int x :: st) h := (ex_of d171_149 (d) [l0, l1, l2, some (.int x), l4, l5, l6, l7, l8, l9, l10, l11, l12] st h).trans (rfl)
theorem d171_150 : decode (mB 171) 150 = .ok (.ineg, 1) := by decide +kernel
theorem x171_150 {d : Nat} {L : Lc} {st : List Value} {x : Int32} {h : Hp} : ex (d) 171 150 L (.int x :: st) h = ex d 171 151 L (.int (-x) :: st) h := (ex_of d171_150 (d) L (.int x :: st) h).trans (rfl)
theorem d171_151 : decode (mB 171) 151 = .ok (.goto 4, 3) := by decide +kernel
theorem x171_151 {d : Nat} {L : Lc} {st : List Value} {h : Hp} : ex (d) 171 151 L st h = ex d 171 155 L st h := (ex_of d171_151 (d) L st h).trans (rfl)
theorem d171_154 : decode (mB 171) 154 = .ok (.iload_n 3, 1) := by decide +kernel
theorem x171_154 {d : Nat} {l0 l1 l2 l4 l5 l6 l7 l8 l9 l10 l11 l12 : Option Value} {st : List Value} {x : Int32} {h : Hp} : ex (d) 171 154 [l0, l1, l2, some (.int x), l4, l5, l6, l7, l8, l9, l10, l11, l12] st h = ex d 171 155 [l0, l1, l2, some (.int x), l4, l5, l6, l7, l8, l9, l10, l11, l12] (.int x :: st) h := (ex_of d171_154 (d) [l0, l1, l2, some (.int x), l4, l5, l6, l7, l8, l9, l10, l11, l12] st h).trans (rfl)
theorem d171_155 : decode (mB 171) 155 = .ok (.invokestatic 185, 3) := by decide +kernel
theorem x171_155 {d : Nat} {L : Lc}  {v0 : Int32} {v1 : Int32} {h : Hp} : ex (d + 1) 171 155 L (.int v1 :: .int v0 :: []) h = bnd (ex d 170 0 [some (.int v0), some (.int v1), none] [] h) (fun v h' => ex (d + 1) 171 158 L (v.toList ++ []) h') := (ex_of d171_155 (d + 1) L (.int v1 :: .int v0 :: []) h).trans (fin_st (mi := 171) i11_185 (Or.inl rfl) (by simp) (by simp [cat1_i, cat1_r]) (by simp) (Nat.le_of_ble_eq_true rfl))
theorem d171_158 : decode (mB 171) 158 = .ok (.istore 12, 2) := by decide +kernel
theorem x171_158 {d : Nat} {l0 l1 l2 l3 l4 l5 l6 l7 l8 l9 l10 l11 l12 : Option Value} {st : List Value} {x : Int32} {h : Hp} : ex (d) 171 158 [l0, l1, l2, l3, l4, l5, l6, l7, l8, l9, l10, l11, l12] (.int x :: st) h = ex d 171 160 [l0, l1, l2, l3, l4, l5, l6, l7, l8, l9, l10, clr l11, some (.int x)] st h := (ex_of d171_158 (d) [l0, l1, l2, l3, l4, l5, l6, l7, l8, l9, l10, l11, l12] (.int x :: st) h).trans (rfl)
theorem d171_160 : decode (mB 171) 160 = .ok (.aload_n 0, 1) := by decide +kernel
theorem x171_160 {d : Nat} {l1 l2 l3 l4 l5 l6 l7 l8 l9 l10 l11 l12 : Option Value} {st : List Value} {a : Nat} {h : Hp} : ex (d) 171 160 [some (.ref a), l1, l2, l3, l4, l5, l6, l7, l8, l9, l10, l11, l12] st h = ex d 171 161 [some (.ref a), l1, l2, l3, l4, l5, l6, l7, l8, l9, l10, l11, l12] (.ref a :: st) h := (ex_of d171_160 (d) [some (.ref a), l1, l2, l3, l4, l5, l6, l7, l8, l9, l10, l11, l12] st h).trans (rfl)
theorem d171_161 : decode (mB 171) 161 = .ok (.iload 5, 2) := by decide +kernel
theorem x171_161 {d : Nat} {l0 l1 l2 l3 l4 l6 l7 l8 l9 l10 l11 l12 : Option Value} {st : List Value} {x : Int32} {h : Hp} : ex (d) 171 161 [l0, l1, l2, l3, l4, some (.int x), l6, l7, l8, l9, l10, l11, l12] st h = ex d 171 163 [l0, l1, l2, l3, l4, some (.int x), l6, l7, l8, l9, l10, l11, l12] (.int x :: st) h := (ex_of d171_161 (d) [l0, l1, l2, l3, l4, some (.int x), l6, l7, l8, l9, l10, l11, l12] st h).trans (rfl)
theorem d171_163 : decode (mB 171) 163 = .ok (.iload 12, 2) := by decide +kernel
theorem x171_163 {d : Nat} {l0 l1 l2 l3 l4 l5 l6 l7 l8 l9 l10 l11 : Option Value} {st : List Value} {x : Int32} {h : Hp} : ex (d) 171 163 [l0, l1, l2, l3, l4, l5, l6, l7, l8, l9, l10, l11, some (.int x)] st h = ex d 171 165 [l0, l1, l2, l3, l4, l5, l6, l7, l8, l9, l10, l11, some (.int x)] (.int x :: st) h := (ex_of d171_163 (d) [l0, l1, l2, l3, l4, l5, l6, l7, l8, l9, l10, l11, some (.int x)] st h).trans (rfl)
theorem d171_165 : decode (mB 171) 165 = .ok (.invokevirtual 180, 3) := by decide +kernel
theorem x171_165 {d : Nat} {L : Lc} {a : Nat} {v0 : Int32} {v1 : Int32} {h : Hp} (ht : (h.2.1 a).1 = 11) : ex (d + 1) 171 165 L (.int v1 :: .int v0 :: .ref a :: []) h = bnd (ex d 167 0 [some (.ref a), some (.int v0), some (.int v1)] [] h) (fun v h' => ex (d + 1) 171 168 L (v.toList ++ []) h') := (ex_of d171_165 (d + 1) L (.int v1 :: .int v0 :: .ref a :: []) h).trans (fin_vi (mi := 171) i11_180 ht rfl rfl (by simp [cat1_i, cat1_r]) (by simp) (Nat.le_of_ble_eq_true rfl))
theorem d171_168 : decode (mB 171) 168 = .ok (.aload_n 0, 1) := by decide +kernel
theorem x171_168 {d : Nat} {l1 l2 l3 l4 l5 l6 l7 l8 l9 l10 l11 l12 : Option Value} {st : List Value} {a : Nat} {h : Hp} : ex (d) 171 168 [some (.ref a), l1, l2, l3, l4, l5, l6, l7, l8, l9, l10, l11, l12] st h = ex d 171 169 [some (.ref a), l1, l2, l3, l4, l5, l6, l7, l8, l9, l10, l11, l12] (.ref a :: st) h := (ex_of d171_168 (d) [some (.ref a), l1, l2, l3, l4, l5, l6, l7, l8, l9, l10, l11, l12] st h).trans (rfl)
theorem d171_169 : decode (mB 171) 169 = .ok (.getfield 28, 3) := by decide +kernel
theorem x171_169 {d : Nat} {L : Lc} {st : List Value} {a : Nat} {h : Hp} (ht : (h.2.1 a).1 = 11) : ex (d) 171 169 L (.ref a :: st) h = ex d 171 172 L (h.1 a 9 :: st) h := (ex_of d171_169 (d) L (.ref a :: st) h).trans (fin_get (mi := 171) f11_28 (tg1 ht rfl))
theorem d171_172 : decode (mB 171) 172 = .ok (.iload 5, 2) := by decide +kernel
theorem x171_172 {d : Nat} {l0 l1 l2 l3 l4 l6 l7 l8 l9 l10 l11 l12 : Option Value} {st : List Value} {x : Int32} {h : Hp} : ex (d) 171 172 [l0, l1, l2, l3, l4, some (.int x), l6, l7, l8, l9, l10, l11, l12] st h = ex d 171 174 [l0, l1, l2, l3, l4, some (.int x), l6, l7, l8, l9, l10, l11, l12] (.int x :: st) h := (ex_of d171_172 (d) [l0, l1, l2, l3, l4, some (.int x), l6, l7, l8, l9, l10, l11, l12] st h).trans (rfl)
theorem d171_174 : decode (mB 171) 174 = .ok (.lload 6, 2) := by decide +kernel
theorem x171_174 {d : Nat} {l0 l1 l2 l3 l4 l5 l7 l8 l9 l10 l11 l12 : Option Value} {st : List Value} {x : Int64} {h : Hp} : ex (d) 171 174 [l0, l1, l2, l3, l4, l5, some (.long x), l7, l8, l9, l10, l11, l12] st h = ex d 171 176 [l0, l1, l2, l3, l4, l5, some (.long x), l7, l8, l9, l10, l11, l12] (.long x :: st) h := (ex_of d171_174 (d) [l0, l1, l2, l3, l4, l5, some (.long x), l7, l8, l9, l10, l11, l12] st h).trans (rfl)
theorem d171_176 : decode (mB 171) 176 = .ok (.l2i, 1) := by decide +kernel
theorem x171_176 {d : Nat} {L : Lc} {st : List Value} {x : Int64} {h : Hp} : ex (d) 171 176 L (.long x :: st) h = ex d 171 177 L (.int x.toInt32 :: st) h := (ex_of d171_176 (d) L (.long x :: st) h).trans (rfl)
theorem d171_177 : decode (mB 171) 177 = .ok (.iastore, 1) := by decide +kernel
theorem x171_177 {d : Nat} {L : Lc} {st : List Value} {a j : Nat} {x : Int32} {h : Hp} (ht : (h.2.1 a).1 = 20) (hj : j < (h.2.1 a).2) (hb : j < 2147483648) : ex (d) 171 177 L (.int x :: .int (nI j) :: .ref a :: st) h = ex d 171 178 L st (mup h.1 a j (.int x), h.2) := (ex_of d171_177 (d) L (.int x :: .int (nI j) :: .ref a :: st) h).trans (fin_iastore ht hj hb)
theorem d171_178 : decode (mB 171) 178 = .ok (.aload_n 0, 1) := by decide +kernel
theorem x171_178 {d : Nat} {l1 l2 l3 l4 l5 l6 l7 l8 l9 l10 l11 l12 : Option Value} {st : List Value} {a : Nat} {h : Hp} : ex (d) 171 178 [some (.ref a), l1, l2, l3, l4, l5, l6, l7, l8, l9, l10, l11, l12] st h = ex d 171 179 [some (.ref a), l1, l2, l3, l4, l5, l6, l7, l8, l9, l10, l11, l12] (.ref a :: st) h := (ex_of d171_178 (d) [some (.ref a), l1, l2, l3, l4, l5, l6, l7, l8, l9, l10, l11, l12] st h).trans (rfl)
theorem d171_179 : decode (mB 171) 179 = .ok (.getfield 34, 3) := by decide +kernel
theorem x171_179 {d : Nat} {L : Lc} {st : List Value} {a : Nat} {h : Hp} (ht : (h.2.1 a).1 = 11) : ex (d) 171 179 L (.ref a :: st) h = ex d 171 182 L (h.1 a 11 :: st) h := (ex_of d171_179 (d) L (.ref a :: st) h).trans (fin_get (mi := 171) f11_34 (tg1 ht rfl))
theorem d171_182 : decode (mB 171) 182 = .ok (.iload 5, 2) := by decide +kernel
theorem x171_182 {d : Nat} {l0 l1 l2 l3 l4 l6 l7 l8 l9 l10 l11 l12 : Option Value} {st : List Value} {x : Int32} {h : Hp} : ex (d) 171 182 [l0, l1, l2, l3, l4, some (.int x), l6, l7, l8, l9, l10, l11, l12] st h = ex d 171 184 [l0, l1, l2, l3, l4, some (.int x), l6, l7, l8, l9, l10, l11, l12] (.int x :: st) h := (ex_of d171_182 (d) [l0, l1, l2, l3, l4, some (.int x), l6, l7, l8, l9, l10, l11, l12] st h).trans (rfl)
theorem d171_184 : decode (mB 171) 184 = .ok (.lload 8, 2) := by decide +kernel
theorem x171_184 {d : Nat} {l0 l1 l2 l3 l4 l5 l6 l7 l9 l10 l11 l12 : Option Value} {st : List Value} {x : Int64} {h : Hp} : ex (d) 171 184 [l0, l1, l2, l3, l4, l5, l6, l7, some (.long x), l9, l10, l11, l12] st h = ex d 171 186 [l0, l1, l2, l3, l4, l5, l6, l7, some (.long x), l9, l10, l11, l12] (.long x :: st) h := (ex_of d171_184 (d) [l0, l1, l2, l3, l4, l5, l6, l7, some (.long x), l9, l10, l11, l12] st h).trans (rfl)
theorem d171_186 : decode (mB 171) 186 = .ok (.l2i, 1) := by decide +kernel
theorem x171_186 {d : Nat} {L : Lc} {st : List Value} {x : Int64} {h : Hp} : ex (d) 171 186 L (.long x :: st) h = ex d 171 187 L (.int x.toInt32 :: st) h := (ex_of d171_186 (d) L (.long x :: st) h).trans (rfl)
theorem d171_187 : decode (mB 171) 187 = .ok (.iastore, 1) := by decide +kernel
theorem x171_187 {d : Nat} {L : Lc} {st : List Value} {a j : Nat} {x : Int32} {h : Hp} (ht : (h.2.1 a).1 = 20) (hj : j < (h.2.1 a).2) (hb : j < 2147483648) : ex (d) 171 187 L (.int x :: .int (nI j) :: .ref a :: st) h = ex d 171 188 L st (mup h.1 a j (.int x), h.2) := (ex_of d171_187 (d) L (.int x :: .int (nI j) :: .ref a :: st) h).trans (fin_iastore ht hj hb)
theorem d171_188 : decode (mB 171) 188 = .ok (.aload_n 0, 1) := by decide +kernel
theorem x171_188 {d : Nat} {l1 l2 l3 l4 l5 l6 l7 l8 l9 l10 l11 l12 : Option Value} {st : List Value} {a : Nat} {h : Hp} : ex (d) 171 188 [some (.ref a), l1, l2, l3, l4, l5, l6, l7, l8, l9, l10, l11, l12] st h = ex d 171 189 [some (.ref a), l1, l2, l3, l4, l5, l6, l7, l8, l9, l10, l11, l12] (.ref a :: st) h := (ex_of d171_188 (d) [some (.ref a), l1, l2, l3, l4, l5, l6, l7, l8, l9, l10, l11, l12] st h).trans (rfl)
theorem d171_189 : decode (mB 171) 189 = .ok (.getfield 31, 3) := by decide +kernel
theorem x171_189 {d : Nat} {L : Lc} {st : List Value} {a : Nat} {h : Hp} (ht : (h.2.1 a).1 = 11) : ex (d) 171 189 L (.ref a :: st) h = ex d 171 192 L (h.1 a 10 :: st) h := (ex_of d171_189 (d) L (.ref a :: st) h).trans (fin_get (mi := 171) f11_31 (tg1 ht rfl))
theorem d171_192 : decode (mB 171) 192 = .ok (.iload 5, 2) := by decide +kernel
theorem x171_192 {d : Nat} {l0 l1 l2 l3 l4 l6 l7 l8 l9 l10 l11 l12 : Option Value} {st : List Value} {x : Int32} {h : Hp} : ex (d) 171 192 [l0, l1, l2, l3, l4, some (.int x), l6, l7, l8, l9, l10, l11, l12] st h = ex d 171 194 [l0, l1, l2, l3, l4, some (.int x), l6, l7, l8, l9, l10, l11, l12] (.int x :: st) h := (ex_of d171_192 (d) [l0, l1, l2, l3, l4, some (.int x), l6, l7, l8, l9, l10, l11, l12] st h).trans (rfl)
theorem d171_194 : decode (mB 171) 194 = .ok (.lload 10, 2) := by decide +kernel
theorem x171_194 {d : Nat} {l0 l1 l2 l3 l4 l5 l6 l7 l8 l9 l11 l12 : Option Value} {st : List Value} {x : Int64} {h : Hp} : ex (d) 171 194 [l0, l1, l2, l3, l4, l5, l6, l7, l8, l9, some (.long x), l11, l12] st h = ex d 171 196 [l0, l1, l2, l3, l4, l5, l6, l7, l8, l9, some (.long x), l11, l12] (.long x :: st) h := (ex_of d171_194 (d) [l0, l1, l2, l3, l4, l5, l6, l7, l8, l9, some (.long x), l11, l12] st h).trans (rfl)
theorem d171_196 : decode (mB 171) 196 = .ok (.l2i, 1) := by decide +kernel
theorem x171_196 {d : Nat} {L : Lc} {st : List Value} {x : Int64} {h : Hp} : ex (d) 171 196 L (.long x :: st) h = ex d 171 197 L (.int x.toInt32 :: st) h := (ex_of d171_196 (d) L (.long x :: st) h).trans (rfl)
theorem d171_197 : decode (mB 171) 197 = .ok (.iastore, 1) := by decide +kernel
theorem x171_197 {d : Nat} {L : Lc} {st : List Value} {a j : Nat} {x : Int32} {h : Hp} (ht : (h.2.1 a).1 = 20) (hj : j < (h.2.1 a).2) (hb : j < 2147483648) : ex (d) 171 197 L (.int x :: .int (nI j) :: .ref a :: st) h = ex d 171 198 L st (mup h.1 a j (.int x), h.2) := (ex_of d171_197 (d) L (.int x :: .int (nI j) :: .ref a :: st) h).trans (fin_iastore ht hj hb)
theorem d171_198 : decode (mB 171) 198 = .ok (.aload_n 0, 1) := by decide +kernel
theorem x171_198 {d : Nat} {l1 l2 l3 l4 l5 l6 l7 l8 l9 l10 l11 l12 : Option Value} {st : List Value} {a : Nat} {h : Hp} : ex (d) 171 198 [some (.ref a), l1, l2, l3, l4, l5, l6, l7, l8, l9, l10, l11, l12] st h = ex d 171 199 [some (.ref a), l1, l2, l3, l4, l5, l6, l7, l8, l9, l10, l11, l12] (.ref a :: st) h := (ex_of d171_198 (d) [some (.ref a), l1, l2, l3, l4, l5, l6, l7, l8, l9, l10, l11, l12] st h).trans (rfl)
theorem d171_199 : decode (mB 171) 199 = .ok (.dup, 1) := by decide +kernel
theorem x171_199 {d : Nat} {L : Lc} {st : List Value} {a : Nat} {h : Hp} : ex (d) 171 199 L (.ref a :: st) h = ex d 171 200 L (.ref a :: .ref a :: st) h := (ex_of d171_199 (d) L (.ref a :: st) h).trans (rfl)
theorem x171_199i {d : Nat} {L : Lc} {st : List Value} {x : Int32} {h : Hp} : ex (d) 171 199 L (.int x :: st) h = ex d 171 200 L (.int x :: .int x :: st) h := (ex_of d171_199 (d) L (.int x :: st) h).trans (rfl)
theorem d171_200 : decode (mB 171) 200 = .ok (.getfield 171, 3) := by decide +kernel
theorem x171_200 {d : Nat} {L : Lc} {st : List Value} {a : Nat} {h : Hp} (ht : (h.2.1 a).1 = 11) : ex (d) 171 200 L (.ref a :: st) h = ex d 171 203 L (h.1 a 18 :: st) h := (ex_of d171_200 (d) L (.ref a :: st) h).trans (fin_get (mi := 171) f11_171 (tg1 ht rfl))
theorem d171_203 : decode (mB 171) 203 = .ok (.iload 12, 2) := by decide +kernel
theorem x171_203 {d : Nat} {l0 l1 l2 l3 l4 l5 l6 l7 l8 l9 l10 l11 : Option Value} {st : List Value} {x : Int32} {h : Hp} : ex (d) 171 203 [l0, l1, l2, l3, l4, l5, l6, l7, l8, l9, l10, l11, some (.int x)] st h = ex d 171 205 [l0, l1, l2, l3, l4, l5, l6, l7, l8, l9, l10, l11, some (.int x)] (.int x :: st) h := (ex_of d171_203 (d) [l0, l1, l2, l3, l4, l5, l6, l7, l8, l9, l10, l11, some (.int x)] st h).trans (rfl)
theorem d171_205 : decode (mB 171) 205 = .ok (.iadd, 1) := by decide +kernel
theorem x171_205 {d : Nat} {L : Lc} {st : List Value} {x y : Int32} {h : Hp} : ex (d) 171 205 L (.int y :: .int x :: st) h = ex d 171 206 L (.int (x + y) :: st) h := (ex_of d171_205 (d) L (.int y :: .int x :: st) h).trans (rfl)
theorem d171_206 : decode (mB 171) 206 = .ok (.putfield 171, 3) := by decide +kernel
theorem x171_206 {d : Nat} {L : Lc} {st : List Value} {a : Nat} {x : Int32} {h : Hp} (ht : (h.2.1 a).1 = 11) : ex (d) 171 206 L (.int x :: .ref a :: st) h = ex d 171 209 L st (mup h.1 a 18 (.int x), h.2) := (ex_of d171_206 (d) L (.int x :: .ref a :: st) h).trans (fin_put (mi := 171) f11_171 ht rfl rfl (by decide +kernel))
theorem d171_209 : decode (mB 171) 209 = .ok (.aload_n 0, 1) := by decide +kernel
theorem x171_209 {d : Nat} {l1 l2 l3 l4 l5 l6 l7 l8 l9 l10 l11 l12 : Option Value} {st : List Value} {a : Nat} {h : Hp} : ex (d) 171 209 [some (.ref a), l1, l2, l3, l4, l5, l6, l7, l8, l9, l10, l11, l12] st h = ex d 171 210 [some (.ref a), l1, l2, l3, l4, l5, l6, l7, l8, l9, l10, l11, l12] (.ref a :: st) h := (ex_of d171_209 (d) [some (.ref a), l1, l2, l3, l4, l5, l6, l7, l8, l9, l10, l11, l12] st h).trans (rfl)
theorem d171_210 : decode (mB 171) 210 = .ok (.iload 12, 2) := by decide +kernel
theorem x171_210 {d : Nat} {l0 l1 l2 l3 l4 l5 l6 l7 l8 l9 l10 l11 : Option Value} {st : List Value} {x : Int32} {h : Hp} : ex (d) 171 210 [l0, l1, l2, l3, l4, l5, l6, l7, l8, l9, l10, l11, some (.int x)] st h = ex d 171 212 [l0, l1, l2, l3, l4, l5, l6, l7, l8, l9, l10, l11, some (.int x)] (.int x :: st) h := (ex_of d171_210 (d) [l0, l1, l2, l3, l4, l5, l6, l7, l8, l9, l10, l11, some (.int x)] st h).trans (rfl)
theorem d171_212 : decode (mB 171) 212 = .ok (.invokevirtual 113, 3) := by decide +kernel
theorem x171_212 {d : Nat} {L : Lc} {a : Nat} {v0 : Int32} {h : Hp} (ht : (h.2.1 a).1 = 11) : ex (d + 1) 171 212 L (.int v0 :: .ref a :: []) h = bnd (ex d 134 0 [some (.ref a), some (.int v0)] [] h) (fun v h' => ex (d + 1) 171 215 L (v.toList ++ []) h') := (ex_of d171_212 (d + 1) L (.int v0 :: .ref a :: []) h).trans (fin_vi (mi := 171) i11_113 ht rfl rfl (by simp [cat1_i, cat1_r]) (by simp) (Nat.le_of_ble_eq_true rfl))
theorem d171_215 : decode (mB 171) 215 = .ok (.ireturn, 1) := by decide +kernel
theorem x171_215 {d : Nat} {L : Lc} {x : Int32} {h : Hp} : ex (d) 171 215 L [.int x] h = some (some (.int x), h) := (ex_of d171_215 (d) L [.int x] h).trans (rfl)
theorem d172_0 : decode (mB 172) 0 = .ok (.aload_n 0, 1) := by decide +kernel
theorem x172_0 {d : Nat} {l1 l2 l3 l4 l5 : Option Value} {st : List Value} {a : Nat} {h : Hp} : ex (d) 172 0 [some (.ref a), l1, l2, l3, l4, l5] st h = ex d 172 1 [some (.ref a), l1, l2, l3, l4, l5] (.ref a :: st) h := (ex_of d172_0 (d) [some (.ref a), l1, l2, l3, l4, l5] st h).trans (rfl)
theorem d172_1 : decode (mB 172) 1 = .ok (.iload_n 1, 1) := by decide +kernel
theorem x172_1 {d : Nat} {l0 l2 l3 l4 l5 : Option Value} {st : List Value} {x : Int32} {h : Hp} : ex (d) 172 1 [l0, some (.int x), l2, l3, l4, l5] st h = ex d 172 2 [l0, some (.int x), l2, l3, l4, l5] (.int x :: st) h := (ex_of d172_1 (d) [l0, some (.int x), l2, l3, l4, l5] st h).trans (rfl)
theorem d172_2 : decode (mB 172) 2 = .ok (.iload_n 2, 1) := by decide +kernel
theorem x172_2 {d : Nat} {l0 l1 l3 l4 l5 : Option Value} {st : List Value} {x : Int32} {h : Hp} : ex (d) 172 2 [l0, l1, some (.int x), l3, l4, l5] st h = ex d 172 3 [l0, l1, some (.int x), l3, l4, l5] (.int x :: st) h := (ex_of d172_2 (d) [l0, l1, some (.int x), l3, l4, l5] st h).trans (rfl)
theorem d172_3 : decode (mB 172) 3 = .ok (.invokevirtual 177, 3) := by decide +kernel
theorem x172_3 {d : Nat} {L : Lc} {a : Nat} {v0 : Int32} {v1 : Int32} {h : Hp} (ht : (h.2.1 a).1 = 11) : ex (d + 1) 172 3 L (.int v1 :: .int v0 :: .ref a :: []) h = bnd (ex d 166 0 [some (.ref a), some (.int v0), some (.int v1)] [] h) (fun v h' => ex (d + 1) 172 6 L (v.toList ++ []) h') := (ex_of d172_3 (d + 1) L (.int v1 :: .int v0 :: .ref a :: []) h).trans (fin_vi (mi := 172) i11_177 ht rfl rfl (by simp [cat1_i, cat1_r]) (by simp) (Nat.le_of_ble_eq_true rfl))
theorem d172_6 : decode (mB 172) 6 = .ok (.istore 4, 2) := by decide +kernel
theorem x172_6 {d : Nat} {l0 l1 l2 l3 l4 l5 : Option Value} {st : List Value} {x : Int32} {h : Hp} : ex (d) 172 6 [l0, l1, l2, l3, l4, l5] (.int x :: st) h = ex d 172 8 [l0, l1, l2, clr l3, some (.int x), l5] st h := (ex_of d172_6 (d) [l0, l1, l2, l3, l4, l5] (.int x :: st) h).trans (rfl)
theorem d172_8 : decode (mB 172) 8 = .ok (.iload 4, 2) := by decide +kernel
theorem x172_8 {d : Nat} {l0 l1 l2 l3 l5 : Option Value} {st : List Value} {x : Int32} {h : Hp} : ex (d) 172 8 [l0, l1, l2, l3, some (.int x), l5] st h = ex d 172 10 [l0, l1, l2, l3, some (.int x), l5] (.int x :: st) h := (ex_of d172_8 (d) [l0, l1, l2, l3, some (.int x), l5] st h).trans (rfl)
theorem d172_10 : decode (mB 172) 10 = .ok (.ifCond .le 10, 3) := by decide +kernel
theorem x172_10 {d : Nat} {L : Lc} {st : List Value} {x : Int32} {h : Hp} : ex (d) 172 10 L (.int x :: st) h = if x ≤ 0 then ex d 172 20 L st h else ex d 172 13 L st h := (ex_of d172_10 (d) L (.int x :: st) h).trans (fin_brq (off := 10) (tgt := 20) rfl (by decide))
theorem d172_13 : decode (mB 172) 13 = .ok (.aload_n 0, 1) := by decide +kernel
theorem x172_13 {d : Nat} {l1 l2 l3 l4 l5 : Option Value} {st : List Value} {a : Nat} {h : Hp} : ex (d) 172 13 [some (.ref a), l1, l2, l3, l4, l5] st h = ex d 172 14 [some (.ref a), l1, l2, l3, l4, l5] (.ref a :: st) h := (ex_of d172_13 (d) [some (.ref a), l1, l2, l3, l4, l5] st h).trans (rfl)
theorem d172_14 : decode (mB 172) 14 = .ok (.iload 4, 2) := by decide +kernel
theorem x172_14 {d : Nat} {l0 l1 l2 l3 l5 : Option Value} {st : List Value} {x : Int32} {h : Hp} : ex (d) 172 14 [l0, l1, l2, l3, some (.int x), l5] st h = ex d 172 16 [l0, l1, l2, l3, some (.int x), l5] (.int x :: st) h := (ex_of d172_14 (d) [l0, l1, l2, l3, some (.int x), l5] st h).trans (rfl)
theorem d172_16 : decode (mB 172) 16 = .ok (.invokevirtual 109, 3) := by decide +kernel
theorem x172_16 {d : Nat} {L : Lc} {a : Nat} {v0 : Int32} {h : Hp} (ht : (h.2.1 a).1 = 11) : ex (d + 1) 172 16 L (.int v0 :: .ref a :: []) h = bnd (ex d 135 0 [some (.ref a), some (.int v0)] [] h) (fun v h' => ex (d + 1) 172 19 L (v.toList ++ []) h') := (ex_of d172_16 (d + 1) L (.int v0 :: .ref a :: []) h).trans (fin_vi (mi := 172) i11_109 ht rfl rfl (by simp [cat1_i, cat1_r]) (by simp) (Nat.le_of_ble_eq_true rfl))
theorem d172_19 : decode (mB 172) 19 = .ok (.ireturn, 1) := by decide +kernel
theorem x172_19 {d : Nat} {L : Lc} {x : Int32} {h : Hp} : ex (d) 172 19 L [.int x] h = some (some (.int x), h) := (ex_of d172_19 (d) L [.int x] h).trans (rfl)
theorem d172_20 : decode (mB 172) 20 = .ok (.iload_n 3, 1) := by decide +kernel
theorem x172_20 {d : Nat} {l0 l1 l2 l4 l5 : Option Value} {st : List Value} {x : Int32} {h : Hp} : ex (d) 172 20 [l0, l1, l2, some (.int x), l4, l5] st h = ex d 172 21 [l0, l1, l2, some (.int x), l4, l5] (.int x :: st) h := (ex_of d172_20 (d) [l0, l1, l2, some (.int x), l4, l5] st h).trans (rfl)
theorem d172_21 : decode (mB 172) 21 = .ok (.iconst 0, 1) := by decide +kernel
theorem x172_21 {d : Nat} {L : Lc} {st : List Value} {h : Hp} : ex (d) 172 21 L st h = ex d 172 22 L (.int (nI 0) :: st) h := (ex_of d172_21 (d) L st h).trans (rfl)
theorem d172_22 : decode (mB 172) 22 = .ok (.iconst 2, 1) := by decide +kernel
theorem x172_22 {d : Nat} {L : Lc} {st : List Value} {h : Hp} : ex (d) 172 22 L st h = ex d 172 23 L (.int (nI 2) :: st) h := (ex_of d172_22 (d) L st h).trans (rfl)
theorem d172_23 : decode (mB 172) 23 = .ok (.invokestatic 101, 3) := by decide +kernel
theorem x172_23 {d : Nat} {L : Lc}  {v0 : Int32} {v1 : Int32} {v2 : Int32} {h : Hp} : ex (d + 1) 172 23 L (.int v2 :: .int v1 :: .int v0 :: []) h = bnd (ex d 137 0 [some (.int v0), some (.int v1), some (.int v2)] [] h) (fun v h' => ex (d + 1) 172 26 L (v.toList ++ []) h') := (ex_of d172_23 (d + 1) L (.int v2 :: .int v1 :: .int v0 :: []) h).trans (fin_st (mi := 172) i11_101 (Or.inl rfl) (by simp) (by simp [cat1_i, cat1_r]) (by simp) (Nat.le_of_ble_eq_true rfl))
theorem d172_26 : decode (mB 172) 26 = .ok (.ifCond .ne 10, 3) := by decide +kernel
theorem x172_26 {d : Nat} {L : Lc} {st : List Value} {x : Int32} {h : Hp} : ex (d) 172 26 L (.int x :: st) h = if ¬ x = 0 then ex d 172 36 L st h else ex d 172 29 L st h := (ex_of d172_26 (d) L (.int x :: st) h).trans (fin_brq (off := 10) (tgt := 36) rfl (by decide))
theorem d172_29 : decode (mB 172) 29 = .ok (.aload_n 0, 1) := by decide +kernel
theorem x172_29 {d : Nat} {l1 l2 l3 l4 l5 : Option Value} {st : List Value} {a : Nat} {h : Hp} : ex (d) 172 29 [some (.ref a), l1, l2, l3, l4, l5] st h = ex d 172 30 [some (.ref a), l1, l2, l3, l4, l5] (.ref a :: st) h := (ex_of d172_29 (d) [some (.ref a), l1, l2, l3, l4, l5] st h).trans (rfl)
theorem d172_30 : decode (mB 172) 30 = .ok (.bipush 6, 2) := by decide +kernel
theorem x172_30 {d : Nat} {L : Lc} {st : List Value} {h : Hp} : ex (d) 172 30 L st h = ex d 172 32 L (.int (nI 6) :: st) h := (ex_of d172_30 (d) L st h).trans (rfl)
theorem d172_32 : decode (mB 172) 32 = .ok (.invokevirtual 109, 3) := by decide +kernel
theorem x172_32 {d : Nat} {L : Lc} {a : Nat} {v0 : Int32} {h : Hp} (ht : (h.2.1 a).1 = 11) : ex (d + 1) 172 32 L (.int v0 :: .ref a :: []) h = bnd (ex d 135 0 [some (.ref a), some (.int v0)] [] h) (fun v h' => ex (d + 1) 172 35 L (v.toList ++ []) h') := (ex_of d172_32 (d + 1) L (.int v0 :: .ref a :: []) h).trans (fin_vi (mi := 172) i11_109 ht rfl rfl (by simp [cat1_i, cat1_r]) (by simp) (Nat.le_of_ble_eq_true rfl))
theorem d172_35 : decode (mB 172) 35 = .ok (.ireturn, 1) := by decide +kernel
theorem x172_35 {d : Nat} {L : Lc} {x : Int32} {h : Hp} : ex (d) 172 35 L [.int x] h = some (some (.int x), h) := (ex_of d172_35 (d) L [.int x] h).trans (rfl)
theorem d172_36 : decode (mB 172) 36 = .ok (.bipush 6, 2) := by decide +kernel
theorem x172_36 {d : Nat} {L : Lc} {st : List Value} {h : Hp} : ex (d) 172 36 L st h = ex d 172 38 L (.int (nI 6) :: st) h := (ex_of d172_36 (d) L st h).trans (rfl)
theorem d172_38 : decode (mB 172) 38 = .ok (.iload_n 1, 1) := by decide +kernel
theorem x172_38 {d : Nat} {l0 l2 l3 l4 l5 : Option Value} {st : List Value} {x : Int32} {h : Hp} : ex (d) 172 38 [l0, some (.int x), l2, l3, l4, l5] st h = ex d 172 39 [l0, some (.int x), l2, l3, l4, l5] (.int x :: st) h := (ex_of d172_38 (d) [l0, some (.int x), l2, l3, l4, l5] st h).trans (rfl)
theorem d172_39 : decode (mB 172) 39 = .ok (.imul, 1) := by decide +kernel
theorem x172_39 {d : Nat} {L : Lc} {st : List Value} {x y : Int32} {h : Hp} : ex (d) 172 39 L (.int y :: .int x :: st) h = ex d 172 40 L (.int (x * y) :: st) h := (ex_of d172_39 (d) L (.int y :: .int x :: st) h).trans (rfl)
theorem d172_40 : decode (mB 172) 40 = .ok (.iload_n 2, 1) := by decide +kernel
theorem x172_40 {d : Nat} {l0 l1 l3 l4 l5 : Option Value} {st : List Value} {x : Int32} {h : Hp} : ex (d) 172 40 [l0, l1, some (.int x), l3, l4, l5] st h = ex d 172 41 [l0, l1, some (.int x), l3, l4, l5] (.int x :: st) h := (ex_of d172_40 (d) [l0, l1, some (.int x), l3, l4, l5] st h).trans (rfl)
theorem d172_41 : decode (mB 172) 41 = .ok (.iadd, 1) := by decide +kernel
theorem x172_41 {d : Nat} {L : Lc} {st : List Value} {x y : Int32} {h : Hp} : ex (d) 172 41 L (.int y :: .int x :: st) h = ex d 172 42 L (.int (x + y) :: st) h := (ex_of d172_41 (d) L (.int y :: .int x :: st) h).trans (rfl)
theorem d172_42 : decode (mB 172) 42 = .ok (.istore 5, 2) := by decide +kernel
theorem x172_42 {d : Nat} {l0 l1 l2 l3 l4 l5 : Option Value} {st : List Value} {x : Int32} {h : Hp} : ex (d) 172 42 [l0, l1, l2, l3, l4, l5] (.int x :: st) h = ex d 172 44 [l0, l1, l2, l3, clr l4, some (.int x)] st h := (ex_of d172_42 (d) [l0, l1, l2, l3, l4, l5] (.int x :: st) h).trans (rfl)
theorem d172_44 : decode (mB 172) 44 = .ok (.aload_n 0, 1) := by decide +kernel
theorem x172_44 {d : Nat} {l1 l2 l3 l4 l5 : Option Value} {st : List Value} {a : Nat} {h : Hp} : ex (d) 172 44 [some (.ref a), l1, l2, l3, l4, l5] st h = ex d 172 45 [some (.ref a), l1, l2, l3, l4, l5] (.ref a :: st) h := (ex_of d172_44 (d) [some (.ref a), l1, l2, l3, l4, l5] st h).trans (rfl)
theorem d172_45 : decode (mB 172) 45 = .ok (.iload_n 3, 1) := by decide +kernel
theorem x172_45 {d : Nat} {l0 l1 l2 l4 l5 : Option Value} {st : List Value} {x : Int32} {h : Hp} : ex (d) 172 45 [l0, l1, l2, some (.int x), l4, l5] st h = ex d 172 46 [l0, l1, l2, some (.int x), l4, l5] (.int x :: st) h := (ex_of d172_45 (d) [l0, l1, l2, some (.int x), l4, l5] st h).trans (rfl)
theorem d172_46 : decode (mB 172) 46 = .ok (.ifCond .ne 13, 3) := by decide +kernel
theorem x172_46 {d : Nat} {L : Lc} {st : List Value} {x : Int32} {h : Hp} : ex (d) 172 46 L (.int x :: st) h = if ¬ x = 0 then ex d 172 59 L st h else ex d 172 49 L st h := (ex_of d172_46 (d) L (.int x :: st) h).trans (fin_brq (off := 13) (tgt := 59) rfl (by decide))
theorem d172_49 : decode (mB 172) 49 = .ok (.aload_n 0, 1) := by decide +kernel
theorem x172_49 {d : Nat} {l1 l2 l3 l4 l5 : Option Value} {st : List Value} {a : Nat} {h : Hp} : ex (d) 172 49 [some (.ref a), l1, l2, l3, l4, l5] st h = ex d 172 50 [some (.ref a), l1, l2, l3, l4, l5] (.ref a :: st) h := (ex_of d172_49 (d) [some (.ref a), l1, l2, l3, l4, l5] st h).trans (rfl)
theorem d172_50 : decode (mB 172) 50 = .ok (.getfield 28, 3) := by decide +kernel
theorem x172_50 {d : Nat} {L : Lc} {st : List Value} {a : Nat} {h : Hp} (ht : (h.2.1 a).1 = 11) : ex (d) 172 50 L (.ref a :: st) h = ex d 172 53 L (h.1 a 9 :: st) h := (ex_of d172_50 (d) L (.ref a :: st) h).trans (fin_get (mi := 172) f11_28 (tg1 ht rfl))
theorem d172_53 : decode (mB 172) 53 = .ok (.iload 5, 2) := by decide +kernel
theorem x172_53 {d : Nat} {l0 l1 l2 l3 l4 : Option Value} {st : List Value} {x : Int32} {h : Hp} : ex (d) 172 53 [l0, l1, l2, l3, l4, some (.int x)] st h = ex d 172 55 [l0, l1, l2, l3, l4, some (.int x)] (.int x :: st) h := (ex_of d172_53 (d) [l0, l1, l2, l3, l4, some (.int x)] st h).trans (rfl)
theorem d172_55 : decode (mB 172) 55 = .ok (.iaload, 1) := by decide +kernel
theorem x172_55 {d : Nat} {L : Lc} {st : List Value} {a j : Nat} {h : Hp} (ht : (h.2.1 a).1 = 20) (hj : j < (h.2.1 a).2) (hb : j < 2147483648) : ex (d) 172 55 L (.int (nI j) :: .ref a :: st) h = ex d 172 56 L (h.1 a j :: st) h := (ex_of d172_55 (d) L (.int (nI j) :: .ref a :: st) h).trans (fin_iaload (Or.inl ht) hj hb)
theorem d172_56 : decode (mB 172) 56 = .ok (.goto 25, 3) := by decide +kernel
theorem x172_56 {d : Nat} {L : Lc} {st : List Value} {h : Hp} : ex (d) 172 56 L st h = ex d 172 81 L st h := (ex_of d172_56 (d) L st h).trans (rfl)
theorem d172_59 : decode (mB 172) 59 = .ok (.iload_n 3, 1) := by decide +kernel
theorem x172_59 {d : Nat} {l0 l1 l2 l4 l5 : Option Value} {st : List Value} {x : Int32} {h : Hp} : ex (d) 172 59 [l0, l1, l2, some (.int x), l4, l5] st h = ex d 172 60 [l0, l1, l2, some (.int x), l4, l5] (.int x :: st) h := (ex_of d172_59 (d) [l0, l1, l2, some (.int x), l4, l5] st h).trans (rfl)
theorem d172_60 : decode (mB 172) 60 = .ok (.iconst 1, 1) := by decide +kernel
theorem x172_60 {d : Nat} {L : Lc} {st : List Value} {h : Hp} : ex (d) 172 60 L st h = ex d 172 61 L (.int (nI 1) :: st) h := (ex_of d172_60 (d) L st h).trans (rfl)
theorem d172_61 : decode (mB 172) 61 = .ok (.if_icmp .ne 13, 3) := by decide +kernel
theorem x172_61 {d : Nat} {L : Lc} {st : List Value} {x y : Int32} {h : Hp} : ex (d) 172 61 L (.int y :: .int x :: st) h = if ¬ x = y then ex d 172 74 L st h else ex d 172 64 L st h := (ex_of d172_61 (d) L (.int y :: .int x :: st) h).trans (fin_brq (off := 13) (tgt := 74) rfl (by decide))
theorem d172_64 : decode (mB 172) 64 = .ok (.aload_n 0, 1) := by decide +kernel
theorem x172_64 {d : Nat} {l1 l2 l3 l4 l5 : Option Value} {st : List Value} {a : Nat} {h : Hp} : ex (d) 172 64 [some (.ref a), l1, l2, l3, l4, l5] st h = ex d 172 65 [some (.ref a), l1, l2, l3, l4, l5] (.ref a :: st) h := (ex_of d172_64 (d) [some (.ref a), l1, l2, l3, l4, l5] st h).trans (rfl)
theorem d172_65 : decode (mB 172) 65 = .ok (.getfield 31, 3) := by decide +kernel
theorem x172_65 {d : Nat} {L : Lc} {st : List Value} {a : Nat} {h : Hp} (ht : (h.2.1 a).1 = 11) : ex (d) 172 65 L (.ref a :: st) h = ex d 172 68 L (h.1 a 10 :: st) h := (ex_of d172_65 (d) L (.ref a :: st) h).trans (fin_get (mi := 172) f11_31 (tg1 ht rfl))
theorem d172_68 : decode (mB 172) 68 = .ok (.iload 5, 2) := by decide +kernel
theorem x172_68 {d : Nat} {l0 l1 l2 l3 l4 : Option Value} {st : List Value} {x : Int32} {h : Hp} : ex (d) 172 68 [l0, l1, l2, l3, l4, some (.int x)] st h = ex d 172 70 [l0, l1, l2, l3, l4, some (.int x)] (.int x :: st) h := (ex_of d172_68 (d) [l0, l1, l2, l3, l4, some (.int x)] st h).trans (rfl)
theorem d172_70 : decode (mB 172) 70 = .ok (.iaload, 1) := by decide +kernel
theorem x172_70 {d : Nat} {L : Lc} {st : List Value} {a j : Nat} {h : Hp} (ht : (h.2.1 a).1 = 20) (hj : j < (h.2.1 a).2) (hb : j < 2147483648) : ex (d) 172 70 L (.int (nI j) :: .ref a :: st) h = ex d 172 71 L (h.1 a j :: st) h := (ex_of d172_70 (d) L (.int (nI j) :: .ref a :: st) h).trans (fin_iaload (Or.inl ht) hj hb)
theorem d172_71 : decode (mB 172) 71 = .ok (.goto 10, 3) := by decide +kernel
theorem x172_71 {d : Nat} {L : Lc} {st : List Value} {h : Hp} : ex (d) 172 71 L st h = ex d 172 81 L st h := (ex_of d172_71 (d) L st h).trans (rfl)
theorem d172_74 : decode (mB 172) 74 = .ok (.aload_n 0, 1) := by decide +kernel
theorem x172_74 {d : Nat} {l1 l2 l3 l4 l5 : Option Value} {st : List Value} {a : Nat} {h : Hp} : ex (d) 172 74 [some (.ref a), l1, l2, l3, l4, l5] st h = ex d 172 75 [some (.ref a), l1, l2, l3, l4, l5] (.ref a :: st) h := (ex_of d172_74 (d) [some (.ref a), l1, l2, l3, l4, l5] st h).trans (rfl)
theorem d172_75 : decode (mB 172) 75 = .ok (.getfield 34, 3) := by decide +kernel
theorem x172_75 {d : Nat} {L : Lc} {st : List Value} {a : Nat} {h : Hp} (ht : (h.2.1 a).1 = 11) : ex (d) 172 75 L (.ref a :: st) h = ex d 172 78 L (h.1 a 11 :: st) h := (ex_of d172_75 (d) L (.ref a :: st) h).trans (fin_get (mi := 172) f11_34 (tg1 ht rfl))
theorem d172_78 : decode (mB 172) 78 = .ok (.iload 5, 2) := by decide +kernel
theorem x172_78 {d : Nat} {l0 l1 l2 l3 l4 : Option Value} {st : List Value} {x : Int32} {h : Hp} : ex (d) 172 78 [l0, l1, l2, l3, l4, some (.int x)] st h = ex d 172 80 [l0, l1, l2, l3, l4, some (.int x)] (.int x :: st) h := (ex_of d172_78 (d) [l0, l1, l2, l3, l4, some (.int x)] st h).trans (rfl)
theorem d172_80 : decode (mB 172) 80 = .ok (.iaload, 1) := by decide +kernel
theorem x172_80 {d : Nat} {L : Lc} {st : List Value} {a j : Nat} {h : Hp} (ht : (h.2.1 a).1 = 20) (hj : j < (h.2.1 a).2) (hb : j < 2147483648) : ex (d) 172 80 L (.int (nI j) :: .ref a :: st) h = ex d 172 81 L (h.1 a j :: st) h := (ex_of d172_80 (d) L (.int (nI j) :: .ref a :: st) h).trans (fin_iaload (Or.inl ht) hj hb)
theorem d172_81 : decode (mB 172) 81 = .ok (.invokevirtual 113, 3) := by decide +kernel
theorem x172_81 {d : Nat} {L : Lc} {a : Nat} {v0 : Int32} {h : Hp} (ht : (h.2.1 a).1 = 11) : ex (d + 1) 172 81 L (.int v0 :: .ref a :: []) h = bnd (ex d 134 0 [some (.ref a), some (.int v0)] [] h) (fun v h' => ex (d + 1) 172 84 L (v.toList ++ []) h') := (ex_of d172_81 (d + 1) L (.int v0 :: .ref a :: []) h).trans (fin_vi (mi := 172) i11_113 ht rfl rfl (by simp [cat1_i, cat1_r]) (by simp) (Nat.le_of_ble_eq_true rfl))
theorem d172_84 : decode (mB 172) 84 = .ok (.ireturn, 1) := by decide +kernel
theorem x172_84 {d : Nat} {L : Lc} {x : Int32} {h : Hp} : ex (d) 172 84 L [.int x] h = some (some (.int x), h) := (ex_of d172_84 (d) L [.int x] h).trans (rfl)
theorem d173_0 : decode (mB 173) 0 = .ok (.iload_n 1, 1) := by decide +kernel
theorem x173_0 {d : Nat} {l0 : Option Value} {st : List Value} {x : Int32} {h : Hp} : ex (d) 173 0 [l0, some (.int x)] st h = ex d 173 1 [l0, some (.int x)] (.int x :: st) h := (ex_of d173_0 (d) [l0, some (.int x)] st h).trans (rfl)
theorem d173_1 : decode (mB 173) 1 = .ok (.ifCond .lt 15, 3) := by decide +kernel
theorem x173_1 {d : Nat} {L : Lc} {st : List Value} {x : Int32} {h : Hp} : ex (d) 173 1 L (.int x :: st) h = if x < 0 then ex d 173 16 L st h else ex d 173 4 L st h := (ex_of d173_1 (d) L (.int x :: st) h).trans (fin_brq (off := 15) (tgt := 16) rfl (by decide))
theorem d173_4 : decode (mB 173) 4 = .ok (.iload_n 1, 1) := by decide +kernel
theorem x173_4 {d : Nat} {l0 : Option Value} {st : List Value} {x : Int32} {h : Hp} : ex (d) 173 4 [l0, some (.int x)] st h = ex d 173 5 [l0, some (.int x)] (.int x :: st) h := (ex_of d173_4 (d) [l0, some (.int x)] st h).trans (rfl)
theorem d173_5 : decode (mB 173) 5 = .ok (.aload_n 0, 1) := by decide +kernel
theorem x173_5 {d : Nat} {l1 : Option Value} {st : List Value} {a : Nat} {h : Hp} : ex (d) 173 5 [some (.ref a), l1] st h = ex d 173 6 [some (.ref a), l1] (.ref a :: st) h := (ex_of d173_5 (d) [some (.ref a), l1] st h).trans (rfl)
theorem d173_6 : decode (mB 173) 6 = .ok (.getfield 188, 3) := by decide +kernel
theorem x173_6 {d : Nat} {L : Lc} {st : List Value} {a : Nat} {h : Hp} (ht : (h.2.1 a).1 = 11) : ex (d) 173 6 L (.ref a :: st) h = ex d 173 9 L (h.1 a 19 :: st) h := (ex_of d173_6 (d) L (.ref a :: st) h).trans (fin_get (mi := 173) f11_188 (tg1 ht rfl))
theorem d173_9 : decode (mB 173) 9 = .ok (.if_icmp .ge 7, 3) := by decide +kernel
theorem x173_9 {d : Nat} {L : Lc} {st : List Value} {x y : Int32} {h : Hp} : ex (d) 173 9 L (.int y :: .int x :: st) h = if y ≤ x then ex d 173 16 L st h else ex d 173 12 L st h := (ex_of d173_9 (d) L (.int y :: .int x :: st) h).trans (fin_brq (off := 7) (tgt := 16) rfl (by decide))
theorem d173_12 : decode (mB 173) 12 = .ok (.iconst 1, 1) := by decide +kernel
theorem x173_12 {d : Nat} {L : Lc} {st : List Value} {h : Hp} : ex (d) 173 12 L st h = ex d 173 13 L (.int (nI 1) :: st) h := (ex_of d173_12 (d) L st h).trans (rfl)
theorem d173_13 : decode (mB 173) 13 = .ok (.goto 4, 3) := by decide +kernel
theorem x173_13 {d : Nat} {L : Lc} {st : List Value} {h : Hp} : ex (d) 173 13 L st h = ex d 173 17 L st h := (ex_of d173_13 (d) L st h).trans (rfl)
theorem d173_16 : decode (mB 173) 16 = .ok (.iconst 0, 1) := by decide +kernel
theorem x173_16 {d : Nat} {L : Lc} {st : List Value} {h : Hp} : ex (d) 173 16 L st h = ex d 173 17 L (.int (nI 0) :: st) h := (ex_of d173_16 (d) L st h).trans (rfl)
theorem d173_17 : decode (mB 173) 17 = .ok (.ireturn, 1) := by decide +kernel
theorem x173_17 {d : Nat} {L : Lc} {x : Int32} {h : Hp} (hx : x = 0 ∨ x = 1) : ex (d) 173 17 L [.int x] h = some (some (.int x), h) := (ex_of d173_17 (d) L [.int x] h).trans (fin_retb rfl hx)
theorem d174_0 : decode (mB 174) 0 = .ok (.aload_n 0, 1) := by decide +kernel
theorem x174_0 {d : Nat} {l1 : Option Value} {st : List Value} {a : Nat} {h : Hp} : ex (d) 174 0 [some (.ref a), l1] st h = ex d 174 1 [some (.ref a), l1] (.ref a :: st) h := (ex_of d174_0 (d) [some (.ref a), l1] st h).trans (rfl)
theorem d174_1 : decode (mB 174) 1 = .ok (.getfield 188, 3) := by decide +kernel
theorem x174_1 {d : Nat} {L : Lc} {st : List Value} {a : Nat} {h : Hp} (ht : (h.2.1 a).1 = 11) : ex (d) 174 1 L (.ref a :: st) h = ex d 174 4 L (h.1 a 19 :: st) h := (ex_of d174_1 (d) L (.ref a :: st) h).trans (fin_get (mi := 174) f11_188 (tg1 ht rfl))
theorem d174_4 : decode (mB 174) 4 = .ok (.bipush 40, 2) := by decide +kernel
theorem x174_4 {d : Nat} {L : Lc} {st : List Value} {h : Hp} : ex (d) 174 4 L st h = ex d 174 6 L (.int (nI 40) :: st) h := (ex_of d174_4 (d) L st h).trans (rfl)
theorem d174_6 : decode (mB 174) 6 = .ok (.if_icmp .ne 10, 3) := by decide +kernel
theorem x174_6 {d : Nat} {L : Lc} {st : List Value} {x y : Int32} {h : Hp} : ex (d) 174 6 L (.int y :: .int x :: st) h = if ¬ x = y then ex d 174 16 L st h else ex d 174 9 L st h := (ex_of d174_6 (d) L (.int y :: .int x :: st) h).trans (fin_brq (off := 10) (tgt := 16) rfl (by decide))
theorem d174_9 : decode (mB 174) 9 = .ok (.aload_n 0, 1) := by decide +kernel
theorem x174_9 {d : Nat} {l1 : Option Value} {st : List Value} {a : Nat} {h : Hp} : ex (d) 174 9 [some (.ref a), l1] st h = ex d 174 10 [some (.ref a), l1] (.ref a :: st) h := (ex_of d174_9 (d) [some (.ref a), l1] st h).trans (rfl)
theorem d174_10 : decode (mB 174) 10 = .ok (.bipush 6, 2) := by decide +kernel
theorem x174_10 {d : Nat} {L : Lc} {st : List Value} {h : Hp} : ex (d) 174 10 L st h = ex d 174 12 L (.int (nI 6) :: st) h := (ex_of d174_10 (d) L st h).trans (rfl)
theorem d174_12 : decode (mB 174) 12 = .ok (.invokevirtual 109, 3) := by decide +kernel
theorem x174_12 {d : Nat} {L : Lc} {a : Nat} {v0 : Int32} {h : Hp} (ht : (h.2.1 a).1 = 11) : ex (d + 1) 174 12 L (.int v0 :: .ref a :: []) h = bnd (ex d 135 0 [some (.ref a), some (.int v0)] [] h) (fun v h' => ex (d + 1) 174 15 L (v.toList ++ []) h') := (ex_of d174_12 (d + 1) L (.int v0 :: .ref a :: []) h).trans (fin_vi (mi := 174) i11_109 ht rfl rfl (by simp [cat1_i, cat1_r]) (by simp) (Nat.le_of_ble_eq_true rfl))
theorem d174_15 : decode (mB 174) 15 = .ok (.ireturn, 1) := by decide +kernel
theorem x174_15 {d : Nat} {L : Lc} {x : Int32} {h : Hp} : ex (d) 174 15 L [.int x] h = some (some (.int x), h) := (ex_of d174_15 (d) L [.int x] h).trans (rfl)
theorem d174_16 : decode (mB 174) 16 = .ok (.iconst 0, 1) := by decide +kernel
theorem x174_16 {d : Nat} {L : Lc} {st : List Value} {h : Hp} : ex (d) 174 16 L st h = ex d 174 17 L (.int (nI 0) :: st) h := (ex_of d174_16 (d) L st h).trans (rfl)
theorem d174_17 : decode (mB 174) 17 = .ok (.istore_n 1, 1) := by decide +kernel
theorem x174_17 {d : Nat} {l0 l1 : Option Value} {st : List Value} {x : Int32} {h : Hp} : ex (d) 174 17 [l0, l1] (.int x :: st) h = ex d 174 18 [clr l0, some (.int x)] st h := (ex_of d174_17 (d) [l0, l1] (.int x :: st) h).trans (rfl)
theorem d174_18 : decode (mB 174) 18 = .ok (.iload_n 1, 1) := by decide +kernel
theorem x174_18 {d : Nat} {l0 : Option Value} {st : List Value} {x : Int32} {h : Hp} : ex (d) 174 18 [l0, some (.int x)] st h = ex d 174 19 [l0, some (.int x)] (.int x :: st) h := (ex_of d174_18 (d) [l0, some (.int x)] st h).trans (rfl)
theorem d174_19 : decode (mB 174) 19 = .ok (.bipush 6, 2) := by decide +kernel
theorem x174_19 {d : Nat} {L : Lc} {st : List Value} {h : Hp} : ex (d) 174 19 L st h = ex d 174 21 L (.int (nI 6) :: st) h := (ex_of d174_19 (d) L st h).trans (rfl)
theorem d174_21 : decode (mB 174) 21 = .ok (.if_icmp .ge 24, 3) := by decide +kernel
theorem x174_21 {d : Nat} {L : Lc} {st : List Value} {x y : Int32} {h : Hp} : ex (d) 174 21 L (.int y :: .int x :: st) h = if y ≤ x then ex d 174 45 L st h else ex d 174 24 L st h := (ex_of d174_21 (d) L (.int y :: .int x :: st) h).trans (fin_brq (off := 24) (tgt := 45) rfl (by decide))
theorem d174_24 : decode (mB 174) 24 = .ok (.aload_n 0, 1) := by decide +kernel
theorem x174_24 {d : Nat} {l1 : Option Value} {st : List Value} {a : Nat} {h : Hp} : ex (d) 174 24 [some (.ref a), l1] st h = ex d 174 25 [some (.ref a), l1] (.ref a :: st) h := (ex_of d174_24 (d) [some (.ref a), l1] st h).trans (rfl)
theorem d174_25 : decode (mB 174) 25 = .ok (.getfield 46, 3) := by decide +kernel
theorem x174_25 {d : Nat} {L : Lc} {st : List Value} {a : Nat} {h : Hp} (ht : (h.2.1 a).1 = 11) : ex (d) 174 25 L (.ref a :: st) h = ex d 174 28 L (h.1 a 20 :: st) h := (ex_of d174_25 (d) L (.ref a :: st) h).trans (fin_get (mi := 174) f11_46 (tg1 ht rfl))
theorem d174_28 : decode (mB 174) 28 = .ok (.bipush 6, 2) := by decide +kernel
theorem x174_28 {d : Nat} {L : Lc} {st : List Value} {h : Hp} : ex (d) 174 28 L st h = ex d 174 30 L (.int (nI 6) :: st) h := (ex_of d174_28 (d) L st h).trans (rfl)
theorem d174_30 : decode (mB 174) 30 = .ok (.aload_n 0, 1) := by decide +kernel
theorem x174_30 {d : Nat} {l1 : Option Value} {st : List Value} {a : Nat} {h : Hp} : ex (d) 174 30 [some (.ref a), l1] st h = ex d 174 31 [some (.ref a), l1] (.ref a :: st) h := (ex_of d174_30 (d) [some (.ref a), l1] st h).trans (rfl)
theorem d174_31 : decode (mB 174) 31 = .ok (.getfield 188, 3) := by decide +kernel
theorem x174_31 {d : Nat} {L : Lc} {st : List Value} {a : Nat} {h : Hp} (ht : (h.2.1 a).1 = 11) : ex (d) 174 31 L (.ref a :: st) h = ex d 174 34 L (h.1 a 19 :: st) h := (ex_of d174_31 (d) L (.ref a :: st) h).trans (fin_get (mi := 174) f11_188 (tg1 ht rfl))
theorem d174_34 : decode (mB 174) 34 = .ok (.imul, 1) := by decide +kernel
theorem x174_34 {d : Nat} {L : Lc} {st : List Value} {x y : Int32} {h : Hp} : ex (d) 174 34 L (.int y :: .int x :: st) h = ex d 174 35 L (.int (x * y) :: st) h := (ex_of d174_34 (d) L (.int y :: .int x :: st) h).trans (rfl)
theorem d174_35 : decode (mB 174) 35 = .ok (.iload_n 1, 1) := by decide +kernel
theorem x174_35 {d : Nat} {l0 : Option Value} {st : List Value} {x : Int32} {h : Hp} : ex (d) 174 35 [l0, some (.int x)] st h = ex d 174 36 [l0, some (.int x)] (.int x :: st) h := (ex_of d174_35 (d) [l0, some (.int x)] st h).trans (rfl)
theorem d174_36 : decode (mB 174) 36 = .ok (.iadd, 1) := by decide +kernel
theorem x174_36 {d : Nat} {L : Lc} {st : List Value} {x y : Int32} {h : Hp} : ex (d) 174 36 L (.int y :: .int x :: st) h = ex d 174 37 L (.int (x + y) :: st) h := (ex_of d174_36 (d) L (.int y :: .int x :: st) h).trans (rfl)
theorem d174_37 : decode (mB 174) 37 = .ok (.iconst (-1), 1) := by decide +kernel
theorem x174_37 {d : Nat} {L : Lc} {st : List Value} {h : Hp} : ex (d) 174 37 L st h = ex d 174 38 L (.int (-1) :: st) h := (ex_of d174_37 (d) L st h).trans (rfl)
theorem d174_38 : decode (mB 174) 38 = .ok (.iastore, 1) := by decide +kernel
theorem x174_38 {d : Nat} {L : Lc} {st : List Value} {a j : Nat} {x : Int32} {h : Hp} (ht : (h.2.1 a).1 = 20) (hj : j < (h.2.1 a).2) (hb : j < 2147483648) : ex (d) 174 38 L (.int x :: .int (nI j) :: .ref a :: st) h = ex d 174 39 L st (mup h.1 a j (.int x), h.2) := (ex_of d174_38 (d) L (.int x :: .int (nI j) :: .ref a :: st) h).trans (fin_iastore ht hj hb)
theorem d174_39 : decode (mB 174) 39 = .ok (.iinc 1 1, 3) := by decide +kernel
theorem x174_39 {d : Nat} {l0 : Option Value} {st : List Value} {x : Int32} {h : Hp} : ex (d) 174 39 [l0, some (.int x)] st h = ex d 174 42 [clr l0, some (.int (x + (nI 1)))] st h := (ex_of d174_39 (d) [l0, some (.int x)] st h).trans (rfl)
theorem d174_42 : decode (mB 174) 42 = .ok (.goto (-24), 3) := by decide +kernel
theorem x174_42 {d : Nat} {L : Lc} {st : List Value} {h : Hp} : ex (d) 174 42 L st h = ex d 174 18 L st h := (ex_of d174_42 (d) L st h).trans (rfl)
theorem d174_45 : decode (mB 174) 45 = .ok (.aload_n 0, 1) := by decide +kernel
theorem x174_45 {d : Nat} {l1 : Option Value} {st : List Value} {a : Nat} {h : Hp} : ex (d) 174 45 [some (.ref a), l1] st h = ex d 174 46 [some (.ref a), l1] (.ref a :: st) h := (ex_of d174_45 (d) [some (.ref a), l1] st h).trans (rfl)
theorem d174_46 : decode (mB 174) 46 = .ok (.dup, 1) := by decide +kernel
theorem x174_46 {d : Nat} {L : Lc} {st : List Value} {a : Nat} {h : Hp} : ex (d) 174 46 L (.ref a :: st) h = ex d 174 47 L (.ref a :: .ref a :: st) h := (ex_of d174_46 (d) L (.ref a :: st) h).trans (rfl)
theorem x174_46i {d : Nat} {L : Lc} {st : List Value} {x : Int32} {h : Hp} : ex (d) 174 46 L (.int x :: st) h = ex d 174 47 L (.int x :: .int x :: st) h := (ex_of d174_46 (d) L (.int x :: st) h).trans (rfl)
theorem d174_47 : decode (mB 174) 47 = .ok (.getfield 188, 3) := by decide +kernel
theorem x174_47 {d : Nat} {L : Lc} {st : List Value} {a : Nat} {h : Hp} (ht : (h.2.1 a).1 = 11) : ex (d) 174 47 L (.ref a :: st) h = ex d 174 50 L (h.1 a 19 :: st) h := (ex_of d174_47 (d) L (.ref a :: st) h).trans (fin_get (mi := 174) f11_188 (tg1 ht rfl))
theorem d174_50 : decode (mB 174) 50 = .ok (.iconst 1, 1) := by decide +kernel
theorem x174_50 {d : Nat} {L : Lc} {st : List Value} {h : Hp} : ex (d) 174 50 L st h = ex d 174 51 L (.int (nI 1) :: st) h := (ex_of d174_50 (d) L st h).trans (rfl)
theorem d174_51 : decode (mB 174) 51 = .ok (.iadd, 1) := by decide +kernel
theorem x174_51 {d : Nat} {L : Lc} {st : List Value} {x y : Int32} {h : Hp} : ex (d) 174 51 L (.int y :: .int x :: st) h = ex d 174 52 L (.int (x + y) :: st) h := (ex_of d174_51 (d) L (.int y :: .int x :: st) h).trans (rfl)
theorem d174_52 : decode (mB 174) 52 = .ok (.putfield 188, 3) := by decide +kernel
theorem x174_52 {d : Nat} {L : Lc} {st : List Value} {a : Nat} {x : Int32} {h : Hp} (ht : (h.2.1 a).1 = 11) : ex (d) 174 52 L (.int x :: .ref a :: st) h = ex d 174 55 L st (mup h.1 a 19 (.int x), h.2) := (ex_of d174_52 (d) L (.int x :: .ref a :: st) h).trans (fin_put (mi := 174) f11_188 ht rfl rfl (by decide +kernel))
theorem d174_55 : decode (mB 174) 55 = .ok (.aload_n 0, 1) := by decide +kernel
theorem x174_55 {d : Nat} {l1 : Option Value} {st : List Value} {a : Nat} {h : Hp} : ex (d) 174 55 [some (.ref a), l1] st h = ex d 174 56 [some (.ref a), l1] (.ref a :: st) h := (ex_of d174_55 (d) [some (.ref a), l1] st h).trans (rfl)
theorem d174_56 : decode (mB 174) 56 = .ok (.aload_n 0, 1) := by decide +kernel
theorem x174_56 {d : Nat} {l1 : Option Value} {st : List Value} {a : Nat} {h : Hp} : ex (d) 174 56 [some (.ref a), l1] st h = ex d 174 57 [some (.ref a), l1] (.ref a :: st) h := (ex_of d174_56 (d) [some (.ref a), l1] st h).trans (rfl)
theorem d174_57 : decode (mB 174) 57 = .ok (.getfield 188, 3) := by decide +kernel
theorem x174_57 {d : Nat} {L : Lc} {st : List Value} {a : Nat} {h : Hp} (ht : (h.2.1 a).1 = 11) : ex (d) 174 57 L (.ref a :: st) h = ex d 174 60 L (h.1 a 19 :: st) h := (ex_of d174_57 (d) L (.ref a :: st) h).trans (fin_get (mi := 174) f11_188 (tg1 ht rfl))
theorem d174_60 : decode (mB 174) 60 = .ok (.iconst 1, 1) := by decide +kernel
theorem x174_60 {d : Nat} {L : Lc} {st : List Value} {h : Hp} : ex (d) 174 60 L st h = ex d 174 61 L (.int (nI 1) :: st) h := (ex_of d174_60 (d) L st h).trans (rfl)
theorem d174_61 : decode (mB 174) 61 = .ok (.isub, 1) := by decide +kernel
theorem x174_61 {d : Nat} {L : Lc} {st : List Value} {x y : Int32} {h : Hp} : ex (d) 174 61 L (.int y :: .int x :: st) h = ex d 174 62 L (.int (x - y) :: st) h := (ex_of d174_61 (d) L (.int y :: .int x :: st) h).trans (rfl)
theorem d174_62 : decode (mB 174) 62 = .ok (.invokevirtual 113, 3) := by decide +kernel
theorem x174_62 {d : Nat} {L : Lc} {a : Nat} {v0 : Int32} {h : Hp} (ht : (h.2.1 a).1 = 11) : ex (d + 1) 174 62 L (.int v0 :: .ref a :: []) h = bnd (ex d 134 0 [some (.ref a), some (.int v0)] [] h) (fun v h' => ex (d + 1) 174 65 L (v.toList ++ []) h') := (ex_of d174_62 (d + 1) L (.int v0 :: .ref a :: []) h).trans (fin_vi (mi := 174) i11_113 ht rfl rfl (by simp [cat1_i, cat1_r]) (by simp) (Nat.le_of_ble_eq_true rfl))
theorem d174_65 : decode (mB 174) 65 = .ok (.ireturn, 1) := by decide +kernel
theorem x174_65 {d : Nat} {L : Lc} {x : Int32} {h : Hp} : ex (d) 174 65 L [.int x] h = some (some (.int x), h) := (ex_of d174_65 (d) L [.int x] h).trans (rfl)
theorem d175_0 : decode (mB 175) 0 = .ok (.aload_n 0, 1) := by decide +kernel
theorem x175_0 {d : Nat} {l1 l2 l3 l4 : Option Value} {st : List Value} {a : Nat} {h : Hp} : ex (d) 175 0 [some (.ref a), l1, l2, l3, l4] st h = ex d 175 1 [some (.ref a), l1, l2, l3, l4] (.ref a :: st) h := (ex_of d175_0 (d) [some (.ref a), l1, l2, l3, l4] st h).trans (rfl)
theorem d175_1 : decode (mB 175) 1 = .ok (.iload_n 1, 1) := by decide +kernel
theorem x175_1 {d : Nat} {l0 l2 l3 l4 : Option Value} {st : List Value} {x : Int32} {h : Hp} : ex (d) 175 1 [l0, some (.int x), l2, l3, l4] st h = ex d 175 2 [l0, some (.int x), l2, l3, l4] (.int x :: st) h := (ex_of d175_1 (d) [l0, some (.int x), l2, l3, l4] st h).trans (rfl)
theorem d175_2 : decode (mB 175) 2 = .ok (.invokevirtual 191, 3) := by decide +kernel
theorem x175_2 {d : Nat} {L : Lc} {a : Nat} {v0 : Int32} {h : Hp} (ht : (h.2.1 a).1 = 11) : ex (d + 1) 175 2 L (.int v0 :: .ref a :: []) h = bnd (ex d 173 0 [some (.ref a), some (.int v0)] [] h) (fun v h' => ex (d + 1) 175 5 L (v.toList ++ []) h') := (ex_of d175_2 (d + 1) L (.int v0 :: .ref a :: []) h).trans (fin_vi (mi := 175) i11_191 ht rfl rfl (by simp [cat1_i, cat1_r]) (by simp) (Nat.le_of_ble_eq_true rfl))
theorem d175_5 : decode (mB 175) 5 = .ok (.ifCond .ne 10, 3) := by decide +kernel
theorem x175_5 {d : Nat} {L : Lc} {st : List Value} {x : Int32} {h : Hp} : ex (d) 175 5 L (.int x :: st) h = if ¬ x = 0 then ex d 175 15 L st h else ex d 175 8 L st h := (ex_of d175_5 (d) L (.int x :: st) h).trans (fin_brq (off := 10) (tgt := 15) rfl (by decide))
theorem d175_8 : decode (mB 175) 8 = .ok (.aload_n 0, 1) := by decide +kernel
theorem x175_8 {d : Nat} {l1 l2 l3 l4 : Option Value} {st : List Value} {a : Nat} {h : Hp} : ex (d) 175 8 [some (.ref a), l1, l2, l3, l4] st h = ex d 175 9 [some (.ref a), l1, l2, l3, l4] (.ref a :: st) h := (ex_of d175_8 (d) [some (.ref a), l1, l2, l3, l4] st h).trans (rfl)
theorem d175_9 : decode (mB 175) 9 = .ok (.bipush 10, 2) := by decide +kernel
theorem x175_9 {d : Nat} {L : Lc} {st : List Value} {h : Hp} : ex (d) 175 9 L st h = ex d 175 11 L (.int (nI 10) :: st) h := (ex_of d175_9 (d) L st h).trans (rfl)
theorem d175_11 : decode (mB 175) 11 = .ok (.invokevirtual 109, 3) := by decide +kernel
theorem x175_11 {d : Nat} {L : Lc} {a : Nat} {v0 : Int32} {h : Hp} (ht : (h.2.1 a).1 = 11) : ex (d + 1) 175 11 L (.int v0 :: .ref a :: []) h = bnd (ex d 135 0 [some (.ref a), some (.int v0)] [] h) (fun v h' => ex (d + 1) 175 14 L (v.toList ++ []) h') := (ex_of d175_11 (d + 1) L (.int v0 :: .ref a :: []) h).trans (fin_vi (mi := 175) i11_109 ht rfl rfl (by simp [cat1_i, cat1_r]) (by simp) (Nat.le_of_ble_eq_true rfl))
theorem d175_14 : decode (mB 175) 14 = .ok (.ireturn, 1) := by decide +kernel
theorem x175_14 {d : Nat} {L : Lc} {x : Int32} {h : Hp} : ex (d) 175 14 L [.int x] h = some (some (.int x), h) := (ex_of d175_14 (d) L [.int x] h).trans (rfl)
theorem d175_15 : decode (mB 175) 15 = .ok (.iload_n 2, 1) := by decide +kernel
theorem x175_15 {d : Nat} {l0 l1 l3 l4 : Option Value} {st : List Value} {x : Int32} {h : Hp} : ex (d) 175 15 [l0, l1, some (.int x), l3, l4] st h = ex d 175 16 [l0, l1, some (.int x), l3, l4] (.int x :: st) h := (ex_of d175_15 (d) [l0, l1, some (.int x), l3, l4] st h).trans (rfl)
theorem d175_16 : decode (mB 175) 16 = .ok (.iconst 0, 1) := by decide +kernel
theorem x175_16 {d : Nat} {L : Lc} {st : List Value} {h : Hp} : ex (d) 175 16 L st h = ex d 175 17 L (.int (nI 0) :: st) h := (ex_of d175_16 (d) L st h).trans (rfl)
theorem d175_17 : decode (mB 175) 17 = .ok (.iconst 5, 1) := by decide +kernel
theorem x175_17 {d : Nat} {L : Lc} {st : List Value} {h : Hp} : ex (d) 175 17 L st h = ex d 175 18 L (.int (nI 5) :: st) h := (ex_of d175_17 (d) L st h).trans (rfl)
theorem d175_18 : decode (mB 175) 18 = .ok (.invokestatic 101, 3) := by decide +kernel
theorem x175_18 {d : Nat} {L : Lc}  {v0 : Int32} {v1 : Int32} {v2 : Int32} {h : Hp} : ex (d + 1) 175 18 L (.int v2 :: .int v1 :: .int v0 :: []) h = bnd (ex d 137 0 [some (.int v0), some (.int v1), some (.int v2)] [] h) (fun v h' => ex (d + 1) 175 21 L (v.toList ++ []) h') := (ex_of d175_18 (d + 1) L (.int v2 :: .int v1 :: .int v0 :: []) h).trans (fin_st (mi := 175) i11_101 (Or.inl rfl) (by simp) (by simp [cat1_i, cat1_r]) (by simp) (Nat.le_of_ble_eq_true rfl))
theorem d175_21 : decode (mB 175) 21 = .ok (.ifCond .ne 9, 3) := by decide +kernel
theorem x175_21 {d : Nat} {L : Lc} {st : List Value} {x : Int32} {h : Hp} : ex (d) 175 21 L (.int x :: st) h = if ¬ x = 0 then ex d 175 30 L st h else ex d 175 24 L st h := (ex_of d175_21 (d) L (.int x :: st) h).trans (fin_brq (off := 9) (tgt := 30) rfl (by decide))
theorem d175_24 : decode (mB 175) 24 = .ok (.aload_n 0, 1) := by decide +kernel
theorem x175_24 {d : Nat} {l1 l2 l3 l4 : Option Value} {st : List Value} {a : Nat} {h : Hp} : ex (d) 175 24 [some (.ref a), l1, l2, l3, l4] st h = ex d 175 25 [some (.ref a), l1, l2, l3, l4] (.ref a :: st) h := (ex_of d175_24 (d) [some (.ref a), l1, l2, l3, l4] st h).trans (rfl)
theorem d175_25 : decode (mB 175) 25 = .ok (.iconst 2, 1) := by decide +kernel
theorem x175_25 {d : Nat} {L : Lc} {st : List Value} {h : Hp} : ex (d) 175 25 L st h = ex d 175 26 L (.int (nI 2) :: st) h := (ex_of d175_25 (d) L st h).trans (rfl)
theorem d175_26 : decode (mB 175) 26 = .ok (.invokevirtual 109, 3) := by decide +kernel
theorem x175_26 {d : Nat} {L : Lc} {a : Nat} {v0 : Int32} {h : Hp} (ht : (h.2.1 a).1 = 11) : ex (d + 1) 175 26 L (.int v0 :: .ref a :: []) h = bnd (ex d 135 0 [some (.ref a), some (.int v0)] [] h) (fun v h' => ex (d + 1) 175 29 L (v.toList ++ []) h') := (ex_of d175_26 (d + 1) L (.int v0 :: .ref a :: []) h).trans (fin_vi (mi := 175) i11_109 ht rfl rfl (by simp [cat1_i, cat1_r]) (by simp) (Nat.le_of_ble_eq_true rfl))
theorem d175_29 : decode (mB 175) 29 = .ok (.ireturn, 1) := by decide +kernel
theorem x175_29 {d : Nat} {L : Lc} {x : Int32} {h : Hp} : ex (d) 175 29 L [.int x] h = some (some (.int x), h) := (ex_of d175_29 (d) L [.int x] h).trans (rfl)
theorem d175_30 : decode (mB 175) 30 = .ok (.iload_n 3, 1) := by decide +kernel
theorem x175_30 {d : Nat} {l0 l1 l2 l4 : Option Value} {st : List Value} {x : Int32} {h : Hp} : ex (d) 175 30 [l0, l1, l2, some (.int x), l4] st h = ex d 175 31 [l0, l1, l2, some (.int x), l4] (.int x :: st) h := (ex_of d175_30 (d) [l0, l1, l2, some (.int x), l4] st h).trans (rfl)
theorem d175_31 : decode (mB 175) 31 = .ok (.bipush (-2), 2) := by decide +kernel
theorem x175_31 {d : Nat} {L : Lc} {st : List Value} {h : Hp} : ex (d) 175 31 L st h = ex d 175 33 L (.int (-2) :: st) h := (ex_of d175_31 (d) L st h).trans (rfl)
theorem d175_33 : decode (mB 175) 33 = .ok (.sipush 3000, 3) := by decide +kernel
theorem x175_33 {d : Nat} {L : Lc} {st : List Value} {h : Hp} : ex (d) 175 33 L st h = ex d 175 36 L (.int (nI 3000) :: st) h := (ex_of d175_33 (d) L st h).trans (rfl)
theorem d175_36 : decode (mB 175) 36 = .ok (.invokestatic 101, 3) := by decide +kernel
theorem x175_36 {d : Nat} {L : Lc}  {v0 : Int32} {v1 : Int32} {v2 : Int32} {h : Hp} : ex (d + 1) 175 36 L (.int v2 :: .int v1 :: .int v0 :: []) h = bnd (ex d 137 0 [some (.int v0), some (.int v1), some (.int v2)] [] h) (fun v h' => ex (d + 1) 175 39 L (v.toList ++ []) h') := (ex_of d175_36 (d + 1) L (.int v2 :: .int v1 :: .int v0 :: []) h).trans (fin_st (mi := 175) i11_101 (Or.inl rfl) (by simp) (by simp [cat1_i, cat1_r]) (by simp) (Nat.le_of_ble_eq_true rfl))
theorem d175_39 : decode (mB 175) 39 = .ok (.ifCond .ne 10, 3) := by decide +kernel
theorem x175_39 {d : Nat} {L : Lc} {st : List Value} {x : Int32} {h : Hp} : ex (d) 175 39 L (.int x :: st) h = if ¬ x = 0 then ex d 175 49 L st h else ex d 175 42 L st h := (ex_of d175_39 (d) L (.int x :: st) h).trans (fin_brq (off := 10) (tgt := 49) rfl (by decide))
theorem d175_42 : decode (mB 175) 42 = .ok (.aload_n 0, 1) := by decide +kernel
theorem x175_42 {d : Nat} {l1 l2 l3 l4 : Option Value} {st : List Value} {a : Nat} {h : Hp} : ex (d) 175 42 [some (.ref a), l1, l2, l3, l4] st h = ex d 175 43 [some (.ref a), l1, l2, l3, l4] (.ref a :: st) h := (ex_of d175_42 (d) [some (.ref a), l1, l2, l3, l4] st h).trans (rfl)
theorem d175_43 : decode (mB 175) 43 = .ok (.bipush 6, 2) := by decide +kernel
theorem x175_43 {d : Nat} {L : Lc} {st : List Value} {h : Hp} : ex (d) 175 43 L st h = ex d 175 45 L (.int (nI 6) :: st) h := (ex_of d175_43 (d) L st h).trans (rfl)
theorem d175_45 : decode (mB 175) 45 = .ok (.invokevirtual 109, 3) := by decide +kernel
theorem x175_45 {d : Nat} {L : Lc} {a : Nat} {v0 : Int32} {h : Hp} (ht : (h.2.1 a).1 = 11) : ex (d + 1) 175 45 L (.int v0 :: .ref a :: []) h = bnd (ex d 135 0 [some (.ref a), some (.int v0)] [] h) (fun v h' => ex (d + 1) 175 48 L (v.toList ++ []) h') := (ex_of d175_45 (d + 1) L (.int v0 :: .ref a :: []) h).trans (fin_vi (mi := 175) i11_109 ht rfl rfl (by simp [cat1_i, cat1_r]) (by simp) (Nat.le_of_ble_eq_true rfl))
theorem d175_48 : decode (mB 175) 48 = .ok (.ireturn, 1) := by decide +kernel
theorem x175_48 {d : Nat} {L : Lc} {x : Int32} {h : Hp} : ex (d) 175 48 L [.int x] h = some (some (.int x), h) := (ex_of d175_48 (d) L [.int x] h).trans (rfl)
theorem d175_49 : decode (mB 175) 49 = .ok (.bipush 6, 2) := by decide +kernel
theorem x175_49 {d : Nat} {L : Lc} {st : List Value} {h : Hp} : ex (d) 175 49 L st h = ex d 175 51 L (.int (nI 6) :: st) h := (ex_of d175_49 (d) L st h).trans (rfl)
theorem d175_51 : decode (mB 175) 51 = .ok (.iload_n 1, 1) := by decide +kernel
theorem x175_51 {d : Nat} {l0 l2 l3 l4 : Option Value} {st : List Value} {x : Int32} {h : Hp} : ex (d) 175 51 [l0, some (.int x), l2, l3, l4] st h = ex d 175 52 [l0, some (.int x), l2, l3, l4] (.int x :: st) h := (ex_of d175_51 (d) [l0, some (.int x), l2, l3, l4] st h).trans (rfl)
theorem d175_52 : decode (mB 175) 52 = .ok (.imul, 1) := by decide +kernel
theorem x175_52 {d : Nat} {L : Lc} {st : List Value} {x y : Int32} {h : Hp} : ex (d) 175 52 L (.int y :: .int x :: st) h = ex d 175 53 L (.int (x * y) :: st) h := (ex_of d175_52 (d) L (.int y :: .int x :: st) h).trans (rfl)
theorem d175_53 : decode (mB 175) 53 = .ok (.iload_n 2, 1) := by decide +kernel
theorem x175_53 {d : Nat} {l0 l1 l3 l4 : Option Value} {st : List Value} {x : Int32} {h : Hp} : ex (d) 175 53 [l0, l1, some (.int x), l3, l4] st h = ex d 175 54 [l0, l1, some (.int x), l3, l4] (.int x :: st) h := (ex_of d175_53 (d) [l0, l1, some (.int x), l3, l4] st h).trans (rfl)
theorem d175_54 : decode (mB 175) 54 = .ok (.iadd, 1) := by decide +kernel
theorem x175_54 {d : Nat} {L : Lc} {st : List Value} {x y : Int32} {h : Hp} : ex (d) 175 54 L (.int y :: .int x :: st) h = ex d 175 55 L (.int (x + y) :: st) h := (ex_of d175_54 (d) L (.int y :: .int x :: st) h).trans (rfl)
theorem d175_55 : decode (mB 175) 55 = .ok (.istore 4, 2) := by decide +kernel
theorem x175_55 {d : Nat} {l0 l1 l2 l3 l4 : Option Value} {st : List Value} {x : Int32} {h : Hp} : ex (d) 175 55 [l0, l1, l2, l3, l4] (.int x :: st) h = ex d 175 57 [l0, l1, l2, clr l3, some (.int x)] st h := (ex_of d175_55 (d) [l0, l1, l2, l3, l4] (.int x :: st) h).trans (rfl)
theorem d175_57 : decode (mB 175) 57 = .ok (.aload_n 0, 1) := by decide +kernel
theorem x175_57 {d : Nat} {l1 l2 l3 l4 : Option Value} {st : List Value} {a : Nat} {h : Hp} : ex (d) 175 57 [some (.ref a), l1, l2, l3, l4] st h = ex d 175 58 [some (.ref a), l1, l2, l3, l4] (.ref a :: st) h := (ex_of d175_57 (d) [some (.ref a), l1, l2, l3, l4] st h).trans (rfl)
theorem d175_58 : decode (mB 175) 58 = .ok (.iconst 3, 1) := by decide +kernel
theorem x175_58 {d : Nat} {L : Lc} {st : List Value} {h : Hp} : ex (d) 175 58 L st h = ex d 175 59 L (.int (nI 3) :: st) h := (ex_of d175_58 (d) L st h).trans (rfl)
theorem d175_59 : decode (mB 175) 59 = .ok (.iload 4, 2) := by decide +kernel
theorem x175_59 {d : Nat} {l0 l1 l2 l3 : Option Value} {st : List Value} {x : Int32} {h : Hp} : ex (d) 175 59 [l0, l1, l2, l3, some (.int x)] st h = ex d 175 61 [l0, l1, l2, l3, some (.int x)] (.int x :: st) h := (ex_of d175_59 (d) [l0, l1, l2, l3, some (.int x)] st h).trans (rfl)
theorem d175_61 : decode (mB 175) 61 = .ok (.aload_n 0, 1) := by decide +kernel
theorem x175_61 {d : Nat} {l1 l2 l3 l4 : Option Value} {st : List Value} {a : Nat} {h : Hp} : ex (d) 175 61 [some (.ref a), l1, l2, l3, l4] st h = ex d 175 62 [some (.ref a), l1, l2, l3, l4] (.ref a :: st) h := (ex_of d175_61 (d) [some (.ref a), l1, l2, l3, l4] st h).trans (rfl)
theorem d175_62 : decode (mB 175) 62 = .ok (.getfield 46, 3) := by decide +kernel
theorem x175_62 {d : Nat} {L : Lc} {st : List Value} {a : Nat} {h : Hp} (ht : (h.2.1 a).1 = 11) : ex (d) 175 62 L (.ref a :: st) h = ex d 175 65 L (h.1 a 20 :: st) h := (ex_of d175_62 (d) L (.ref a :: st) h).trans (fin_get (mi := 175) f11_46 (tg1 ht rfl))
theorem d175_65 : decode (mB 175) 65 = .ok (.iload 4, 2) := by decide +kernel
theorem x175_65 {d : Nat} {l0 l1 l2 l3 : Option Value} {st : List Value} {x : Int32} {h : Hp} : ex (d) 175 65 [l0, l1, l2, l3, some (.int x)] st h = ex d 175 67 [l0, l1, l2, l3, some (.int x)] (.int x :: st) h := (ex_of d175_65 (d) [l0, l1, l2, l3, some (.int x)] st h).trans (rfl)
theorem d175_67 : decode (mB 175) 67 = .ok (.iaload, 1) := by decide +kernel
theorem x175_67 {d : Nat} {L : Lc} {st : List Value} {a j : Nat} {h : Hp} (ht : (h.2.1 a).1 = 20) (hj : j < (h.2.1 a).2) (hb : j < 2147483648) : ex (d) 175 67 L (.int (nI j) :: .ref a :: st) h = ex d 175 68 L (h.1 a j :: st) h := (ex_of d175_67 (d) L (.int (nI j) :: .ref a :: st) h).trans (fin_iaload (Or.inl ht) hj hb)
theorem d175_68 : decode (mB 175) 68 = .ok (.iconst 0, 1) := by decide +kernel
theorem x175_68 {d : Nat} {L : Lc} {st : List Value} {h : Hp} : ex (d) 175 68 L st h = ex d 175 69 L (.int (nI 0) :: st) h := (ex_of d175_68 (d) L st h).trans (rfl)
theorem d175_69 : decode (mB 175) 69 = .ok (.iconst 0, 1) := by decide +kernel
theorem x175_69 {d : Nat} {L : Lc} {st : List Value} {h : Hp} : ex (d) 175 69 L st h = ex d 175 70 L (.int (nI 0) :: st) h := (ex_of d175_69 (d) L st h).trans (rfl)
theorem d175_70 : decode (mB 175) 70 = .ok (.iconst 0, 1) := by decide +kernel
theorem x175_70 {d : Nat} {L : Lc} {st : List Value} {h : Hp} : ex (d) 175 70 L st h = ex d 175 71 L (.int (nI 0) :: st) h := (ex_of d175_70 (d) L st h).trans (rfl)
theorem d175_71 : decode (mB 175) 71 = .ok (.invokevirtual 157, 3) := by decide +kernel
theorem x175_71 {d : Nat} {L : Lc} {a : Nat} {v0 : Int32} {v1 : Int32} {v2 : Int32} {v3 : Int32} {v4 : Int32} {v5 : Int32} {h : Hp} (ht : (h.2.1 a).1 = 11) : ex (d + 1) 175 71 L (.int v5 :: .int v4 :: .int v3 :: .int v2 :: .int v1 :: .int v0 :: .ref a :: []) h = bnd (ex d 164 0 [some (.ref a), some (.int v0), some (.int v1), some (.int v2), some (.int v3), some (.int v4), some (.int v5), none, none] [] h) (fun v h' => ex (d + 1) 175 74 L (v.toList ++ []) h') := (ex_of d175_71 (d + 1) L (.int v5 :: .int v4 :: .int v3 :: .int v2 :: .int v1 :: .int v0 :: .ref a :: []) h).trans (fin_vi (mi := 175) i11_157 ht rfl rfl (by simp [cat1_i, cat1_r]) (by simp) (Nat.le_of_ble_eq_true rfl))
theorem d175_74 : decode (mB 175) 74 = .ok (.aload_n 0, 1) := by decide +kernel
theorem x175_74 {d : Nat} {l1 l2 l3 l4 : Option Value} {st : List Value} {a : Nat} {h : Hp} : ex (d) 175 74 [some (.ref a), l1, l2, l3, l4] st h = ex d 175 75 [some (.ref a), l1, l2, l3, l4] (.ref a :: st) h := (ex_of d175_74 (d) [some (.ref a), l1, l2, l3, l4] st h).trans (rfl)
theorem d175_75 : decode (mB 175) 75 = .ok (.getfield 46, 3) := by decide +kernel
theorem x175_75 {d : Nat} {L : Lc} {st : List Value} {a : Nat} {h : Hp} (ht : (h.2.1 a).1 = 11) : ex (d) 175 75 L (.ref a :: st) h = ex d 175 78 L (h.1 a 20 :: st) h := (ex_of d175_75 (d) L (.ref a :: st) h).trans (fin_get (mi := 175) f11_46 (tg1 ht rfl))
theorem d175_78 : decode (mB 175) 78 = .ok (.iload 4, 2) := by decide +kernel
theorem x175_78 {d : Nat} {l0 l1 l2 l3 : Option Value} {st : List Value} {x : Int32} {h : Hp} : ex (d) 175 78 [l0, l1, l2, l3, some (.int x)] st h = ex d 175 80 [l0, l1, l2, l3, some (.int x)] (.int x :: st) h := (ex_of d175_78 (d) [l0, l1, l2, l3, some (.int x)] st h).trans (rfl)
theorem d175_80 : decode (mB 175) 80 = .ok (.iload_n 3, 1) := by decide +kernel
theorem x175_80 {d : Nat} {l0 l1 l2 l4 : Option Value} {st : List Value} {x : Int32} {h : Hp} : ex (d) 175 80 [l0, l1, l2, some (.int x), l4] st h = ex d 175 81 [l0, l1, l2, some (.int x), l4] (.int x :: st) h := (ex_of d175_80 (d) [l0, l1, l2, some (.int x), l4] st h).trans (rfl)
theorem d175_81 : decode (mB 175) 81 = .ok (.iastore, 1) := by decide +kernel
theorem x175_81 {d : Nat} {L : Lc} {st : List Value} {a j : Nat} {x : Int32} {h : Hp} (ht : (h.2.1 a).1 = 20) (hj : j < (h.2.1 a).2) (hb : j < 2147483648) : ex (d) 175 81 L (.int x :: .int (nI j) :: .ref a :: st) h = ex d 175 82 L st (mup h.1 a j (.int x), h.2) := (ex_of d175_81 (d) L (.int x :: .int (nI j) :: .ref a :: st) h).trans (fin_iastore ht hj hb)
theorem d175_82 : decode (mB 175) 82 = .ok (.aload_n 0, 1) := by decide +kernel
theorem x175_82 {d : Nat} {l1 l2 l3 l4 : Option Value} {st : List Value} {a : Nat} {h : Hp} : ex (d) 175 82 [some (.ref a), l1, l2, l3, l4] st h = ex d 175 83 [some (.ref a), l1, l2, l3, l4] (.ref a :: st) h := (ex_of d175_82 (d) [some (.ref a), l1, l2, l3, l4] st h).trans (rfl)
theorem d175_83 : decode (mB 175) 83 = .ok (.iconst 1, 1) := by decide +kernel
theorem x175_83 {d : Nat} {L : Lc} {st : List Value} {h : Hp} : ex (d) 175 83 L st h = ex d 175 84 L (.int (nI 1) :: st) h := (ex_of d175_83 (d) L st h).trans (rfl)
theorem d175_84 : decode (mB 175) 84 = .ok (.invokevirtual 113, 3) := by decide +kernel
theorem x175_84 {d : Nat} {L : Lc} {a : Nat} {v0 : Int32} {h : Hp} (ht : (h.2.1 a).1 = 11) : ex (d + 1) 175 84 L (.int v0 :: .ref a :: []) h = bnd (ex d 134 0 [some (.ref a), some (.int v0)] [] h) (fun v h' => ex (d + 1) 175 87 L (v.toList ++ []) h') := (ex_of d175_84 (d + 1) L (.int v0 :: .ref a :: []) h).trans (fin_vi (mi := 175) i11_113 ht rfl rfl (by simp [cat1_i, cat1_r]) (by simp) (Nat.le_of_ble_eq_true rfl))
theorem d175_87 : decode (mB 175) 87 = .ok (.ireturn, 1) := by decide +kernel
theorem x175_87 {d : Nat} {L : Lc} {x : Int32} {h : Hp} : ex (d) 175 87 L [.int x] h = some (some (.int x), h) := (ex_of d175_87 (d) L [.int x] h).trans (rfl)
theorem d176_0 : decode (mB 176) 0 = .ok (.iload_n 0, 1) := by decide +kernel
theorem x176_0 {d : Nat} {st : List Value} {x : Int32} {h : Hp} : ex (d) 176 0 [some (.int x)] st h = ex d 176 1 [some (.int x)] (.int x :: st) h := (ex_of d176_0 (d) [some (.int x)] st h).trans (rfl)
theorem d176_1 : decode (mB 176) 1 = .ok (.ifCond .ne 8, 3) := by decide +kernel
theorem x176_1 {d : Nat} {L : Lc} {st : List Value} {x : Int32} {h : Hp} : ex (d) 176 1 L (.int x :: st) h = if ¬ x = 0 then ex d 176 9 L st h else ex d 176 4 L st h := (ex_of d176_1 (d) L (.int x :: st) h).trans (fin_brq (off := 8) (tgt := 9) rfl (by decide))
theorem d176_4 : decode (mB 176) 4 = .ok (.bipush 46, 2) := by decide +kernel
theorem x176_4 {d : Nat} {L : Lc} {st : List Value} {h : Hp} : ex (d) 176 4 L st h = ex d 176 6 L (.int (nI 46) :: st) h := (ex_of d176_4 (d) L st h).trans (rfl)
theorem d176_6 : decode (mB 176) 6 = .ok (.goto 24, 3) := by decide +kernel
theorem x176_6 {d : Nat} {L : Lc} {st : List Value} {h : Hp} : ex (d) 176 6 L st h = ex d 176 30 L st h := (ex_of d176_6 (d) L st h).trans (rfl)
theorem d176_9 : decode (mB 176) 9 = .ok (.iload_n 0, 1) := by decide +kernel
theorem x176_9 {d : Nat} {st : List Value} {x : Int32} {h : Hp} : ex (d) 176 9 [some (.int x)] st h = ex d 176 10 [some (.int x)] (.int x :: st) h := (ex_of d176_9 (d) [some (.int x)] st h).trans (rfl)
theorem d176_10 : decode (mB 176) 10 = .ok (.iconst 1, 1) := by decide +kernel
theorem x176_10 {d : Nat} {L : Lc} {st : List Value} {h : Hp} : ex (d) 176 10 L st h = ex d 176 11 L (.int (nI 1) :: st) h := (ex_of d176_10 (d) L st h).trans (rfl)
theorem d176_11 : decode (mB 176) 11 = .ok (.if_icmp .ne 8, 3) := by decide +kernel
theorem x176_11 {d : Nat} {L : Lc} {st : List Value} {x y : Int32} {h : Hp} : ex (d) 176 11 L (.int y :: .int x :: st) h = if ¬ x = y then ex d 176 19 L st h else ex d 176 14 L st h := (ex_of d176_11 (d) L (.int y :: .int x :: st) h).trans (fin_brq (off := 8) (tgt := 19) rfl (by decide))
theorem d176_14 : decode (mB 176) 14 = .ok (.bipush 22, 2) := by decide +kernel
theorem x176_14 {d : Nat} {L : Lc} {st : List Value} {h : Hp} : ex (d) 176 14 L st h = ex d 176 16 L (.int (nI 22) :: st) h := (ex_of d176_14 (d) L st h).trans (rfl)
theorem d176_16 : decode (mB 176) 16 = .ok (.goto 14, 3) := by decide +kernel
theorem x176_16 {d : Nat} {L : Lc} {st : List Value} {h : Hp} : ex (d) 176 16 L st h = ex d 176 30 L st h := (ex_of d176_16 (d) L st h).trans (rfl)
theorem d176_19 : decode (mB 176) 19 = .ok (.iload_n 0, 1) := by decide +kernel
theorem x176_19 {d : Nat} {st : List Value} {x : Int32} {h : Hp} : ex (d) 176 19 [some (.int x)] st h = ex d 176 20 [some (.int x)] (.int x :: st) h := (ex_of d176_19 (d) [some (.int x)] st h).trans (rfl)
theorem d176_20 : decode (mB 176) 20 = .ok (.iconst 2, 1) := by decide +kernel
theorem x176_20 {d : Nat} {L : Lc} {st : List Value} {h : Hp} : ex (d) 176 20 L st h = ex d 176 21 L (.int (nI 2) :: st) h := (ex_of d176_20 (d) L st h).trans (rfl)
theorem d176_21 : decode (mB 176) 21 = .ok (.if_icmp .ne 8, 3) := by decide +kernel
theorem x176_21 {d : Nat} {L : Lc} {st : List Value} {x y : Int32} {h : Hp} : ex (d) 176 21 L (.int y :: .int x :: st) h = if ¬ x = y then ex d 176 29 L st h else ex d 176 24 L st h := (ex_of d176_21 (d) L (.int y :: .int x :: st) h).trans (fin_brq (off := 8) (tgt := 29) rfl (by decide))
theorem d176_24 : decode (mB 176) 24 = .ok (.bipush 54, 2) := by decide +kernel
theorem x176_24 {d : Nat} {L : Lc} {st : List Value} {h : Hp} : ex (d) 176 24 L st h = ex d 176 26 L (.int (nI 54) :: st) h := (ex_of d176_24 (d) L st h).trans (rfl)
theorem d176_26 : decode (mB 176) 26 = .ok (.goto 4, 3) := by decide +kernel
theorem x176_26 {d : Nat} {L : Lc} {st : List Value} {h : Hp} : ex (d) 176 26 L st h = ex d 176 30 L st h := (ex_of d176_26 (d) L st h).trans (rfl)
theorem d176_29 : decode (mB 176) 29 = .ok (.iconst 1, 1) := by decide +kernel
theorem x176_29 {d : Nat} {L : Lc} {st : List Value} {h : Hp} : ex (d) 176 29 L st h = ex d 176 30 L (.int (nI 1) :: st) h := (ex_of d176_29 (d) L st h).trans (rfl)
theorem d176_30 : decode (mB 176) 30 = .ok (.ireturn, 1) := by decide +kernel
theorem x176_30 {d : Nat} {L : Lc} {x : Int32} {h : Hp} : ex (d) 176 30 L [.int x] h = some (some (.int x), h) := (ex_of d176_30 (d) L [.int x] h).trans (rfl)
