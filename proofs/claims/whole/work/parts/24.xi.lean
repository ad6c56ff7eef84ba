/-! ===== x-rows, printed by wip/whole/gen/genx.py: X12_search, X12_leastCost, X12_plan, X12_dressOf, X12_least, X12_hire, X12_back, X12_purse, X12_spent, X12_share, X12_isOfKind, X12_walk, X12_find, X12_count, X12_locks, X12_status, X12_digest ===== -/
theorem d192_0 : decode (mB 192) 0 = .ok (.iload_n 2, 1) := by decide +kernel
theorem x192_0 {d : Nat} {l0 l1 l3 l4 l5 : Option Value} {st : List Value} {x : Int32} {h : Hp} : ex (d) 192 0 [l0, l1, some (.int x), l3, l4, l5] st h = ex d 192 1 [l0, l1, some (.int x), l3, l4, l5] (.int x :: st) h := (ex_of d192_0 (d) [l0, l1, some (.int x), l3, l4, l5] st h).trans (rfl)
theorem d192_1 : decode (mB 192) 1 = .ok (.aload_n 0, 1) := by decide +kernel
theorem x192_1 {d : Nat} {l1 l2 l3 l4 l5 : Option Value} {st : List Value} {a : Nat} {h : Hp} : ex (d) 192 1 [some (.ref a), l1, l2, l3, l4, l5] st h = ex d 192 2 [some (.ref a), l1, l2, l3, l4, l5] (.ref a :: st) h := (ex_of d192_1 (d) [some (.ref a), l1, l2, l3, l4, l5] st h).trans (rfl)
theorem d192_2 : decode (mB 192) 2 = .ok (.getfield 70, 3) := by decide +kernel
theorem x192_2 {d : Nat} {L : Lc} {st : List Value} {a : Nat} {h : Hp} (ht : (h.2.1 a).1 = 11) : ex (d) 192 2 L (.ref a :: st) h = ex d 192 5 L (h.1 a 31 :: st) h := (ex_of d192_2 (d) L (.ref a :: st) h).trans (fin_get (mi := 192) f11_70 (tg1 ht rfl))
theorem d192_5 : decode (mB 192) 5 = .ok (.iload_n 1, 1) := by decide +kernel
theorem x192_5 {d : Nat} {l0 l2 l3 l4 l5 : Option Value} {st : List Value} {x : Int32} {h : Hp} : ex (d) 192 5 [l0, some (.int x), l2, l3, l4, l5] st h = ex d 192 6 [l0, some (.int x), l2, l3, l4, l5] (.int x :: st) h := (ex_of d192_5 (d) [l0, some (.int x), l2, l3, l4, l5] st h).trans (rfl)
theorem d192_6 : decode (mB 192) 6 = .ok (.iaload, 1) := by decide +kernel
theorem x192_6 {d : Nat} {L : Lc} {st : List Value} {a j : Nat} {h : Hp} (ht : (h.2.1 a).1 = 20) (hj : j < (h.2.1 a).2) (hb : j < 2147483648) : ex (d) 192 6 L (.int (nI j) :: .ref a :: st) h = ex d 192 7 L (h.1 a j :: st) h := (ex_of d192_6 (d) L (.int (nI j) :: .ref a :: st) h).trans (fin_iaload (Or.inl ht) hj hb)
theorem d192_7 : decode (mB 192) 7 = .ok (.iadd, 1) := by decide +kernel
theorem x192_7 {d : Nat} {L : Lc} {st : List Value} {x y : Int32} {h : Hp} : ex (d) 192 7 L (.int y :: .int x :: st) h = ex d 192 8 L (.int (x + y) :: st) h := (ex_of d192_7 (d) L (.int y :: .int x :: st) h).trans (rfl)
theorem d192_8 : decode (mB 192) 8 = .ok (.aload_n 0, 1) := by decide +kernel
theorem x192_8 {d : Nat} {l1 l2 l3 l4 l5 : Option Value} {st : List Value} {a : Nat} {h : Hp} : ex (d) 192 8 [some (.ref a), l1, l2, l3, l4, l5] st h = ex d 192 9 [some (.ref a), l1, l2, l3, l4, l5] (.ref a :: st) h := (ex_of d192_8 (d) [some (.ref a), l1, l2, l3, l4, l5] st h).trans (rfl)
theorem d192_9 : decode (mB 192) 9 = .ok (.getfield 225, 3) := by decide +kernel
theorem x192_9 {d : Nat} {L : Lc} {st : List Value} {a : Nat} {h : Hp} (ht : (h.2.1 a).1 = 11) : ex (d) 192 9 L (.ref a :: st) h = ex d 192 12 L (h.1 a 30 :: st) h := (ex_of d192_9 (d) L (.ref a :: st) h).trans (fin_get (mi := 192) f11_225 (tg1 ht rfl))
theorem d192_12 : decode (mB 192) 12 = .ok (.if_icmp .lt 4, 3) := by decide +kernel
theorem x192_12 {d : Nat} {L : Lc} {st : List Value} {x y : Int32} {h : Hp} : ex (d) 192 12 L (.int y :: .int x :: st) h = if x < y then ex d 192 16 L st h else ex d 192 15 L st h := (ex_of d192_12 (d) L (.int y :: .int x :: st) h).trans (fin_brq (off := 4) (tgt := 16) rfl (by decide))
theorem d192_15 : decode (mB 192) 15 = .ok (.return_, 1) := by decide +kernel
theorem x192_15 {d : Nat} {L : Lc}  {h : Hp} : ex (d) 192 15 L [] h = some (none, h) := (ex_of d192_15 (d) L [] h).trans (rfl)
theorem d192_16 : decode (mB 192) 16 = .ok (.iload_n 1, 1) := by decide +kernel
theorem x192_16 {d : Nat} {l0 l2 l3 l4 l5 : Option Value} {st : List Value} {x : Int32} {h : Hp} : ex (d) 192 16 [l0, some (.int x), l2, l3, l4, l5] st h = ex d 192 17 [l0, some (.int x), l2, l3, l4, l5] (.int x :: st) h := (ex_of d192_16 (d) [l0, some (.int x), l2, l3, l4, l5] st h).trans (rfl)
theorem d192_17 : decode (mB 192) 17 = .ok (.aload_n 0, 1) := by decide +kernel
theorem x192_17 {d : Nat} {l1 l2 l3 l4 l5 : Option Value} {st : List Value} {a : Nat} {h : Hp} : ex (d) 192 17 [some (.ref a), l1, l2, l3, l4, l5] st h = ex d 192 18 [some (.ref a), l1, l2, l3, l4, l5] (.ref a :: st) h := (ex_of d192_17 (d) [some (.ref a), l1, l2, l3, l4, l5] st h).trans (rfl)
theorem d192_18 : decode (mB 192) 18 = .ok (.getfield 218, 3) := by decide +kernel
theorem x192_18 {d : Nat} {L : Lc} {st : List Value} {a : Nat} {h : Hp} (ht : (h.2.1 a).1 = 11) : ex (d) 192 18 L (.ref a :: st) h = ex d 192 21 L (h.1 a 21 :: st) h := (ex_of d192_18 (d) L (.ref a :: st) h).trans (fin_get (mi := 192) f11_218 (tg1 ht rfl))
theorem d192_21 : decode (mB 192) 21 = .ok (.if_icmp .ne 9, 3) := by decide +kernel
theorem x192_21 {d : Nat} {L : Lc} {st : List Value} {x y : Int32} {h : Hp} : ex (d) 192 21 L (.int y :: .int x :: st) h = if ¬ x = y then ex d 192 30 L st h else ex d 192 24 L st h := (ex_of d192_21 (d) L (.int y :: .int x :: st) h).trans (fin_brq (off := 9) (tgt := 30) rfl (by decide))
theorem d192_24 : decode (mB 192) 24 = .ok (.aload_n 0, 1) := by decide +kernel
theorem x192_24 {d : Nat} {l1 l2 l3 l4 l5 : Option Value} {st : List Value} {a : Nat} {h : Hp} : ex (d) 192 24 [some (.ref a), l1, l2, l3, l4, l5] st h = ex d 192 25 [some (.ref a), l1, l2, l3, l4, l5] (.ref a :: st) h := (ex_of d192_24 (d) [some (.ref a), l1, l2, l3, l4, l5] st h).trans (rfl)
theorem d192_25 : decode (mB 192) 25 = .ok (.iload_n 2, 1) := by decide +kernel
theorem x192_25 {d : Nat} {l0 l1 l3 l4 l5 : Option Value} {st : List Value} {x : Int32} {h : Hp} : ex (d) 192 25 [l0, l1, some (.int x), l3, l4, l5] st h = ex d 192 26 [l0, l1, some (.int x), l3, l4, l5] (.int x :: st) h := (ex_of d192_25 (d) [l0, l1, some (.int x), l3, l4, l5] st h).trans (rfl)
theorem d192_26 : decode (mB 192) 26 = .ok (.putfield 225, 3) := by decide +kernel
theorem x192_26 {d : Nat} {L : Lc} {st : List Value} {a : Nat} {x : Int32} {h : Hp} (ht : (h.2.1 a).1 = 11) : ex (d) 192 26 L (.int x :: .ref a :: st) h = ex d 192 29 L st (mup h.1 a 30 (.int x), h.2) := (ex_of d192_26 (d) L (.int x :: .ref a :: st) h).trans (fin_put (mi := 192) f11_225 ht rfl rfl (by decide +kernel))
theorem d192_29 : decode (mB 192) 29 = .ok (.return_, 1) := by decide +kernel
theorem x192_29 {d : Nat} {L : Lc}  {h : Hp} : ex (d) 192 29 L [] h = some (none, h) := (ex_of d192_29 (d) L [] h).trans (rfl)
theorem d192_30 : decode (mB 192) 30 = .ok (.iconst 0, 1) := by decide +kernel
theorem x192_30 {d : Nat} {L : Lc} {st : List Value} {h : Hp} : ex (d) 192 30 L st h = ex d 192 31 L (.int (nI 0) :: st) h := (ex_of d192_30 (d) L st h).trans (rfl)
theorem d192_31 : decode (mB 192) 31 = .ok (.istore_n 3, 1) := by decide +kernel
theorem x192_31 {d : Nat} {l0 l1 l2 l3 l4 l5 : Option Value} {st : List Value} {x : Int32} {h : Hp} : ex (d) 192 31 [l0, l1, l2, l3, l4, l5] (.int x :: st) h = ex d 192 32 [l0, l1, clr l2, some (.int x), l4, l5] st h := (ex_of d192_31 (d) [l0, l1, l2, l3, l4, l5] (.int x :: st) h).trans (rfl)
theorem d192_32 : decode (mB 192) 32 = .ok (.iload_n 3, 1) := by decide +kernel
theorem x192_32 {d : Nat} {l0 l1 l2 l4 l5 : Option Value} {st : List Value} {x : Int32} {h : Hp} : ex (d) 192 32 [l0, l1, l2, some (.int x), l4, l5] st h = ex d 192 33 [l0, l1, l2, some (.int x), l4, l5] (.int x :: st) h := (ex_of d192_32 (d) [l0, l1, l2, some (.int x), l4, l5] st h).trans (rfl)
theorem d192_33 : decode (mB 192) 33 = .ok (.aload_n 0, 1) := by decide +kernel
theorem x192_33 {d : Nat} {l1 l2 l3 l4 l5 : Option Value} {st : List Value} {a : Nat} {h : Hp} : ex (d) 192 33 [some (.ref a), l1, l2, l3, l4, l5] st h = ex d 192 34 [some (.ref a), l1, l2, l3, l4, l5] (.ref a :: st) h := (ex_of d192_33 (d) [some (.ref a), l1, l2, l3, l4, l5] st h).trans (rfl)
theorem d192_34 : decode (mB 192) 34 = .ok (.getfield 221, 3) := by decide +kernel
theorem x192_34 {d : Nat} {L : Lc} {st : List Value} {a : Nat} {h : Hp} (ht : (h.2.1 a).1 = 11) : ex (d) 192 34 L (.ref a :: st) h = ex d 192 37 L (h.1 a 25 :: st) h := (ex_of d192_34 (d) L (.ref a :: st) h).trans (fin_get (mi := 192) f11_221 (tg1 ht rfl))
theorem d192_37 : decode (mB 192) 37 = .ok (.if_icmp .ge 119, 3) := by decide +kernel
theorem x192_37 {d : Nat} {L : Lc} {st : List Value} {x y : Int32} {h : Hp} : ex (d) 192 37 L (.int y :: .int x :: st) h = if y ≤ x then ex d 192 156 L st h else ex d 192 40 L st h := (ex_of d192_37 (d) L (.int y :: .int x :: st) h).trans (fin_brq (off := 119) (tgt := 156) rfl (by decide))
theorem d192_40 : decode (mB 192) 40 = .ok (.aload_n 0, 1) := by decide +kernel
theorem x192_40 {d : Nat} {l1 l2 l3 l4 l5 : Option Value} {st : List Value} {a : Nat} {h : Hp} : ex (d) 192 40 [some (.ref a), l1, l2, l3, l4, l5] st h = ex d 192 41 [some (.ref a), l1, l2, l3, l4, l5] (.ref a :: st) h := (ex_of d192_40 (d) [some (.ref a), l1, l2, l3, l4, l5] st h).trans (rfl)
theorem d192_41 : decode (mB 192) 41 = .ok (.getfield 64, 3) := by decide +kernel
theorem x192_41 {d : Nat} {L : Lc} {st : List Value} {a : Nat} {h : Hp} (ht : (h.2.1 a).1 = 11) : ex (d) 192 41 L (.ref a :: st) h = ex d 192 44 L (h.1 a 28 :: st) h := (ex_of d192_41 (d) L (.ref a :: st) h).trans (fin_get (mi := 192) f11_64 (tg1 ht rfl))
theorem d192_44 : decode (mB 192) 44 = .ok (.iload_n 1, 1) := by decide +kernel
theorem x192_44 {d : Nat} {l0 l2 l3 l4 l5 : Option Value} {st : List Value} {x : Int32} {h : Hp} : ex (d) 192 44 [l0, some (.int x), l2, l3, l4, l5] st h = ex d 192 45 [l0, some (.int x), l2, l3, l4, l5] (.int x :: st) h := (ex_of d192_44 (d) [l0, some (.int x), l2, l3, l4, l5] st h).trans (rfl)
theorem d192_45 : decode (mB 192) 45 = .ok (.iaload, 1) := by decide +kernel
theorem x192_45 {d : Nat} {L : Lc} {st : List Value} {a j : Nat} {h : Hp} (ht : (h.2.1 a).1 = 20) (hj : j < (h.2.1 a).2) (hb : j < 2147483648) : ex (d) 192 45 L (.int (nI j) :: .ref a :: st) h = ex d 192 46 L (h.1 a j :: st) h := (ex_of d192_45 (d) L (.int (nI j) :: .ref a :: st) h).trans (fin_iaload (Or.inl ht) hj hb)
theorem d192_46 : decode (mB 192) 46 = .ok (.ifCond .lt 13, 3) := by decide +kernel
theorem x192_46 {d : Nat} {L : Lc} {st : List Value} {x : Int32} {h : Hp} : ex (d) 192 46 L (.int x :: st) h = if x < 0 then ex d 192 59 L st h else ex d 192 49 L st h := (ex_of d192_46 (d) L (.int x :: st) h).trans (fin_brq (off := 13) (tgt := 59) rfl (by decide))
theorem d192_49 : decode (mB 192) 49 = .ok (.aload_n 0, 1) := by decide +kernel
theorem x192_49 {d : Nat} {l1 l2 l3 l4 l5 : Option Value} {st : List Value} {a : Nat} {h : Hp} : ex (d) 192 49 [some (.ref a), l1, l2, l3, l4, l5] st h = ex d 192 50 [some (.ref a), l1, l2, l3, l4, l5] (.ref a :: st) h := (ex_of d192_49 (d) [some (.ref a), l1, l2, l3, l4, l5] st h).trans (rfl)
theorem d192_50 : decode (mB 192) 50 = .ok (.getfield 64, 3) := by decide +kernel
theorem x192_50 {d : Nat} {L : Lc} {st : List Value} {a : Nat} {h : Hp} (ht : (h.2.1 a).1 = 11) : ex (d) 192 50 L (.ref a :: st) h = ex d 192 53 L (h.1 a 28 :: st) h := (ex_of d192_50 (d) L (.ref a :: st) h).trans (fin_get (mi := 192) f11_64 (tg1 ht rfl))
theorem d192_53 : decode (mB 192) 53 = .ok (.iload_n 1, 1) := by decide +kernel
theorem x192_53 {d : Nat} {l0 l2 l3 l4 l5 : Option Value} {st : List Value} {x : Int32} {h : Hp} : ex (d) 192 53 [l0, some (.int x), l2, l3, l4, l5] st h = ex d 192 54 [l0, some (.int x), l2, l3, l4, l5] (.int x :: st) h := (ex_of d192_53 (d) [l0, some (.int x), l2, l3, l4, l5] st h).trans (rfl)
theorem d192_54 : decode (mB 192) 54 = .ok (.iaload, 1) := by decide +kernel
theorem x192_54 {d : Nat} {L : Lc} {st : List Value} {a j : Nat} {h : Hp} (ht : (h.2.1 a).1 = 20) (hj : j < (h.2.1 a).2) (hb : j < 2147483648) : ex (d) 192 54 L (.int (nI j) :: .ref a :: st) h = ex d 192 55 L (h.1 a j :: st) h := (ex_of d192_54 (d) L (.int (nI j) :: .ref a :: st) h).trans (fin_iaload (Or.inl ht) hj hb)
theorem d192_55 : decode (mB 192) 55 = .ok (.iload_n 3, 1) := by decide +kernel
theorem x192_55 {d : Nat} {l0 l1 l2 l4 l5 : Option Value} {st : List Value} {x : Int32} {h : Hp} : ex (d) 192 55 [l0, l1, l2, some (.int x), l4, l5] st h = ex d 192 56 [l0, l1, l2, some (.int x), l4, l5] (.int x :: st) h := (ex_of d192_55 (d) [l0, l1, l2, some (.int x), l4, l5] st h).trans (rfl)
theorem d192_56 : decode (mB 192) 56 = .ok (.if_icmp .ne 94, 3) := by decide +kernel
theorem x192_56 {d : Nat} {L : Lc} {st : List Value} {x y : Int32} {h : Hp} : ex (d) 192 56 L (.int y :: .int x :: st) h = if ¬ x = y then ex d 192 150 L st h else ex d 192 59 L st h := (ex_of d192_56 (d) L (.int y :: .int x :: st) h).trans (fin_brq (off := 94) (tgt := 150) rfl (by decide))
theorem d192_59 : decode (mB 192) 59 = .ok (.aload_n 0, 1) := by decide +kernel
theorem x192_59 {d : Nat} {l1 l2 l3 l4 l5 : Option Value} {st : List Value} {a : Nat} {h : Hp} : ex (d) 192 59 [some (.ref a), l1, l2, l3, l4, l5] st h = ex d 192 60 [some (.ref a), l1, l2, l3, l4, l5] (.ref a :: st) h := (ex_of d192_59 (d) [some (.ref a), l1, l2, l3, l4, l5] st h).trans (rfl)
theorem d192_60 : decode (mB 192) 60 = .ok (.getfield 61, 3) := by decide +kernel
theorem x192_60 {d : Nat} {L : Lc} {st : List Value} {a : Nat} {h : Hp} (ht : (h.2.1 a).1 = 11) : ex (d) 192 60 L (.ref a :: st) h = ex d 192 63 L (h.1 a 27 :: st) h := (ex_of d192_60 (d) L (.ref a :: st) h).trans (fin_get (mi := 192) f11_61 (tg1 ht rfl))
theorem d192_63 : decode (mB 192) 63 = .ok (.bipush 8, 2) := by decide +kernel
theorem x192_63 {d : Nat} {L : Lc} {st : List Value} {h : Hp} : ex (d) 192 63 L st h = ex d 192 65 L (.int (nI 8) :: st) h := (ex_of d192_63 (d) L st h).trans (rfl)
theorem d192_65 : decode (mB 192) 65 = .ok (.iload_n 1, 1) := by decide +kernel
theorem x192_65 {d : Nat} {l0 l2 l3 l4 l5 : Option Value} {st : List Value} {x : Int32} {h : Hp} : ex (d) 192 65 [l0, some (.int x), l2, l3, l4, l5] st h = ex d 192 66 [l0, some (.int x), l2, l3, l4, l5] (.int x :: st) h := (ex_of d192_65 (d) [l0, some (.int x), l2, l3, l4, l5] st h).trans (rfl)
theorem d192_66 : decode (mB 192) 66 = .ok (.imul, 1) := by decide +kernel
theorem x192_66 {d : Nat} {L : Lc} {st : List Value} {x y : Int32} {h : Hp} : ex (d) 192 66 L (.int y :: .int x :: st) h = ex d 192 67 L (.int (x * y) :: st) h := (ex_of d192_66 (d) L (.int y :: .int x :: st) h).trans (rfl)
theorem d192_67 : decode (mB 192) 67 = .ok (.iload_n 3, 1) := by decide +kernel
theorem x192_67 {d : Nat} {l0 l1 l2 l4 l5 : Option Value} {st : List Value} {x : Int32} {h : Hp} : ex (d) 192 67 [l0, l1, l2, some (.int x), l4, l5] st h = ex d 192 68 [l0, l1, l2, some (.int x), l4, l5] (.int x :: st) h := (ex_of d192_67 (d) [l0, l1, l2, some (.int x), l4, l5] st h).trans (rfl)
theorem d192_68 : decode (mB 192) 68 = .ok (.iadd, 1) := by decide +kernel
theorem x192_68 {d : Nat} {L : Lc} {st : List Value} {x y : Int32} {h : Hp} : ex (d) 192 68 L (.int y :: .int x :: st) h = ex d 192 69 L (.int (x + y) :: st) h := (ex_of d192_68 (d) L (.int y :: .int x :: st) h).trans (rfl)
theorem d192_69 : decode (mB 192) 69 = .ok (.iaload, 1) := by decide +kernel
theorem x192_69 {d : Nat} {L : Lc} {st : List Value} {a j : Nat} {h : Hp} (ht : (h.2.1 a).1 = 20) (hj : j < (h.2.1 a).2) (hb : j < 2147483648) : ex (d) 192 69 L (.int (nI j) :: .ref a :: st) h = ex d 192 70 L (h.1 a j :: st) h := (ex_of d192_69 (d) L (.int (nI j) :: .ref a :: st) h).trans (fin_iaload (Or.inl ht) hj hb)
theorem d192_70 : decode (mB 192) 70 = .ok (.ldc 224, 2) := by decide +kernel
theorem x192_70 {d : Nat} {L : Lc} {st : List Value} {h : Hp} : ex (d) 192 70 L st h = ex d 192 72 L (.int (nI 100000000) :: st) h := (ex_of d192_70 (d) L st h).trans (fin_ldc (mi := 192) c11_224)
theorem d192_72 : decode (mB 192) 72 = .ok (.if_icmp .lt 6, 3) := by decide +kernel
theorem x192_72 {d : Nat} {L : Lc} {st : List Value} {x y : Int32} {h : Hp} : ex (d) 192 72 L (.int y :: .int x :: st) h = if x < y then ex d 192 78 L st h else ex d 192 75 L st h := (ex_of d192_72 (d) L (.int y :: .int x :: st) h).trans (fin_brq (off := 6) (tgt := 78) rfl (by decide))
theorem d192_75 : decode (mB 192) 75 = .ok (.goto 75, 3) := by decide +kernel
theorem x192_75 {d : Nat} {L : Lc} {st : List Value} {h : Hp} : ex (d) 192 75 L st h = ex d 192 150 L st h := (ex_of d192_75 (d) L st h).trans (rfl)
theorem d192_78 : decode (mB 192) 78 = .ok (.iconst 1, 1) := by decide +kernel
theorem x192_78 {d : Nat} {L : Lc} {st : List Value} {h : Hp} : ex (d) 192 78 L st h = ex d 192 79 L (.int (nI 1) :: st) h := (ex_of d192_78 (d) L st h).trans (rfl)
theorem d192_79 : decode (mB 192) 79 = .ok (.istore 4, 2) := by decide +kernel
theorem x192_79 {d : Nat} {l0 l1 l2 l3 l4 l5 : Option Value} {st : List Value} {x : Int32} {h : Hp} : ex (d) 192 79 [l0, l1, l2, l3, l4, l5] (.int x :: st) h = ex d 192 81 [l0, l1, l2, clr l3, some (.int x), l5] st h := (ex_of d192_79 (d) [l0, l1, l2, l3, l4, l5] (.int x :: st) h).trans (rfl)
theorem d192_81 : decode (mB 192) 81 = .ok (.iconst 0, 1) := by decide +kernel
theorem x192_81 {d : Nat} {L : Lc} {st : List Value} {h : Hp} : ex (d) 192 81 L st h = ex d 192 82 L (.int (nI 0) :: st) h := (ex_of d192_81 (d) L st h).trans (rfl)
theorem d192_82 : decode (mB 192) 82 = .ok (.istore 5, 2) := by decide +kernel
theorem x192_82 {d : Nat} {l0 l1 l2 l3 l4 l5 : Option Value} {st : List Value} {x : Int32} {h : Hp} : ex (d) 192 82 [l0, l1, l2, l3, l4, l5] (.int x :: st) h = ex d 192 84 [l0, l1, l2, l3, clr l4, some (.int x)] st h := (ex_of d192_82 (d) [l0, l1, l2, l3, l4, l5] (.int x :: st) h).trans (rfl)
theorem d192_84 : decode (mB 192) 84 = .ok (.iload 5, 2) := by decide +kernel
theorem x192_84 {d : Nat} {l0 l1 l2 l3 l4 : Option Value} {st : List Value} {x : Int32} {h : Hp} : ex (d) 192 84 [l0, l1, l2, l3, l4, some (.int x)] st h = ex d 192 86 [l0, l1, l2, l3, l4, some (.int x)] (.int x :: st) h := (ex_of d192_84 (d) [l0, l1, l2, l3, l4, some (.int x)] st h).trans (rfl)
theorem d192_86 : decode (mB 192) 86 = .ok (.iload_n 1, 1) := by decide +kernel
theorem x192_86 {d : Nat} {l0 l2 l3 l4 l5 : Option Value} {st : List Value} {x : Int32} {h : Hp} : ex (d) 192 86 [l0, some (.int x), l2, l3, l4, l5] st h = ex d 192 87 [l0, some (.int x), l2, l3, l4, l5] (.int x :: st) h := (ex_of d192_86 (d) [l0, some (.int x), l2, l3, l4, l5] st h).trans (rfl)
theorem d192_87 : decode (mB 192) 87 = .ok (.if_icmp .ge 31, 3) := by decide +kernel
theorem x192_87 {d : Nat} {L : Lc} {st : List Value} {x y : Int32} {h : Hp} : ex (d) 192 87 L (.int y :: .int x :: st) h = if y ≤ x then ex d 192 118 L st h else ex d 192 90 L st h := (ex_of d192_87 (d) L (.int y :: .int x :: st) h).trans (fin_brq (off := 31) (tgt := 118) rfl (by decide))
theorem d192_90 : decode (mB 192) 90 = .ok (.iload 4, 2) := by decide +kernel
theorem x192_90 {d : Nat} {l0 l1 l2 l3 l5 : Option Value} {st : List Value} {x : Int32} {h : Hp} : ex (d) 192 90 [l0, l1, l2, l3, some (.int x), l5] st h = ex d 192 92 [l0, l1, l2, l3, some (.int x), l5] (.int x :: st) h := (ex_of d192_90 (d) [l0, l1, l2, l3, some (.int x), l5] st h).trans (rfl)
theorem d192_92 : decode (mB 192) 92 = .ok (.ifCond .eq 26, 3) := by decide +kernel
theorem x192_92 {d : Nat} {L : Lc} {st : List Value} {x : Int32} {h : Hp} : ex (d) 192 92 L (.int x :: st) h = if x = 0 then ex d 192 118 L st h else ex d 192 95 L st h := (ex_of d192_92 (d) L (.int x :: st) h).trans (fin_brq (off := 26) (tgt := 118) rfl (by decide))
theorem d192_95 : decode (mB 192) 95 = .ok (.aload_n 0, 1) := by decide +kernel
theorem x192_95 {d : Nat} {l1 l2 l3 l4 l5 : Option Value} {st : List Value} {a : Nat} {h : Hp} : ex (d) 192 95 [some (.ref a), l1, l2, l3, l4, l5] st h = ex d 192 96 [some (.ref a), l1, l2, l3, l4, l5] (.ref a :: st) h := (ex_of d192_95 (d) [some (.ref a), l1, l2, l3, l4, l5] st h).trans (rfl)
theorem d192_96 : decode (mB 192) 96 = .ok (.iload_n 1, 1) := by decide +kernel
theorem x192_96 {d : Nat} {l0 l2 l3 l4 l5 : Option Value} {st : List Value} {x : Int32} {h : Hp} : ex (d) 192 96 [l0, some (.int x), l2, l3, l4, l5] st h = ex d 192 97 [l0, some (.int x), l2, l3, l4, l5] (.int x :: st) h := (ex_of d192_96 (d) [l0, some (.int x), l2, l3, l4, l5] st h).trans (rfl)
theorem d192_97 : decode (mB 192) 97 = .ok (.iload_n 3, 1) := by decide +kernel
theorem x192_97 {d : Nat} {l0 l1 l2 l4 l5 : Option Value} {st : List Value} {x : Int32} {h : Hp} : ex (d) 192 97 [l0, l1, l2, some (.int x), l4, l5] st h = ex d 192 98 [l0, l1, l2, some (.int x), l4, l5] (.int x :: st) h := (ex_of d192_97 (d) [l0, l1, l2, some (.int x), l4, l5] st h).trans (rfl)
theorem d192_98 : decode (mB 192) 98 = .ok (.iload 5, 2) := by decide +kernel
theorem x192_98 {d : Nat} {l0 l1 l2 l3 l4 : Option Value} {st : List Value} {x : Int32} {h : Hp} : ex (d) 192 98 [l0, l1, l2, l3, l4, some (.int x)] st h = ex d 192 100 [l0, l1, l2, l3, l4, some (.int x)] (.int x :: st) h := (ex_of d192_98 (d) [l0, l1, l2, l3, l4, some (.int x)] st h).trans (rfl)
theorem d192_100 : decode (mB 192) 100 = .ok (.aload_n 0, 1) := by decide +kernel
theorem x192_100 {d : Nat} {l1 l2 l3 l4 l5 : Option Value} {st : List Value} {a : Nat} {h : Hp} : ex (d) 192 100 [some (.ref a), l1, l2, l3, l4, l5] st h = ex d 192 101 [some (.ref a), l1, l2, l3, l4, l5] (.ref a :: st) h := (ex_of d192_100 (d) [some (.ref a), l1, l2, l3, l4, l5] st h).trans (rfl)
theorem d192_101 : decode (mB 192) 101 = .ok (.getfield 67, 3) := by decide +kernel
theorem x192_101 {d : Nat} {L : Lc} {st : List Value} {a : Nat} {h : Hp} (ht : (h.2.1 a).1 = 11) : ex (d) 192 101 L (.ref a :: st) h = ex d 192 104 L (h.1 a 29 :: st) h := (ex_of d192_101 (d) L (.ref a :: st) h).trans (fin_get (mi := 192) f11_67 (tg1 ht rfl))
theorem d192_104 : decode (mB 192) 104 = .ok (.iload 5, 2) := by decide +kernel
theorem x192_104 {d : Nat} {l0 l1 l2 l3 l4 : Option Value} {st : List Value} {x : Int32} {h : Hp} : ex (d) 192 104 [l0, l1, l2, l3, l4, some (.int x)] st h = ex d 192 106 [l0, l1, l2, l3, l4, some (.int x)] (.int x :: st) h := (ex_of d192_104 (d) [l0, l1, l2, l3, l4, some (.int x)] st h).trans (rfl)
theorem d192_106 : decode (mB 192) 106 = .ok (.iaload, 1) := by decide +kernel
theorem x192_106 {d : Nat} {L : Lc} {st : List Value} {a j : Nat} {h : Hp} (ht : (h.2.1 a).1 = 20) (hj : j < (h.2.1 a).2) (hb : j < 2147483648) : ex (d) 192 106 L (.int (nI j) :: .ref a :: st) h = ex d 192 107 L (h.1 a j :: st) h := (ex_of d192_106 (d) L (.int (nI j) :: .ref a :: st) h).trans (fin_iaload (Or.inl ht) hj hb)
theorem d192_107 : decode (mB 192) 107 = .ok (.invokevirtual 228, 3) := by decide +kernel
theorem x192_107 {d : Nat} {L : Lc} {a : Nat} {v0 : Int32} {v1 : Int32} {v2 : Int32} {v3 : Int32} {h : Hp} (ht : (h.2.1 a).1 = 11) : ex (d + 1) 192 107 L (.int v3 :: .int v2 :: .int v1 :: .int v0 :: .ref a :: []) h = bnd (ex d 191 0 [some (.ref a), some (.int v0), some (.int v1), some (.int v2), some (.int v3), none, none, none, none] [] h) (fun v h' => ex (d + 1) 192 110 L (v.toList ++ []) h') := (ex_of d192_107 (d + 1) L (.int v3 :: .int v2 :: .int v1 :: .int v0 :: .ref a :: []) h).trans (fin_vi (mi := 192) i11_228 ht rfl rfl (by simp [cat1_i, cat1_r]) (by simp) (Nat.le_of_ble_eq_true rfl))
theorem d192_110 : decode (mB 192) 110 = .ok (.istore 4, 2) := by decide +kernel
theorem x192_110 {d : Nat} {l0 l1 l2 l3 l4 l5 : Option Value} {st : List Value} {x : Int32} {h : Hp} : ex (d) 192 110 [l0, l1, l2, l3, l4, l5] (.int x :: st) h = ex d 192 112 [l0, l1, l2, clr l3, some (.int x), l5] st h := (ex_of d192_110 (d) [l0, l1, l2, l3, l4, l5] (.int x :: st) h).trans (rfl)
theorem d192_112 : decode (mB 192) 112 = .ok (.iinc 5 1, 3) := by decide +kernel
theorem x192_112 {d : Nat} {l0 l1 l2 l3 l4 : Option Value} {st : List Value} {x : Int32} {h : Hp} : ex (d) 192 112 [l0, l1, l2, l3, l4, some (.int x)] st h = ex d 192 115 [l0, l1, l2, l3, clr l4, some (.int (x + (nI 1)))] st h := (ex_of d192_112 (d) [l0, l1, l2, l3, l4, some (.int x)] st h).trans (rfl)
theorem d192_115 : decode (mB 192) 115 = .ok (.goto (-31), 3) := by decide +kernel
theorem x192_115 {d : Nat} {L : Lc} {st : List Value} {h : Hp} : ex (d) 192 115 L st h = ex d 192 84 L st h := (ex_of d192_115 (d) L st h).trans (rfl)
theorem d192_118 : decode (mB 192) 118 = .ok (.aload_n 0, 1) := by decide +kernel
theorem x192_118 {d : Nat} {l1 l2 l3 l4 l5 : Option Value} {st : List Value} {a : Nat} {h : Hp} : ex (d) 192 118 [some (.ref a), l1, l2, l3, l4, l5] st h = ex d 192 119 [some (.ref a), l1, l2, l3, l4, l5] (.ref a :: st) h := (ex_of d192_118 (d) [some (.ref a), l1, l2, l3, l4, l5] st h).trans (rfl)
theorem d192_119 : decode (mB 192) 119 = .ok (.getfield 67, 3) := by decide +kernel
theorem x192_119 {d : Nat} {L : Lc} {st : List Value} {a : Nat} {h : Hp} (ht : (h.2.1 a).1 = 11) : ex (d) 192 119 L (.ref a :: st) h = ex d 192 122 L (h.1 a 29 :: st) h := (ex_of d192_119 (d) L (.ref a :: st) h).trans (fin_get (mi := 192) f11_67 (tg1 ht rfl))
theorem d192_122 : decode (mB 192) 122 = .ok (.iload_n 1, 1) := by decide +kernel
theorem x192_122 {d : Nat} {l0 l2 l3 l4 l5 : Option Value} {st : List Value} {x : Int32} {h : Hp} : ex (d) 192 122 [l0, some (.int x), l2, l3, l4, l5] st h = ex d 192 123 [l0, some (.int x), l2, l3, l4, l5] (.int x :: st) h := (ex_of d192_122 (d) [l0, some (.int x), l2, l3, l4, l5] st h).trans (rfl)
theorem d192_123 : decode (mB 192) 123 = .ok (.iload_n 3, 1) := by decide +kernel
theorem x192_123 {d : Nat} {l0 l1 l2 l4 l5 : Option Value} {st : List Value} {x : Int32} {h : Hp} : ex (d) 192 123 [l0, l1, l2, some (.int x), l4, l5] st h = ex d 192 124 [l0, l1, l2, some (.int x), l4, l5] (.int x :: st) h := (ex_of d192_123 (d) [l0, l1, l2, some (.int x), l4, l5] st h).trans (rfl)
theorem d192_124 : decode (mB 192) 124 = .ok (.iastore, 1) := by decide +kernel
theorem x192_124 {d : Nat} {L : Lc} {st : List Value} {a j : Nat} {x : Int32} {h : Hp} (ht : (h.2.1 a).1 = 20) (hj : j < (h.2.1 a).2) (hb : j < 2147483648) : ex (d) 192 124 L (.int x :: .int (nI j) :: .ref a :: st) h = ex d 192 125 L st (mup h.1 a j (.int x), h.2) := (ex_of d192_124 (d) L (.int x :: .int (nI j) :: .ref a :: st) h).trans (fin_iastore ht hj hb)
theorem d192_125 : decode (mB 192) 125 = .ok (.iload 4, 2) := by decide +kernel
theorem x192_125 {d : Nat} {l0 l1 l2 l3 l5 : Option Value} {st : List Value} {x : Int32} {h : Hp} : ex (d) 192 125 [l0, l1, l2, l3, some (.int x), l5] st h = ex d 192 127 [l0, l1, l2, l3, some (.int x), l5] (.int x :: st) h := (ex_of d192_125 (d) [l0, l1, l2, l3, some (.int x), l5] st h).trans (rfl)
theorem d192_127 : decode (mB 192) 127 = .ok (.ifCond .eq 23, 3) := by decide +kernel
theorem x192_127 {d : Nat} {L : Lc} {st : List Value} {x : Int32} {h : Hp} : ex (d) 192 127 L (.int x :: st) h = if x = 0 then ex d 192 150 L st h else ex d 192 130 L st h := (ex_of d192_127 (d) L (.int x :: st) h).trans (fin_brq (off := 23) (tgt := 150) rfl (by decide))
theorem d192_130 : decode (mB 192) 130 = .ok (.aload_n 0, 1) := by decide +kernel
theorem x192_130 {d : Nat} {l1 l2 l3 l4 l5 : Option Value} {st : List Value} {a : Nat} {h : Hp} : ex (d) 192 130 [some (.ref a), l1, l2, l3, l4, l5] st h = ex d 192 131 [some (.ref a), l1, l2, l3, l4, l5] (.ref a :: st) h := (ex_of d192_130 (d) [some (.ref a), l1, l2, l3, l4, l5] st h).trans (rfl)
theorem d192_131 : decode (mB 192) 131 = .ok (.iload_n 1, 1) := by decide +kernel
theorem x192_131 {d : Nat} {l0 l2 l3 l4 l5 : Option Value} {st : List Value} {x : Int32} {h : Hp} : ex (d) 192 131 [l0, some (.int x), l2, l3, l4, l5] st h = ex d 192 132 [l0, some (.int x), l2, l3, l4, l5] (.int x :: st) h := (ex_of d192_131 (d) [l0, some (.int x), l2, l3, l4, l5] st h).trans (rfl)
theorem d192_132 : decode (mB 192) 132 = .ok (.iconst 1, 1) := by decide +kernel
theorem x192_132 {d : Nat} {L : Lc} {st : List Value} {h : Hp} : ex (d) 192 132 L st h = ex d 192 133 L (.int (nI 1) :: st) h := (ex_of d192_132 (d) L st h).trans (rfl)
theorem d192_133 : decode (mB 192) 133 = .ok (.iadd, 1) := by decide +kernel
theorem x192_133 {d : Nat} {L : Lc} {st : List Value} {x y : Int32} {h : Hp} : ex (d) 192 133 L (.int y :: .int x :: st) h = ex d 192 134 L (.int (x + y) :: st) h := (ex_of d192_133 (d) L (.int y :: .int x :: st) h).trans (rfl)
theorem d192_134 : decode (mB 192) 134 = .ok (.iload_n 2, 1) := by decide +kernel
theorem x192_134 {d : Nat} {l0 l1 l3 l4 l5 : Option Value} {st : List Value} {x : Int32} {h : Hp} : ex (d) 192 134 [l0, l1, some (.int x), l3, l4, l5] st h = ex d 192 135 [l0, l1, some (.int x), l3, l4, l5] (.int x :: st) h := (ex_of d192_134 (d) [l0, l1, some (.int x), l3, l4, l5] st h).trans (rfl)
theorem d192_135 : decode (mB 192) 135 = .ok (.aload_n 0, 1) := by decide +kernel
theorem x192_135 {d : Nat} {l1 l2 l3 l4 l5 : Option Value} {st : List Value} {a : Nat} {h : Hp} : ex (d) 192 135 [some (.ref a), l1, l2, l3, l4, l5] st h = ex d 192 136 [some (.ref a), l1, l2, l3, l4, l5] (.ref a :: st) h := (ex_of d192_135 (d) [some (.ref a), l1, l2, l3, l4, l5] st h).trans (rfl)
theorem d192_136 : decode (mB 192) 136 = .ok (.getfield 61, 3) := by decide +kernel
theorem x192_136 {d : Nat} {L : Lc} {st : List Value} {a : Nat} {h : Hp} (ht : (h.2.1 a).1 = 11) : ex (d) 192 136 L (.ref a :: st) h = ex d 192 139 L (h.1 a 27 :: st) h := (ex_of d192_136 (d) L (.ref a :: st) h).trans (fin_get (mi := 192) f11_61 (tg1 ht rfl))
theorem d192_139 : decode (mB 192) 139 = .ok (.bipush 8, 2) := by decide +kernel
theorem x192_139 {d : Nat} {L : Lc} {st : List Value} {h : Hp} : ex (d) 192 139 L st h = ex d 192 141 L (.int (nI 8) :: st) h := (ex_of d192_139 (d) L st h).trans (rfl)
theorem d192_141 : decode (mB 192) 141 = .ok (.iload_n 1, 1) := by decide +kernel
theorem x192_141 {d : Nat} {l0 l2 l3 l4 l5 : Option Value} {st : List Value} {x : Int32} {h : Hp} : ex (d) 192 141 [l0, some (.int x), l2, l3, l4, l5] st h = ex d 192 142 [l0, some (.int x), l2, l3, l4, l5] (.int x :: st) h := (ex_of d192_141 (d) [l0, some (.int x), l2, l3, l4, l5] st h).trans (rfl)
theorem d192_142 : decode (mB 192) 142 = .ok (.imul, 1) := by decide +kernel
theorem x192_142 {d : Nat} {L : Lc} {st : List Value} {x y : Int32} {h : Hp} : ex (d) 192 142 L (.int y :: .int x :: st) h = ex d 192 143 L (.int (x * y) :: st) h := (ex_of d192_142 (d) L (.int y :: .int x :: st) h).trans (rfl)
theorem d192_143 : decode (mB 192) 143 = .ok (.iload_n 3, 1) := by decide +kernel
theorem x192_143 {d : Nat} {l0 l1 l2 l4 l5 : Option Value} {st : List Value} {x : Int32} {h : Hp} : ex (d) 192 143 [l0, l1, l2, some (.int x), l4, l5] st h = ex d 192 144 [l0, l1, l2, some (.int x), l4, l5] (.int x :: st) h := (ex_of d192_143 (d) [l0, l1, l2, some (.int x), l4, l5] st h).trans (rfl)
theorem d192_144 : decode (mB 192) 144 = .ok (.iadd, 1) := by decide +kernel
theorem x192_144 {d : Nat} {L : Lc} {st : List Value} {x y : Int32} {h : Hp} : ex (d) 192 144 L (.int y :: .int x :: st) h = ex d 192 145 L (.int (x + y) :: st) h := (ex_of d192_144 (d) L (.int y :: .int x :: st) h).trans (rfl)
theorem d192_145 : decode (mB 192) 145 = .ok (.iaload, 1) := by decide +kernel
theorem x192_145 {d : Nat} {L : Lc} {st : List Value} {a j : Nat} {h : Hp} (ht : (h.2.1 a).1 = 20) (hj : j < (h.2.1 a).2) (hb : j < 2147483648) : ex (d) 192 145 L (.int (nI j) :: .ref a :: st) h = ex d 192 146 L (h.1 a j :: st) h := (ex_of d192_145 (d) L (.int (nI j) :: .ref a :: st) h).trans (fin_iaload (Or.inl ht) hj hb)
theorem d192_146 : decode (mB 192) 146 = .ok (.iadd, 1) := by decide +kernel
theorem x192_146 {d : Nat} {L : Lc} {st : List Value} {x y : Int32} {h : Hp} : ex (d) 192 146 L (.int y :: .int x :: st) h = ex d 192 147 L (.int (x + y) :: st) h := (ex_of d192_146 (d) L (.int y :: .int x :: st) h).trans (rfl)
theorem d192_147 : decode (mB 192) 147 = .ok (.invokevirtual 232, 3) := by decide +kernel
theorem x192_147 {d : Nat} {L : Lc} {a : Nat} {v0 : Int32} {v1 : Int32} {h : Hp} (ht : (h.2.1 a).1 = 11) : ex (d + 1) 192 147 L (.int v1 :: .int v0 :: .ref a :: []) h = bnd (ex d 192 0 [some (.ref a), some (.int v0), some (.int v1), none, none, none] [] h) (fun v h' => ex (d + 1) 192 150 L (v.toList ++ []) h') := (ex_of d192_147 (d + 1) L (.int v1 :: .int v0 :: .ref a :: []) h).trans (fin_vi (mi := 192) i11_232 ht rfl rfl (by simp [cat1_i, cat1_r]) (by simp) (Nat.le_of_ble_eq_true rfl))
theorem d192_150 : decode (mB 192) 150 = .ok (.iinc 3 1, 3) := by decide +kernel
theorem x192_150 {d : Nat} {l0 l1 l2 l4 l5 : Option Value} {st : List Value} {x : Int32} {h : Hp} : ex (d) 192 150 [l0, l1, l2, some (.int x), l4, l5] st h = ex d 192 153 [l0, l1, clr l2, some (.int (x + (nI 1))), l4, l5] st h := (ex_of d192_150 (d) [l0, l1, l2, some (.int x), l4, l5] st h).trans (rfl)
theorem d192_153 : decode (mB 192) 153 = .ok (.goto (-121), 3) := by decide +kernel
theorem x192_153 {d : Nat} {L : Lc} {st : List Value} {h : Hp} : ex (d) 192 153 L st h = ex d 192 32 L st h := (ex_of d192_153 (d) L st h).trans (rfl)
theorem d192_156 : decode (mB 192) 156 = .ok (.return_, 1) := by decide +kernel
theorem x192_156 {d : Nat} {L : Lc}  {h : Hp} : ex (d) 192 156 L [] h = some (none, h) := (ex_of d192_156 (d) L [] h).trans (rfl)
theorem d193_0 : decode (mB 193) 0 = .ok (.aload_n 0, 1) := by decide +kernel
theorem x193_0 {d : Nat} {l1 l2 l3 : Option Value} {st : List Value} {a : Nat} {h : Hp} : ex (d) 193 0 [some (.ref a), l1, l2, l3] st h = ex d 193 1 [some (.ref a), l1, l2, l3] (.ref a :: st) h := (ex_of d193_0 (d) [some (.ref a), l1, l2, l3] st h).trans (rfl)
theorem d193_1 : decode (mB 193) 1 = .ok (.getfield 70, 3) := by decide +kernel
theorem x193_1 {d : Nat} {L : Lc} {st : List Value} {a : Nat} {h : Hp} (ht : (h.2.1 a).1 = 11) : ex (d) 193 1 L (.ref a :: st) h = ex d 193 4 L (h.1 a 31 :: st) h := (ex_of d193_1 (d) L (.ref a :: st) h).trans (fin_get (mi := 193) f11_70 (tg1 ht rfl))
theorem d193_4 : decode (mB 193) 4 = .ok (.aload_n 0, 1) := by decide +kernel
theorem x193_4 {d : Nat} {l1 l2 l3 : Option Value} {st : List Value} {a : Nat} {h : Hp} : ex (d) 193 4 [some (.ref a), l1, l2, l3] st h = ex d 193 5 [some (.ref a), l1, l2, l3] (.ref a :: st) h := (ex_of d193_4 (d) [some (.ref a), l1, l2, l3] st h).trans (rfl)
theorem d193_5 : decode (mB 193) 5 = .ok (.getfield 218, 3) := by decide +kernel
theorem x193_5 {d : Nat} {L : Lc} {st : List Value} {a : Nat} {h : Hp} (ht : (h.2.1 a).1 = 11) : ex (d) 193 5 L (.ref a :: st) h = ex d 193 8 L (h.1 a 21 :: st) h := (ex_of d193_5 (d) L (.ref a :: st) h).trans (fin_get (mi := 193) f11_218 (tg1 ht rfl))
theorem d193_8 : decode (mB 193) 8 = .ok (.iconst 0, 1) := by decide +kernel
theorem x193_8 {d : Nat} {L : Lc} {st : List Value} {h : Hp} : ex (d) 193 8 L st h = ex d 193 9 L (.int (nI 0) :: st) h := (ex_of d193_8 (d) L st h).trans (rfl)
theorem d193_9 : decode (mB 193) 9 = .ok (.iastore, 1) := by decide +kernel
theorem x193_9 {d : Nat} {L : Lc} {st : List Value} {a j : Nat} {x : Int32} {h : Hp} (ht : (h.2.1 a).1 = 20) (hj : j < (h.2.1 a).2) (hb : j < 2147483648) : ex (d) 193 9 L (.int x :: .int (nI j) :: .ref a :: st) h = ex d 193 10 L st (mup h.1 a j (.int x), h.2) := (ex_of d193_9 (d) L (.int x :: .int (nI j) :: .ref a :: st) h).trans (fin_iastore ht hj hb)
theorem d193_10 : decode (mB 193) 10 = .ok (.aload_n 0, 1) := by decide +kernel
theorem x193_10 {d : Nat} {l1 l2 l3 : Option Value} {st : List Value} {a : Nat} {h : Hp} : ex (d) 193 10 [some (.ref a), l1, l2, l3] st h = ex d 193 11 [some (.ref a), l1, l2, l3] (.ref a :: st) h := (ex_of d193_10 (d) [some (.ref a), l1, l2, l3] st h).trans (rfl)
theorem d193_11 : decode (mB 193) 11 = .ok (.getfield 218, 3) := by decide +kernel
theorem x193_11 {d : Nat} {L : Lc} {st : List Value} {a : Nat} {h : Hp} (ht : (h.2.1 a).1 = 11) : ex (d) 193 11 L (.ref a :: st) h = ex d 193 14 L (h.1 a 21 :: st) h := (ex_of d193_11 (d) L (.ref a :: st) h).trans (fin_get (mi := 193) f11_218 (tg1 ht rfl))
theorem d193_14 : decode (mB 193) 14 = .ok (.iconst 1, 1) := by decide +kernel
theorem x193_14 {d : Nat} {L : Lc} {st : List Value} {h : Hp} : ex (d) 193 14 L st h = ex d 193 15 L (.int (nI 1) :: st) h := (ex_of d193_14 (d) L st h).trans (rfl)
theorem d193_15 : decode (mB 193) 15 = .ok (.isub, 1) := by decide +kernel
theorem x193_15 {d : Nat} {L : Lc} {st : List Value} {x y : Int32} {h : Hp} : ex (d) 193 15 L (.int y :: .int x :: st) h = ex d 193 16 L (.int (x - y) :: st) h := (ex_of d193_15 (d) L (.int y :: .int x :: st) h).trans (rfl)
theorem d193_16 : decode (mB 193) 16 = .ok (.istore_n 1, 1) := by decide +kernel
theorem x193_16 {d : Nat} {l0 l1 l2 l3 : Option Value} {st : List Value} {x : Int32} {h : Hp} : ex (d) 193 16 [l0, l1, l2, l3] (.int x :: st) h = ex d 193 17 [clr l0, some (.int x), l2, l3] st h := (ex_of d193_16 (d) [l0, l1, l2, l3] (.int x :: st) h).trans (rfl)
theorem d193_17 : decode (mB 193) 17 = .ok (.iload_n 1, 1) := by decide +kernel
theorem x193_17 {d : Nat} {l0 l2 l3 : Option Value} {st : List Value} {x : Int32} {h : Hp} : ex (d) 193 17 [l0, some (.int x), l2, l3] st h = ex d 193 18 [l0, some (.int x), l2, l3] (.int x :: st) h := (ex_of d193_17 (d) [l0, some (.int x), l2, l3] st h).trans (rfl)
theorem d193_18 : decode (mB 193) 18 = .ok (.ifCond .lt 110, 3) := by decide +kernel
theorem x193_18 {d : Nat} {L : Lc} {st : List Value} {x : Int32} {h : Hp} : ex (d) 193 18 L (.int x :: st) h = if x < 0 then ex d 193 128 L st h else ex d 193 21 L st h := (ex_of d193_18 (d) L (.int x :: st) h).trans (fin_brq (off := 110) (tgt := 128) rfl (by decide))
theorem d193_21 : decode (mB 193) 21 = .ok (.ldc 224, 2) := by decide +kernel
theorem x193_21 {d : Nat} {L : Lc} {st : List Value} {h : Hp} : ex (d) 193 21 L st h = ex d 193 23 L (.int (nI 100000000) :: st) h := (ex_of d193_21 (d) L st h).trans (fin_ldc (mi := 193) c11_224)
theorem d193_23 : decode (mB 193) 23 = .ok (.istore_n 2, 1) := by decide +kernel
theorem x193_23 {d : Nat} {l0 l1 l2 l3 : Option Value} {st : List Value} {x : Int32} {h : Hp} : ex (d) 193 23 [l0, l1, l2, l3] (.int x :: st) h = ex d 193 24 [l0, clr l1, some (.int x), l3] st h := (ex_of d193_23 (d) [l0, l1, l2, l3] (.int x :: st) h).trans (rfl)
theorem d193_24 : decode (mB 193) 24 = .ok (.iconst 0, 1) := by decide +kernel
theorem x193_24 {d : Nat} {L : Lc} {st : List Value} {h : Hp} : ex (d) 193 24 L st h = ex d 193 25 L (.int (nI 0) :: st) h := (ex_of d193_24 (d) L st h).trans (rfl)
theorem d193_25 : decode (mB 193) 25 = .ok (.istore_n 3, 1) := by decide +kernel
theorem x193_25 {d : Nat} {l0 l1 l2 l3 : Option Value} {st : List Value} {x : Int32} {h : Hp} : ex (d) 193 25 [l0, l1, l2, l3] (.int x :: st) h = ex d 193 26 [l0, l1, clr l2, some (.int x)] st h := (ex_of d193_25 (d) [l0, l1, l2, l3] (.int x :: st) h).trans (rfl)
theorem d193_26 : decode (mB 193) 26 = .ok (.iload_n 3, 1) := by decide +kernel
theorem x193_26 {d : Nat} {l0 l1 l2 : Option Value} {st : List Value} {x : Int32} {h : Hp} : ex (d) 193 26 [l0, l1, l2, some (.int x)] st h = ex d 193 27 [l0, l1, l2, some (.int x)] (.int x :: st) h := (ex_of d193_26 (d) [l0, l1, l2, some (.int x)] st h).trans (rfl)
theorem d193_27 : decode (mB 193) 27 = .ok (.aload_n 0, 1) := by decide +kernel
theorem x193_27 {d : Nat} {l1 l2 l3 : Option Value} {st : List Value} {a : Nat} {h : Hp} : ex (d) 193 27 [some (.ref a), l1, l2, l3] st h = ex d 193 28 [some (.ref a), l1, l2, l3] (.ref a :: st) h := (ex_of d193_27 (d) [some (.ref a), l1, l2, l3] st h).trans (rfl)
theorem d193_28 : decode (mB 193) 28 = .ok (.getfield 221, 3) := by decide +kernel
theorem x193_28 {d : Nat} {L : Lc} {st : List Value} {a : Nat} {h : Hp} (ht : (h.2.1 a).1 = 11) : ex (d) 193 28 L (.ref a :: st) h = ex d 193 31 L (h.1 a 25 :: st) h := (ex_of d193_28 (d) L (.ref a :: st) h).trans (fin_get (mi := 193) f11_221 (tg1 ht rfl))
theorem d193_31 : decode (mB 193) 31 = .ok (.if_icmp .ge 55, 3) := by decide +kernel
theorem x193_31 {d : Nat} {L : Lc} {st : List Value} {x y : Int32} {h : Hp} : ex (d) 193 31 L (.int y :: .int x :: st) h = if y ≤ x then ex d 193 86 L st h else ex d 193 34 L st h := (ex_of d193_31 (d) L (.int y :: .int x :: st) h).trans (fin_brq (off := 55) (tgt := 86) rfl (by decide))
theorem d193_34 : decode (mB 193) 34 = .ok (.aload_n 0, 1) := by decide +kernel
theorem x193_34 {d : Nat} {l1 l2 l3 : Option Value} {st : List Value} {a : Nat} {h : Hp} : ex (d) 193 34 [some (.ref a), l1, l2, l3] st h = ex d 193 35 [some (.ref a), l1, l2, l3] (.ref a :: st) h := (ex_of d193_34 (d) [some (.ref a), l1, l2, l3] st h).trans (rfl)
theorem d193_35 : decode (mB 193) 35 = .ok (.getfield 64, 3) := by decide +kernel
theorem x193_35 {d : Nat} {L : Lc} {st : List Value} {a : Nat} {h : Hp} (ht : (h.2.1 a).1 = 11) : ex (d) 193 35 L (.ref a :: st) h = ex d 193 38 L (h.1 a 28 :: st) h := (ex_of d193_35 (d) L (.ref a :: st) h).trans (fin_get (mi := 193) f11_64 (tg1 ht rfl))
theorem d193_38 : decode (mB 193) 38 = .ok (.iload_n 1, 1) := by decide +kernel
theorem x193_38 {d : Nat} {l0 l2 l3 : Option Value} {st : List Value} {x : Int32} {h : Hp} : ex (d) 193 38 [l0, some (.int x), l2, l3] st h = ex d 193 39 [l0, some (.int x), l2, l3] (.int x :: st) h := (ex_of d193_38 (d) [l0, some (.int x), l2, l3] st h).trans (rfl)
theorem d193_39 : decode (mB 193) 39 = .ok (.iaload, 1) := by decide +kernel
theorem x193_39 {d : Nat} {L : Lc} {st : List Value} {a j : Nat} {h : Hp} (ht : (h.2.1 a).1 = 20) (hj : j < (h.2.1 a).2) (hb : j < 2147483648) : ex (d) 193 39 L (.int (nI j) :: .ref a :: st) h = ex d 193 40 L (h.1 a j :: st) h := (ex_of d193_39 (d) L (.int (nI j) :: .ref a :: st) h).trans (fin_iaload (Or.inl ht) hj hb)
theorem d193_40 : decode (mB 193) 40 = .ok (.ifCond .lt 13, 3) := by decide +kernel
theorem x193_40 {d : Nat} {L : Lc} {st : List Value} {x : Int32} {h : Hp} : ex (d) 193 40 L (.int x :: st) h = if x < 0 then ex d 193 53 L st h else ex d 193 43 L st h := (ex_of d193_40 (d) L (.int x :: st) h).trans (fin_brq (off := 13) (tgt := 53) rfl (by decide))
theorem d193_43 : decode (mB 193) 43 = .ok (.aload_n 0, 1) := by decide +kernel
theorem x193_43 {d : Nat} {l1 l2 l3 : Option Value} {st : List Value} {a : Nat} {h : Hp} : ex (d) 193 43 [some (.ref a), l1, l2, l3] st h = ex d 193 44 [some (.ref a), l1, l2, l3] (.ref a :: st) h := (ex_of d193_43 (d) [some (.ref a), l1, l2, l3] st h).trans (rfl)
theorem d193_44 : decode (mB 193) 44 = .ok (.getfield 64, 3) := by decide +kernel
theorem x193_44 {d : Nat} {L : Lc} {st : List Value} {a : Nat} {h : Hp} (ht : (h.2.1 a).1 = 11) : ex (d) 193 44 L (.ref a :: st) h = ex d 193 47 L (h.1 a 28 :: st) h := (ex_of d193_44 (d) L (.ref a :: st) h).trans (fin_get (mi := 193) f11_64 (tg1 ht rfl))
theorem d193_47 : decode (mB 193) 47 = .ok (.iload_n 1, 1) := by decide +kernel
theorem x193_47 {d : Nat} {l0 l2 l3 : Option Value} {st : List Value} {x : Int32} {h : Hp} : ex (d) 193 47 [l0, some (.int x), l2, l3] st h = ex d 193 48 [l0, some (.int x), l2, l3] (.int x :: st) h := (ex_of d193_47 (d) [l0, some (.int x), l2, l3] st h).trans (rfl)
theorem d193_48 : decode (mB 193) 48 = .ok (.iaload, 1) := by decide +kernel
theorem x193_48 {d : Nat} {L : Lc} {st : List Value} {a j : Nat} {h : Hp} (ht : (h.2.1 a).1 = 20) (hj : j < (h.2.1 a).2) (hb : j < 2147483648) : ex (d) 193 48 L (.int (nI j) :: .ref a :: st) h = ex d 193 49 L (h.1 a j :: st) h := (ex_of d193_48 (d) L (.int (nI j) :: .ref a :: st) h).trans (fin_iaload (Or.inl ht) hj hb)
theorem d193_49 : decode (mB 193) 49 = .ok (.iload_n 3, 1) := by decide +kernel
theorem x193_49 {d : Nat} {l0 l1 l2 : Option Value} {st : List Value} {x : Int32} {h : Hp} : ex (d) 193 49 [l0, l1, l2, some (.int x)] st h = ex d 193 50 [l0, l1, l2, some (.int x)] (.int x :: st) h := (ex_of d193_49 (d) [l0, l1, l2, some (.int x)] st h).trans (rfl)
theorem d193_50 : decode (mB 193) 50 = .ok (.if_icmp .ne 30, 3) := by decide +kernel
theorem x193_50 {d : Nat} {L : Lc} {st : List Value} {x y : Int32} {h : Hp} : ex (d) 193 50 L (.int y :: .int x :: st) h = if ¬ x = y then ex d 193 80 L st h else ex d 193 53 L st h := (ex_of d193_50 (d) L (.int y :: .int x :: st) h).trans (fin_brq (off := 30) (tgt := 80) rfl (by decide))
theorem d193_53 : decode (mB 193) 53 = .ok (.aload_n 0, 1) := by decide +kernel
theorem x193_53 {d : Nat} {l1 l2 l3 : Option Value} {st : List Value} {a : Nat} {h : Hp} : ex (d) 193 53 [some (.ref a), l1, l2, l3] st h = ex d 193 54 [some (.ref a), l1, l2, l3] (.ref a :: st) h := (ex_of d193_53 (d) [some (.ref a), l1, l2, l3] st h).trans (rfl)
theorem d193_54 : decode (mB 193) 54 = .ok (.getfield 61, 3) := by decide +kernel
theorem x193_54 {d : Nat} {L : Lc} {st : List Value} {a : Nat} {h : Hp} (ht : (h.2.1 a).1 = 11) : ex (d) 193 54 L (.ref a :: st) h = ex d 193 57 L (h.1 a 27 :: st) h := (ex_of d193_54 (d) L (.ref a :: st) h).trans (fin_get (mi := 193) f11_61 (tg1 ht rfl))
theorem d193_57 : decode (mB 193) 57 = .ok (.bipush 8, 2) := by decide +kernel
theorem x193_57 {d : Nat} {L : Lc} {st : List Value} {h : Hp} : ex (d) 193 57 L st h = ex d 193 59 L (.int (nI 8) :: st) h := (ex_of d193_57 (d) L st h).trans (rfl)
theorem d193_59 : decode (mB 193) 59 = .ok (.iload_n 1, 1) := by decide +kernel
theorem x193_59 {d : Nat} {l0 l2 l3 : Option Value} {st : List Value} {x : Int32} {h : Hp} : ex (d) 193 59 [l0, some (.int x), l2, l3] st h = ex d 193 60 [l0, some (.int x), l2, l3] (.int x :: st) h := (ex_of d193_59 (d) [l0, some (.int x), l2, l3] st h).trans (rfl)
theorem d193_60 : decode (mB 193) 60 = .ok (.imul, 1) := by decide +kernel
theorem x193_60 {d : Nat} {L : Lc} {st : List Value} {x y : Int32} {h : Hp} : ex (d) 193 60 L (.int y :: .int x :: st) h = ex d 193 61 L (.int (x * y) :: st) h := (ex_of d193_60 (d) L (.int y :: .int x :: st) h).trans (rfl)
theorem d193_61 : decode (mB 193) 61 = .ok (.iload_n 3, 1) := by decide +kernel
theorem x193_61 {d : Nat} {l0 l1 l2 : Option Value} {st : List Value} {x : Int32} {h : Hp} : ex (d) 193 61 [l0, l1, l2, some (.int x)] st h = ex d 193 62 [l0, l1, l2, some (.int x)] (.int x :: st) h := (ex_of d193_61 (d) [l0, l1, l2, some (.int x)] st h).trans (rfl)
theorem d193_62 : decode (mB 193) 62 = .ok (.iadd, 1) := by decide +kernel
theorem x193_62 {d : Nat} {L : Lc} {st : List Value} {x y : Int32} {h : Hp} : ex (d) 193 62 L (.int y :: .int x :: st) h = ex d 193 63 L (.int (x + y) :: st) h := (ex_of d193_62 (d) L (.int y :: .int x :: st) h).trans (rfl)
theorem d193_63 : decode (mB 193) 63 = .ok (.iaload, 1) := by decide +kernel
theorem x193_63 {d : Nat} {L : Lc} {st : List Value} {a j : Nat} {h : Hp} (ht : (h.2.1 a).1 = 20) (hj : j < (h.2.1 a).2) (hb : j < 2147483648) : ex (d) 193 63 L (.int (nI j) :: .ref a :: st) h = ex d 193 64 L (h.1 a j :: st) h := (ex_of d193_63 (d) L (.int (nI j) :: .ref a :: st) h).trans (fin_iaload (Or.inl ht) hj hb)
theorem d193_64 : decode (mB 193) 64 = .ok (.iload_n 2, 1) := by decide +kernel
theorem x193_64 {d : Nat} {l0 l1 l3 : Option Value} {st : List Value} {x : Int32} {h : Hp} : ex (d) 193 64 [l0, l1, some (.int x), l3] st h = ex d 193 65 [l0, l1, some (.int x), l3] (.int x :: st) h := (ex_of d193_64 (d) [l0, l1, some (.int x), l3] st h).trans (rfl)
theorem d193_65 : decode (mB 193) 65 = .ok (.if_icmp .ge 15, 3) := by decide +kernel
theorem x193_65 {d : Nat} {L : Lc} {st : List Value} {x y : Int32} {h : Hp} : ex (d) 193 65 L (.int y :: .int x :: st) h = if y ≤ x then ex d 193 80 L st h else ex d 193 68 L st h := (ex_of d193_65 (d) L (.int y :: .int x :: st) h).trans (fin_brq (off := 15) (tgt := 80) rfl (by decide))
theorem d193_68 : decode (mB 193) 68 = .ok (.aload_n 0, 1) := by decide +kernel
theorem x193_68 {d : Nat} {l1 l2 l3 : Option Value} {st : List Value} {a : Nat} {h : Hp} : ex (d) 193 68 [some (.ref a), l1, l2, l3] st h = ex d 193 69 [some (.ref a), l1, l2, l3] (.ref a :: st) h := (ex_of d193_68 (d) [some (.ref a), l1, l2, l3] st h).trans (rfl)
theorem d193_69 : decode (mB 193) 69 = .ok (.getfield 61, 3) := by decide +kernel
theorem x193_69 {d : Nat} {L : Lc} {st : List Value} {a : Nat} {h : Hp} (ht : (h.2.1 a).1 = 11) : ex (d) 193 69 L (.ref a :: st) h = ex d 193 72 L (h.1 a 27 :: st) h := (ex_of d193_69 (d) L (.ref a :: st) h).trans (fin_get (mi := 193) f11_61 (tg1 ht rfl))
theorem d193_72 : decode (mB 193) 72 = .ok (.bipush 8, 2) := by decide +kernel
theorem x193_72 {d : Nat} {L : Lc} {st : List Value} {h : Hp} : ex (d) 193 72 L st h = ex d 193 74 L (.int (nI 8) :: st) h := (ex_of d193_72 (d) L st h).trans (rfl)
theorem d193_74 : decode (mB 193) 74 = .ok (.iload_n 1, 1) := by decide +kernel
theorem x193_74 {d : Nat} {l0 l2 l3 : Option Value} {st : List Value} {x : Int32} {h : Hp} : ex (d) 193 74 [l0, some (.int x), l2, l3] st h = ex d 193 75 [l0, some (.int x), l2, l3] (.int x :: st) h := (ex_of d193_74 (d) [l0, some (.int x), l2, l3] st h).trans (rfl)
theorem d193_75 : decode (mB 193) 75 = .ok (.imul, 1) := by decide +kernel
theorem x193_75 {d : Nat} {L : Lc} {st : List Value} {x y : Int32} {h : Hp} : ex (d) 193 75 L (.int y :: .int x :: st) h = ex d 193 76 L (.int (x * y) :: st) h := (ex_of d193_75 (d) L (.int y :: .int x :: st) h).trans (rfl)
theorem d193_76 : decode (mB 193) 76 = .ok (.iload_n 3, 1) := by decide +kernel
theorem x193_76 {d : Nat} {l0 l1 l2 : Option Value} {st : List Value} {x : Int32} {h : Hp} : ex (d) 193 76 [l0, l1, l2, some (.int x)] st h = ex d 193 77 [l0, l1, l2, some (.int x)] (.int x :: st) h := (ex_of d193_76 (d) [l0, l1, l2, some (.int x)] st h).trans (rfl)
theorem d193_77 : decode (mB 193) 77 = .ok (.iadd, 1) := by decide +kernel
theorem x193_77 {d : Nat} {L : Lc} {st : List Value} {x y : Int32} {h : Hp} : ex (d) 193 77 L (.int y :: .int x :: st) h = ex d 193 78 L (.int (x + y) :: st) h := (ex_of d193_77 (d) L (.int y :: .int x :: st) h).trans (rfl)
theorem d193_78 : decode (mB 193) 78 = .ok (.iaload, 1) := by decide +kernel
theorem x193_78 {d : Nat} {L : Lc} {st : List Value} {a j : Nat} {h : Hp} (ht : (h.2.1 a).1 = 20) (hj : j < (h.2.1 a).2) (hb : j < 2147483648) : ex (d) 193 78 L (.int (nI j) :: .ref a :: st) h = ex d 193 79 L (h.1 a j :: st) h := (ex_of d193_78 (d) L (.int (nI j) :: .ref a :: st) h).trans (fin_iaload (Or.inl ht) hj hb)
theorem d193_79 : decode (mB 193) 79 = .ok (.istore_n 2, 1) := by decide +kernel
theorem x193_79 {d : Nat} {l0 l1 l2 l3 : Option Value} {st : List Value} {x : Int32} {h : Hp} : ex (d) 193 79 [l0, l1, l2, l3] (.int x :: st) h = ex d 193 80 [l0, clr l1, some (.int x), l3] st h := (ex_of d193_79 (d) [l0, l1, l2, l3] (.int x :: st) h).trans (rfl)
theorem d193_80 : decode (mB 193) 80 = .ok (.iinc 3 1, 3) := by decide +kernel
theorem x193_80 {d : Nat} {l0 l1 l2 : Option Value} {st : List Value} {x : Int32} {h : Hp} : ex (d) 193 80 [l0, l1, l2, some (.int x)] st h = ex d 193 83 [l0, l1, clr l2, some (.int (x + (nI 1)))] st h := (ex_of d193_80 (d) [l0, l1, l2, some (.int x)] st h).trans (rfl)
theorem d193_83 : decode (mB 193) 83 = .ok (.goto (-57), 3) := by decide +kernel
theorem x193_83 {d : Nat} {L : Lc} {st : List Value} {h : Hp} : ex (d) 193 83 L st h = ex d 193 26 L st h := (ex_of d193_83 (d) L st h).trans (rfl)
theorem d193_86 : decode (mB 193) 86 = .ok (.aload_n 0, 1) := by decide +kernel
theorem x193_86 {d : Nat} {l1 l2 l3 : Option Value} {st : List Value} {a : Nat} {h : Hp} : ex (d) 193 86 [some (.ref a), l1, l2, l3] st h = ex d 193 87 [some (.ref a), l1, l2, l3] (.ref a :: st) h := (ex_of d193_86 (d) [some (.ref a), l1, l2, l3] st h).trans (rfl)
theorem d193_87 : decode (mB 193) 87 = .ok (.getfield 70, 3) := by decide +kernel
theorem x193_87 {d : Nat} {L : Lc} {st : List Value} {a : Nat} {h : Hp} (ht : (h.2.1 a).1 = 11) : ex (d) 193 87 L (.ref a :: st) h = ex d 193 90 L (h.1 a 31 :: st) h := (ex_of d193_87 (d) L (.ref a :: st) h).trans (fin_get (mi := 193) f11_70 (tg1 ht rfl))
theorem d193_90 : decode (mB 193) 90 = .ok (.iload_n 1, 1) := by decide +kernel
theorem x193_90 {d : Nat} {l0 l2 l3 : Option Value} {st : List Value} {x : Int32} {h : Hp} : ex (d) 193 90 [l0, some (.int x), l2, l3] st h = ex d 193 91 [l0, some (.int x), l2, l3] (.int x :: st) h := (ex_of d193_90 (d) [l0, some (.int x), l2, l3] st h).trans (rfl)
theorem d193_91 : decode (mB 193) 91 = .ok (.aload_n 0, 1) := by decide +kernel
theorem x193_91 {d : Nat} {l1 l2 l3 : Option Value} {st : List Value} {a : Nat} {h : Hp} : ex (d) 193 91 [some (.ref a), l1, l2, l3] st h = ex d 193 92 [some (.ref a), l1, l2, l3] (.ref a :: st) h := (ex_of d193_91 (d) [some (.ref a), l1, l2, l3] st h).trans (rfl)
theorem d193_92 : decode (mB 193) 92 = .ok (.getfield 70, 3) := by decide +kernel
theorem x193_92 {d : Nat} {L : Lc} {st : List Value} {a : Nat} {h : Hp} (ht : (h.2.1 a).1 = 11) : ex (d) 193 92 L (.ref a :: st) h = ex d 193 95 L (h.1 a 31 :: st) h := (ex_of d193_92 (d) L (.ref a :: st) h).trans (fin_get (mi := 193) f11_70 (tg1 ht rfl))
theorem d193_95 : decode (mB 193) 95 = .ok (.iload_n 1, 1) := by decide +kernel
theorem x193_95 {d : Nat} {l0 l2 l3 : Option Value} {st : List Value} {x : Int32} {h : Hp} : ex (d) 193 95 [l0, some (.int x), l2, l3] st h = ex d 193 96 [l0, some (.int x), l2, l3] (.int x :: st) h := (ex_of d193_95 (d) [l0, some (.int x), l2, l3] st h).trans (rfl)
theorem d193_96 : decode (mB 193) 96 = .ok (.iconst 1, 1) := by decide +kernel
theorem x193_96 {d : Nat} {L : Lc} {st : List Value} {h : Hp} : ex (d) 193 96 L st h = ex d 193 97 L (.int (nI 1) :: st) h := (ex_of d193_96 (d) L st h).trans (rfl)
theorem d193_97 : decode (mB 193) 97 = .ok (.iadd, 1) := by decide +kernel
theorem x193_97 {d : Nat} {L : Lc} {st : List Value} {x y : Int32} {h : Hp} : ex (d) 193 97 L (.int y :: .int x :: st) h = ex d 193 98 L (.int (x + y) :: st) h := (ex_of d193_97 (d) L (.int y :: .int x :: st) h).trans (rfl)
theorem d193_98 : decode (mB 193) 98 = .ok (.iaload, 1) := by decide +kernel
theorem x193_98 {d : Nat} {L : Lc} {st : List Value} {a j : Nat} {h : Hp} (ht : (h.2.1 a).1 = 20) (hj : j < (h.2.1 a).2) (hb : j < 2147483648) : ex (d) 193 98 L (.int (nI j) :: .ref a :: st) h = ex d 193 99 L (h.1 a j :: st) h := (ex_of d193_98 (d) L (.int (nI j) :: .ref a :: st) h).trans (fin_iaload (Or.inl ht) hj hb)
theorem d193_99 : decode (mB 193) 99 = .ok (.iload_n 2, 1) := by decide +kernel
theorem x193_99 {d : Nat} {l0 l1 l3 : Option Value} {st : List Value} {x : Int32} {h : Hp} : ex (d) 193 99 [l0, l1, some (.int x), l3] st h = ex d 193 100 [l0, l1, some (.int x), l3] (.int x :: st) h := (ex_of d193_99 (d) [l0, l1, some (.int x), l3] st h).trans (rfl)
theorem d193_100 : decode (mB 193) 100 = .ok (.iadd, 1) := by decide +kernel
theorem x193_100 {d : Nat} {L : Lc} {st : List Value} {x y : Int32} {h : Hp} : ex (d) 193 100 L (.int y :: .int x :: st) h = ex d 193 101 L (.int (x + y) :: st) h := (ex_of d193_100 (d) L (.int y :: .int x :: st) h).trans (rfl)
theorem d193_101 : decode (mB 193) 101 = .ok (.ldc 224, 2) := by decide +kernel
theorem x193_101 {d : Nat} {L : Lc} {st : List Value} {h : Hp} : ex (d) 193 101 L st h = ex d 193 103 L (.int (nI 100000000) :: st) h := (ex_of d193_101 (d) L st h).trans (fin_ldc (mi := 193) c11_224)
theorem d193_103 : decode (mB 193) 103 = .ok (.if_icmp .le 8, 3) := by decide +kernel
theorem x193_103 {d : Nat} {L : Lc} {st : List Value} {x y : Int32} {h : Hp} : ex (d) 193 103 L (.int y :: .int x :: st) h = if x ≤ y then ex d 193 111 L st h else ex d 193 106 L st h := (ex_of d193_103 (d) L (.int y :: .int x :: st) h).trans (fin_brq (off := 8) (tgt := 111) rfl (by decide))
theorem d193_106 : decode (mB 193) 106 = .ok (.ldc 224, 2) := by decide +kernel
theorem x193_106 {d : Nat} {L : Lc} {st : List Value} {h : Hp} : ex (d) 193 106 L st h = ex d 193 108 L (.int (nI 100000000) :: st) h := (ex_of d193_106 (d) L st h).trans (fin_ldc (mi := 193) c11_224)
theorem d193_108 : decode (mB 193) 108 = .ok (.goto 13, 3) := by decide +kernel
theorem x193_108 {d : Nat} {L : Lc} {st : List Value} {h : Hp} : ex (d) 193 108 L st h = ex d 193 121 L st h := (ex_of d193_108 (d) L st h).trans (rfl)
theorem d193_111 : decode (mB 193) 111 = .ok (.aload_n 0, 1) := by decide +kernel
theorem x193_111 {d : Nat} {l1 l2 l3 : Option Value} {st : List Value} {a : Nat} {h : Hp} : ex (d) 193 111 [some (.ref a), l1, l2, l3] st h = ex d 193 112 [some (.ref a), l1, l2, l3] (.ref a :: st) h := (ex_of d193_111 (d) [some (.ref a), l1, l2, l3] st h).trans (rfl)
theorem d193_112 : decode (mB 193) 112 = .ok (.getfield 70, 3) := by decide +kernel
theorem x193_112 {d : Nat} {L : Lc} {st : List Value} {a : Nat} {h : Hp} (ht : (h.2.1 a).1 = 11) : ex (d) 193 112 L (.ref a :: st) h = ex d 193 115 L (h.1 a 31 :: st) h := (ex_of d193_112 (d) L (.ref a :: st) h).trans (fin_get (mi := 193) f11_70 (tg1 ht rfl))
theorem d193_115 : decode (mB 193) 115 = .ok (.iload_n 1, 1) := by decide +kernel
theorem x193_115 {d : Nat} {l0 l2 l3 : Option Value} {st : List Value} {x : Int32} {h : Hp} : ex (d) 193 115 [l0, some (.int x), l2, l3] st h = ex d 193 116 [l0, some (.int x), l2, l3] (.int x :: st) h := (ex_of d193_115 (d) [l0, some (.int x), l2, l3] st h).trans (rfl)
theorem d193_116 : decode (mB 193) 116 = .ok (.iconst 1, 1) := by decide +kernel
theorem x193_116 {d : Nat} {L : Lc} {st : List Value} {h : Hp} : ex (d) 193 116 L st h = ex d 193 117 L (.int (nI 1) :: st) h := (ex_of d193_116 (d) L st h).trans (rfl)
theorem d193_117 : decode (mB 193) 117 = .ok (.iadd, 1) := by decide +kernel
theorem x193_117 {d : Nat} {L : Lc} {st : List Value} {x y : Int32} {h : Hp} : ex (d) 193 117 L (.int y :: .int x :: st) h = ex d 193 118 L (.int (x + y) :: st) h := (ex_of d193_117 (d) L (.int y :: .int x :: st) h).trans (rfl)
theorem d193_118 : decode (mB 193) 118 = .ok (.iaload, 1) := by decide +kernel
theorem x193_118 {d : Nat} {L : Lc} {st : List Value} {a j : Nat} {h : Hp} (ht : (h.2.1 a).1 = 20) (hj : j < (h.2.1 a).2) (hb : j < 2147483648) : ex (d) 193 118 L (.int (nI j) :: .ref a :: st) h = ex d 193 119 L (h.1 a j :: st) h := (ex_of d193_118 (d) L (.int (nI j) :: .ref a :: st) h).trans (fin_iaload (Or.inl ht) hj hb)
theorem d193_119 : decode (mB 193) 119 = .ok (.iload_n 2, 1) := by decide +kernel
theorem x193_119 {d : Nat} {l0 l1 l3 : Option Value} {st : List Value} {x : Int32} {h : Hp} : ex (d) 193 119 [l0, l1, some (.int x), l3] st h = ex d 193 120 [l0, l1, some (.int x), l3] (.int x :: st) h := (ex_of d193_119 (d) [l0, l1, some (.int x), l3] st h).trans (rfl)
theorem d193_120 : decode (mB 193) 120 = .ok (.iadd, 1) := by decide +kernel
theorem x193_120 {d : Nat} {L : Lc} {st : List Value} {x y : Int32} {h : Hp} : ex (d) 193 120 L (.int y :: .int x :: st) h = ex d 193 121 L (.int (x + y) :: st) h := (ex_of d193_120 (d) L (.int y :: .int x :: st) h).trans (rfl)
theorem d193_121 : decode (mB 193) 121 = .ok (.iastore, 1) := by decide +kernel
theorem x193_121 {d : Nat} {L : Lc} {st : List Value} {a j : Nat} {x : Int32} {h : Hp} (ht : (h.2.1 a).1 = 20) (hj : j < (h.2.1 a).2) (hb : j < 2147483648) : ex (d) 193 121 L (.int x :: .int (nI j) :: .ref a :: st) h = ex d 193 122 L st (mup h.1 a j (.int x), h.2) := (ex_of d193_121 (d) L (.int x :: .int (nI j) :: .ref a :: st) h).trans (fin_iastore ht hj hb)
theorem d193_122 : decode (mB 193) 122 = .ok (.iinc 1 (-1), 3) := by decide +kernel
theorem x193_122 {d : Nat} {l0 l2 l3 : Option Value} {st : List Value} {x : Int32} {h : Hp} : ex (d) 193 122 [l0, some (.int x), l2, l3] st h = ex d 193 125 [clr l0, some (.int (x + (-1))), l2, l3] st h := (ex_of d193_122 (d) [l0, some (.int x), l2, l3] st h).trans (rfl)
theorem d193_125 : decode (mB 193) 125 = .ok (.goto (-108), 3) := by decide +kernel
theorem x193_125 {d : Nat} {L : Lc} {st : List Value} {h : Hp} : ex (d) 193 125 L st h = ex d 193 17 L st h := (ex_of d193_125 (d) L st h).trans (rfl)
theorem d193_128 : decode (mB 193) 128 = .ok (.aload_n 0, 1) := by decide +kernel
theorem x193_128 {d : Nat} {l1 l2 l3 : Option Value} {st : List Value} {a : Nat} {h : Hp} : ex (d) 193 128 [some (.ref a), l1, l2, l3] st h = ex d 193 129 [some (.ref a), l1, l2, l3] (.ref a :: st) h := (ex_of d193_128 (d) [some (.ref a), l1, l2, l3] st h).trans (rfl)
theorem d193_129 : decode (mB 193) 129 = .ok (.ldc 224, 2) := by decide +kernel
theorem x193_129 {d : Nat} {L : Lc} {st : List Value} {h : Hp} : ex (d) 193 129 L st h = ex d 193 131 L (.int (nI 100000000) :: st) h := (ex_of d193_129 (d) L st h).trans (fin_ldc (mi := 193) c11_224)
theorem d193_131 : decode (mB 193) 131 = .ok (.putfield 225, 3) := by decide +kernel
theorem x193_131 {d : Nat} {L : Lc} {st : List Value} {a : Nat} {x : Int32} {h : Hp} (ht : (h.2.1 a).1 = 11) : ex (d) 193 131 L (.int x :: .ref a :: st) h = ex d 193 134 L st (mup h.1 a 30 (.int x), h.2) := (ex_of d193_131 (d) L (.int x :: .ref a :: st) h).trans (fin_put (mi := 193) f11_225 ht rfl rfl (by decide +kernel))
theorem d193_134 : decode (mB 193) 134 = .ok (.aload_n 0, 1) := by decide +kernel
theorem x193_134 {d : Nat} {l1 l2 l3 : Option Value} {st : List Value} {a : Nat} {h : Hp} : ex (d) 193 134 [some (.ref a), l1, l2, l3] st h = ex d 193 135 [some (.ref a), l1, l2, l3] (.ref a :: st) h := (ex_of d193_134 (d) [some (.ref a), l1, l2, l3] st h).trans (rfl)
theorem d193_135 : decode (mB 193) 135 = .ok (.iconst 0, 1) := by decide +kernel
theorem x193_135 {d : Nat} {L : Lc} {st : List Value} {h : Hp} : ex (d) 193 135 L st h = ex d 193 136 L (.int (nI 0) :: st) h := (ex_of d193_135 (d) L st h).trans (rfl)
theorem d193_136 : decode (mB 193) 136 = .ok (.iconst 0, 1) := by decide +kernel
theorem x193_136 {d : Nat} {L : Lc} {st : List Value} {h : Hp} : ex (d) 193 136 L st h = ex d 193 137 L (.int (nI 0) :: st) h := (ex_of d193_136 (d) L st h).trans (rfl)
theorem d193_137 : decode (mB 193) 137 = .ok (.invokevirtual 232, 3) := by decide +kernel
theorem x193_137 {d : Nat} {L : Lc} {a : Nat} {v0 : Int32} {v1 : Int32} {h : Hp} (ht : (h.2.1 a).1 = 11) : ex (d + 1) 193 137 L (.int v1 :: .int v0 :: .ref a :: []) h = bnd (ex d 192 0 [some (.ref a), some (.int v0), some (.int v1), none, none, none] [] h) (fun v h' => ex (d + 1) 193 140 L (v.toList ++ []) h') := (ex_of d193_137 (d + 1) L (.int v1 :: .int v0 :: .ref a :: []) h).trans (fin_vi (mi := 193) i11_232 ht rfl rfl (by simp [cat1_i, cat1_r]) (by simp) (Nat.le_of_ble_eq_true rfl))
theorem d193_140 : decode (mB 193) 140 = .ok (.aload_n 0, 1) := by decide +kernel
theorem x193_140 {d : Nat} {l1 l2 l3 : Option Value} {st : List Value} {a : Nat} {h : Hp} : ex (d) 193 140 [some (.ref a), l1, l2, l3] st h = ex d 193 141 [some (.ref a), l1, l2, l3] (.ref a :: st) h := (ex_of d193_140 (d) [some (.ref a), l1, l2, l3] st h).trans (rfl)
theorem d193_141 : decode (mB 193) 141 = .ok (.getfield 225, 3) := by decide +kernel
theorem x193_141 {d : Nat} {L : Lc} {st : List Value} {a : Nat} {h : Hp} (ht : (h.2.1 a).1 = 11) : ex (d) 193 141 L (.ref a :: st) h = ex d 193 144 L (h.1 a 30 :: st) h := (ex_of d193_141 (d) L (.ref a :: st) h).trans (fin_get (mi := 193) f11_225 (tg1 ht rfl))
theorem d193_144 : decode (mB 193) 144 = .ok (.ireturn, 1) := by decide +kernel
theorem x193_144 {d : Nat} {L : Lc} {x : Int32} {h : Hp} : ex (d) 193 144 L [.int x] h = some (some (.int x), h) := (ex_of d193_144 (d) L [.int x] h).trans (rfl)
theorem d194_0 : decode (mB 194) 0 = .ok (.aload_n 0, 1) := by decide +kernel
theorem x194_0 {d : Nat} {l1 l2 : Option Value} {st : List Value} {a : Nat} {h : Hp} : ex (d) 194 0 [some (.ref a), l1, l2] st h = ex d 194 1 [some (.ref a), l1, l2] (.ref a :: st) h := (ex_of d194_0 (d) [some (.ref a), l1, l2] st h).trans (rfl)
theorem d194_1 : decode (mB 194) 1 = .ok (.invokevirtual 235, 3) := by decide +kernel
theorem x194_1 {d : Nat} {L : Lc} {a : Nat} {h : Hp} (ht : (h.2.1 a).1 = 11) : ex (d + 1) 194 1 L (.ref a :: []) h = bnd (ex d 190 0 [some (.ref a), none, none] [] h) (fun v h' => ex (d + 1) 194 4 L (v.toList ++ []) h') := (ex_of d194_1 (d + 1) L (.ref a :: []) h).trans (fin_vi (mi := 194) i11_235 ht rfl rfl (by simp [cat1_i, cat1_r]) (by simp) (Nat.le_of_ble_eq_true rfl))
theorem d194_4 : decode (mB 194) 4 = .ok (.aload_n 0, 1) := by decide +kernel
theorem x194_4 {d : Nat} {l1 l2 : Option Value} {st : List Value} {a : Nat} {h : Hp} : ex (d) 194 4 [some (.ref a), l1, l2] st h = ex d 194 5 [some (.ref a), l1, l2] (.ref a :: st) h := (ex_of d194_4 (d) [some (.ref a), l1, l2] st h).trans (rfl)
theorem d194_5 : decode (mB 194) 5 = .ok (.iconst 0, 1) := by decide +kernel
theorem x194_5 {d : Nat} {L : Lc} {st : List Value} {h : Hp} : ex (d) 194 5 L st h = ex d 194 6 L (.int (nI 0) :: st) h := (ex_of d194_5 (d) L st h).trans (rfl)
theorem d194_6 : decode (mB 194) 6 = .ok (.putfield 238, 3) := by decide +kernel
theorem x194_6 {d : Nat} {L : Lc} {st : List Value} {a : Nat} {x : Int32} {h : Hp} (ht : (h.2.1 a).1 = 11) : ex (d) 194 6 L (.int x :: .ref a :: st) h = ex d 194 9 L st (mup h.1 a 32 (.int x), h.2) := (ex_of d194_6 (d) L (.int x :: .ref a :: st) h).trans (fin_put (mi := 194) f11_238 ht rfl rfl (by decide +kernel))
theorem d194_9 : decode (mB 194) 9 = .ok (.aload_n 0, 1) := by decide +kernel
theorem x194_9 {d : Nat} {l1 l2 : Option Value} {st : List Value} {a : Nat} {h : Hp} : ex (d) 194 9 [some (.ref a), l1, l2] st h = ex d 194 10 [some (.ref a), l1, l2] (.ref a :: st) h := (ex_of d194_9 (d) [some (.ref a), l1, l2] st h).trans (rfl)
theorem d194_10 : decode (mB 194) 10 = .ok (.invokevirtual 241, 3) := by decide +kernel
theorem x194_10 {d : Nat} {L : Lc} {a : Nat} {h : Hp} (ht : (h.2.1 a).1 = 11) : ex (d + 1) 194 10 L (.ref a :: []) h = bnd (ex d 193 0 [some (.ref a), none, none, none] [] h) (fun v h' => ex (d + 1) 194 13 L (v.toList ++ []) h') := (ex_of d194_10 (d + 1) L (.ref a :: []) h).trans (fin_vi (mi := 194) i11_241 ht rfl rfl (by simp [cat1_i, cat1_r]) (by simp) (Nat.le_of_ble_eq_true rfl))
theorem d194_13 : decode (mB 194) 13 = .ok (.istore_n 1, 1) := by decide +kernel
theorem x194_13 {d : Nat} {l0 l1 l2 : Option Value} {st : List Value} {x : Int32} {h : Hp} : ex (d) 194 13 [l0, l1, l2] (.int x :: st) h = ex d 194 14 [clr l0, some (.int x), l2] st h := (ex_of d194_13 (d) [l0, l1, l2] (.int x :: st) h).trans (rfl)
theorem d194_14 : decode (mB 194) 14 = .ok (.iload_n 1, 1) := by decide +kernel
theorem x194_14 {d : Nat} {l0 l2 : Option Value} {st : List Value} {x : Int32} {h : Hp} : ex (d) 194 14 [l0, some (.int x), l2] st h = ex d 194 15 [l0, some (.int x), l2] (.int x :: st) h := (ex_of d194_14 (d) [l0, some (.int x), l2] st h).trans (rfl)
theorem d194_15 : decode (mB 194) 15 = .ok (.ldc 224, 2) := by decide +kernel
theorem x194_15 {d : Nat} {L : Lc} {st : List Value} {h : Hp} : ex (d) 194 15 L st h = ex d 194 17 L (.int (nI 100000000) :: st) h := (ex_of d194_15 (d) L st h).trans (fin_ldc (mi := 194) c11_224)
theorem d194_17 : decode (mB 194) 17 = .ok (.if_icmp .lt 10, 3) := by decide +kernel
theorem x194_17 {d : Nat} {L : Lc} {st : List Value} {x y : Int32} {h : Hp} : ex (d) 194 17 L (.int y :: .int x :: st) h = if x < y then ex d 194 27 L st h else ex d 194 20 L st h := (ex_of d194_17 (d) L (.int y :: .int x :: st) h).trans (fin_brq (off := 10) (tgt := 27) rfl (by decide))
theorem d194_20 : decode (mB 194) 20 = .ok (.aload_n 0, 1) := by decide +kernel
theorem x194_20 {d : Nat} {l1 l2 : Option Value} {st : List Value} {a : Nat} {h : Hp} : ex (d) 194 20 [some (.ref a), l1, l2] st h = ex d 194 21 [some (.ref a), l1, l2] (.ref a :: st) h := (ex_of d194_20 (d) [some (.ref a), l1, l2] st h).trans (rfl)
theorem d194_21 : decode (mB 194) 21 = .ok (.bipush 12, 2) := by decide +kernel
theorem x194_21 {d : Nat} {L : Lc} {st : List Value} {h : Hp} : ex (d) 194 21 L st h = ex d 194 23 L (.int (nI 12) :: st) h := (ex_of d194_21 (d) L st h).trans (rfl)
theorem d194_23 : decode (mB 194) 23 = .ok (.invokevirtual 109, 3) := by decide +kernel
theorem x194_23 {d : Nat} {L : Lc} {a : Nat} {v0 : Int32} {h : Hp} (ht : (h.2.1 a).1 = 11) : ex (d + 1) 194 23 L (.int v0 :: .ref a :: []) h = bnd (ex d 135 0 [some (.ref a), some (.int v0)] [] h) (fun v h' => ex (d + 1) 194 26 L (v.toList ++ []) h') := (ex_of d194_23 (d + 1) L (.int v0 :: .ref a :: []) h).trans (fin_vi (mi := 194) i11_109 ht rfl rfl (by simp [cat1_i, cat1_r]) (by simp) (Nat.le_of_ble_eq_true rfl))
theorem d194_26 : decode (mB 194) 26 = .ok (.ireturn, 1) := by decide +kernel
theorem x194_26 {d : Nat} {L : Lc} {x : Int32} {h : Hp} : ex (d) 194 26 L [.int x] h = some (some (.int x), h) := (ex_of d194_26 (d) L [.int x] h).trans (rfl)
theorem d194_27 : decode (mB 194) 27 = .ok (.iconst 0, 1) := by decide +kernel
theorem x194_27 {d : Nat} {L : Lc} {st : List Value} {h : Hp} : ex (d) 194 27 L st h = ex d 194 28 L (.int (nI 0) :: st) h := (ex_of d194_27 (d) L st h).trans (rfl)
theorem d194_28 : decode (mB 194) 28 = .ok (.istore_n 2, 1) := by decide +kernel
theorem x194_28 {d : Nat} {l0 l1 l2 : Option Value} {st : List Value} {x : Int32} {h : Hp} : ex (d) 194 28 [l0, l1, l2] (.int x :: st) h = ex d 194 29 [l0, clr l1, some (.int x)] st h := (ex_of d194_28 (d) [l0, l1, l2] (.int x :: st) h).trans (rfl)
theorem d194_29 : decode (mB 194) 29 = .ok (.iload_n 2, 1) := by decide +kernel
theorem x194_29 {d : Nat} {l0 l1 : Option Value} {st : List Value} {x : Int32} {h : Hp} : ex (d) 194 29 [l0, l1, some (.int x)] st h = ex d 194 30 [l0, l1, some (.int x)] (.int x :: st) h := (ex_of d194_29 (d) [l0, l1, some (.int x)] st h).trans (rfl)
theorem d194_30 : decode (mB 194) 30 = .ok (.aload_n 0, 1) := by decide +kernel
theorem x194_30 {d : Nat} {l1 l2 : Option Value} {st : List Value} {a : Nat} {h : Hp} : ex (d) 194 30 [some (.ref a), l1, l2] st h = ex d 194 31 [some (.ref a), l1, l2] (.ref a :: st) h := (ex_of d194_30 (d) [some (.ref a), l1, l2] st h).trans (rfl)
theorem d194_31 : decode (mB 194) 31 = .ok (.getfield 218, 3) := by decide +kernel
theorem x194_31 {d : Nat} {L : Lc} {st : List Value} {a : Nat} {h : Hp} (ht : (h.2.1 a).1 = 11) : ex (d) 194 31 L (.ref a :: st) h = ex d 194 34 L (h.1 a 21 :: st) h := (ex_of d194_31 (d) L (.ref a :: st) h).trans (fin_get (mi := 194) f11_218 (tg1 ht rfl))
theorem d194_34 : decode (mB 194) 34 = .ok (.if_icmp .ge 54, 3) := by decide +kernel
theorem x194_34 {d : Nat} {L : Lc} {st : List Value} {x y : Int32} {h : Hp} : ex (d) 194 34 L (.int y :: .int x :: st) h = if y ≤ x then ex d 194 88 L st h else ex d 194 37 L st h := (ex_of d194_34 (d) L (.int y :: .int x :: st) h).trans (fin_brq (off := 54) (tgt := 88) rfl (by decide))
theorem d194_37 : decode (mB 194) 37 = .ok (.aload_n 0, 1) := by decide +kernel
theorem x194_37 {d : Nat} {l1 l2 : Option Value} {st : List Value} {a : Nat} {h : Hp} : ex (d) 194 37 [some (.ref a), l1, l2] st h = ex d 194 38 [some (.ref a), l1, l2] (.ref a :: st) h := (ex_of d194_37 (d) [some (.ref a), l1, l2] st h).trans (rfl)
theorem d194_38 : decode (mB 194) 38 = .ok (.getfield 64, 3) := by decide +kernel
theorem x194_38 {d : Nat} {L : Lc} {st : List Value} {a : Nat} {h : Hp} (ht : (h.2.1 a).1 = 11) : ex (d) 194 38 L (.ref a :: st) h = ex d 194 41 L (h.1 a 28 :: st) h := (ex_of d194_38 (d) L (.ref a :: st) h).trans (fin_get (mi := 194) f11_64 (tg1 ht rfl))
theorem d194_41 : decode (mB 194) 41 = .ok (.iload_n 2, 1) := by decide +kernel
theorem x194_41 {d : Nat} {l0 l1 : Option Value} {st : List Value} {x : Int32} {h : Hp} : ex (d) 194 41 [l0, l1, some (.int x)] st h = ex d 194 42 [l0, l1, some (.int x)] (.int x :: st) h := (ex_of d194_41 (d) [l0, l1, some (.int x)] st h).trans (rfl)
theorem d194_42 : decode (mB 194) 42 = .ok (.iconst 0, 1) := by decide +kernel
theorem x194_42 {d : Nat} {L : Lc} {st : List Value} {h : Hp} : ex (d) 194 42 L st h = ex d 194 43 L (.int (nI 0) :: st) h := (ex_of d194_42 (d) L st h).trans (rfl)
theorem d194_43 : decode (mB 194) 43 = .ok (.iastore, 1) := by decide +kernel
theorem x194_43 {d : Nat} {L : Lc} {st : List Value} {a j : Nat} {x : Int32} {h : Hp} (ht : (h.2.1 a).1 = 20) (hj : j < (h.2.1 a).2) (hb : j < 2147483648) : ex (d) 194 43 L (.int x :: .int (nI j) :: .ref a :: st) h = ex d 194 44 L st (mup h.1 a j (.int x), h.2) := (ex_of d194_43 (d) L (.int x :: .int (nI j) :: .ref a :: st) h).trans (fin_iastore ht hj hb)
theorem d194_44 : decode (mB 194) 44 = .ok (.aload_n 0, 1) := by decide +kernel
theorem x194_44 {d : Nat} {l1 l2 : Option Value} {st : List Value} {a : Nat} {h : Hp} : ex (d) 194 44 [some (.ref a), l1, l2] st h = ex d 194 45 [some (.ref a), l1, l2] (.ref a :: st) h := (ex_of d194_44 (d) [some (.ref a), l1, l2] st h).trans (rfl)
theorem d194_45 : decode (mB 194) 45 = .ok (.invokevirtual 241, 3) := by decide +kernel
theorem x194_45 {d : Nat} {L : Lc} {a : Nat} {h : Hp} (ht : (h.2.1 a).1 = 11) : ex (d + 1) 194 45 L (.ref a :: []) h = bnd (ex d 193 0 [some (.ref a), none, none, none] [] h) (fun v h' => ex (d + 1) 194 48 L (v.toList ++ []) h') := (ex_of d194_45 (d + 1) L (.ref a :: []) h).trans (fin_vi (mi := 194) i11_241 ht rfl rfl (by simp [cat1_i, cat1_r]) (by simp) (Nat.le_of_ble_eq_true rfl))
theorem d194_48 : decode (mB 194) 48 = .ok (.iload_n 1, 1) := by decide +kernel
theorem x194_48 {d : Nat} {l0 l2 : Option Value} {st : List Value} {x : Int32} {h : Hp} : ex (d) 194 48 [l0, some (.int x), l2] st h = ex d 194 49 [l0, some (.int x), l2] (.int x :: st) h := (ex_of d194_48 (d) [l0, some (.int x), l2] st h).trans (rfl)
theorem d194_49 : decode (mB 194) 49 = .ok (.if_icmp .le 16, 3) := by decide +kernel
theorem x194_49 {d : Nat} {L : Lc} {st : List Value} {x y : Int32} {h : Hp} : ex (d) 194 49 L (.int y :: .int x :: st) h = if x ≤ y then ex d 194 65 L st h else ex d 194 52 L st h := (ex_of d194_49 (d) L (.int y :: .int x :: st) h).trans (fin_brq (off := 16) (tgt := 65) rfl (by decide))
theorem d194_52 : decode (mB 194) 52 = .ok (.aload_n 0, 1) := by decide +kernel
theorem x194_52 {d : Nat} {l1 l2 : Option Value} {st : List Value} {a : Nat} {h : Hp} : ex (d) 194 52 [some (.ref a), l1, l2] st h = ex d 194 53 [some (.ref a), l1, l2] (.ref a :: st) h := (ex_of d194_52 (d) [some (.ref a), l1, l2] st h).trans (rfl)
theorem d194_53 : decode (mB 194) 53 = .ok (.getfield 64, 3) := by decide +kernel
theorem x194_53 {d : Nat} {L : Lc} {st : List Value} {a : Nat} {h : Hp} (ht : (h.2.1 a).1 = 11) : ex (d) 194 53 L (.ref a :: st) h = ex d 194 56 L (h.1 a 28 :: st) h := (ex_of d194_53 (d) L (.ref a :: st) h).trans (fin_get (mi := 194) f11_64 (tg1 ht rfl))
theorem d194_56 : decode (mB 194) 56 = .ok (.iload_n 2, 1) := by decide +kernel
theorem x194_56 {d : Nat} {l0 l1 : Option Value} {st : List Value} {x : Int32} {h : Hp} : ex (d) 194 56 [l0, l1, some (.int x)] st h = ex d 194 57 [l0, l1, some (.int x)] (.int x :: st) h := (ex_of d194_56 (d) [l0, l1, some (.int x)] st h).trans (rfl)
theorem d194_57 : decode (mB 194) 57 = .ok (.dup2, 1) := by decide +kernel
theorem x194_57 {d : Nat} {L : Lc} {st : List Value} {x : Int32} {a : Nat} {h : Hp} : ex (d) 194 57 L (.int x :: .ref a :: st) h = ex d 194 58 L (.int x :: .ref a :: .int x :: .ref a :: st) h := (ex_of d194_57 (d) L (.int x :: .ref a :: st) h).trans (rfl)
theorem d194_58 : decode (mB 194) 58 = .ok (.iaload, 1) := by decide +kernel
theorem x194_58 {d : Nat} {L : Lc} {st : List Value} {a j : Nat} {h : Hp} (ht : (h.2.1 a).1 = 20) (hj : j < (h.2.1 a).2) (hb : j < 2147483648) : ex (d) 194 58 L (.int (nI j) :: .ref a :: st) h = ex d 194 59 L (h.1 a j :: st) h := (ex_of d194_58 (d) L (.int (nI j) :: .ref a :: st) h).trans (fin_iaload (Or.inl ht) hj hb)
theorem d194_59 : decode (mB 194) 59 = .ok (.iconst 1, 1) := by decide +kernel
theorem x194_59 {d : Nat} {L : Lc} {st : List Value} {h : Hp} : ex (d) 194 59 L st h = ex d 194 60 L (.int (nI 1) :: st) h := (ex_of d194_59 (d) L st h).trans (rfl)
theorem d194_60 : decode (mB 194) 60 = .ok (.iadd, 1) := by decide +kernel
theorem x194_60 {d : Nat} {L : Lc} {st : List Value} {x y : Int32} {h : Hp} : ex (d) 194 60 L (.int y :: .int x :: st) h = ex d 194 61 L (.int (x + y) :: st) h := (ex_of d194_60 (d) L (.int y :: .int x :: st) h).trans (rfl)
theorem d194_61 : decode (mB 194) 61 = .ok (.iastore, 1) := by decide +kernel
theorem x194_61 {d : Nat} {L : Lc} {st : List Value} {a j : Nat} {x : Int32} {h : Hp} (ht : (h.2.1 a).1 = 20) (hj : j < (h.2.1 a).2) (hb : j < 2147483648) : ex (d) 194 61 L (.int x :: .int (nI j) :: .ref a :: st) h = ex d 194 62 L st (mup h.1 a j (.int x), h.2) := (ex_of d194_61 (d) L (.int x :: .int (nI j) :: .ref a :: st) h).trans (fin_iastore ht hj hb)
theorem d194_62 : decode (mB 194) 62 = .ok (.goto (-18), 3) := by decide +kernel
theorem x194_62 {d : Nat} {L : Lc} {st : List Value} {h : Hp} : ex (d) 194 62 L st h = ex d 194 44 L st h := (ex_of d194_62 (d) L st h).trans (rfl)
theorem d194_65 : decode (mB 194) 65 = .ok (.aload_n 0, 1) := by decide +kernel
theorem x194_65 {d : Nat} {l1 l2 : Option Value} {st : List Value} {a : Nat} {h : Hp} : ex (d) 194 65 [some (.ref a), l1, l2] st h = ex d 194 66 [some (.ref a), l1, l2] (.ref a :: st) h := (ex_of d194_65 (d) [some (.ref a), l1, l2] st h).trans (rfl)
theorem d194_66 : decode (mB 194) 66 = .ok (.getfield 73, 3) := by decide +kernel
theorem x194_66 {d : Nat} {L : Lc} {st : List Value} {a : Nat} {h : Hp} (ht : (h.2.1 a).1 = 11) : ex (d) 194 66 L (.ref a :: st) h = ex d 194 69 L (h.1 a 33 :: st) h := (ex_of d194_66 (d) L (.ref a :: st) h).trans (fin_get (mi := 194) f11_73 (tg1 ht rfl))
theorem d194_69 : decode (mB 194) 69 = .ok (.iload_n 2, 1) := by decide +kernel
theorem x194_69 {d : Nat} {l0 l1 : Option Value} {st : List Value} {x : Int32} {h : Hp} : ex (d) 194 69 [l0, l1, some (.int x)] st h = ex d 194 70 [l0, l1, some (.int x)] (.int x :: st) h := (ex_of d194_69 (d) [l0, l1, some (.int x)] st h).trans (rfl)
theorem d194_70 : decode (mB 194) 70 = .ok (.aload_n 0, 1) := by decide +kernel
theorem x194_70 {d : Nat} {l1 l2 : Option Value} {st : List Value} {a : Nat} {h : Hp} : ex (d) 194 70 [some (.ref a), l1, l2] st h = ex d 194 71 [some (.ref a), l1, l2] (.ref a :: st) h := (ex_of d194_70 (d) [some (.ref a), l1, l2] st h).trans (rfl)
theorem d194_71 : decode (mB 194) 71 = .ok (.getfield 58, 3) := by decide +kernel
theorem x194_71 {d : Nat} {L : Lc} {st : List Value} {a : Nat} {h : Hp} (ht : (h.2.1 a).1 = 11) : ex (d) 194 71 L (.ref a :: st) h = ex d 194 74 L (h.1 a 26 :: st) h := (ex_of d194_71 (d) L (.ref a :: st) h).trans (fin_get (mi := 194) f11_58 (tg1 ht rfl))
theorem d194_74 : decode (mB 194) 74 = .ok (.aload_n 0, 1) := by decide +kernel
theorem x194_74 {d : Nat} {l1 l2 : Option Value} {st : List Value} {a : Nat} {h : Hp} : ex (d) 194 74 [some (.ref a), l1, l2] st h = ex d 194 75 [some (.ref a), l1, l2] (.ref a :: st) h := (ex_of d194_74 (d) [some (.ref a), l1, l2] st h).trans (rfl)
theorem d194_75 : decode (mB 194) 75 = .ok (.getfield 64, 3) := by decide +kernel
theorem x194_75 {d : Nat} {L : Lc} {st : List Value} {a : Nat} {h : Hp} (ht : (h.2.1 a).1 = 11) : ex (d) 194 75 L (.ref a :: st) h = ex d 194 78 L (h.1 a 28 :: st) h := (ex_of d194_75 (d) L (.ref a :: st) h).trans (fin_get (mi := 194) f11_64 (tg1 ht rfl))
theorem d194_78 : decode (mB 194) 78 = .ok (.iload_n 2, 1) := by decide +kernel
theorem x194_78 {d : Nat} {l0 l1 : Option Value} {st : List Value} {x : Int32} {h : Hp} : ex (d) 194 78 [l0, l1, some (.int x)] st h = ex d 194 79 [l0, l1, some (.int x)] (.int x :: st) h := (ex_of d194_78 (d) [l0, l1, some (.int x)] st h).trans (rfl)
theorem d194_79 : decode (mB 194) 79 = .ok (.iaload, 1) := by decide +kernel
theorem x194_79 {d : Nat} {L : Lc} {st : List Value} {a j : Nat} {h : Hp} (ht : (h.2.1 a).1 = 20) (hj : j < (h.2.1 a).2) (hb : j < 2147483648) : ex (d) 194 79 L (.int (nI j) :: .ref a :: st) h = ex d 194 80 L (h.1 a j :: st) h := (ex_of d194_79 (d) L (.int (nI j) :: .ref a :: st) h).trans (fin_iaload (Or.inl ht) hj hb)
theorem d194_80 : decode (mB 194) 80 = .ok (.iaload, 1) := by decide +kernel
theorem x194_80 {d : Nat} {L : Lc} {st : List Value} {a j : Nat} {h : Hp} (ht : (h.2.1 a).1 = 20) (hj : j < (h.2.1 a).2) (hb : j < 2147483648) : ex (d) 194 80 L (.int (nI j) :: .ref a :: st) h = ex d 194 81 L (h.1 a j :: st) h := (ex_of d194_80 (d) L (.int (nI j) :: .ref a :: st) h).trans (fin_iaload (Or.inl ht) hj hb)
theorem d194_81 : decode (mB 194) 81 = .ok (.iastore, 1) := by decide +kernel
theorem x194_81 {d : Nat} {L : Lc} {st : List Value} {a j : Nat} {x : Int32} {h : Hp} (ht : (h.2.1 a).1 = 20) (hj : j < (h.2.1 a).2) (hb : j < 2147483648) : ex (d) 194 81 L (.int x :: .int (nI j) :: .ref a :: st) h = ex d 194 82 L st (mup h.1 a j (.int x), h.2) := (ex_of d194_81 (d) L (.int x :: .int (nI j) :: .ref a :: st) h).trans (fin_iastore ht hj hb)
theorem d194_82 : decode (mB 194) 82 = .ok (.iinc 2 1, 3) := by decide +kernel
theorem x194_82 {d : Nat} {l0 l1 : Option Value} {st : List Value} {x : Int32} {h : Hp} : ex (d) 194 82 [l0, l1, some (.int x)] st h = ex d 194 85 [l0, clr l1, some (.int (x + (nI 1)))] st h := (ex_of d194_82 (d) [l0, l1, some (.int x)] st h).trans (rfl)
theorem d194_85 : decode (mB 194) 85 = .ok (.goto (-56), 3) := by decide +kernel
theorem x194_85 {d : Nat} {L : Lc} {st : List Value} {h : Hp} : ex (d) 194 85 L st h = ex d 194 29 L st h := (ex_of d194_85 (d) L st h).trans (rfl)
theorem d194_88 : decode (mB 194) 88 = .ok (.aload_n 0, 1) := by decide +kernel
theorem x194_88 {d : Nat} {l1 l2 : Option Value} {st : List Value} {a : Nat} {h : Hp} : ex (d) 194 88 [some (.ref a), l1, l2] st h = ex d 194 89 [some (.ref a), l1, l2] (.ref a :: st) h := (ex_of d194_88 (d) [some (.ref a), l1, l2] st h).trans (rfl)
theorem d194_89 : decode (mB 194) 89 = .ok (.aload_n 0, 1) := by decide +kernel
theorem x194_89 {d : Nat} {l1 l2 : Option Value} {st : List Value} {a : Nat} {h : Hp} : ex (d) 194 89 [some (.ref a), l1, l2] st h = ex d 194 90 [some (.ref a), l1, l2] (.ref a :: st) h := (ex_of d194_89 (d) [some (.ref a), l1, l2] st h).trans (rfl)
theorem d194_90 : decode (mB 194) 90 = .ok (.getfield 218, 3) := by decide +kernel
theorem x194_90 {d : Nat} {L : Lc} {st : List Value} {a : Nat} {h : Hp} (ht : (h.2.1 a).1 = 11) : ex (d) 194 90 L (.ref a :: st) h = ex d 194 93 L (h.1 a 21 :: st) h := (ex_of d194_90 (d) L (.ref a :: st) h).trans (fin_get (mi := 194) f11_218 (tg1 ht rfl))
theorem d194_93 : decode (mB 194) 93 = .ok (.putfield 238, 3) := by decide +kernel
theorem x194_93 {d : Nat} {L : Lc} {st : List Value} {a : Nat} {x : Int32} {h : Hp} (ht : (h.2.1 a).1 = 11) : ex (d) 194 93 L (.int x :: .ref a :: st) h = ex d 194 96 L st (mup h.1 a 32 (.int x), h.2) := (ex_of d194_93 (d) L (.int x :: .ref a :: st) h).trans (fin_put (mi := 194) f11_238 ht rfl rfl (by decide +kernel))
theorem d194_96 : decode (mB 194) 96 = .ok (.aload_n 0, 1) := by decide +kernel
theorem x194_96 {d : Nat} {l1 l2 : Option Value} {st : List Value} {a : Nat} {h : Hp} : ex (d) 194 96 [some (.ref a), l1, l2] st h = ex d 194 97 [some (.ref a), l1, l2] (.ref a :: st) h := (ex_of d194_96 (d) [some (.ref a), l1, l2] st h).trans (rfl)
theorem d194_97 : decode (mB 194) 97 = .ok (.iload_n 1, 1) := by decide +kernel
theorem x194_97 {d : Nat} {l0 l2 : Option Value} {st : List Value} {x : Int32} {h : Hp} : ex (d) 194 97 [l0, some (.int x), l2] st h = ex d 194 98 [l0, some (.int x), l2] (.int x :: st) h := (ex_of d194_97 (d) [l0, some (.int x), l2] st h).trans (rfl)
theorem d194_98 : decode (mB 194) 98 = .ok (.invokevirtual 113, 3) := by decide +kernel
theorem x194_98 {d : Nat} {L : Lc} {a : Nat} {v0 : Int32} {h : Hp} (ht : (h.2.1 a).1 = 11) : ex (d + 1) 194 98 L (.int v0 :: .ref a :: []) h = bnd (ex d 134 0 [some (.ref a), some (.int v0)] [] h) (fun v h' => ex (d + 1) 194 101 L (v.toList ++ []) h') := (ex_of d194_98 (d + 1) L (.int v0 :: .ref a :: []) h).trans (fin_vi (mi := 194) i11_113 ht rfl rfl (by simp [cat1_i, cat1_r]) (by simp) (Nat.le_of_ble_eq_true rfl))
theorem d194_101 : decode (mB 194) 101 = .ok (.ireturn, 1) := by decide +kernel
theorem x194_101 {d : Nat} {L : Lc} {x : Int32} {h : Hp} : ex (d) 194 101 L [.int x] h = some (some (.int x), h) := (ex_of d194_101 (d) L [.int x] h).trans (rfl)
theorem d195_0 : decode (mB 195) 0 = .ok (.iload_n 1, 1) := by decide +kernel
theorem x195_0 {d : Nat} {l0 : Option Value} {st : List Value} {x : Int32} {h : Hp} : ex (d) 195 0 [l0, some (.int x)] st h = ex d 195 1 [l0, some (.int x)] (.int x :: st) h := (ex_of d195_0 (d) [l0, some (.int x)] st h).trans (rfl)
theorem d195_1 : decode (mB 195) 1 = .ok (.iconst 0, 1) := by decide +kernel
theorem x195_1 {d : Nat} {L : Lc} {st : List Value} {h : Hp} : ex (d) 195 1 L st h = ex d 195 2 L (.int (nI 0) :: st) h := (ex_of d195_1 (d) L st h).trans (rfl)
theorem d195_2 : decode (mB 195) 2 = .ok (.aload_n 0, 1) := by decide +kernel
theorem x195_2 {d : Nat} {l1 : Option Value} {st : List Value} {a : Nat} {h : Hp} : ex (d) 195 2 [some (.ref a), l1] st h = ex d 195 3 [some (.ref a), l1] (.ref a :: st) h := (ex_of d195_2 (d) [some (.ref a), l1] st h).trans (rfl)
theorem d195_3 : decode (mB 195) 3 = .ok (.getfield 238, 3) := by decide +kernel
theorem x195_3 {d : Nat} {L : Lc} {st : List Value} {a : Nat} {h : Hp} (ht : (h.2.1 a).1 = 11) : ex (d) 195 3 L (.ref a :: st) h = ex d 195 6 L (h.1 a 32 :: st) h := (ex_of d195_3 (d) L (.ref a :: st) h).trans (fin_get (mi := 195) f11_238 (tg1 ht rfl))
theorem d195_6 : decode (mB 195) 6 = .ok (.iconst 1, 1) := by decide +kernel
theorem x195_6 {d : Nat} {L : Lc} {st : List Value} {h : Hp} : ex (d) 195 6 L st h = ex d 195 7 L (.int (nI 1) :: st) h := (ex_of d195_6 (d) L st h).trans (rfl)
theorem d195_7 : decode (mB 195) 7 = .ok (.isub, 1) := by decide +kernel
theorem x195_7 {d : Nat} {L : Lc} {st : List Value} {x y : Int32} {h : Hp} : ex (d) 195 7 L (.int y :: .int x :: st) h = ex d 195 8 L (.int (x - y) :: st) h := (ex_of d195_7 (d) L (.int y :: .int x :: st) h).trans (rfl)
theorem d195_8 : decode (mB 195) 8 = .ok (.invokestatic 101, 3) := by decide +kernel
theorem x195_8 {d : Nat} {L : Lc}  {v0 : Int32} {v1 : Int32} {v2 : Int32} {h : Hp} : ex (d + 1) 195 8 L (.int v2 :: .int v1 :: .int v0 :: []) h = bnd (ex d 137 0 [some (.int v0), some (.int v1), some (.int v2)] [] h) (fun v h' => ex (d + 1) 195 11 L (v.toList ++ []) h') := (ex_of d195_8 (d + 1) L (.int v2 :: .int v1 :: .int v0 :: []) h).trans (fin_st (mi := 195) i11_101 (Or.inl rfl) (by simp) (by simp [cat1_i, cat1_r]) (by simp) (Nat.le_of_ble_eq_true rfl))
theorem d195_11 : decode (mB 195) 11 = .ok (.ifCond .eq 16, 3) := by decide +kernel
theorem x195_11 {d : Nat} {L : Lc} {st : List Value} {x : Int32} {h : Hp} : ex (d) 195 11 L (.int x :: st) h = if x = 0 then ex d 195 27 L st h else ex d 195 14 L st h := (ex_of d195_11 (d) L (.int x :: st) h).trans (fin_brq (off := 16) (tgt := 27) rfl (by decide))
theorem d195_14 : decode (mB 195) 14 = .ok (.aload_n 0, 1) := by decide +kernel
theorem x195_14 {d : Nat} {l1 : Option Value} {st : List Value} {a : Nat} {h : Hp} : ex (d) 195 14 [some (.ref a), l1] st h = ex d 195 15 [some (.ref a), l1] (.ref a :: st) h := (ex_of d195_14 (d) [some (.ref a), l1] st h).trans (rfl)
theorem d195_15 : decode (mB 195) 15 = .ok (.aload_n 0, 1) := by decide +kernel
theorem x195_15 {d : Nat} {l1 : Option Value} {st : List Value} {a : Nat} {h : Hp} : ex (d) 195 15 [some (.ref a), l1] st h = ex d 195 16 [some (.ref a), l1] (.ref a :: st) h := (ex_of d195_15 (d) [some (.ref a), l1] st h).trans (rfl)
theorem d195_16 : decode (mB 195) 16 = .ok (.getfield 73, 3) := by decide +kernel
theorem x195_16 {d : Nat} {L : Lc} {st : List Value} {a : Nat} {h : Hp} (ht : (h.2.1 a).1 = 11) : ex (d) 195 16 L (.ref a :: st) h = ex d 195 19 L (h.1 a 33 :: st) h := (ex_of d195_16 (d) L (.ref a :: st) h).trans (fin_get (mi := 195) f11_73 (tg1 ht rfl))
theorem d195_19 : decode (mB 195) 19 = .ok (.iload_n 1, 1) := by decide +kernel
theorem x195_19 {d : Nat} {l0 : Option Value} {st : List Value} {x : Int32} {h : Hp} : ex (d) 195 19 [l0, some (.int x)] st h = ex d 195 20 [l0, some (.int x)] (.int x :: st) h := (ex_of d195_19 (d) [l0, some (.int x)] st h).trans (rfl)
theorem d195_20 : decode (mB 195) 20 = .ok (.iaload, 1) := by decide +kernel
theorem x195_20 {d : Nat} {L : Lc} {st : List Value} {a j : Nat} {h : Hp} (ht : (h.2.1 a).1 = 20) (hj : j < (h.2.1 a).2) (hb : j < 2147483648) : ex (d) 195 20 L (.int (nI j) :: .ref a :: st) h = ex d 195 21 L (h.1 a j :: st) h := (ex_of d195_20 (d) L (.int (nI j) :: .ref a :: st) h).trans (fin_iaload (Or.inl ht) hj hb)
theorem d195_21 : decode (mB 195) 21 = .ok (.invokevirtual 113, 3) := by decide +kernel
theorem x195_21 {d : Nat} {L : Lc} {a : Nat} {v0 : Int32} {h : Hp} (ht : (h.2.1 a).1 = 11) : ex (d + 1) 195 21 L (.int v0 :: .ref a :: []) h = bnd (ex d 134 0 [some (.ref a), some (.int v0)] [] h) (fun v h' => ex (d + 1) 195 24 L (v.toList ++ []) h') := (ex_of d195_21 (d + 1) L (.int v0 :: .ref a :: []) h).trans (fin_vi (mi := 195) i11_113 ht rfl rfl (by simp [cat1_i, cat1_r]) (by simp) (Nat.le_of_ble_eq_true rfl))
theorem d195_24 : decode (mB 195) 24 = .ok (.goto 9, 3) := by decide +kernel
theorem x195_24 {d : Nat} {L : Lc} {st : List Value} {h : Hp} : ex (d) 195 24 L st h = ex d 195 33 L st h := (ex_of d195_24 (d) L st h).trans (rfl)
theorem d195_27 : decode (mB 195) 27 = .ok (.aload_n 0, 1) := by decide +kernel
theorem x195_27 {d : Nat} {l1 : Option Value} {st : List Value} {a : Nat} {h : Hp} : ex (d) 195 27 [some (.ref a), l1] st h = ex d 195 28 [some (.ref a), l1] (.ref a :: st) h := (ex_of d195_27 (d) [some (.ref a), l1] st h).trans (rfl)
theorem d195_28 : decode (mB 195) 28 = .ok (.bipush 10, 2) := by decide +kernel
theorem x195_28 {d : Nat} {L : Lc} {st : List Value} {h : Hp} : ex (d) 195 28 L st h = ex d 195 30 L (.int (nI 10) :: st) h := (ex_of d195_28 (d) L st h).trans (rfl)
theorem d195_30 : decode (mB 195) 30 = .ok (.invokevirtual 109, 3) := by decide +kernel
theorem x195_30 {d : Nat} {L : Lc} {a : Nat} {v0 : Int32} {h : Hp} (ht : (h.2.1 a).1 = 11) : ex (d + 1) 195 30 L (.int v0 :: .ref a :: []) h = bnd (ex d 135 0 [some (.ref a), some (.int v0)] [] h) (fun v h' => ex (d + 1) 195 33 L (v.toList ++ []) h') := (ex_of d195_30 (d + 1) L (.int v0 :: .ref a :: []) h).trans (fin_vi (mi := 195) i11_109 ht rfl rfl (by simp [cat1_i, cat1_r]) (by simp) (Nat.le_of_ble_eq_true rfl))
theorem d195_33 : decode (mB 195) 33 = .ok (.ireturn, 1) := by decide +kernel
theorem x195_33 {d : Nat} {L : Lc} {x : Int32} {h : Hp} : ex (d) 195 33 L [.int x] h = some (some (.int x), h) := (ex_of d195_33 (d) L [.int x] h).trans (rfl)
theorem d196_0 : decode (mB 196) 0 = .ok (.iload_n 1, 1) := by decide +kernel
theorem x196_0 {d : Nat} {l0 l2 l3 : Option Value} {st : List Value} {x : Int32} {h : Hp} : ex (d) 196 0 [l0, some (.int x), l2, l3] st h = ex d 196 1 [l0, some (.int x), l2, l3] (.int x :: st) h := (ex_of d196_0 (d) [l0, some (.int x), l2, l3] st h).trans (rfl)
theorem d196_1 : decode (mB 196) 1 = .ok (.iconst 0, 1) := by decide +kernel
theorem x196_1 {d : Nat} {L : Lc} {st : List Value} {h : Hp} : ex (d) 196 1 L st h = ex d 196 2 L (.int (nI 0) :: st) h := (ex_of d196_1 (d) L st h).trans (rfl)
theorem d196_2 : decode (mB 196) 2 = .ok (.aload_n 0, 1) := by decide +kernel
theorem x196_2 {d : Nat} {l1 l2 l3 : Option Value} {st : List Value} {a : Nat} {h : Hp} : ex (d) 196 2 [some (.ref a), l1, l2, l3] st h = ex d 196 3 [some (.ref a), l1, l2, l3] (.ref a :: st) h := (ex_of d196_2 (d) [some (.ref a), l1, l2, l3] st h).trans (rfl)
theorem d196_3 : decode (mB 196) 3 = .ok (.getfield 218, 3) := by decide +kernel
theorem x196_3 {d : Nat} {L : Lc} {st : List Value} {a : Nat} {h : Hp} (ht : (h.2.1 a).1 = 11) : ex (d) 196 3 L (.ref a :: st) h = ex d 196 6 L (h.1 a 21 :: st) h := (ex_of d196_3 (d) L (.ref a :: st) h).trans (fin_get (mi := 196) f11_218 (tg1 ht rfl))
theorem d196_6 : decode (mB 196) 6 = .ok (.iconst 1, 1) := by decide +kernel
theorem x196_6 {d : Nat} {L : Lc} {st : List Value} {h : Hp} : ex (d) 196 6 L st h = ex d 196 7 L (.int (nI 1) :: st) h := (ex_of d196_6 (d) L st h).trans (rfl)
theorem d196_7 : decode (mB 196) 7 = .ok (.isub, 1) := by decide +kernel
theorem x196_7 {d : Nat} {L : Lc} {st : List Value} {x y : Int32} {h : Hp} : ex (d) 196 7 L (.int y :: .int x :: st) h = ex d 196 8 L (.int (x - y) :: st) h := (ex_of d196_7 (d) L (.int y :: .int x :: st) h).trans (rfl)
theorem d196_8 : decode (mB 196) 8 = .ok (.invokestatic 101, 3) := by decide +kernel
theorem x196_8 {d : Nat} {L : Lc}  {v0 : Int32} {v1 : Int32} {v2 : Int32} {h : Hp} : ex (d + 1) 196 8 L (.int v2 :: .int v1 :: .int v0 :: []) h = bnd (ex d 137 0 [some (.int v0), some (.int v1), some (.int v2)] [] h) (fun v h' => ex (d + 1) 196 11 L (v.toList ++ []) h') := (ex_of d196_8 (d + 1) L (.int v2 :: .int v1 :: .int v0 :: []) h).trans (fin_st (mi := 196) i11_101 (Or.inl rfl) (by simp) (by simp [cat1_i, cat1_r]) (by simp) (Nat.le_of_ble_eq_true rfl))
theorem d196_11 : decode (mB 196) 11 = .ok (.ifCond .eq 11, 3) := by decide +kernel
theorem x196_11 {d : Nat} {L : Lc} {st : List Value} {x : Int32} {h : Hp} : ex (d) 196 11 L (.int x :: st) h = if x = 0 then ex d 196 22 L st h else ex d 196 14 L st h := (ex_of d196_11 (d) L (.int x :: st) h).trans (fin_brq (off := 11) (tgt := 22) rfl (by decide))
theorem d196_14 : decode (mB 196) 14 = .ok (.aload_n 0, 1) := by decide +kernel
theorem x196_14 {d : Nat} {l1 l2 l3 : Option Value} {st : List Value} {a : Nat} {h : Hp} : ex (d) 196 14 [some (.ref a), l1, l2, l3] st h = ex d 196 15 [some (.ref a), l1, l2, l3] (.ref a :: st) h := (ex_of d196_14 (d) [some (.ref a), l1, l2, l3] st h).trans (rfl)
theorem d196_15 : decode (mB 196) 15 = .ok (.iload_n 2, 1) := by decide +kernel
theorem x196_15 {d : Nat} {l0 l1 l3 : Option Value} {st : List Value} {x : Int32} {h : Hp} : ex (d) 196 15 [l0, l1, some (.int x), l3] st h = ex d 196 16 [l0, l1, some (.int x), l3] (.int x :: st) h := (ex_of d196_15 (d) [l0, l1, some (.int x), l3] st h).trans (rfl)
theorem d196_16 : decode (mB 196) 16 = .ok (.invokevirtual 105, 3) := by decide +kernel
theorem x196_16 {d : Nat} {L : Lc} {a : Nat} {v0 : Int32} {h : Hp} (ht : (h.2.1 a).1 = 11) : ex (d + 1) 196 16 L (.int v0 :: .ref a :: []) h = bnd (ex d 136 0 [some (.ref a), some (.int v0)] [] h) (fun v h' => ex (d + 1) 196 19 L (v.toList ++ []) h') := (ex_of d196_16 (d + 1) L (.int v0 :: .ref a :: []) h).trans (fin_vi (mi := 196) i11_105 ht rfl rfl (by simp [cat1_i, cat1_r]) (by simp) (Nat.le_of_ble_eq_true rfl))
theorem d196_19 : decode (mB 196) 19 = .ok (.ifCond .ne 10, 3) := by decide +kernel
theorem x196_19 {d : Nat} {L : Lc} {st : List Value} {x : Int32} {h : Hp} : ex (d) 196 19 L (.int x :: st) h = if ¬ x = 0 then ex d 196 29 L st h else ex d 196 22 L st h := (ex_of d196_19 (d) L (.int x :: st) h).trans (fin_brq (off := 10) (tgt := 29) rfl (by decide))
theorem d196_22 : decode (mB 196) 22 = .ok (.aload_n 0, 1) := by decide +kernel
theorem x196_22 {d : Nat} {l1 l2 l3 : Option Value} {st : List Value} {a : Nat} {h : Hp} : ex (d) 196 22 [some (.ref a), l1, l2, l3] st h = ex d 196 23 [some (.ref a), l1, l2, l3] (.ref a :: st) h := (ex_of d196_22 (d) [some (.ref a), l1, l2, l3] st h).trans (rfl)
theorem d196_23 : decode (mB 196) 23 = .ok (.bipush 10, 2) := by decide +kernel
theorem x196_23 {d : Nat} {L : Lc} {st : List Value} {h : Hp} : ex (d) 196 23 L st h = ex d 196 25 L (.int (nI 10) :: st) h := (ex_of d196_23 (d) L st h).trans (rfl)
theorem d196_25 : decode (mB 196) 25 = .ok (.invokevirtual 109, 3) := by decide +kernel
theorem x196_25 {d : Nat} {L : Lc} {a : Nat} {v0 : Int32} {h : Hp} (ht : (h.2.1 a).1 = 11) : ex (d + 1) 196 25 L (.int v0 :: .ref a :: []) h = bnd (ex d 135 0 [some (.ref a), some (.int v0)] [] h) (fun v h' => ex (d + 1) 196 28 L (v.toList ++ []) h') := (ex_of d196_25 (d + 1) L (.int v0 :: .ref a :: []) h).trans (fin_vi (mi := 196) i11_109 ht rfl rfl (by simp [cat1_i, cat1_r]) (by simp) (Nat.le_of_ble_eq_true rfl))
theorem d196_28 : decode (mB 196) 28 = .ok (.ireturn, 1) := by decide +kernel
theorem x196_28 {d : Nat} {L : Lc} {x : Int32} {h : Hp} : ex (d) 196 28 L [.int x] h = some (some (.int x), h) := (ex_of d196_28 (d) L [.int x] h).trans (rfl)
theorem d196_29 : decode (mB 196) 29 = .ok (.aload_n 0, 1) := by decide +kernel
theorem x196_29 {d : Nat} {l1 l2 l3 : Option Value} {st : List Value} {a : Nat} {h : Hp} : ex (d) 196 29 [some (.ref a), l1, l2, l3] st h = ex d 196 30 [some (.ref a), l1, l2, l3] (.ref a :: st) h := (ex_of d196_29 (d) [some (.ref a), l1, l2, l3] st h).trans (rfl)
theorem d196_30 : decode (mB 196) 30 = .ok (.invokevirtual 235, 3) := by decide +kernel
theorem x196_30 {d : Nat} {L : Lc} {a : Nat} {h : Hp} (ht : (h.2.1 a).1 = 11) : ex (d + 1) 196 30 L (.ref a :: []) h = bnd (ex d 190 0 [some (.ref a), none, none] [] h) (fun v h' => ex (d + 1) 196 33 L (v.toList ++ []) h') := (ex_of d196_30 (d + 1) L (.ref a :: []) h).trans (fin_vi (mi := 196) i11_235 ht rfl rfl (by simp [cat1_i, cat1_r]) (by simp) (Nat.le_of_ble_eq_true rfl))
theorem d196_33 : decode (mB 196) 33 = .ok (.iconst 0, 1) := by decide +kernel
theorem x196_33 {d : Nat} {L : Lc} {st : List Value} {h : Hp} : ex (d) 196 33 L st h = ex d 196 34 L (.int (nI 0) :: st) h := (ex_of d196_33 (d) L st h).trans (rfl)
theorem d196_34 : decode (mB 196) 34 = .ok (.istore_n 3, 1) := by decide +kernel
theorem x196_34 {d : Nat} {l0 l1 l2 l3 : Option Value} {st : List Value} {x : Int32} {h : Hp} : ex (d) 196 34 [l0, l1, l2, l3] (.int x :: st) h = ex d 196 35 [l0, l1, clr l2, some (.int x)] st h := (ex_of d196_34 (d) [l0, l1, l2, l3] (.int x :: st) h).trans (rfl)
theorem d196_35 : decode (mB 196) 35 = .ok (.iload_n 3, 1) := by decide +kernel
theorem x196_35 {d : Nat} {l0 l1 l2 : Option Value} {st : List Value} {x : Int32} {h : Hp} : ex (d) 196 35 [l0, l1, l2, some (.int x)] st h = ex d 196 36 [l0, l1, l2, some (.int x)] (.int x :: st) h := (ex_of d196_35 (d) [l0, l1, l2, some (.int x)] st h).trans (rfl)
theorem d196_36 : decode (mB 196) 36 = .ok (.aload_n 0, 1) := by decide +kernel
theorem x196_36 {d : Nat} {l1 l2 l3 : Option Value} {st : List Value} {a : Nat} {h : Hp} : ex (d) 196 36 [some (.ref a), l1, l2, l3] st h = ex d 196 37 [some (.ref a), l1, l2, l3] (.ref a :: st) h := (ex_of d196_36 (d) [some (.ref a), l1, l2, l3] st h).trans (rfl)
theorem d196_37 : decode (mB 196) 37 = .ok (.getfield 221, 3) := by decide +kernel
theorem x196_37 {d : Nat} {L : Lc} {st : List Value} {a : Nat} {h : Hp} (ht : (h.2.1 a).1 = 11) : ex (d) 196 37 L (.ref a :: st) h = ex d 196 40 L (h.1 a 25 :: st) h := (ex_of d196_37 (d) L (.ref a :: st) h).trans (fin_get (mi := 196) f11_221 (tg1 ht rfl))
theorem d196_40 : decode (mB 196) 40 = .ok (.if_icmp .ge 35, 3) := by decide +kernel
theorem x196_40 {d : Nat} {L : Lc} {st : List Value} {x y : Int32} {h : Hp} : ex (d) 196 40 L (.int y :: .int x :: st) h = if y ≤ x then ex d 196 75 L st h else ex d 196 43 L st h := (ex_of d196_40 (d) L (.int y :: .int x :: st) h).trans (fin_brq (off := 35) (tgt := 75) rfl (by decide))
theorem d196_43 : decode (mB 196) 43 = .ok (.aload_n 0, 1) := by decide +kernel
theorem x196_43 {d : Nat} {l1 l2 l3 : Option Value} {st : List Value} {a : Nat} {h : Hp} : ex (d) 196 43 [some (.ref a), l1, l2, l3] st h = ex d 196 44 [some (.ref a), l1, l2, l3] (.ref a :: st) h := (ex_of d196_43 (d) [some (.ref a), l1, l2, l3] st h).trans (rfl)
theorem d196_44 : decode (mB 196) 44 = .ok (.getfield 64, 3) := by decide +kernel
theorem x196_44 {d : Nat} {L : Lc} {st : List Value} {a : Nat} {h : Hp} (ht : (h.2.1 a).1 = 11) : ex (d) 196 44 L (.ref a :: st) h = ex d 196 47 L (h.1 a 28 :: st) h := (ex_of d196_44 (d) L (.ref a :: st) h).trans (fin_get (mi := 196) f11_64 (tg1 ht rfl))
theorem d196_47 : decode (mB 196) 47 = .ok (.iload_n 1, 1) := by decide +kernel
theorem x196_47 {d : Nat} {l0 l2 l3 : Option Value} {st : List Value} {x : Int32} {h : Hp} : ex (d) 196 47 [l0, some (.int x), l2, l3] st h = ex d 196 48 [l0, some (.int x), l2, l3] (.int x :: st) h := (ex_of d196_47 (d) [l0, some (.int x), l2, l3] st h).trans (rfl)
theorem d196_48 : decode (mB 196) 48 = .ok (.aload_n 0, 1) := by decide +kernel
theorem x196_48 {d : Nat} {l1 l2 l3 : Option Value} {st : List Value} {a : Nat} {h : Hp} : ex (d) 196 48 [some (.ref a), l1, l2, l3] st h = ex d 196 49 [some (.ref a), l1, l2, l3] (.ref a :: st) h := (ex_of d196_48 (d) [some (.ref a), l1, l2, l3] st h).trans (rfl)
theorem d196_49 : decode (mB 196) 49 = .ok (.getfield 58, 3) := by decide +kernel
theorem x196_49 {d : Nat} {L : Lc} {st : List Value} {a : Nat} {h : Hp} (ht : (h.2.1 a).1 = 11) : ex (d) 196 49 L (.ref a :: st) h = ex d 196 52 L (h.1 a 26 :: st) h := (ex_of d196_49 (d) L (.ref a :: st) h).trans (fin_get (mi := 196) f11_58 (tg1 ht rfl))
theorem d196_52 : decode (mB 196) 52 = .ok (.iload_n 3, 1) := by decide +kernel
theorem x196_52 {d : Nat} {l0 l1 l2 : Option Value} {st : List Value} {x : Int32} {h : Hp} : ex (d) 196 52 [l0, l1, l2, some (.int x)] st h = ex d 196 53 [l0, l1, l2, some (.int x)] (.int x :: st) h := (ex_of d196_52 (d) [l0, l1, l2, some (.int x)] st h).trans (rfl)
theorem d196_53 : decode (mB 196) 53 = .ok (.iaload, 1) := by decide +kernel
theorem x196_53 {d : Nat} {L : Lc} {st : List Value} {a j : Nat} {h : Hp} (ht : (h.2.1 a).1 = 20) (hj : j < (h.2.1 a).2) (hb : j < 2147483648) : ex (d) 196 53 L (.int (nI j) :: .ref a :: st) h = ex d 196 54 L (h.1 a j :: st) h := (ex_of d196_53 (d) L (.int (nI j) :: .ref a :: st) h).trans (fin_iaload (Or.inl ht) hj hb)
theorem d196_54 : decode (mB 196) 54 = .ok (.iload_n 2, 1) := by decide +kernel
theorem x196_54 {d : Nat} {l0 l1 l3 : Option Value} {st : List Value} {x : Int32} {h : Hp} : ex (d) 196 54 [l0, l1, some (.int x), l3] st h = ex d 196 55 [l0, l1, some (.int x), l3] (.int x :: st) h := (ex_of d196_54 (d) [l0, l1, some (.int x), l3] st h).trans (rfl)
theorem d196_55 : decode (mB 196) 55 = .ok (.if_icmp .ne 7, 3) := by decide +kernel
theorem x196_55 {d : Nat} {L : Lc} {st : List Value} {x y : Int32} {h : Hp} : ex (d) 196 55 L (.int y :: .int x :: st) h = if ¬ x = y then ex d 196 62 L st h else ex d 196 58 L st h := (ex_of d196_55 (d) L (.int y :: .int x :: st) h).trans (fin_brq (off := 7) (tgt := 62) rfl (by decide))
theorem d196_58 : decode (mB 196) 58 = .ok (.iload_n 3, 1) := by decide +kernel
theorem x196_58 {d : Nat} {l0 l1 l2 : Option Value} {st : List Value} {x : Int32} {h : Hp} : ex (d) 196 58 [l0, l1, l2, some (.int x)] st h = ex d 196 59 [l0, l1, l2, some (.int x)] (.int x :: st) h := (ex_of d196_58 (d) [l0, l1, l2, some (.int x)] st h).trans (rfl)
theorem d196_59 : decode (mB 196) 59 = .ok (.goto 9, 3) := by decide +kernel
theorem x196_59 {d : Nat} {L : Lc} {st : List Value} {h : Hp} : ex (d) 196 59 L st h = ex d 196 68 L st h := (ex_of d196_59 (d) L st h).trans (rfl)
theorem d196_62 : decode (mB 196) 62 = .ok (.aload_n 0, 1) := by decide +kernel
theorem x196_62 {d : Nat} {l1 l2 l3 : Option Value} {st : List Value} {a : Nat} {h : Hp} : ex (d) 196 62 [some (.ref a), l1, l2, l3] st h = ex d 196 63 [some (.ref a), l1, l2, l3] (.ref a :: st) h := (ex_of d196_62 (d) [some (.ref a), l1, l2, l3] st h).trans (rfl)
theorem d196_63 : decode (mB 196) 63 = .ok (.getfield 64, 3) := by decide +kernel
theorem x196_63 {d : Nat} {L : Lc} {st : List Value} {a : Nat} {h : Hp} (ht : (h.2.1 a).1 = 11) : ex (d) 196 63 L (.ref a :: st) h = ex d 196 66 L (h.1 a 28 :: st) h := (ex_of d196_63 (d) L (.ref a :: st) h).trans (fin_get (mi := 196) f11_64 (tg1 ht rfl))
theorem d196_66 : decode (mB 196) 66 = .ok (.iload_n 1, 1) := by decide +kernel
theorem x196_66 {d : Nat} {l0 l2 l3 : Option Value} {st : List Value} {x : Int32} {h : Hp} : ex (d) 196 66 [l0, some (.int x), l2, l3] st h = ex d 196 67 [l0, some (.int x), l2, l3] (.int x :: st) h := (ex_of d196_66 (d) [l0, some (.int x), l2, l3] st h).trans (rfl)
theorem d196_67 : decode (mB 196) 67 = .ok (.iaload, 1) := by decide +kernel
theorem x196_67 {d : Nat} {L : Lc} {st : List Value} {a j : Nat} {h : Hp} (ht : (h.2.1 a).1 = 20) (hj : j < (h.2.1 a).2) (hb : j < 2147483648) : ex (d) 196 67 L (.int (nI j) :: .ref a :: st) h = ex d 196 68 L (h.1 a j :: st) h := (ex_of d196_67 (d) L (.int (nI j) :: .ref a :: st) h).trans (fin_iaload (Or.inl ht) hj hb)
theorem d196_68 : decode (mB 196) 68 = .ok (.iastore, 1) := by decide +kernel
theorem x196_68 {d : Nat} {L : Lc} {st : List Value} {a j : Nat} {x : Int32} {h : Hp} (ht : (h.2.1 a).1 = 20) (hj : j < (h.2.1 a).2) (hb : j < 2147483648) : ex (d) 196 68 L (.int x :: .int (nI j) :: .ref a :: st) h = ex d 196 69 L st (mup h.1 a j (.int x), h.2) := (ex_of d196_68 (d) L (.int x :: .int (nI j) :: .ref a :: st) h).trans (fin_iastore ht hj hb)
theorem d196_69 : decode (mB 196) 69 = .ok (.iinc 3 1, 3) := by decide +kernel
theorem x196_69 {d : Nat} {l0 l1 l2 : Option Value} {st : List Value} {x : Int32} {h : Hp} : ex (d) 196 69 [l0, l1, l2, some (.int x)] st h = ex d 196 72 [l0, l1, clr l2, some (.int (x + (nI 1)))] st h := (ex_of d196_69 (d) [l0, l1, l2, some (.int x)] st h).trans (rfl)
theorem d196_72 : decode (mB 196) 72 = .ok (.goto (-37), 3) := by decide +kernel
theorem x196_72 {d : Nat} {L : Lc} {st : List Value} {h : Hp} : ex (d) 196 72 L st h = ex d 196 35 L st h := (ex_of d196_72 (d) L st h).trans (rfl)
theorem d196_75 : decode (mB 196) 75 = .ok (.aload_n 0, 1) := by decide +kernel
theorem x196_75 {d : Nat} {l1 l2 l3 : Option Value} {st : List Value} {a : Nat} {h : Hp} : ex (d) 196 75 [some (.ref a), l1, l2, l3] st h = ex d 196 76 [some (.ref a), l1, l2, l3] (.ref a :: st) h := (ex_of d196_75 (d) [some (.ref a), l1, l2, l3] st h).trans (rfl)
theorem d196_76 : decode (mB 196) 76 = .ok (.getfield 64, 3) := by decide +kernel
theorem x196_76 {d : Nat} {L : Lc} {st : List Value} {a : Nat} {h : Hp} (ht : (h.2.1 a).1 = 11) : ex (d) 196 76 L (.ref a :: st) h = ex d 196 79 L (h.1 a 28 :: st) h := (ex_of d196_76 (d) L (.ref a :: st) h).trans (fin_get (mi := 196) f11_64 (tg1 ht rfl))
theorem d196_79 : decode (mB 196) 79 = .ok (.iload_n 1, 1) := by decide +kernel
theorem x196_79 {d : Nat} {l0 l2 l3 : Option Value} {st : List Value} {x : Int32} {h : Hp} : ex (d) 196 79 [l0, some (.int x), l2, l3] st h = ex d 196 80 [l0, some (.int x), l2, l3] (.int x :: st) h := (ex_of d196_79 (d) [l0, some (.int x), l2, l3] st h).trans (rfl)
theorem d196_80 : decode (mB 196) 80 = .ok (.iaload, 1) := by decide +kernel
theorem x196_80 {d : Nat} {L : Lc} {st : List Value} {a j : Nat} {h : Hp} (ht : (h.2.1 a).1 = 20) (hj : j < (h.2.1 a).2) (hb : j < 2147483648) : ex (d) 196 80 L (.int (nI j) :: .ref a :: st) h = ex d 196 81 L (h.1 a j :: st) h := (ex_of d196_80 (d) L (.int (nI j) :: .ref a :: st) h).trans (fin_iaload (Or.inl ht) hj hb)
theorem d196_81 : decode (mB 196) 81 = .ok (.ifCond .ge 10, 3) := by decide +kernel
theorem x196_81 {d : Nat} {L : Lc} {st : List Value} {x : Int32} {h : Hp} : ex (d) 196 81 L (.int x :: st) h = if 0 ≤ x then ex d 196 91 L st h else ex d 196 84 L st h := (ex_of d196_81 (d) L (.int x :: st) h).trans (fin_brq (off := 10) (tgt := 91) rfl (by decide))
theorem d196_84 : decode (mB 196) 84 = .ok (.aload_n 0, 1) := by decide +kernel
theorem x196_84 {d : Nat} {l1 l2 l3 : Option Value} {st : List Value} {a : Nat} {h : Hp} : ex (d) 196 84 [some (.ref a), l1, l2, l3] st h = ex d 196 85 [some (.ref a), l1, l2, l3] (.ref a :: st) h := (ex_of d196_84 (d) [some (.ref a), l1, l2, l3] st h).trans (rfl)
theorem d196_85 : decode (mB 196) 85 = .ok (.bipush 12, 2) := by decide +kernel
theorem x196_85 {d : Nat} {L : Lc} {st : List Value} {h : Hp} : ex (d) 196 85 L st h = ex d 196 87 L (.int (nI 12) :: st) h := (ex_of d196_85 (d) L st h).trans (rfl)
theorem d196_87 : decode (mB 196) 87 = .ok (.invokevirtual 109, 3) := by decide +kernel
theorem x196_87 {d : Nat} {L : Lc} {a : Nat} {v0 : Int32} {h : Hp} (ht : (h.2.1 a).1 = 11) : ex (d + 1) 196 87 L (.int v0 :: .ref a :: []) h = bnd (ex d 135 0 [some (.ref a), some (.int v0)] [] h) (fun v h' => ex (d + 1) 196 90 L (v.toList ++ []) h') := (ex_of d196_87 (d + 1) L (.int v0 :: .ref a :: []) h).trans (fin_vi (mi := 196) i11_109 ht rfl rfl (by simp [cat1_i, cat1_r]) (by simp) (Nat.le_of_ble_eq_true rfl))
theorem d196_90 : decode (mB 196) 90 = .ok (.ireturn, 1) := by decide +kernel
theorem x196_90 {d : Nat} {L : Lc} {x : Int32} {h : Hp} : ex (d) 196 90 L [.int x] h = some (some (.int x), h) := (ex_of d196_90 (d) L [.int x] h).trans (rfl)
theorem d196_91 : decode (mB 196) 91 = .ok (.aload_n 0, 1) := by decide +kernel
theorem x196_91 {d : Nat} {l1 l2 l3 : Option Value} {st : List Value} {a : Nat} {h : Hp} : ex (d) 196 91 [some (.ref a), l1, l2, l3] st h = ex d 196 92 [some (.ref a), l1, l2, l3] (.ref a :: st) h := (ex_of d196_91 (d) [some (.ref a), l1, l2, l3] st h).trans (rfl)
theorem d196_92 : decode (mB 196) 92 = .ok (.invokevirtual 241, 3) := by decide +kernel
theorem x196_92 {d : Nat} {L : Lc} {a : Nat} {h : Hp} (ht : (h.2.1 a).1 = 11) : ex (d + 1) 196 92 L (.ref a :: []) h = bnd (ex d 193 0 [some (.ref a), none, none, none] [] h) (fun v h' => ex (d + 1) 196 95 L (v.toList ++ []) h') := (ex_of d196_92 (d + 1) L (.ref a :: []) h).trans (fin_vi (mi := 196) i11_241 ht rfl rfl (by simp [cat1_i, cat1_r]) (by simp) (Nat.le_of_ble_eq_true rfl))
theorem d196_95 : decode (mB 196) 95 = .ok (.istore_n 3, 1) := by decide +kernel
theorem x196_95 {d : Nat} {l0 l1 l2 l3 : Option Value} {st : List Value} {x : Int32} {h : Hp} : ex (d) 196 95 [l0, l1, l2, l3] (.int x :: st) h = ex d 196 96 [l0, l1, clr l2, some (.int x)] st h := (ex_of d196_95 (d) [l0, l1, l2, l3] (.int x :: st) h).trans (rfl)
theorem d196_96 : decode (mB 196) 96 = .ok (.iload_n 3, 1) := by decide +kernel
theorem x196_96 {d : Nat} {l0 l1 l2 : Option Value} {st : List Value} {x : Int32} {h : Hp} : ex (d) 196 96 [l0, l1, l2, some (.int x)] st h = ex d 196 97 [l0, l1, l2, some (.int x)] (.int x :: st) h := (ex_of d196_96 (d) [l0, l1, l2, some (.int x)] st h).trans (rfl)
theorem d196_97 : decode (mB 196) 97 = .ok (.ldc 224, 2) := by decide +kernel
theorem x196_97 {d : Nat} {L : Lc} {st : List Value} {h : Hp} : ex (d) 196 97 L st h = ex d 196 99 L (.int (nI 100000000) :: st) h := (ex_of d196_97 (d) L st h).trans (fin_ldc (mi := 196) c11_224)
theorem d196_99 : decode (mB 196) 99 = .ok (.if_icmp .lt 12, 3) := by decide +kernel
theorem x196_99 {d : Nat} {L : Lc} {st : List Value} {x y : Int32} {h : Hp} : ex (d) 196 99 L (.int y :: .int x :: st) h = if x < y then ex d 196 111 L st h else ex d 196 102 L st h := (ex_of d196_99 (d) L (.int y :: .int x :: st) h).trans (fin_brq (off := 12) (tgt := 111) rfl (by decide))
theorem d196_102 : decode (mB 196) 102 = .ok (.aload_n 0, 1) := by decide +kernel
theorem x196_102 {d : Nat} {l1 l2 l3 : Option Value} {st : List Value} {a : Nat} {h : Hp} : ex (d) 196 102 [some (.ref a), l1, l2, l3] st h = ex d 196 103 [some (.ref a), l1, l2, l3] (.ref a :: st) h := (ex_of d196_102 (d) [some (.ref a), l1, l2, l3] st h).trans (rfl)
theorem d196_103 : decode (mB 196) 103 = .ok (.bipush 12, 2) := by decide +kernel
theorem x196_103 {d : Nat} {L : Lc} {st : List Value} {h : Hp} : ex (d) 196 103 L st h = ex d 196 105 L (.int (nI 12) :: st) h := (ex_of d196_103 (d) L st h).trans (rfl)
theorem d196_105 : decode (mB 196) 105 = .ok (.invokevirtual 109, 3) := by decide +kernel
theorem x196_105 {d : Nat} {L : Lc} {a : Nat} {v0 : Int32} {h : Hp} (ht : (h.2.1 a).1 = 11) : ex (d + 1) 196 105 L (.int v0 :: .ref a :: []) h = bnd (ex d 135 0 [some (.ref a), some (.int v0)] [] h) (fun v h' => ex (d + 1) 196 108 L (v.toList ++ []) h') := (ex_of d196_105 (d + 1) L (.int v0 :: .ref a :: []) h).trans (fin_vi (mi := 196) i11_109 ht rfl rfl (by simp [cat1_i, cat1_r]) (by simp) (Nat.le_of_ble_eq_true rfl))
theorem d196_108 : decode (mB 196) 108 = .ok (.goto 8, 3) := by decide +kernel
theorem x196_108 {d : Nat} {L : Lc} {st : List Value} {h : Hp} : ex (d) 196 108 L st h = ex d 196 116 L st h := (ex_of d196_108 (d) L st h).trans (rfl)
theorem d196_111 : decode (mB 196) 111 = .ok (.aload_n 0, 1) := by decide +kernel
theorem x196_111 {d : Nat} {l1 l2 l3 : Option Value} {st : List Value} {a : Nat} {h : Hp} : ex (d) 196 111 [some (.ref a), l1, l2, l3] st h = ex d 196 112 [some (.ref a), l1, l2, l3] (.ref a :: st) h := (ex_of d196_111 (d) [some (.ref a), l1, l2, l3] st h).trans (rfl)
theorem d196_112 : decode (mB 196) 112 = .ok (.iload_n 3, 1) := by decide +kernel
theorem x196_112 {d : Nat} {l0 l1 l2 : Option Value} {st : List Value} {x : Int32} {h : Hp} : ex (d) 196 112 [l0, l1, l2, some (.int x)] st h = ex d 196 113 [l0, l1, l2, some (.int x)] (.int x :: st) h := (ex_of d196_112 (d) [l0, l1, l2, some (.int x)] st h).trans (rfl)
theorem d196_113 : decode (mB 196) 113 = .ok (.invokevirtual 113, 3) := by decide +kernel
theorem x196_113 {d : Nat} {L : Lc} {a : Nat} {v0 : Int32} {h : Hp} (ht : (h.2.1 a).1 = 11) : ex (d + 1) 196 113 L (.int v0 :: .ref a :: []) h = bnd (ex d 134 0 [some (.ref a), some (.int v0)] [] h) (fun v h' => ex (d + 1) 196 116 L (v.toList ++ []) h') := (ex_of d196_113 (d + 1) L (.int v0 :: .ref a :: []) h).trans (fin_vi (mi := 196) i11_113 ht rfl rfl (by simp [cat1_i, cat1_r]) (by simp) (Nat.le_of_ble_eq_true rfl))
theorem d196_116 : decode (mB 196) 116 = .ok (.ireturn, 1) := by decide +kernel
theorem x196_116 {d : Nat} {L : Lc} {x : Int32} {h : Hp} : ex (d) 196 116 L [.int x] h = some (some (.int x), h) := (ex_of d196_116 (d) L [.int x] h).trans (rfl)
theorem d197_0 : decode (mB 197) 0 = .ok (.aload_n 0, 1) := by decide +kernel
theorem x197_0 {d : Nat} {l1 l2 : Option Value} {st : List Value} {a : Nat} {h : Hp} : ex (d) 197 0 [some (.ref a), l1, l2] st h = ex d 197 1 [some (.ref a), l1, l2] (.ref a :: st) h := (ex_of d197_0 (d) [some (.ref a), l1, l2] st h).trans (rfl)
theorem d197_1 : decode (mB 197) 1 = .ok (.iload_n 1, 1) := by decide +kernel
theorem x197_1 {d : Nat} {l0 l2 : Option Value} {st : List Value} {x : Int32} {h : Hp} : ex (d) 197 1 [l0, some (.int x), l2] st h = ex d 197 2 [l0, some (.int x), l2] (.int x :: st) h := (ex_of d197_1 (d) [l0, some (.int x), l2] st h).trans (rfl)
theorem d197_2 : decode (mB 197) 2 = .ok (.invokevirtual 105, 3) := by decide +kernel
theorem x197_2 {d : Nat} {L : Lc} {a : Nat} {v0 : Int32} {h : Hp} (ht : (h.2.1 a).1 = 11) : ex (d + 1) 197 2 L (.int v0 :: .ref a :: []) h = bnd (ex d 136 0 [some (.ref a), some (.int v0)] [] h) (fun v h' => ex (d + 1) 197 5 L (v.toList ++ []) h') := (ex_of d197_2 (d + 1) L (.int v0 :: .ref a :: []) h).trans (fin_vi (mi := 197) i11_105 ht rfl rfl (by simp [cat1_i, cat1_r]) (by simp) (Nat.le_of_ble_eq_true rfl))
theorem d197_5 : decode (mB 197) 5 = .ok (.ifCond .ne 10, 3) := by decide +kernel
theorem x197_5 {d : Nat} {L : Lc} {st : List Value} {x : Int32} {h : Hp} : ex (d) 197 5 L (.int x :: st) h = if ¬ x = 0 then ex d 197 15 L st h else ex d 197 8 L st h := (ex_of d197_5 (d) L (.int x :: st) h).trans (fin_brq (off := 10) (tgt := 15) rfl (by decide))
theorem d197_8 : decode (mB 197) 8 = .ok (.aload_n 0, 1) := by decide +kernel
theorem x197_8 {d : Nat} {l1 l2 : Option Value} {st : List Value} {a : Nat} {h : Hp} : ex (d) 197 8 [some (.ref a), l1, l2] st h = ex d 197 9 [some (.ref a), l1, l2] (.ref a :: st) h := (ex_of d197_8 (d) [some (.ref a), l1, l2] st h).trans (rfl)
theorem d197_9 : decode (mB 197) 9 = .ok (.bipush 10, 2) := by decide +kernel
theorem x197_9 {d : Nat} {L : Lc} {st : List Value} {h : Hp} : ex (d) 197 9 L st h = ex d 197 11 L (.int (nI 10) :: st) h := (ex_of d197_9 (d) L st h).trans (rfl)
theorem d197_11 : decode (mB 197) 11 = .ok (.invokevirtual 109, 3) := by decide +kernel
theorem x197_11 {d : Nat} {L : Lc} {a : Nat} {v0 : Int32} {h : Hp} (ht : (h.2.1 a).1 = 11) : ex (d + 1) 197 11 L (.int v0 :: .ref a :: []) h = bnd (ex d 135 0 [some (.ref a), some (.int v0)] [] h) (fun v h' => ex (d + 1) 197 14 L (v.toList ++ []) h') := (ex_of d197_11 (d + 1) L (.int v0 :: .ref a :: []) h).trans (fin_vi (mi := 197) i11_109 ht rfl rfl (by simp [cat1_i, cat1_r]) (by simp) (Nat.le_of_ble_eq_true rfl))
theorem d197_14 : decode (mB 197) 14 = .ok (.ireturn, 1) := by decide +kernel
theorem x197_14 {d : Nat} {L : Lc} {x : Int32} {h : Hp} : ex (d) 197 14 L [.int x] h = some (some (.int x), h) := (ex_of d197_14 (d) L [.int x] h).trans (rfl)
theorem d197_15 : decode (mB 197) 15 = .ok (.aload_n 0, 1) := by decide +kernel
theorem x197_15 {d : Nat} {l1 l2 : Option Value} {st : List Value} {a : Nat} {h : Hp} : ex (d) 197 15 [some (.ref a), l1, l2] st h = ex d 197 16 [some (.ref a), l1, l2] (.ref a :: st) h := (ex_of d197_15 (d) [some (.ref a), l1, l2] st h).trans (rfl)
theorem d197_16 : decode (mB 197) 16 = .ok (.getfield 9, 3) := by decide +kernel
theorem x197_16 {d : Nat} {L : Lc} {st : List Value} {a : Nat} {h : Hp} (ht : (h.2.1 a).1 = 11) : ex (d) 197 16 L (.ref a :: st) h = ex d 197 19 L (h.1 a 2 :: st) h := (ex_of d197_16 (d) L (.ref a :: st) h).trans (fin_get (mi := 197) f11_9 (tg1 ht rfl))
theorem d197_19 : decode (mB 197) 19 = .ok (.iload_n 1, 1) := by decide +kernel
theorem x197_19 {d : Nat} {l0 l2 : Option Value} {st : List Value} {x : Int32} {h : Hp} : ex (d) 197 19 [l0, some (.int x), l2] st h = ex d 197 20 [l0, some (.int x), l2] (.int x :: st) h := (ex_of d197_19 (d) [l0, some (.int x), l2] st h).trans (rfl)
theorem d197_20 : decode (mB 197) 20 = .ok (.iaload, 1) := by decide +kernel
theorem x197_20 {d : Nat} {L : Lc} {st : List Value} {a j : Nat} {h : Hp} (ht : (h.2.1 a).1 = 20) (hj : j < (h.2.1 a).2) (hb : j < 2147483648) : ex (d) 197 20 L (.int (nI j) :: .ref a :: st) h = ex d 197 21 L (h.1 a j :: st) h := (ex_of d197_20 (d) L (.int (nI j) :: .ref a :: st) h).trans (fin_iaload (Or.inl ht) hj hb)
theorem d197_21 : decode (mB 197) 21 = .ok (.iconst 5, 1) := by decide +kernel
theorem x197_21 {d : Nat} {L : Lc} {st : List Value} {h : Hp} : ex (d) 197 21 L st h = ex d 197 22 L (.int (nI 5) :: st) h := (ex_of d197_21 (d) L st h).trans (rfl)
theorem d197_22 : decode (mB 197) 22 = .ok (.if_icmp .le 9, 3) := by decide +kernel
theorem x197_22 {d : Nat} {L : Lc} {st : List Value} {x y : Int32} {h : Hp} : ex (d) 197 22 L (.int y :: .int x :: st) h = if x ≤ y then ex d 197 31 L st h else ex d 197 25 L st h := (ex_of d197_22 (d) L (.int y :: .int x :: st) h).trans (fin_brq (off := 9) (tgt := 31) rfl (by decide))
theorem d197_25 : decode (mB 197) 25 = .ok (.aload_n 0, 1) := by decide +kernel
theorem x197_25 {d : Nat} {l1 l2 : Option Value} {st : List Value} {a : Nat} {h : Hp} : ex (d) 197 25 [some (.ref a), l1, l2] st h = ex d 197 26 [some (.ref a), l1, l2] (.ref a :: st) h := (ex_of d197_25 (d) [some (.ref a), l1, l2] st h).trans (rfl)
theorem d197_26 : decode (mB 197) 26 = .ok (.iconst 4, 1) := by decide +kernel
theorem x197_26 {d : Nat} {L : Lc} {st : List Value} {h : Hp} : ex (d) 197 26 L st h = ex d 197 27 L (.int (nI 4) :: st) h := (ex_of d197_26 (d) L st h).trans (rfl)
theorem d197_27 : decode (mB 197) 27 = .ok (.invokevirtual 109, 3) := by decide +kernel
theorem x197_27 {d : Nat} {L : Lc} {a : Nat} {v0 : Int32} {h : Hp} (ht : (h.2.1 a).1 = 11) : ex (d + 1) 197 27 L (.int v0 :: .ref a :: []) h = bnd (ex d 135 0 [some (.ref a), some (.int v0)] [] h) (fun v h' => ex (d + 1) 197 30 L (v.toList ++ []) h') := (ex_of d197_27 (d + 1) L (.int v0 :: .ref a :: []) h).trans (fin_vi (mi := 197) i11_109 ht rfl rfl (by simp [cat1_i, cat1_r]) (by simp) (Nat.le_of_ble_eq_true rfl))
theorem d197_30 : decode (mB 197) 30 = .ok (.ireturn, 1) := by decide +kernel
theorem x197_30 {d : Nat} {L : Lc} {x : Int32} {h : Hp} : ex (d) 197 30 L [.int x] h = some (some (.int x), h) := (ex_of d197_30 (d) L [.int x] h).trans (rfl)
theorem d197_31 : decode (mB 197) 31 = .ok (.aload_n 0, 1) := by decide +kernel
theorem x197_31 {d : Nat} {l1 l2 : Option Value} {st : List Value} {a : Nat} {h : Hp} : ex (d) 197 31 [some (.ref a), l1, l2] st h = ex d 197 32 [some (.ref a), l1, l2] (.ref a :: st) h := (ex_of d197_31 (d) [some (.ref a), l1, l2] st h).trans (rfl)
theorem d197_32 : decode (mB 197) 32 = .ok (.getfield 13, 3) := by decide +kernel
theorem x197_32 {d : Nat} {L : Lc} {st : List Value} {a : Nat} {h : Hp} (ht : (h.2.1 a).1 = 11) : ex (d) 197 32 L (.ref a :: st) h = ex d 197 35 L (h.1 a 3 :: st) h := (ex_of d197_32 (d) L (.ref a :: st) h).trans (fin_get (mi := 197) f11_13 (tg1 ht rfl))
theorem d197_35 : decode (mB 197) 35 = .ok (.iload_n 1, 1) := by decide +kernel
theorem x197_35 {d : Nat} {l0 l2 : Option Value} {st : List Value} {x : Int32} {h : Hp} : ex (d) 197 35 [l0, some (.int x), l2] st h = ex d 197 36 [l0, some (.int x), l2] (.int x :: st) h := (ex_of d197_35 (d) [l0, some (.int x), l2] st h).trans (rfl)
theorem d197_36 : decode (mB 197) 36 = .ok (.iaload, 1) := by decide +kernel
theorem x197_36 {d : Nat} {L : Lc} {st : List Value} {a j : Nat} {h : Hp} (ht : (h.2.1 a).1 = 20) (hj : j < (h.2.1 a).2) (hb : j < 2147483648) : ex (d) 197 36 L (.int (nI j) :: .ref a :: st) h = ex d 197 37 L (h.1 a j :: st) h := (ex_of d197_36 (d) L (.int (nI j) :: .ref a :: st) h).trans (fin_iaload (Or.inl ht) hj hb)
theorem d197_37 : decode (mB 197) 37 = .ok (.iconst 1, 1) := by decide +kernel
theorem x197_37 {d : Nat} {L : Lc} {st : List Value} {h : Hp} : ex (d) 197 37 L st h = ex d 197 38 L (.int (nI 1) :: st) h := (ex_of d197_37 (d) L st h).trans (rfl)
theorem d197_38 : decode (mB 197) 38 = .ok (.if_icmp .eq 10, 3) := by decide +kernel
theorem x197_38 {d : Nat} {L : Lc} {st : List Value} {x y : Int32} {h : Hp} : ex (d) 197 38 L (.int y :: .int x :: st) h = if x = y then ex d 197 48 L st h else ex d 197 41 L st h := (ex_of d197_38 (d) L (.int y :: .int x :: st) h).trans (fin_brq (off := 10) (tgt := 48) rfl (by decide))
theorem d197_41 : decode (mB 197) 41 = .ok (.aload_n 0, 1) := by decide +kernel
theorem x197_41 {d : Nat} {l1 l2 : Option Value} {st : List Value} {a : Nat} {h : Hp} : ex (d) 197 41 [some (.ref a), l1, l2] st h = ex d 197 42 [some (.ref a), l1, l2] (.ref a :: st) h := (ex_of d197_41 (d) [some (.ref a), l1, l2] st h).trans (rfl)
theorem d197_42 : decode (mB 197) 42 = .ok (.bipush 8, 2) := by decide +kernel
theorem x197_42 {d : Nat} {L : Lc} {st : List Value} {h : Hp} : ex (d) 197 42 L st h = ex d 197 44 L (.int (nI 8) :: st) h := (ex_of d197_42 (d) L st h).trans (rfl)
theorem d197_44 : decode (mB 197) 44 = .ok (.invokevirtual 109, 3) := by decide +kernel
theorem x197_44 {d : Nat} {L : Lc} {a : Nat} {v0 : Int32} {h : Hp} (ht : (h.2.1 a).1 = 11) : ex (d + 1) 197 44 L (.int v0 :: .ref a :: []) h = bnd (ex d 135 0 [some (.ref a), some (.int v0)] [] h) (fun v h' => ex (d + 1) 197 47 L (v.toList ++ []) h') := (ex_of d197_44 (d + 1) L (.int v0 :: .ref a :: []) h).trans (fin_vi (mi := 197) i11_109 ht rfl rfl (by simp [cat1_i, cat1_r]) (by simp) (Nat.le_of_ble_eq_true rfl))
theorem d197_47 : decode (mB 197) 47 = .ok (.ireturn, 1) := by decide +kernel
theorem x197_47 {d : Nat} {L : Lc} {x : Int32} {h : Hp} : ex (d) 197 47 L [.int x] h = some (some (.int x), h) := (ex_of d197_47 (d) L [.int x] h).trans (rfl)
theorem d197_48 : decode (mB 197) 48 = .ok (.aload_n 0, 1) := by decide +kernel
theorem x197_48 {d : Nat} {l1 l2 : Option Value} {st : List Value} {a : Nat} {h : Hp} : ex (d) 197 48 [some (.ref a), l1, l2] st h = ex d 197 49 [some (.ref a), l1, l2] (.ref a :: st) h := (ex_of d197_48 (d) [some (.ref a), l1, l2] st h).trans (rfl)
theorem d197_49 : decode (mB 197) 49 = .ok (.invokevirtual 147, 3) := by decide +kernel
theorem x197_49 {d : Nat} {L : Lc} {a : Nat} {h : Hp} (ht : (h.2.1 a).1 = 11) : ex (d + 1) 197 49 L (.ref a :: []) h = bnd (ex d 153 0 [some (.ref a)] [] h) (fun v h' => ex (d + 1) 197 52 L (v.toList ++ []) h') := (ex_of d197_49 (d + 1) L (.ref a :: []) h).trans (fin_vi (mi := 197) i11_147 ht rfl rfl (by simp [cat1_i, cat1_r]) (by simp) (Nat.le_of_ble_eq_true rfl))
theorem d197_52 : decode (mB 197) 52 = .ok (.iload_n 2, 1) := by decide +kernel
theorem x197_52 {d : Nat} {l0 l1 : Option Value} {st : List Value} {x : Int32} {h : Hp} : ex (d) 197 52 [l0, l1, some (.int x)] st h = ex d 197 53 [l0, l1, some (.int x)] (.int x :: st) h := (ex_of d197_52 (d) [l0, l1, some (.int x)] st h).trans (rfl)
theorem d197_53 : decode (mB 197) 53 = .ok (.iconst 0, 1) := by decide +kernel
theorem x197_53 {d : Nat} {L : Lc} {st : List Value} {h : Hp} : ex (d) 197 53 L st h = ex d 197 54 L (.int (nI 0) :: st) h := (ex_of d197_53 (d) L st h).trans (rfl)
theorem d197_54 : decode (mB 197) 54 = .ok (.ldc 245, 2) := by decide +kernel
theorem x197_54 {d : Nat} {L : Lc} {st : List Value} {h : Hp} : ex (d) 197 54 L st h = ex d 197 56 L (.int (nI 1000000) :: st) h := (ex_of d197_54 (d) L st h).trans (fin_ldc (mi := 197) c11_245)
theorem d197_56 : decode (mB 197) 56 = .ok (.invokestatic 101, 3) := by decide +kernel
theorem x197_56 {d : Nat} {L : Lc}  {v0 : Int32} {v1 : Int32} {v2 : Int32} {h : Hp} : ex (d + 1) 197 56 L (.int v2 :: .int v1 :: .int v0 :: []) h = bnd (ex d 137 0 [some (.int v0), some (.int v1), some (.int v2)] [] h) (fun v h' => ex (d + 1) 197 59 L (v.toList ++ []) h') := (ex_of d197_56 (d + 1) L (.int v2 :: .int v1 :: .int v0 :: []) h).trans (fin_st (mi := 197) i11_101 (Or.inl rfl) (by simp) (by simp [cat1_i, cat1_r]) (by simp) (Nat.le_of_ble_eq_true rfl))
theorem d197_59 : decode (mB 197) 59 = .ok (.ifCond .eq 13, 3) := by decide +kernel
theorem x197_59 {d : Nat} {L : Lc} {st : List Value} {x : Int32} {h : Hp} : ex (d) 197 59 L (.int x :: st) h = if x = 0 then ex d 197 72 L st h else ex d 197 62 L st h := (ex_of d197_59 (d) L (.int x :: st) h).trans (fin_brq (off := 13) (tgt := 72) rfl (by decide))
theorem d197_62 : decode (mB 197) 62 = .ok (.aload_n 0, 1) := by decide +kernel
theorem x197_62 {d : Nat} {l1 l2 : Option Value} {st : List Value} {a : Nat} {h : Hp} : ex (d) 197 62 [some (.ref a), l1, l2] st h = ex d 197 63 [some (.ref a), l1, l2] (.ref a :: st) h := (ex_of d197_62 (d) [some (.ref a), l1, l2] st h).trans (rfl)
theorem d197_63 : decode (mB 197) 63 = .ok (.getfield 246, 3) := by decide +kernel
theorem x197_63 {d : Nat} {L : Lc} {st : List Value} {a : Nat} {h : Hp} (ht : (h.2.1 a).1 = 11) : ex (d) 197 63 L (.ref a :: st) h = ex d 197 66 L (h.1 a 35 :: st) h := (ex_of d197_63 (d) L (.ref a :: st) h).trans (fin_get (mi := 197) f11_246 (tg1 ht rfl))
theorem d197_66 : decode (mB 197) 66 = .ok (.sipush 300, 3) := by decide +kernel
theorem x197_66 {d : Nat} {L : Lc} {st : List Value} {h : Hp} : ex (d) 197 66 L st h = ex d 197 69 L (.int (nI 300) :: st) h := (ex_of d197_66 (d) L st h).trans (rfl)
theorem d197_69 : decode (mB 197) 69 = .ok (.if_icmp .ne 10, 3) := by decide +kernel
theorem x197_69 {d : Nat} {L : Lc} {st : List Value} {x y : Int32} {h : Hp} : ex (d) 197 69 L (.int y :: .int x :: st) h = if ¬ x = y then ex d 197 79 L st h else ex d 197 72 L st h := (ex_of d197_69 (d) L (.int y :: .int x :: st) h).trans (fin_brq (off := 10) (tgt := 79) rfl (by decide))
theorem d197_72 : decode (mB 197) 72 = .ok (.aload_n 0, 1) := by decide +kernel
theorem x197_72 {d : Nat} {l1 l2 : Option Value} {st : List Value} {a : Nat} {h : Hp} : ex (d) 197 72 [some (.ref a), l1, l2] st h = ex d 197 73 [some (.ref a), l1, l2] (.ref a :: st) h := (ex_of d197_72 (d) [some (.ref a), l1, l2] st h).trans (rfl)
theorem d197_73 : decode (mB 197) 73 = .ok (.bipush 6, 2) := by decide +kernel
theorem x197_73 {d : Nat} {L : Lc} {st : List Value} {h : Hp} : ex (d) 197 73 L st h = ex d 197 75 L (.int (nI 6) :: st) h := (ex_of d197_73 (d) L st h).trans (rfl)
theorem d197_75 : decode (mB 197) 75 = .ok (.invokevirtual 109, 3) := by decide +kernel
theorem x197_75 {d : Nat} {L : Lc} {a : Nat} {v0 : Int32} {h : Hp} (ht : (h.2.1 a).1 = 11) : ex (d + 1) 197 75 L (.int v0 :: .ref a :: []) h = bnd (ex d 135 0 [some (.ref a), some (.int v0)] [] h) (fun v h' => ex (d + 1) 197 78 L (v.toList ++ []) h') := (ex_of d197_75 (d + 1) L (.int v0 :: .ref a :: []) h).trans (fin_vi (mi := 197) i11_109 ht rfl rfl (by simp [cat1_i, cat1_r]) (by simp) (Nat.le_of_ble_eq_true rfl))
theorem d197_78 : decode (mB 197) 78 = .ok (.ireturn, 1) := by decide +kernel
theorem x197_78 {d : Nat} {L : Lc} {x : Int32} {h : Hp} : ex (d) 197 78 L [.int x] h = some (some (.int x), h) := (ex_of d197_78 (d) L [.int x] h).trans (rfl)
theorem d197_79 : decode (mB 197) 79 = .ok (.aload_n 0, 1) := by decide +kernel
theorem x197_79 {d : Nat} {l1 l2 : Option Value} {st : List Value} {a : Nat} {h : Hp} : ex (d) 197 79 [some (.ref a), l1, l2] st h = ex d 197 80 [some (.ref a), l1, l2] (.ref a :: st) h := (ex_of d197_79 (d) [some (.ref a), l1, l2] st h).trans (rfl)
theorem d197_80 : decode (mB 197) 80 = .ok (.iconst 4, 1) := by decide +kernel
theorem x197_80 {d : Nat} {L : Lc} {st : List Value} {h : Hp} : ex (d) 197 80 L st h = ex d 197 81 L (.int (nI 4) :: st) h := (ex_of d197_80 (d) L st h).trans (rfl)
theorem d197_81 : decode (mB 197) 81 = .ok (.iload_n 1, 1) := by decide +kernel
theorem x197_81 {d : Nat} {l0 l2 : Option Value} {st : List Value} {x : Int32} {h : Hp} : ex (d) 197 81 [l0, some (.int x), l2] st h = ex d 197 82 [l0, some (.int x), l2] (.int x :: st) h := (ex_of d197_81 (d) [l0, some (.int x), l2] st h).trans (rfl)
theorem d197_82 : decode (mB 197) 82 = .ok (.aload_n 0, 1) := by decide +kernel
theorem x197_82 {d : Nat} {l1 l2 : Option Value} {st : List Value} {a : Nat} {h : Hp} : ex (d) 197 82 [some (.ref a), l1, l2] st h = ex d 197 83 [some (.ref a), l1, l2] (.ref a :: st) h := (ex_of d197_82 (d) [some (.ref a), l1, l2] st h).trans (rfl)
theorem d197_83 : decode (mB 197) 83 = .ok (.getfield 16, 3) := by decide +kernel
theorem x197_83 {d : Nat} {L : Lc} {st : List Value} {a : Nat} {h : Hp} (ht : (h.2.1 a).1 = 11) : ex (d) 197 83 L (.ref a :: st) h = ex d 197 86 L (h.1 a 4 :: st) h := (ex_of d197_83 (d) L (.ref a :: st) h).trans (fin_get (mi := 197) f11_16 (tg1 ht rfl))
theorem d197_86 : decode (mB 197) 86 = .ok (.iload_n 1, 1) := by decide +kernel
theorem x197_86 {d : Nat} {l0 l2 : Option Value} {st : List Value} {x : Int32} {h : Hp} : ex (d) 197 86 [l0, some (.int x), l2] st h = ex d 197 87 [l0, some (.int x), l2] (.int x :: st) h := (ex_of d197_86 (d) [l0, some (.int x), l2] st h).trans (rfl)
theorem d197_87 : decode (mB 197) 87 = .ok (.iaload, 1) := by decide +kernel
theorem x197_87 {d : Nat} {L : Lc} {st : List Value} {a j : Nat} {h : Hp} (ht : (h.2.1 a).1 = 20) (hj : j < (h.2.1 a).2) (hb : j < 2147483648) : ex (d) 197 87 L (.int (nI j) :: .ref a :: st) h = ex d 197 88 L (h.1 a j :: st) h := (ex_of d197_87 (d) L (.int (nI j) :: .ref a :: st) h).trans (fin_iaload (Or.inl ht) hj hb)
theorem d197_88 : decode (mB 197) 88 = .ok (.aload_n 0, 1) := by decide +kernel
theorem x197_88 {d : Nat} {l1 l2 : Option Value} {st : List Value} {a : Nat} {h : Hp} : ex (d) 197 88 [some (.ref a), l1, l2] st h = ex d 197 89 [some (.ref a), l1, l2] (.ref a :: st) h := (ex_of d197_88 (d) [some (.ref a), l1, l2] st h).trans (rfl)
theorem d197_89 : decode (mB 197) 89 = .ok (.getfield 19, 3) := by decide +kernel
theorem x197_89 {d : Nat} {L : Lc} {st : List Value} {a : Nat} {h : Hp} (ht : (h.2.1 a).1 = 11) : ex (d) 197 89 L (.ref a :: st) h = ex d 197 92 L (h.1 a 5 :: st) h := (ex_of d197_89 (d) L (.ref a :: st) h).trans (fin_get (mi := 197) f11_19 (tg1 ht rfl))
theorem d197_92 : decode (mB 197) 92 = .ok (.iload_n 1, 1) := by decide +kernel
theorem x197_92 {d : Nat} {l0 l2 : Option Value} {st : List Value} {x : Int32} {h : Hp} : ex (d) 197 92 [l0, some (.int x), l2] st h = ex d 197 93 [l0, some (.int x), l2] (.int x :: st) h := (ex_of d197_92 (d) [l0, some (.int x), l2] st h).trans (rfl)
theorem d197_93 : decode (mB 197) 93 = .ok (.iaload, 1) := by decide +kernel
theorem x197_93 {d : Nat} {L : Lc} {st : List Value} {a j : Nat} {h : Hp} (ht : (h.2.1 a).1 = 20) (hj : j < (h.2.1 a).2) (hb : j < 2147483648) : ex (d) 197 93 L (.int (nI j) :: .ref a :: st) h = ex d 197 94 L (h.1 a j :: st) h := (ex_of d197_93 (d) L (.int (nI j) :: .ref a :: st) h).trans (fin_iaload (Or.inl ht) hj hb)
theorem d197_94 : decode (mB 197) 94 = .ok (.aload_n 0, 1) := by decide +kernel
theorem x197_94 {d : Nat} {l1 l2 : Option Value} {st : List Value} {a : Nat} {h : Hp} : ex (d) 197 94 [some (.ref a), l1, l2] st h = ex d 197 95 [some (.ref a), l1, l2] (.ref a :: st) h := (ex_of d197_94 (d) [some (.ref a), l1, l2] st h).trans (rfl)
theorem d197_95 : decode (mB 197) 95 = .ok (.getfield 246, 3) := by decide +kernel
theorem x197_95 {d : Nat} {L : Lc} {st : List Value} {a : Nat} {h : Hp} (ht : (h.2.1 a).1 = 11) : ex (d) 197 95 L (.ref a :: st) h = ex d 197 98 L (h.1 a 35 :: st) h := (ex_of d197_95 (d) L (.ref a :: st) h).trans (fin_get (mi := 197) f11_246 (tg1 ht rfl))
theorem d197_98 : decode (mB 197) 98 = .ok (.iconst 0, 1) := by decide +kernel
theorem x197_98 {d : Nat} {L : Lc} {st : List Value} {h : Hp} : ex (d) 197 98 L st h = ex d 197 99 L (.int (nI 0) :: st) h := (ex_of d197_98 (d) L st h).trans (rfl)
theorem d197_99 : decode (mB 197) 99 = .ok (.invokevirtual 157, 3) := by decide +kernel
theorem x197_99 {d : Nat} {L : Lc} {a : Nat} {v0 : Int32} {v1 : Int32} {v2 : Int32} {v3 : Int32} {v4 : Int32} {v5 : Int32} {h : Hp} (ht : (h.2.1 a).1 = 11) : ex (d + 1) 197 99 L (.int v5 :: .int v4 :: .int v3 :: .int v2 :: .int v1 :: .int v0 :: .ref a :: []) h = bnd (ex d 164 0 [some (.ref a), some (.int v0), some (.int v1), some (.int v2), some (.int v3), some (.int v4), some (.int v5), none, none] [] h) (fun v h' => ex (d + 1) 197 102 L (v.toList ++ []) h') := (ex_of d197_99 (d + 1) L (.int v5 :: .int v4 :: .int v3 :: .int v2 :: .int v1 :: .int v0 :: .ref a :: []) h).trans (fin_vi (mi := 197) i11_157 ht rfl rfl (by simp [cat1_i, cat1_r]) (by simp) (Nat.le_of_ble_eq_true rfl))
theorem d197_102 : decode (mB 197) 102 = .ok (.aload_n 0, 1) := by decide +kernel
theorem x197_102 {d : Nat} {l1 l2 : Option Value} {st : List Value} {a : Nat} {h : Hp} : ex (d) 197 102 [some (.ref a), l1, l2] st h = ex d 197 103 [some (.ref a), l1, l2] (.ref a :: st) h := (ex_of d197_102 (d) [some (.ref a), l1, l2] st h).trans (rfl)
theorem d197_103 : decode (mB 197) 103 = .ok (.iload_n 1, 1) := by decide +kernel
theorem x197_103 {d : Nat} {l0 l2 : Option Value} {st : List Value} {x : Int32} {h : Hp} : ex (d) 197 103 [l0, some (.int x), l2] st h = ex d 197 104 [l0, some (.int x), l2] (.int x :: st) h := (ex_of d197_103 (d) [l0, some (.int x), l2] st h).trans (rfl)
theorem d197_104 : decode (mB 197) 104 = .ok (.iconst 2, 1) := by decide +kernel
theorem x197_104 {d : Nat} {L : Lc} {st : List Value} {h : Hp} : ex (d) 197 104 L st h = ex d 197 105 L (.int (nI 2) :: st) h := (ex_of d197_104 (d) L st h).trans (rfl)
theorem d197_105 : decode (mB 197) 105 = .ok (.invokevirtual 164, 3) := by decide +kernel
theorem x197_105 {d : Nat} {L : Lc} {a : Nat} {v0 : Int32} {v1 : Int32} {h : Hp} (ht : (h.2.1 a).1 = 11) : ex (d + 1) 197 105 L (.int v1 :: .int v0 :: .ref a :: []) h = bnd (ex d 156 0 [some (.ref a), some (.int v0), some (.int v1)] [] h) (fun v h' => ex (d + 1) 197 108 L (v.toList ++ []) h') := (ex_of d197_105 (d + 1) L (.int v1 :: .int v0 :: .ref a :: []) h).trans (fin_vi (mi := 197) i11_164 ht rfl rfl (by simp [cat1_i, cat1_r]) (by simp) (Nat.le_of_ble_eq_true rfl))
theorem d197_108 : decode (mB 197) 108 = .ok (.aload_n 0, 1) := by decide +kernel
theorem x197_108 {d : Nat} {l1 l2 : Option Value} {st : List Value} {a : Nat} {h : Hp} : ex (d) 197 108 [some (.ref a), l1, l2] st h = ex d 197 109 [some (.ref a), l1, l2] (.ref a :: st) h := (ex_of d197_108 (d) [some (.ref a), l1, l2] st h).trans (rfl)
theorem d197_109 : decode (mB 197) 109 = .ok (.getfield 76, 3) := by decide +kernel
theorem x197_109 {d : Nat} {L : Lc} {st : List Value} {a : Nat} {h : Hp} (ht : (h.2.1 a).1 = 11) : ex (d) 197 109 L (.ref a :: st) h = ex d 197 112 L (h.1 a 36 :: st) h := (ex_of d197_109 (d) L (.ref a :: st) h).trans (fin_get (mi := 197) f11_76 (tg1 ht rfl))
theorem d197_112 : decode (mB 197) 112 = .ok (.aload_n 0, 1) := by decide +kernel
theorem x197_112 {d : Nat} {l1 l2 : Option Value} {st : List Value} {a : Nat} {h : Hp} : ex (d) 197 112 [some (.ref a), l1, l2] st h = ex d 197 113 [some (.ref a), l1, l2] (.ref a :: st) h := (ex_of d197_112 (d) [some (.ref a), l1, l2] st h).trans (rfl)
theorem d197_113 : decode (mB 197) 113 = .ok (.getfield 246, 3) := by decide +kernel
theorem x197_113 {d : Nat} {L : Lc} {st : List Value} {a : Nat} {h : Hp} (ht : (h.2.1 a).1 = 11) : ex (d) 197 113 L (.ref a :: st) h = ex d 197 116 L (h.1 a 35 :: st) h := (ex_of d197_113 (d) L (.ref a :: st) h).trans (fin_get (mi := 197) f11_246 (tg1 ht rfl))
theorem d197_116 : decode (mB 197) 116 = .ok (.iload_n 1, 1) := by decide +kernel
theorem x197_116 {d : Nat} {l0 l2 : Option Value} {st : List Value} {x : Int32} {h : Hp} : ex (d) 197 116 [l0, some (.int x), l2] st h = ex d 197 117 [l0, some (.int x), l2] (.int x :: st) h := (ex_of d197_116 (d) [l0, some (.int x), l2] st h).trans (rfl)
theorem d197_117 : decode (mB 197) 117 = .ok (.iastore, 1) := by decide +kernel
theorem x197_117 {d : Nat} {L : Lc} {st : List Value} {a j : Nat} {x : Int32} {h : Hp} (ht : (h.2.1 a).1 = 20) (hj : j < (h.2.1 a).2) (hb : j < 2147483648) : ex (d) 197 117 L (.int x :: .int (nI j) :: .ref a :: st) h = ex d 197 118 L st (mup h.1 a j (.int x), h.2) := (ex_of d197_117 (d) L (.int x :: .int (nI j) :: .ref a :: st) h).trans (fin_iastore ht hj hb)
theorem d197_118 : decode (mB 197) 118 = .ok (.aload_n 0, 1) := by decide +kernel
theorem x197_118 {d : Nat} {l1 l2 : Option Value} {st : List Value} {a : Nat} {h : Hp} : ex (d) 197 118 [some (.ref a), l1, l2] st h = ex d 197 119 [some (.ref a), l1, l2] (.ref a :: st) h := (ex_of d197_118 (d) [some (.ref a), l1, l2] st h).trans (rfl)
theorem d197_119 : decode (mB 197) 119 = .ok (.getfield 79, 3) := by decide +kernel
theorem x197_119 {d : Nat} {L : Lc} {st : List Value} {a : Nat} {h : Hp} (ht : (h.2.1 a).1 = 11) : ex (d) 197 119 L (.ref a :: st) h = ex d 197 122 L (h.1 a 37 :: st) h := (ex_of d197_119 (d) L (.ref a :: st) h).trans (fin_get (mi := 197) f11_79 (tg1 ht rfl))
theorem d197_122 : decode (mB 197) 122 = .ok (.aload_n 0, 1) := by decide +kernel
theorem x197_122 {d : Nat} {l1 l2 : Option Value} {st : List Value} {a : Nat} {h : Hp} : ex (d) 197 122 [some (.ref a), l1, l2] st h = ex d 197 123 [some (.ref a), l1, l2] (.ref a :: st) h := (ex_of d197_122 (d) [some (.ref a), l1, l2] st h).trans (rfl)
theorem d197_123 : decode (mB 197) 123 = .ok (.getfield 246, 3) := by decide +kernel
theorem x197_123 {d : Nat} {L : Lc} {st : List Value} {a : Nat} {h : Hp} (ht : (h.2.1 a).1 = 11) : ex (d) 197 123 L (.ref a :: st) h = ex d 197 126 L (h.1 a 35 :: st) h := (ex_of d197_123 (d) L (.ref a :: st) h).trans (fin_get (mi := 197) f11_246 (tg1 ht rfl))
theorem d197_126 : decode (mB 197) 126 = .ok (.iload_n 2, 1) := by decide +kernel
theorem x197_126 {d : Nat} {l0 l1 : Option Value} {st : List Value} {x : Int32} {h : Hp} : ex (d) 197 126 [l0, l1, some (.int x)] st h = ex d 197 127 [l0, l1, some (.int x)] (.int x :: st) h := (ex_of d197_126 (d) [l0, l1, some (.int x)] st h).trans (rfl)
theorem d197_127 : decode (mB 197) 127 = .ok (.iastore, 1) := by decide +kernel
theorem x197_127 {d : Nat} {L : Lc} {st : List Value} {a j : Nat} {x : Int32} {h : Hp} (ht : (h.2.1 a).1 = 20) (hj : j < (h.2.1 a).2) (hb : j < 2147483648) : ex (d) 197 127 L (.int x :: .int (nI j) :: .ref a :: st) h = ex d 197 128 L st (mup h.1 a j (.int x), h.2) := (ex_of d197_127 (d) L (.int x :: .int (nI j) :: .ref a :: st) h).trans (fin_iastore ht hj hb)
theorem d197_128 : decode (mB 197) 128 = .ok (.aload_n 0, 1) := by decide +kernel
theorem x197_128 {d : Nat} {l1 l2 : Option Value} {st : List Value} {a : Nat} {h : Hp} : ex (d) 197 128 [some (.ref a), l1, l2] st h = ex d 197 129 [some (.ref a), l1, l2] (.ref a :: st) h := (ex_of d197_128 (d) [some (.ref a), l1, l2] st h).trans (rfl)
theorem d197_129 : decode (mB 197) 129 = .ok (.getfield 82, 3) := by decide +kernel
theorem x197_129 {d : Nat} {L : Lc} {st : List Value} {a : Nat} {h : Hp} (ht : (h.2.1 a).1 = 11) : ex (d) 197 129 L (.ref a :: st) h = ex d 197 132 L (h.1 a 38 :: st) h := (ex_of d197_129 (d) L (.ref a :: st) h).trans (fin_get (mi := 197) f11_82 (tg1 ht rfl))
theorem d197_132 : decode (mB 197) 132 = .ok (.aload_n 0, 1) := by decide +kernel
theorem x197_132 {d : Nat} {l1 l2 : Option Value} {st : List Value} {a : Nat} {h : Hp} : ex (d) 197 132 [some (.ref a), l1, l2] st h = ex d 197 133 [some (.ref a), l1, l2] (.ref a :: st) h := (ex_of d197_132 (d) [some (.ref a), l1, l2] st h).trans (rfl)
theorem d197_133 : decode (mB 197) 133 = .ok (.getfield 246, 3) := by decide +kernel
theorem x197_133 {d : Nat} {L : Lc} {st : List Value} {a : Nat} {h : Hp} (ht : (h.2.1 a).1 = 11) : ex (d) 197 133 L (.ref a :: st) h = ex d 197 136 L (h.1 a 35 :: st) h := (ex_of d197_133 (d) L (.ref a :: st) h).trans (fin_get (mi := 197) f11_246 (tg1 ht rfl))
theorem d197_136 : decode (mB 197) 136 = .ok (.iconst 1, 1) := by decide +kernel
theorem x197_136 {d : Nat} {L : Lc} {st : List Value} {h : Hp} : ex (d) 197 136 L st h = ex d 197 137 L (.int (nI 1) :: st) h := (ex_of d197_136 (d) L st h).trans (rfl)
theorem d197_137 : decode (mB 197) 137 = .ok (.iastore, 1) := by decide +kernel
theorem x197_137 {d : Nat} {L : Lc} {st : List Value} {a j : Nat} {x : Int32} {h : Hp} (ht : (h.2.1 a).1 = 20) (hj : j < (h.2.1 a).2) (hb : j < 2147483648) : ex (d) 197 137 L (.int x :: .int (nI j) :: .ref a :: st) h = ex d 197 138 L st (mup h.1 a j (.int x), h.2) := (ex_of d197_137 (d) L (.int x :: .int (nI j) :: .ref a :: st) h).trans (fin_iastore ht hj hb)
theorem d197_138 : decode (mB 197) 138 = .ok (.aload_n 0, 1) := by decide +kernel
theorem x197_138 {d : Nat} {l1 l2 : Option Value} {st : List Value} {a : Nat} {h : Hp} : ex (d) 197 138 [some (.ref a), l1, l2] st h = ex d 197 139 [some (.ref a), l1, l2] (.ref a :: st) h := (ex_of d197_138 (d) [some (.ref a), l1, l2] st h).trans (rfl)
theorem d197_139 : decode (mB 197) 139 = .ok (.dup, 1) := by decide +kernel
theorem x197_139 {d : Nat} {L : Lc} {st : List Value} {a : Nat} {h : Hp} : ex (d) 197 139 L (.ref a :: st) h = ex d 197 140 L (.ref a :: .ref a :: st) h := (ex_of d197_139 (d) L (.ref a :: st) h).trans (rfl)
theorem x197_139i {d : Nat} {L : Lc} {st : List Value} {x : Int32} {h : Hp} : ex (d) 197 139 L (.int x :: st) h = ex d 197 140 L (.int x :: .int x :: st) h := (ex_of d197_139 (d) L (.int x :: st) h).trans (rfl)
theorem d197_140 : decode (mB 197) 140 = .ok (.getfield 246, 3) := by decide +kernel
theorem x197_140 {d : Nat} {L : Lc} {st : List Value} {a : Nat} {h : Hp} (ht : (h.2.1 a).1 = 11) : ex (d) 197 140 L (.ref a :: st) h = ex d 197 143 L (h.1 a 35 :: st) h := (ex_of d197_140 (d) L (.ref a :: st) h).trans (fin_get (mi := 197) f11_246 (tg1 ht rfl))
theorem d197_143 : decode (mB 197) 143 = .ok (.iconst 1, 1) := by decide +kernel
theorem x197_143 {d : Nat} {L : Lc} {st : List Value} {h : Hp} : ex (d) 197 143 L st h = ex d 197 144 L (.int (nI 1) :: st) h := (ex_of d197_143 (d) L st h).trans (rfl)
theorem d197_144 : decode (mB 197) 144 = .ok (.iadd, 1) := by decide +kernel
theorem x197_144 {d : Nat} {L : Lc} {st : List Value} {x y : Int32} {h : Hp} : ex (d) 197 144 L (.int y :: .int x :: st) h = ex d 197 145 L (.int (x + y) :: st) h := (ex_of d197_144 (d) L (.int y :: .int x :: st) h).trans (rfl)
theorem d197_145 : decode (mB 197) 145 = .ok (.putfield 246, 3) := by decide +kernel
theorem x197_145 {d : Nat} {L : Lc} {st : List Value} {a : Nat} {x : Int32} {h : Hp} (ht : (h.2.1 a).1 = 11) : ex (d) 197 145 L (.int x :: .ref a :: st) h = ex d 197 148 L st (mup h.1 a 35 (.int x), h.2) := (ex_of d197_145 (d) L (.int x :: .ref a :: st) h).trans (fin_put (mi := 197) f11_246 ht rfl rfl (by decide +kernel))
theorem d197_148 : decode (mB 197) 148 = .ok (.aload_n 0, 1) := by decide +kernel
theorem x197_148 {d : Nat} {l1 l2 : Option Value} {st : List Value} {a : Nat} {h : Hp} : ex (d) 197 148 [some (.ref a), l1, l2] st h = ex d 197 149 [some (.ref a), l1, l2] (.ref a :: st) h := (ex_of d197_148 (d) [some (.ref a), l1, l2] st h).trans (rfl)
theorem d197_149 : decode (mB 197) 149 = .ok (.dup, 1) := by decide +kernel
theorem x197_149 {d : Nat} {L : Lc} {st : List Value} {a : Nat} {h : Hp} : ex (d) 197 149 L (.ref a :: st) h = ex d 197 150 L (.ref a :: .ref a :: st) h := (ex_of d197_149 (d) L (.ref a :: st) h).trans (rfl)
theorem x197_149i {d : Nat} {L : Lc} {st : List Value} {x : Int32} {h : Hp} : ex (d) 197 149 L (.int x :: st) h = ex d 197 150 L (.int x :: .int x :: st) h := (ex_of d197_149 (d) L (.int x :: st) h).trans (rfl)
theorem d197_150 : decode (mB 197) 150 = .ok (.getfield 174, 3) := by decide +kernel
theorem x197_150 {d : Nat} {L : Lc} {st : List Value} {a : Nat} {h : Hp} (ht : (h.2.1 a).1 = 11) : ex (d) 197 150 L (.ref a :: st) h = ex d 197 153 L (h.1 a 34 :: st) h := (ex_of d197_150 (d) L (.ref a :: st) h).trans (fin_get (mi := 197) f11_174 (tg1 ht rfl))
theorem d197_153 : decode (mB 197) 153 = .ok (.iload_n 2, 1) := by decide +kernel
theorem x197_153 {d : Nat} {l0 l1 : Option Value} {st : List Value} {x : Int32} {h : Hp} : ex (d) 197 153 [l0, l1, some (.int x)] st h = ex d 197 154 [l0, l1, some (.int x)] (.int x :: st) h := (ex_of d197_153 (d) [l0, l1, some (.int x)] st h).trans (rfl)
theorem d197_154 : decode (mB 197) 154 = .ok (.iadd, 1) := by decide +kernel
theorem x197_154 {d : Nat} {L : Lc} {st : List Value} {x y : Int32} {h : Hp} : ex (d) 197 154 L (.int y :: .int x :: st) h = ex d 197 155 L (.int (x + y) :: st) h := (ex_of d197_154 (d) L (.int y :: .int x :: st) h).trans (rfl)
theorem d197_155 : decode (mB 197) 155 = .ok (.putfield 174, 3) := by decide +kernel
theorem x197_155 {d : Nat} {L : Lc} {st : List Value} {a : Nat} {x : Int32} {h : Hp} (ht : (h.2.1 a).1 = 11) : ex (d) 197 155 L (.int x :: .ref a :: st) h = ex d 197 158 L st (mup h.1 a 34 (.int x), h.2) := (ex_of d197_155 (d) L (.int x :: .ref a :: st) h).trans (fin_put (mi := 197) f11_174 ht rfl rfl (by decide +kernel))
theorem d197_158 : decode (mB 197) 158 = .ok (.aload_n 0, 1) := by decide +kernel
theorem x197_158 {d : Nat} {l1 l2 : Option Value} {st : List Value} {a : Nat} {h : Hp} : ex (d) 197 158 [some (.ref a), l1, l2] st h = ex d 197 159 [some (.ref a), l1, l2] (.ref a :: st) h := (ex_of d197_158 (d) [some (.ref a), l1, l2] st h).trans (rfl)
theorem d197_159 : decode (mB 197) 159 = .ok (.aload_n 0, 1) := by decide +kernel
theorem x197_159 {d : Nat} {l1 l2 : Option Value} {st : List Value} {a : Nat} {h : Hp} : ex (d) 197 159 [some (.ref a), l1, l2] st h = ex d 197 160 [some (.ref a), l1, l2] (.ref a :: st) h := (ex_of d197_159 (d) [some (.ref a), l1, l2] st h).trans (rfl)
theorem d197_160 : decode (mB 197) 160 = .ok (.getfield 246, 3) := by decide +kernel
theorem x197_160 {d : Nat} {L : Lc} {st : List Value} {a : Nat} {h : Hp} (ht : (h.2.1 a).1 = 11) : ex (d) 197 160 L (.ref a :: st) h = ex d 197 163 L (h.1 a 35 :: st) h := (ex_of d197_160 (d) L (.ref a :: st) h).trans (fin_get (mi := 197) f11_246 (tg1 ht rfl))
theorem d197_163 : decode (mB 197) 163 = .ok (.iconst 1, 1) := by decide +kernel
theorem x197_163 {d : Nat} {L : Lc} {st : List Value} {h : Hp} : ex (d) 197 163 L st h = ex d 197 164 L (.int (nI 1) :: st) h := (ex_of d197_163 (d) L st h).trans (rfl)
theorem d197_164 : decode (mB 197) 164 = .ok (.isub, 1) := by decide +kernel
theorem x197_164 {d : Nat} {L : Lc} {st : List Value} {x y : Int32} {h : Hp} : ex (d) 197 164 L (.int y :: .int x :: st) h = ex d 197 165 L (.int (x - y) :: st) h := (ex_of d197_164 (d) L (.int y :: .int x :: st) h).trans (rfl)
theorem d197_165 : decode (mB 197) 165 = .ok (.invokevirtual 113, 3) := by decide +kernel
theorem x197_165 {d : Nat} {L : Lc} {a : Nat} {v0 : Int32} {h : Hp} (ht : (h.2.1 a).1 = 11) : ex (d + 1) 197 165 L (.int v0 :: .ref a :: []) h = bnd (ex d 134 0 [some (.ref a), some (.int v0)] [] h) (fun v h' => ex (d + 1) 197 168 L (v.toList ++ []) h') := (ex_of d197_165 (d + 1) L (.int v0 :: .ref a :: []) h).trans (fin_vi (mi := 197) i11_113 ht rfl rfl (by simp [cat1_i, cat1_r]) (by simp) (Nat.le_of_ble_eq_true rfl))
theorem d197_168 : decode (mB 197) 168 = .ok (.ireturn, 1) := by decide +kernel
theorem x197_168 {d : Nat} {L : Lc} {x : Int32} {h : Hp} : ex (d) 197 168 L [.int x] h = some (some (.int x), h) := (ex_of d197_168 (d) L [.int x] h).trans (rfl)
theorem d198_0 : decode (mB 198) 0 = .ok (.iload_n 1, 1) := by decide +kernel
theorem x198_0 {d : Nat} {l0 l2 l3 l4 l5 l6 l7 l8 : Option Value} {st : List Value} {x : Int32} {h : Hp} : ex (d) 198 0 [l0, some (.int x), l2, l3, l4, l5, l6, l7, l8] st h = ex d 198 1 [l0, some (.int x), l2, l3, l4, l5, l6, l7, l8] (.int x :: st) h := (ex_of d198_0 (d) [l0, some (.int x), l2, l3, l4, l5, l6, l7, l8] st h).trans (rfl)
theorem d198_1 : decode (mB 198) 1 = .ok (.iconst 0, 1) := by decide +kernel
theorem x198_1 {d : Nat} {L : Lc} {st : List Value} {h : Hp} : ex (d) 198 1 L st h = ex d 198 2 L (.int (nI 0) :: st) h := (ex_of d198_1 (d) L st h).trans (rfl)
theorem d198_2 : decode (mB 198) 2 = .ok (.aload_n 0, 1) := by decide +kernel
theorem x198_2 {d : Nat} {l1 l2 l3 l4 l5 l6 l7 l8 : Option Value} {st : List Value} {a : Nat} {h : Hp} : ex (d) 198 2 [some (.ref a), l1, l2, l3, l4, l5, l6, l7, l8] st h = ex d 198 3 [some (.ref a), l1, l2, l3, l4, l5, l6, l7, l8] (.ref a :: st) h := (ex_of d198_2 (d) [some (.ref a), l1, l2, l3, l4, l5, l6, l7, l8] st h).trans (rfl)
theorem d198_3 : decode (mB 198) 3 = .ok (.getfield 246, 3) := by decide +kernel
theorem x198_3 {d : Nat} {L : Lc} {st : List Value} {a : Nat} {h : Hp} (ht : (h.2.1 a).1 = 11) : ex (d) 198 3 L (.ref a :: st) h = ex d 198 6 L (h.1 a 35 :: st) h := (ex_of d198_3 (d) L (.ref a :: st) h).trans (fin_get (mi := 198) f11_246 (tg1 ht rfl))
theorem d198_6 : decode (mB 198) 6 = .ok (.iconst 1, 1) := by decide +kernel
theorem x198_6 {d : Nat} {L : Lc} {st : List Value} {h : Hp} : ex (d) 198 6 L st h = ex d 198 7 L (.int (nI 1) :: st) h := (ex_of d198_6 (d) L st h).trans (rfl)
theorem d198_7 : decode (mB 198) 7 = .ok (.isub, 1) := by decide +kernel
theorem x198_7 {d : Nat} {L : Lc} {st : List Value} {x y : Int32} {h : Hp} : ex (d) 198 7 L (.int y :: .int x :: st) h = ex d 198 8 L (.int (x - y) :: st) h := (ex_of d198_7 (d) L (.int y :: .int x :: st) h).trans (rfl)
theorem d198_8 : decode (mB 198) 8 = .ok (.invokestatic 101, 3) := by decide +kernel
theorem x198_8 {d : Nat} {L : Lc}  {v0 : Int32} {v1 : Int32} {v2 : Int32} {h : Hp} : ex (d + 1) 198 8 L (.int v2 :: .int v1 :: .int v0 :: []) h = bnd (ex d 137 0 [some (.int v0), some (.int v1), some (.int v2)] [] h) (fun v h' => ex (d + 1) 198 11 L (v.toList ++ []) h') := (ex_of d198_8 (d + 1) L (.int v2 :: .int v1 :: .int v0 :: []) h).trans (fin_st (mi := 198) i11_101 (Or.inl rfl) (by simp) (by simp [cat1_i, cat1_r]) (by simp) (Nat.le_of_ble_eq_true rfl))
theorem d198_11 : decode (mB 198) 11 = .ok (.ifCond .eq 13, 3) := by decide +kernel
theorem x198_11 {d : Nat} {L : Lc} {st : List Value} {x : Int32} {h : Hp} : ex (d) 198 11 L (.int x :: st) h = if x = 0 then ex d 198 24 L st h else ex d 198 14 L st h := (ex_of d198_11 (d) L (.int x :: st) h).trans (fin_brq (off := 13) (tgt := 24) rfl (by decide))
theorem d198_14 : decode (mB 198) 14 = .ok (.aload_n 0, 1) := by decide +kernel
theorem x198_14 {d : Nat} {l1 l2 l3 l4 l5 l6 l7 l8 : Option Value} {st : List Value} {a : Nat} {h : Hp} : ex (d) 198 14 [some (.ref a), l1, l2, l3, l4, l5, l6, l7, l8] st h = ex d 198 15 [some (.ref a), l1, l2, l3, l4, l5, l6, l7, l8] (.ref a :: st) h := (ex_of d198_14 (d) [some (.ref a), l1, l2, l3, l4, l5, l6, l7, l8] st h).trans (rfl)
theorem d198_15 : decode (mB 198) 15 = .ok (.getfield 82, 3) := by decide +kernel
theorem x198_15 {d : Nat} {L : Lc} {st : List Value} {a : Nat} {h : Hp} (ht : (h.2.1 a).1 = 11) : ex (d) 198 15 L (.ref a :: st) h = ex d 198 18 L (h.1 a 38 :: st) h := (ex_of d198_15 (d) L (.ref a :: st) h).trans (fin_get (mi := 198) f11_82 (tg1 ht rfl))
theorem d198_18 : decode (mB 198) 18 = .ok (.iload_n 1, 1) := by decide +kernel
theorem x198_18 {d : Nat} {l0 l2 l3 l4 l5 l6 l7 l8 : Option Value} {st : List Value} {x : Int32} {h : Hp} : ex (d) 198 18 [l0, some (.int x), l2, l3, l4, l5, l6, l7, l8] st h = ex d 198 19 [l0, some (.int x), l2, l3, l4, l5, l6, l7, l8] (.int x :: st) h := (ex_of d198_18 (d) [l0, some (.int x), l2, l3, l4, l5, l6, l7, l8] st h).trans (rfl)
theorem d198_19 : decode (mB 198) 19 = .ok (.iaload, 1) := by decide +kernel
theorem x198_19 {d : Nat} {L : Lc} {st : List Value} {a j : Nat} {h : Hp} (ht : (h.2.1 a).1 = 20) (hj : j < (h.2.1 a).2) (hb : j < 2147483648) : ex (d) 198 19 L (.int (nI j) :: .ref a :: st) h = ex d 198 20 L (h.1 a j :: st) h := (ex_of d198_19 (d) L (.int (nI j) :: .ref a :: st) h).trans (fin_iaload (Or.inl ht) hj hb)
theorem d198_20 : decode (mB 198) 20 = .ok (.iconst 1, 1) := by decide +kernel
theorem x198_20 {d : Nat} {L : Lc} {st : List Value} {h : Hp} : ex (d) 198 20 L st h = ex d 198 21 L (.int (nI 1) :: st) h := (ex_of d198_20 (d) L st h).trans (rfl)
theorem d198_21 : decode (mB 198) 21 = .ok (.if_icmp .eq 10, 3) := by decide +kernel
theorem x198_21 {d : Nat} {L : Lc} {st : List Value} {x y : Int32} {h : Hp} : ex (d) 198 21 L (.int y :: .int x :: st) h = if x = y then ex d 198 31 L st h else ex d 198 24 L st h := (ex_of d198_21 (d) L (.int y :: .int x :: st) h).trans (fin_brq (off := 10) (tgt := 31) rfl (by decide))
theorem d198_24 : decode (mB 198) 24 = .ok (.aload_n 0, 1) := by decide +kernel
theorem x198_24 {d : Nat} {l1 l2 l3 l4 l5 l6 l7 l8 : Option Value} {st : List Value} {a : Nat} {h : Hp} : ex (d) 198 24 [some (.ref a), l1, l2, l3, l4, l5, l6, l7, l8] st h = ex d 198 25 [some (.ref a), l1, l2, l3, l4, l5, l6, l7, l8] (.ref a :: st) h := (ex_of d198_24 (d) [some (.ref a), l1, l2, l3, l4, l5, l6, l7, l8] st h).trans (rfl)
theorem d198_25 : decode (mB 198) 25 = .ok (.bipush 10, 2) := by decide +kernel
theorem x198_25 {d : Nat} {L : Lc} {st : List Value} {h : Hp} : ex (d) 198 25 L st h = ex d 198 27 L (.int (nI 10) :: st) h := (ex_of d198_25 (d) L st h).trans (rfl)
theorem d198_27 : decode (mB 198) 27 = .ok (.invokevirtual 109, 3) := by decide +kernel
theorem x198_27 {d : Nat} {L : Lc} {a : Nat} {v0 : Int32} {h : Hp} (ht : (h.2.1 a).1 = 11) : ex (d + 1) 198 27 L (.int v0 :: .ref a :: []) h = bnd (ex d 135 0 [some (.ref a), some (.int v0)] [] h) (fun v h' => ex (d + 1) 198 30 L (v.toList ++ []) h') := (ex_of d198_27 (d + 1) L (.int v0 :: .ref a :: []) h).trans (fin_vi (mi := 198) i11_109 ht rfl rfl (by simp [cat1_i, cat1_r]) (by simp) (Nat.le_of_ble_eq_true rfl))
theorem d198_30 : decode (mB 198) 30 = .ok (.ireturn, 1) := by decide +kernel
theorem x198_30 {d : Nat} {L : Lc} {x : Int32} {h : Hp} : ex (d) 198 30 L [.int x] h = some (some (.int x), h) := (ex_of d198_30 (d) L [.int x] h).trans (rfl)
theorem d198_31 : decode (mB 198) 31 = .ok (.aload_n 0, 1) := by decide +kernel
theorem x198_31 {d : Nat} {l1 l2 l3 l4 l5 l6 l7 l8 : Option Value} {st : List Value} {a : Nat} {h : Hp} : ex (d) 198 31 [some (.ref a), l1, l2, l3, l4, l5, l6, l7, l8] st h = ex d 198 32 [some (.ref a), l1, l2, l3, l4, l5, l6, l7, l8] (.ref a :: st) h := (ex_of d198_31 (d) [some (.ref a), l1, l2, l3, l4, l5, l6, l7, l8] st h).trans (rfl)
theorem d198_32 : decode (mB 198) 32 = .ok (.iload_n 2, 1) := by decide +kernel
theorem x198_32 {d : Nat} {l0 l1 l3 l4 l5 l6 l7 l8 : Option Value} {st : List Value} {x : Int32} {h : Hp} : ex (d) 198 32 [l0, l1, some (.int x), l3, l4, l5, l6, l7, l8] st h = ex d 198 33 [l0, l1, some (.int x), l3, l4, l5, l6, l7, l8] (.int x :: st) h := (ex_of d198_32 (d) [l0, l1, some (.int x), l3, l4, l5, l6, l7, l8] st h).trans (rfl)
theorem d198_33 : decode (mB 198) 33 = .ok (.invokevirtual 132, 3) := by decide +kernel
theorem x198_33 {d : Nat} {L : Lc} {a : Nat} {v0 : Int32} {h : Hp} (ht : (h.2.1 a).1 = 11) : ex (d + 1) 198 33 L (.int v0 :: .ref a :: []) h = bnd (ex d 140 0 [some (.ref a), some (.int v0), none] [] h) (fun v h' => ex (d + 1) 198 36 L (v.toList ++ []) h') := (ex_of d198_33 (d + 1) L (.int v0 :: .ref a :: []) h).trans (fin_vi (mi := 198) i11_132 ht rfl rfl (by simp [cat1_i, cat1_r]) (by simp) (Nat.le_of_ble_eq_true rfl))
theorem d198_36 : decode (mB 198) 36 = .ok (.istore 5, 2) := by decide +kernel
theorem x198_36 {d : Nat} {l0 l1 l2 l3 l4 l5 l6 l7 l8 : Option Value} {st : List Value} {x : Int32} {h : Hp} : ex (d) 198 36 [l0, l1, l2, l3, l4, l5, l6, l7, l8] (.int x :: st) h = ex d 198 38 [l0, l1, l2, l3, clr l4, some (.int x), l6, l7, l8] st h := (ex_of d198_36 (d) [l0, l1, l2, l3, l4, l5, l6, l7, l8] (.int x :: st) h).trans (rfl)
theorem d198_38 : decode (mB 198) 38 = .ok (.iload 5, 2) := by decide +kernel
theorem x198_38 {d : Nat} {l0 l1 l2 l3 l4 l6 l7 l8 : Option Value} {st : List Value} {x : Int32} {h : Hp} : ex (d) 198 38 [l0, l1, l2, l3, l4, some (.int x), l6, l7, l8] st h = ex d 198 40 [l0, l1, l2, l3, l4, some (.int x), l6, l7, l8] (.int x :: st) h := (ex_of d198_38 (d) [l0, l1, l2, l3, l4, some (.int x), l6, l7, l8] st h).trans (rfl)
theorem d198_40 : decode (mB 198) 40 = .ok (.ifCond .ge 9, 3) := by decide +kernel
theorem x198_40 {d : Nat} {L : Lc} {st : List Value} {x : Int32} {h : Hp} : ex (d) 198 40 L (.int x :: st) h = if 0 ≤ x then ex d 198 49 L st h else ex d 198 43 L st h := (ex_of d198_40 (d) L (.int x :: st) h).trans (fin_brq (off := 9) (tgt := 49) rfl (by decide))
theorem d198_43 : decode (mB 198) 43 = .ok (.aload_n 0, 1) := by decide +kernel
theorem x198_43 {d : Nat} {l1 l2 l3 l4 l5 l6 l7 l8 : Option Value} {st : List Value} {a : Nat} {h : Hp} : ex (d) 198 43 [some (.ref a), l1, l2, l3, l4, l5, l6, l7, l8] st h = ex d 198 44 [some (.ref a), l1, l2, l3, l4, l5, l6, l7, l8] (.ref a :: st) h := (ex_of d198_43 (d) [some (.ref a), l1, l2, l3, l4, l5, l6, l7, l8] st h).trans (rfl)
theorem d198_44 : decode (mB 198) 44 = .ok (.iconst 1, 1) := by decide +kernel
theorem x198_44 {d : Nat} {L : Lc} {st : List Value} {h : Hp} : ex (d) 198 44 L st h = ex d 198 45 L (.int (nI 1) :: st) h := (ex_of d198_44 (d) L st h).trans (rfl)
theorem d198_45 : decode (mB 198) 45 = .ok (.invokevirtual 109, 3) := by decide +kernel
theorem x198_45 {d : Nat} {L : Lc} {a : Nat} {v0 : Int32} {h : Hp} (ht : (h.2.1 a).1 = 11) : ex (d + 1) 198 45 L (.int v0 :: .ref a :: []) h = bnd (ex d 135 0 [some (.ref a), some (.int v0)] [] h) (fun v h' => ex (d + 1) 198 48 L (v.toList ++ []) h') := (ex_of d198_45 (d + 1) L (.int v0 :: .ref a :: []) h).trans (fin_vi (mi := 198) i11_109 ht rfl rfl (by simp [cat1_i, cat1_r]) (by simp) (Nat.le_of_ble_eq_true rfl))
theorem d198_48 : decode (mB 198) 48 = .ok (.ireturn, 1) := by decide +kernel
theorem x198_48 {d : Nat} {L : Lc} {x : Int32} {h : Hp} : ex (d) 198 48 L [.int x] h = some (some (.int x), h) := (ex_of d198_48 (d) L [.int x] h).trans (rfl)
theorem d198_49 : decode (mB 198) 49 = .ok (.aload_n 0, 1) := by decide +kernel
theorem x198_49 {d : Nat} {l1 l2 l3 l4 l5 l6 l7 l8 : Option Value} {st : List Value} {a : Nat} {h : Hp} : ex (d) 198 49 [some (.ref a), l1, l2, l3, l4, l5, l6, l7, l8] st h = ex d 198 50 [some (.ref a), l1, l2, l3, l4, l5, l6, l7, l8] (.ref a :: st) h := (ex_of d198_49 (d) [some (.ref a), l1, l2, l3, l4, l5, l6, l7, l8] st h).trans (rfl)
theorem d198_50 : decode (mB 198) 50 = .ok (.invokevirtual 147, 3) := by decide +kernel
theorem x198_50 {d : Nat} {L : Lc} {a : Nat} {h : Hp} (ht : (h.2.1 a).1 = 11) : ex (d + 1) 198 50 L (.ref a :: []) h = bnd (ex d 153 0 [some (.ref a)] [] h) (fun v h' => ex (d + 1) 198 53 L (v.toList ++ []) h') := (ex_of d198_50 (d + 1) L (.ref a :: []) h).trans (fin_vi (mi := 198) i11_147 ht rfl rfl (by simp [cat1_i, cat1_r]) (by simp) (Nat.le_of_ble_eq_true rfl))
theorem d198_53 : decode (mB 198) 53 = .ok (.iload_n 3, 1) := by decide +kernel
theorem x198_53 {d : Nat} {l0 l1 l2 l4 l5 l6 l7 l8 : Option Value} {st : List Value} {x : Int32} {h : Hp} : ex (d) 198 53 [l0, l1, l2, some (.int x), l4, l5, l6, l7, l8] st h = ex d 198 54 [l0, l1, l2, some (.int x), l4, l5, l6, l7, l8] (.int x :: st) h := (ex_of d198_53 (d) [l0, l1, l2, some (.int x), l4, l5, l6, l7, l8] st h).trans (rfl)
theorem d198_54 : decode (mB 198) 54 = .ok (.iconst 0, 1) := by decide +kernel
theorem x198_54 {d : Nat} {L : Lc} {st : List Value} {h : Hp} : ex (d) 198 54 L st h = ex d 198 55 L (.int (nI 0) :: st) h := (ex_of d198_54 (d) L st h).trans (rfl)
theorem d198_55 : decode (mB 198) 55 = .ok (.aload_n 0, 1) := by decide +kernel
theorem x198_55 {d : Nat} {l1 l2 l3 l4 l5 l6 l7 l8 : Option Value} {st : List Value} {a : Nat} {h : Hp} : ex (d) 198 55 [some (.ref a), l1, l2, l3, l4, l5, l6, l7, l8] st h = ex d 198 56 [some (.ref a), l1, l2, l3, l4, l5, l6, l7, l8] (.ref a :: st) h := (ex_of d198_55 (d) [some (.ref a), l1, l2, l3, l4, l5, l6, l7, l8] st h).trans (rfl)
theorem d198_56 : decode (mB 198) 56 = .ok (.getfield 22, 3) := by decide +kernel
theorem x198_56 {d : Nat} {L : Lc} {st : List Value} {a : Nat} {h : Hp} (ht : (h.2.1 a).1 = 11) : ex (d) 198 56 L (.ref a :: st) h = ex d 198 59 L (h.1 a 6 :: st) h := (ex_of d198_56 (d) L (.ref a :: st) h).trans (fin_get (mi := 198) f11_22 (tg1 ht rfl))
theorem d198_59 : decode (mB 198) 59 = .ok (.iload 5, 2) := by decide +kernel
theorem x198_59 {d : Nat} {l0 l1 l2 l3 l4 l6 l7 l8 : Option Value} {st : List Value} {x : Int32} {h : Hp} : ex (d) 198 59 [l0, l1, l2, l3, l4, some (.int x), l6, l7, l8] st h = ex d 198 61 [l0, l1, l2, l3, l4, some (.int x), l6, l7, l8] (.int x :: st) h := (ex_of d198_59 (d) [l0, l1, l2, l3, l4, some (.int x), l6, l7, l8] st h).trans (rfl)
theorem d198_61 : decode (mB 198) 61 = .ok (.iaload, 1) := by decide +kernel
theorem x198_61 {d : Nat} {L : Lc} {st : List Value} {a j : Nat} {h : Hp} (ht : (h.2.1 a).1 = 20) (hj : j < (h.2.1 a).2) (hb : j < 2147483648) : ex (d) 198 61 L (.int (nI j) :: .ref a :: st) h = ex d 198 62 L (h.1 a j :: st) h := (ex_of d198_61 (d) L (.int (nI j) :: .ref a :: st) h).trans (fin_iaload (Or.inl ht) hj hb)
theorem d198_62 : decode (mB 198) 62 = .ok (.iconst 1, 1) := by decide +kernel
theorem x198_62 {d : Nat} {L : Lc} {st : List Value} {h : Hp} : ex (d) 198 62 L st h = ex d 198 63 L (.int (nI 1) :: st) h := (ex_of d198_62 (d) L st h).trans (rfl)
theorem d198_63 : decode (mB 198) 63 = .ok (.isub, 1) := by decide +kernel
theorem x198_63 {d : Nat} {L : Lc} {st : List Value} {x y : Int32} {h : Hp} : ex (d) 198 63 L (.int y :: .int x :: st) h = ex d 198 64 L (.int (x - y) :: st) h := (ex_of d198_63 (d) L (.int y :: .int x :: st) h).trans (rfl)
theorem d198_64 : decode (mB 198) 64 = .ok (.invokestatic 101, 3) := by decide +kernel
theorem x198_64 {d : Nat} {L : Lc}  {v0 : Int32} {v1 : Int32} {v2 : Int32} {h : Hp} : ex (d + 1) 198 64 L (.int v2 :: .int v1 :: .int v0 :: []) h = bnd (ex d 137 0 [some (.int v0), some (.int v1), some (.int v2)] [] h) (fun v h' => ex (d + 1) 198 67 L (v.toList ++ []) h') := (ex_of d198_64 (d + 1) L (.int v2 :: .int v1 :: .int v0 :: []) h).trans (fin_st (mi := 198) i11_101 (Or.inl rfl) (by simp) (by simp [cat1_i, cat1_r]) (by simp) (Nat.le_of_ble_eq_true rfl))
theorem d198_67 : decode (mB 198) 67 = .ok (.ifCond .ne 9, 3) := by decide +kernel
theorem x198_67 {d : Nat} {L : Lc} {st : List Value} {x : Int32} {h : Hp} : ex (d) 198 67 L (.int x :: st) h = if ¬ x = 0 then ex d 198 76 L st h else ex d 198 70 L st h := (ex_of d198_67 (d) L (.int x :: st) h).trans (fin_brq (off := 9) (tgt := 76) rfl (by decide))
theorem d198_70 : decode (mB 198) 70 = .ok (.aload_n 0, 1) := by decide +kernel
theorem x198_70 {d : Nat} {l1 l2 l3 l4 l5 l6 l7 l8 : Option Value} {st : List Value} {a : Nat} {h : Hp} : ex (d) 198 70 [some (.ref a), l1, l2, l3, l4, l5, l6, l7, l8] st h = ex d 198 71 [some (.ref a), l1, l2, l3, l4, l5, l6, l7, l8] (.ref a :: st) h := (ex_of d198_70 (d) [some (.ref a), l1, l2, l3, l4, l5, l6, l7, l8] st h).trans (rfl)
theorem d198_71 : decode (mB 198) 71 = .ok (.iconst 2, 1) := by decide +kernel
theorem x198_71 {d : Nat} {L : Lc} {st : List Value} {h : Hp} : ex (d) 198 71 L st h = ex d 198 72 L (.int (nI 2) :: st) h := (ex_of d198_71 (d) L st h).trans (rfl)
theorem d198_72 : decode (mB 198) 72 = .ok (.invokevirtual 109, 3) := by decide +kernel
theorem x198_72 {d : Nat} {L : Lc} {a : Nat} {v0 : Int32} {h : Hp} (ht : (h.2.1 a).1 = 11) : ex (d + 1) 198 72 L (.int v0 :: .ref a :: []) h = bnd (ex d 135 0 [some (.ref a), some (.int v0)] [] h) (fun v h' => ex (d + 1) 198 75 L (v.toList ++ []) h') := (ex_of d198_72 (d + 1) L (.int v0 :: .ref a :: []) h).trans (fin_vi (mi := 198) i11_109 ht rfl rfl (by simp [cat1_i, cat1_r]) (by simp) (Nat.le_of_ble_eq_true rfl))
theorem d198_75 : decode (mB 198) 75 = .ok (.ireturn, 1) := by decide +kernel
theorem x198_75 {d : Nat} {L : Lc} {x : Int32} {h : Hp} : ex (d) 198 75 L [.int x] h = some (some (.int x), h) := (ex_of d198_75 (d) L [.int x] h).trans (rfl)
theorem d198_76 : decode (mB 198) 76 = .ok (.aload_n 0, 1) := by decide +kernel
theorem x198_76 {d : Nat} {l1 l2 l3 l4 l5 l6 l7 l8 : Option Value} {st : List Value} {a : Nat} {h : Hp} : ex (d) 198 76 [some (.ref a), l1, l2, l3, l4, l5, l6, l7, l8] st h = ex d 198 77 [some (.ref a), l1, l2, l3, l4, l5, l6, l7, l8] (.ref a :: st) h := (ex_of d198_76 (d) [some (.ref a), l1, l2, l3, l4, l5, l6, l7, l8] st h).trans (rfl)
theorem d198_77 : decode (mB 198) 77 = .ok (.getfield 76, 3) := by decide +kernel
theorem x198_77 {d : Nat} {L : Lc} {st : List Value} {a : Nat} {h : Hp} (ht : (h.2.1 a).1 = 11) : ex (d) 198 77 L (.ref a :: st) h = ex d 198 80 L (h.1 a 36 :: st) h := (ex_of d198_77 (d) L (.ref a :: st) h).trans (fin_get (mi := 198) f11_76 (tg1 ht rfl))
theorem d198_80 : decode (mB 198) 80 = .ok (.iload_n 1, 1) := by decide +kernel
theorem x198_80 {d : Nat} {l0 l2 l3 l4 l5 l6 l7 l8 : Option Value} {st : List Value} {x : Int32} {h : Hp} : ex (d) 198 80 [l0, some (.int x), l2, l3, l4, l5, l6, l7, l8] st h = ex d 198 81 [l0, some (.int x), l2, l3, l4, l5, l6, l7, l8] (.int x :: st) h := (ex_of d198_80 (d) [l0, some (.int x), l2, l3, l4, l5, l6, l7, l8] st h).trans (rfl)
theorem d198_81 : decode (mB 198) 81 = .ok (.iaload, 1) := by decide +kernel
theorem x198_81 {d : Nat} {L : Lc} {st : List Value} {a j : Nat} {h : Hp} (ht : (h.2.1 a).1 = 20) (hj : j < (h.2.1 a).2) (hb : j < 2147483648) : ex (d) 198 81 L (.int (nI j) :: .ref a :: st) h = ex d 198 82 L (h.1 a j :: st) h := (ex_of d198_81 (d) L (.int (nI j) :: .ref a :: st) h).trans (fin_iaload (Or.inl ht) hj hb)
theorem d198_82 : decode (mB 198) 82 = .ok (.istore 6, 2) := by decide +kernel
theorem x198_82 {d : Nat} {l0 l1 l2 l3 l4 l5 l6 l7 l8 : Option Value} {st : List Value} {x : Int32} {h : Hp} : ex (d) 198 82 [l0, l1, l2, l3, l4, l5, l6, l7, l8] (.int x :: st) h = ex d 198 84 [l0, l1, l2, l3, l4, clr l5, some (.int x), l7, l8] st h := (ex_of d198_82 (d) [l0, l1, l2, l3, l4, l5, l6, l7, l8] (.int x :: st) h).trans (rfl)
theorem d198_84 : decode (mB 198) 84 = .ok (.aload_n 0, 1) := by decide +kernel
theorem x198_84 {d : Nat} {l1 l2 l3 l4 l5 l6 l7 l8 : Option Value} {st : List Value} {a : Nat} {h : Hp} : ex (d) 198 84 [some (.ref a), l1, l2, l3, l4, l5, l6, l7, l8] st h = ex d 198 85 [some (.ref a), l1, l2, l3, l4, l5, l6, l7, l8] (.ref a :: st) h := (ex_of d198_84 (d) [some (.ref a), l1, l2, l3, l4, l5, l6, l7, l8] st h).trans (rfl)
theorem d198_85 : decode (mB 198) 85 = .ok (.iload_n 2, 1) := by decide +kernel
theorem x198_85 {d : Nat} {l0 l1 l3 l4 l5 l6 l7 l8 : Option Value} {st : List Value} {x : Int32} {h : Hp} : ex (d) 198 85 [l0, l1, some (.int x), l3, l4, l5, l6, l7, l8] st h = ex d 198 86 [l0, l1, some (.int x), l3, l4, l5, l6, l7, l8] (.int x :: st) h := (ex_of d198_85 (d) [l0, l1, some (.int x), l3, l4, l5, l6, l7, l8] st h).trans (rfl)
theorem d198_86 : decode (mB 198) 86 = .ok (.iload_n 3, 1) := by decide +kernel
theorem x198_86 {d : Nat} {l0 l1 l2 l4 l5 l6 l7 l8 : Option Value} {st : List Value} {x : Int32} {h : Hp} : ex (d) 198 86 [l0, l1, l2, some (.int x), l4, l5, l6, l7, l8] st h = ex d 198 87 [l0, l1, l2, some (.int x), l4, l5, l6, l7, l8] (.int x :: st) h := (ex_of d198_86 (d) [l0, l1, l2, some (.int x), l4, l5, l6, l7, l8] st h).trans (rfl)
theorem d198_87 : decode (mB 198) 87 = .ok (.iload 6, 2) := by decide +kernel
theorem x198_87 {d : Nat} {l0 l1 l2 l3 l4 l5 l7 l8 : Option Value} {st : List Value} {x : Int32} {h : Hp} : ex (d) 198 87 [l0, l1, l2, l3, l4, l5, some (.int x), l7, l8] st h = ex d 198 89 [l0, l1, l2, l3, l4, l5, some (.int x), l7, l8] (.int x :: st) h := (ex_of d198_87 (d) [l0, l1, l2, l3, l4, l5, some (.int x), l7, l8] st h).trans (rfl)
theorem d198_89 : decode (mB 198) 89 = .ok (.invokevirtual 150, 3) := by decide +kernel
theorem x198_89 {d : Nat} {L : Lc} {a : Nat} {v0 : Int32} {v1 : Int32} {v2 : Int32} {h : Hp} (ht : (h.2.1 a).1 = 11) : ex (d + 1) 198 89 L (.int v2 :: .int v1 :: .int v0 :: .ref a :: []) h = bnd (ex d 159 0 [some (.ref a), some (.int v0), some (.int v1), some (.int v2)] [] h) (fun v h' => ex (d + 1) 198 92 L (v.toList ++ []) h') := (ex_of d198_89 (d + 1) L (.int v2 :: .int v1 :: .int v0 :: .ref a :: []) h).trans (fin_vi (mi := 198) i11_150 ht rfl rfl (by simp [cat1_i, cat1_r]) (by simp) (Nat.le_of_ble_eq_true rfl))
theorem d198_92 : decode (mB 198) 92 = .ok (.istore 7, 2) := by decide +kernel
theorem x198_92 {d : Nat} {l0 l1 l2 l3 l4 l5 l6 l7 l8 : Option Value} {st : List Value} {x : Int32} {h : Hp} : ex (d) 198 92 [l0, l1, l2, l3, l4, l5, l6, l7, l8] (.int x :: st) h = ex d 198 94 [l0, l1, l2, l3, l4, l5, clr l6, some (.int x), l8] st h := (ex_of d198_92 (d) [l0, l1, l2, l3, l4, l5, l6, l7, l8] (.int x :: st) h).trans (rfl)
theorem d198_94 : decode (mB 198) 94 = .ok (.iload 7, 2) := by decide +kernel
theorem x198_94 {d : Nat} {l0 l1 l2 l3 l4 l5 l6 l8 : Option Value} {st : List Value} {x : Int32} {h : Hp} : ex (d) 198 94 [l0, l1, l2, l3, l4, l5, l6, some (.int x), l8] st h = ex d 198 96 [l0, l1, l2, l3, l4, l5, l6, some (.int x), l8] (.int x :: st) h := (ex_of d198_94 (d) [l0, l1, l2, l3, l4, l5, l6, some (.int x), l8] st h).trans (rfl)
theorem d198_96 : decode (mB 198) 96 = .ok (.ifCond .le 10, 3) := by decide +kernel
theorem x198_96 {d : Nat} {L : Lc} {st : List Value} {x : Int32} {h : Hp} : ex (d) 198 96 L (.int x :: st) h = if x ≤ 0 then ex d 198 106 L st h else ex d 198 99 L st h := (ex_of d198_96 (d) L (.int x :: st) h).trans (fin_brq (off := 10) (tgt := 106) rfl (by decide))
theorem d198_99 : decode (mB 198) 99 = .ok (.aload_n 0, 1) := by decide +kernel
theorem x198_99 {d : Nat} {l1 l2 l3 l4 l5 l6 l7 l8 : Option Value} {st : List Value} {a : Nat} {h : Hp} : ex (d) 198 99 [some (.ref a), l1, l2, l3, l4, l5, l6, l7, l8] st h = ex d 198 100 [some (.ref a), l1, l2, l3, l4, l5, l6, l7, l8] (.ref a :: st) h := (ex_of d198_99 (d) [some (.ref a), l1, l2, l3, l4, l5, l6, l7, l8] st h).trans (rfl)
theorem d198_100 : decode (mB 198) 100 = .ok (.iload 7, 2) := by decide +kernel
theorem x198_100 {d : Nat} {l0 l1 l2 l3 l4 l5 l6 l8 : Option Value} {st : List Value} {x : Int32} {h : Hp} : ex (d) 198 100 [l0, l1, l2, l3, l4, l5, l6, some (.int x), l8] st h = ex d 198 102 [l0, l1, l2, l3, l4, l5, l6, some (.int x), l8] (.int x :: st) h := (ex_of d198_100 (d) [l0, l1, l2, l3, l4, l5, l6, some (.int x), l8] st h).trans (rfl)
theorem d198_102 : decode (mB 198) 102 = .ok (.invokevirtual 109, 3) := by decide +kernel
theorem x198_102 {d : Nat} {L : Lc} {a : Nat} {v0 : Int32} {h : Hp} (ht : (h.2.1 a).1 = 11) : ex (d + 1) 198 102 L (.int v0 :: .ref a :: []) h = bnd (ex d 135 0 [some (.ref a), some (.int v0)] [] h) (fun v h' => ex (d + 1) 198 105 L (v.toList ++ []) h') := (ex_of d198_102 (d + 1) L (.int v0 :: .ref a :: []) h).trans (fin_vi (mi := 198) i11_109 ht rfl rfl (by simp [cat1_i, cat1_r]) (by simp) (Nat.le_of_ble_eq_true rfl))
theorem d198_105 : decode (mB 198) 105 = .ok (.ireturn, 1) := by decide +kernel
theorem x198_105 {d : Nat} {L : Lc} {x : Int32} {h : Hp} : ex (d) 198 105 L [.int x] h = some (some (.int x), h) := (ex_of d198_105 (d) L [.int x] h).trans (rfl)
theorem d198_106 : decode (mB 198) 106 = .ok (.iload 4, 2) := by decide +kernel
theorem x198_106 {d : Nat} {l0 l1 l2 l3 l5 l6 l7 l8 : Option Value} {st : List Value} {x : Int32} {h : Hp} : ex (d) 198 106 [l0, l1, l2, l3, some (.int x), l5, l6, l7, l8] st h = ex d 198 108 [l0, l1, l2, l3, some (.int x), l5, l6, l7, l8] (.int x :: st) h := (ex_of d198_106 (d) [l0, l1, l2, l3, some (.int x), l5, l6, l7, l8] st h).trans (rfl)
theorem d198_108 : decode (mB 198) 108 = .ok (.iconst 0, 1) := by decide +kernel
theorem x198_108 {d : Nat} {L : Lc} {st : List Value} {h : Hp} : ex (d) 198 108 L st h = ex d 198 109 L (.int (nI 0) :: st) h := (ex_of d198_108 (d) L st h).trans (rfl)
theorem d198_109 : decode (mB 198) 109 = .ok (.aload_n 0, 1) := by decide +kernel
theorem x198_109 {d : Nat} {l1 l2 l3 l4 l5 l6 l7 l8 : Option Value} {st : List Value} {a : Nat} {h : Hp} : ex (d) 198 109 [some (.ref a), l1, l2, l3, l4, l5, l6, l7, l8] st h = ex d 198 110 [some (.ref a), l1, l2, l3, l4, l5, l6, l7, l8] (.ref a :: st) h := (ex_of d198_109 (d) [some (.ref a), l1, l2, l3, l4, l5, l6, l7, l8] st h).trans (rfl)
theorem d198_110 : decode (mB 198) 110 = .ok (.getfield 79, 3) := by decide +kernel
theorem x198_110 {d : Nat} {L : Lc} {st : List Value} {a : Nat} {h : Hp} (ht : (h.2.1 a).1 = 11) : ex (d) 198 110 L (.ref a :: st) h = ex d 198 113 L (h.1 a 37 :: st) h := (ex_of d198_110 (d) L (.ref a :: st) h).trans (fin_get (mi := 198) f11_79 (tg1 ht rfl))
theorem d198_113 : decode (mB 198) 113 = .ok (.iload_n 1, 1) := by decide +kernel
theorem x198_113 {d : Nat} {l0 l2 l3 l4 l5 l6 l7 l8 : Option Value} {st : List Value} {x : Int32} {h : Hp} : ex (d) 198 113 [l0, some (.int x), l2, l3, l4, l5, l6, l7, l8] st h = ex d 198 114 [l0, some (.int x), l2, l3, l4, l5, l6, l7, l8] (.int x :: st) h := (ex_of d198_113 (d) [l0, some (.int x), l2, l3, l4, l5, l6, l7, l8] st h).trans (rfl)
theorem d198_114 : decode (mB 198) 114 = .ok (.iaload, 1) := by decide +kernel
theorem x198_114 {d : Nat} {L : Lc} {st : List Value} {a j : Nat} {h : Hp} (ht : (h.2.1 a).1 = 20) (hj : j < (h.2.1 a).2) (hb : j < 2147483648) : ex (d) 198 114 L (.int (nI j) :: .ref a :: st) h = ex d 198 115 L (h.1 a j :: st) h := (ex_of d198_114 (d) L (.int (nI j) :: .ref a :: st) h).trans (fin_iaload (Or.inl ht) hj hb)
theorem d198_115 : decode (mB 198) 115 = .ok (.invokestatic 101, 3) := by decide +kernel
theorem x198_115 {d : Nat} {L : Lc}  {v0 : Int32} {v1 : Int32} {v2 : Int32} {h : Hp} : ex (d + 1) 198 115 L (.int v2 :: .int v1 :: .int v0 :: []) h = bnd (ex d 137 0 [some (.int v0), some (.int v1), some (.int v2)] [] h) (fun v h' => ex (d + 1) 198 118 L (v.toList ++ []) h') := (ex_of d198_115 (d + 1) L (.int v2 :: .int v1 :: .int v0 :: []) h).trans (fin_st (mi := 198) i11_101 (Or.inl rfl) (by simp) (by simp [cat1_i, cat1_r]) (by simp) (Nat.le_of_ble_eq_true rfl))
theorem d198_118 : decode (mB 198) 118 = .ok (.ifCond .ne 10, 3) := by decide +kernel
theorem x198_118 {d : Nat} {L : Lc} {st : List Value} {x : Int32} {h : Hp} : ex (d) 198 118 L (.int x :: st) h = if ¬ x = 0 then ex d 198 128 L st h else ex d 198 121 L st h := (ex_of d198_118 (d) L (.int x :: st) h).trans (fin_brq (off := 10) (tgt := 128) rfl (by decide))
theorem d198_121 : decode (mB 198) 121 = .ok (.aload_n 0, 1) := by decide +kernel
theorem x198_121 {d : Nat} {l1 l2 l3 l4 l5 l6 l7 l8 : Option Value} {st : List Value} {a : Nat} {h : Hp} : ex (d) 198 121 [some (.ref a), l1, l2, l3, l4, l5, l6, l7, l8] st h = ex d 198 122 [some (.ref a), l1, l2, l3, l4, l5, l6, l7, l8] (.ref a :: st) h := (ex_of d198_121 (d) [some (.ref a), l1, l2, l3, l4, l5, l6, l7, l8] st h).trans (rfl)
theorem d198_122 : decode (mB 198) 122 = .ok (.bipush 6, 2) := by decide +kernel
theorem x198_122 {d : Nat} {L : Lc} {st : List Value} {h : Hp} : ex (d) 198 122 L st h = ex d 198 124 L (.int (nI 6) :: st) h := (ex_of d198_122 (d) L st h).trans (rfl)
theorem d198_124 : decode (mB 198) 124 = .ok (.invokevirtual 109, 3) := by decide +kernel
theorem x198_124 {d : Nat} {L : Lc} {a : Nat} {v0 : Int32} {h : Hp} (ht : (h.2.1 a).1 = 11) : ex (d + 1) 198 124 L (.int v0 :: .ref a :: []) h = bnd (ex d 135 0 [some (.ref a), some (.int v0)] [] h) (fun v h' => ex (d + 1) 198 127 L (v.toList ++ []) h') := (ex_of d198_124 (d + 1) L (.int v0 :: .ref a :: []) h).trans (fin_vi (mi := 198) i11_109 ht rfl rfl (by simp [cat1_i, cat1_r]) (by simp) (Nat.le_of_ble_eq_true rfl))
theorem d198_127 : decode (mB 198) 127 = .ok (.ireturn, 1) := by decide +kernel
theorem x198_127 {d : Nat} {L : Lc} {x : Int32} {h : Hp} : ex (d) 198 127 L [.int x] h = some (some (.int x), h) := (ex_of d198_127 (d) L [.int x] h).trans (rfl)
theorem d198_128 : decode (mB 198) 128 = .ok (.aload_n 0, 1) := by decide +kernel
theorem x198_128 {d : Nat} {l1 l2 l3 l4 l5 l6 l7 l8 : Option Value} {st : List Value} {a : Nat} {h : Hp} : ex (d) 198 128 [some (.ref a), l1, l2, l3, l4, l5, l6, l7, l8] st h = ex d 198 129 [some (.ref a), l1, l2, l3, l4, l5, l6, l7, l8] (.ref a :: st) h := (ex_of d198_128 (d) [some (.ref a), l1, l2, l3, l4, l5, l6, l7, l8] st h).trans (rfl)
theorem d198_129 : decode (mB 198) 129 = .ok (.getfield 79, 3) := by decide +kernel
theorem x198_129 {d : Nat} {L : Lc} {st : List Value} {a : Nat} {h : Hp} (ht : (h.2.1 a).1 = 11) : ex (d) 198 129 L (.ref a :: st) h = ex d 198 132 L (h.1 a 37 :: st) h := (ex_of d198_129 (d) L (.ref a :: st) h).trans (fin_get (mi := 198) f11_79 (tg1 ht rfl))
theorem d198_132 : decode (mB 198) 132 = .ok (.iload_n 1, 1) := by decide +kernel
theorem x198_132 {d : Nat} {l0 l2 l3 l4 l5 l6 l7 l8 : Option Value} {st : List Value} {x : Int32} {h : Hp} : ex (d) 198 132 [l0, some (.int x), l2, l3, l4, l5, l6, l7, l8] st h = ex d 198 133 [l0, some (.int x), l2, l3, l4, l5, l6, l7, l8] (.int x :: st) h := (ex_of d198_132 (d) [l0, some (.int x), l2, l3, l4, l5, l6, l7, l8] st h).trans (rfl)
theorem d198_133 : decode (mB 198) 133 = .ok (.iaload, 1) := by decide +kernel
theorem x198_133 {d : Nat} {L : Lc} {st : List Value} {a j : Nat} {h : Hp} (ht : (h.2.1 a).1 = 20) (hj : j < (h.2.1 a).2) (hb : j < 2147483648) : ex (d) 198 133 L (.int (nI j) :: .ref a :: st) h = ex d 198 134 L (h.1 a j :: st) h := (ex_of d198_133 (d) L (.int (nI j) :: .ref a :: st) h).trans (fin_iaload (Or.inl ht) hj hb)
theorem d198_134 : decode (mB 198) 134 = .ok (.iload 4, 2) := by decide +kernel
theorem x198_134 {d : Nat} {l0 l1 l2 l3 l5 l6 l7 l8 : Option Value} {st : List Value} {x : Int32} {h : Hp} : ex (d) 198 134 [l0, l1, l2, l3, some (.int x), l5, l6, l7, l8] st h = ex d 198 136 [l0, l1, l2, l3, some (.int x), l5, l6, l7, l8] (.int x :: st) h := (ex_of d198_134 (d) [l0, l1, l2, l3, some (.int x), l5, l6, l7, l8] st h).trans (rfl)
theorem d198_136 : decode (mB 198) 136 = .ok (.isub, 1) := by decide +kernel
theorem x198_136 {d : Nat} {L : Lc} {st : List Value} {x y : Int32} {h : Hp} : ex (d) 198 136 L (.int y :: .int x :: st) h = ex d 198 137 L (.int (x - y) :: st) h := (ex_of d198_136 (d) L (.int y :: .int x :: st) h).trans (rfl)
theorem d198_137 : decode (mB 198) 137 = .ok (.istore 8, 2) := by decide +kernel
theorem x198_137 {d : Nat} {l0 l1 l2 l3 l4 l5 l6 l7 l8 : Option Value} {st : List Value} {x : Int32} {h : Hp} : ex (d) 198 137 [l0, l1, l2, l3, l4, l5, l6, l7, l8] (.int x :: st) h = ex d 198 139 [l0, l1, l2, l3, l4, l5, l6, clr l7, some (.int x)] st h := (ex_of d198_137 (d) [l0, l1, l2, l3, l4, l5, l6, l7, l8] (.int x :: st) h).trans (rfl)
theorem d198_139 : decode (mB 198) 139 = .ok (.aload_n 0, 1) := by decide +kernel
theorem x198_139 {d : Nat} {l1 l2 l3 l4 l5 l6 l7 l8 : Option Value} {st : List Value} {a : Nat} {h : Hp} : ex (d) 198 139 [some (.ref a), l1, l2, l3, l4, l5, l6, l7, l8] st h = ex d 198 140 [some (.ref a), l1, l2, l3, l4, l5, l6, l7, l8] (.ref a :: st) h := (ex_of d198_139 (d) [some (.ref a), l1, l2, l3, l4, l5, l6, l7, l8] st h).trans (rfl)
theorem d198_140 : decode (mB 198) 140 = .ok (.iload_n 2, 1) := by decide +kernel
theorem x198_140 {d : Nat} {l0 l1 l3 l4 l5 l6 l7 l8 : Option Value} {st : List Value} {x : Int32} {h : Hp} : ex (d) 198 140 [l0, l1, some (.int x), l3, l4, l5, l6, l7, l8] st h = ex d 198 141 [l0, l1, some (.int x), l3, l4, l5, l6, l7, l8] (.int x :: st) h := (ex_of d198_140 (d) [l0, l1, some (.int x), l3, l4, l5, l6, l7, l8] st h).trans (rfl)
theorem d198_141 : decode (mB 198) 141 = .ok (.iload_n 3, 1) := by decide +kernel
theorem x198_141 {d : Nat} {l0 l1 l2 l4 l5 l6 l7 l8 : Option Value} {st : List Value} {x : Int32} {h : Hp} : ex (d) 198 141 [l0, l1, l2, some (.int x), l4, l5, l6, l7, l8] st h = ex d 198 142 [l0, l1, l2, some (.int x), l4, l5, l6, l7, l8] (.int x :: st) h := (ex_of d198_141 (d) [l0, l1, l2, some (.int x), l4, l5, l6, l7, l8] st h).trans (rfl)
theorem d198_142 : decode (mB 198) 142 = .ok (.iload 6, 2) := by decide +kernel
theorem x198_142 {d : Nat} {l0 l1 l2 l3 l4 l5 l7 l8 : Option Value} {st : List Value} {x : Int32} {h : Hp} : ex (d) 198 142 [l0, l1, l2, l3, l4, l5, some (.int x), l7, l8] st h = ex d 198 144 [l0, l1, l2, l3, l4, l5, some (.int x), l7, l8] (.int x :: st) h := (ex_of d198_142 (d) [l0, l1, l2, l3, l4, l5, some (.int x), l7, l8] st h).trans (rfl)
theorem d198_144 : decode (mB 198) 144 = .ok (.invokevirtual 153, 3) := by decide +kernel
theorem x198_144 {d : Nat} {L : Lc} {a : Nat} {v0 : Int32} {v1 : Int32} {v2 : Int32} {h : Hp} (ht : (h.2.1 a).1 = 11) : ex (d + 1) 198 144 L (.int v2 :: .int v1 :: .int v0 :: .ref a :: []) h = bnd (ex d 155 0 [some (.ref a), some (.int v0), some (.int v1), some (.int v2)] [] h) (fun v h' => ex (d + 1) 198 147 L (v.toList ++ []) h') := (ex_of d198_144 (d + 1) L (.int v2 :: .int v1 :: .int v0 :: .ref a :: []) h).trans (fin_vi (mi := 198) i11_153 ht rfl rfl (by simp [cat1_i, cat1_r]) (by simp) (Nat.le_of_ble_eq_true rfl))
theorem d198_147 : decode (mB 198) 147 = .ok (.aload_n 0, 1) := by decide +kernel
theorem x198_147 {d : Nat} {l1 l2 l3 l4 l5 l6 l7 l8 : Option Value} {st : List Value} {a : Nat} {h : Hp} : ex (d) 198 147 [some (.ref a), l1, l2, l3, l4, l5, l6, l7, l8] st h = ex d 198 148 [some (.ref a), l1, l2, l3, l4, l5, l6, l7, l8] (.ref a :: st) h := (ex_of d198_147 (d) [some (.ref a), l1, l2, l3, l4, l5, l6, l7, l8] st h).trans (rfl)
theorem d198_148 : decode (mB 198) 148 = .ok (.getfield 82, 3) := by decide +kernel
theorem x198_148 {d : Nat} {L : Lc} {st : List Value} {a : Nat} {h : Hp} (ht : (h.2.1 a).1 = 11) : ex (d) 198 148 L (.ref a :: st) h = ex d 198 151 L (h.1 a 38 :: st) h := (ex_of d198_148 (d) L (.ref a :: st) h).trans (fin_get (mi := 198) f11_82 (tg1 ht rfl))
theorem d198_151 : decode (mB 198) 151 = .ok (.iload_n 1, 1) := by decide +kernel
theorem x198_151 {d : Nat} {l0 l2 l3 l4 l5 l6 l7 l8 : Option Value} {st : List Value} {x : Int32} {h : Hp} : ex (d) 198 151 [l0, some (.int x), l2, l3, l4, l5, l6, l7, l8] st h = ex d 198 152 [l0, some (.int x), l2, l3, l4, l5, l6, l7, l8] (.int x :: st) h := (ex_of d198_151 (d) [l0, some (.int x), l2, l3, l4, l5, l6, l7, l8] st h).trans (rfl)
theorem d198_152 : decode (mB 198) 152 = .ok (.iconst 2, 1) := by decide +kernel
theorem x198_152 {d : Nat} {L : Lc} {st : List Value} {h : Hp} : ex (d) 198 152 L st h = ex d 198 153 L (.int (nI 2) :: st) h := (ex_of d198_152 (d) L st h).trans (rfl)
theorem d198_153 : decode (mB 198) 153 = .ok (.iastore, 1) := by decide +kernel
theorem x198_153 {d : Nat} {L : Lc} {st : List Value} {a j : Nat} {x : Int32} {h : Hp} (ht : (h.2.1 a).1 = 20) (hj : j < (h.2.1 a).2) (hb : j < 2147483648) : ex (d) 198 153 L (.int x :: .int (nI j) :: .ref a :: st) h = ex d 198 154 L st (mup h.1 a j (.int x), h.2) := (ex_of d198_153 (d) L (.int x :: .int (nI j) :: .ref a :: st) h).trans (fin_iastore ht hj hb)
theorem d198_154 : decode (mB 198) 154 = .ok (.aload_n 0, 1) := by decide +kernel
theorem x198_154 {d : Nat} {l1 l2 l3 l4 l5 l6 l7 l8 : Option Value} {st : List Value} {a : Nat} {h : Hp} : ex (d) 198 154 [some (.ref a), l1, l2, l3, l4, l5, l6, l7, l8] st h = ex d 198 155 [some (.ref a), l1, l2, l3, l4, l5, l6, l7, l8] (.ref a :: st) h := (ex_of d198_154 (d) [some (.ref a), l1, l2, l3, l4, l5, l6, l7, l8] st h).trans (rfl)
theorem d198_155 : decode (mB 198) 155 = .ok (.dup, 1) := by decide +kernel
theorem x198_155 {d : Nat} {L : Lc} {st : List Value} {a : Nat} {h : Hp} : ex (d) 198 155 L (.ref a :: st) h = ex d 198 156 L (.ref a :: .ref a :: st) h := (ex_of d198_155 (d) L (.ref a :: st) h).trans (rfl)
theorem x198_155i {d : Nat} {L : Lc} {st : List Value} {x : Int32} {h : Hp} : ex (d) 198 155 L (.int x :: st) h = ex d 198 156 L (.int x :: .int x :: st) h := (ex_of d198_155 (d) L (.int x :: st) h).trans (rfl)
theorem d198_156 : decode (mB 198) 156 = .ok (.getfield 174, 3) := by decide +kernel
theorem x198_156 {d : Nat} {L : Lc} {st : List Value} {a : Nat} {h : Hp} (ht : (h.2.1 a).1 = 11) : ex (d) 198 156 L (.ref a :: st) h = ex d 198 159 L (h.1 a 34 :: st) h := (ex_of d198_156 (d) L (.ref a :: st) h).trans (fin_get (mi := 198) f11_174 (tg1 ht rfl))
theorem d198_159 : decode (mB 198) 159 = .ok (.iload 8, 2) := by decide +kernel
theorem x198_159 {d : Nat} {l0 l1 l2 l3 l4 l5 l6 l7 : Option Value} {st : List Value} {x : Int32} {h : Hp} : ex (d) 198 159 [l0, l1, l2, l3, l4, l5, l6, l7, some (.int x)] st h = ex d 198 161 [l0, l1, l2, l3, l4, l5, l6, l7, some (.int x)] (.int x :: st) h := (ex_of d198_159 (d) [l0, l1, l2, l3, l4, l5, l6, l7, some (.int x)] st h).trans (rfl)
theorem d198_161 : decode (mB 198) 161 = .ok (.isub, 1) := by decide +kernel
theorem x198_161 {d : Nat} {L : Lc} {st : List Value} {x y : Int32} {h : Hp} : ex (d) 198 161 L (.int y :: .int x :: st) h = ex d 198 162 L (.int (x - y) :: st) h := (ex_of d198_161 (d) L (.int y :: .int x :: st) h).trans (rfl)
theorem d198_162 : decode (mB 198) 162 = .ok (.putfield 174, 3) := by decide +kernel
theorem x198_162 {d : Nat} {L : Lc} {st : List Value} {a : Nat} {x : Int32} {h : Hp} (ht : (h.2.1 a).1 = 11) : ex (d) 198 162 L (.int x :: .ref a :: st) h = ex d 198 165 L st (mup h.1 a 34 (.int x), h.2) := (ex_of d198_162 (d) L (.int x :: .ref a :: st) h).trans (fin_put (mi := 198) f11_174 ht rfl rfl (by decide +kernel))
theorem d198_165 : decode (mB 198) 165 = .ok (.aload_n 0, 1) := by decide +kernel
theorem x198_165 {d : Nat} {l1 l2 l3 l4 l5 l6 l7 l8 : Option Value} {st : List Value} {a : Nat} {h : Hp} : ex (d) 198 165 [some (.ref a), l1, l2, l3, l4, l5, l6, l7, l8] st h = ex d 198 166 [some (.ref a), l1, l2, l3, l4, l5, l6, l7, l8] (.ref a :: st) h := (ex_of d198_165 (d) [some (.ref a), l1, l2, l3, l4, l5, l6, l7, l8] st h).trans (rfl)
theorem d198_166 : decode (mB 198) 166 = .ok (.iconst 5, 1) := by decide +kernel
theorem x198_166 {d : Nat} {L : Lc} {st : List Value} {h : Hp} : ex (d) 198 166 L st h = ex d 198 167 L (.int (nI 5) :: st) h := (ex_of d198_166 (d) L st h).trans (rfl)
theorem d198_167 : decode (mB 198) 167 = .ok (.iload_n 1, 1) := by decide +kernel
theorem x198_167 {d : Nat} {l0 l2 l3 l4 l5 l6 l7 l8 : Option Value} {st : List Value} {x : Int32} {h : Hp} : ex (d) 198 167 [l0, some (.int x), l2, l3, l4, l5, l6, l7, l8] st h = ex d 198 168 [l0, some (.int x), l2, l3, l4, l5, l6, l7, l8] (.int x :: st) h := (ex_of d198_167 (d) [l0, some (.int x), l2, l3, l4, l5, l6, l7, l8] st h).trans (rfl)
theorem d198_168 : decode (mB 198) 168 = .ok (.iload 8, 2) := by decide +kernel
theorem x198_168 {d : Nat} {l0 l1 l2 l3 l4 l5 l6 l7 : Option Value} {st : List Value} {x : Int32} {h : Hp} : ex (d) 198 168 [l0, l1, l2, l3, l4, l5, l6, l7, some (.int x)] st h = ex d 198 170 [l0, l1, l2, l3, l4, l5, l6, l7, some (.int x)] (.int x :: st) h := (ex_of d198_168 (d) [l0, l1, l2, l3, l4, l5, l6, l7, some (.int x)] st h).trans (rfl)
theorem d198_170 : decode (mB 198) 170 = .ok (.iconst 0, 1) := by decide +kernel
theorem x198_170 {d : Nat} {L : Lc} {st : List Value} {h : Hp} : ex (d) 198 170 L st h = ex d 198 171 L (.int (nI 0) :: st) h := (ex_of d198_170 (d) L st h).trans (rfl)
theorem d198_171 : decode (mB 198) 171 = .ok (.iconst 0, 1) := by decide +kernel
theorem x198_171 {d : Nat} {L : Lc} {st : List Value} {h : Hp} : ex (d) 198 171 L st h = ex d 198 172 L (.int (nI 0) :: st) h := (ex_of d198_171 (d) L st h).trans (rfl)
theorem d198_172 : decode (mB 198) 172 = .ok (.iconst 0, 1) := by decide +kernel
theorem x198_172 {d : Nat} {L : Lc} {st : List Value} {h : Hp} : ex (d) 198 172 L st h = ex d 198 173 L (.int (nI 0) :: st) h := (ex_of d198_172 (d) L st h).trans (rfl)
theorem d198_173 : decode (mB 198) 173 = .ok (.invokevirtual 157, 3) := by decide +kernel
theorem x198_173 {d : Nat} {L : Lc} {a : Nat} {v0 : Int32} {v1 : Int32} {v2 : Int32} {v3 : Int32} {v4 : Int32} {v5 : Int32} {h : Hp} (ht : (h.2.1 a).1 = 11) : ex (d + 1) 198 173 L (.int v5 :: .int v4 :: .int v3 :: .int v2 :: .int v1 :: .int v0 :: .ref a :: []) h = bnd (ex d 164 0 [some (.ref a), some (.int v0), some (.int v1), some (.int v2), some (.int v3), some (.int v4), some (.int v5), none, none] [] h) (fun v h' => ex (d + 1) 198 176 L (v.toList ++ []) h') := (ex_of d198_173 (d + 1) L (.int v5 :: .int v4 :: .int v3 :: .int v2 :: .int v1 :: .int v0 :: .ref a :: []) h).trans (fin_vi (mi := 198) i11_157 ht rfl rfl (by simp [cat1_i, cat1_r]) (by simp) (Nat.le_of_ble_eq_true rfl))
theorem d198_176 : decode (mB 198) 176 = .ok (.aload_n 0, 1) := by decide +kernel
theorem x198_176 {d : Nat} {l1 l2 l3 l4 l5 l6 l7 l8 : Option Value} {st : List Value} {a : Nat} {h : Hp} : ex (d) 198 176 [some (.ref a), l1, l2, l3, l4, l5, l6, l7, l8] st h = ex d 198 177 [some (.ref a), l1, l2, l3, l4, l5, l6, l7, l8] (.ref a :: st) h := (ex_of d198_176 (d) [some (.ref a), l1, l2, l3, l4, l5, l6, l7, l8] st h).trans (rfl)
theorem d198_177 : decode (mB 198) 177 = .ok (.iload 8, 2) := by decide +kernel
theorem x198_177 {d : Nat} {l0 l1 l2 l3 l4 l5 l6 l7 : Option Value} {st : List Value} {x : Int32} {h : Hp} : ex (d) 198 177 [l0, l1, l2, l3, l4, l5, l6, l7, some (.int x)] st h = ex d 198 179 [l0, l1, l2, l3, l4, l5, l6, l7, some (.int x)] (.int x :: st) h := (ex_of d198_177 (d) [l0, l1, l2, l3, l4, l5, l6, l7, some (.int x)] st h).trans (rfl)
theorem d198_179 : decode (mB 198) 179 = .ok (.invokevirtual 113, 3) := by decide +kernel
theorem x198_179 {d : Nat} {L : Lc} {a : Nat} {v0 : Int32} {h : Hp} (ht : (h.2.1 a).1 = 11) : ex (d + 1) 198 179 L (.int v0 :: .ref a :: []) h = bnd (ex d 134 0 [some (.ref a), some (.int v0)] [] h) (fun v h' => ex (d + 1) 198 182 L (v.toList ++ []) h') := (ex_of d198_179 (d + 1) L (.int v0 :: .ref a :: []) h).trans (fin_vi (mi := 198) i11_113 ht rfl rfl (by simp [cat1_i, cat1_r]) (by simp) (Nat.le_of_ble_eq_true rfl))
theorem d198_182 : decode (mB 198) 182 = .ok (.ireturn, 1) := by decide +kernel
theorem x198_182 {d : Nat} {L : Lc} {x : Int32} {h : Hp} : ex (d) 198 182 L [.int x] h = some (some (.int x), h) := (ex_of d198_182 (d) L [.int x] h).trans (rfl)
theorem d199_0 : decode (mB 199) 0 = .ok (.aload_n 0, 1) := by decide +kernel
theorem x199_0 {d : Nat} {st : List Value} {a : Nat} {h : Hp} : ex (d) 199 0 [some (.ref a)] st h = ex d 199 1 [some (.ref a)] (.ref a :: st) h := (ex_of d199_0 (d) [some (.ref a)] st h).trans (rfl)
theorem d199_1 : decode (mB 199) 1 = .ok (.getfield 174, 3) := by decide +kernel
theorem x199_1 {d : Nat} {L : Lc} {st : List Value} {a : Nat} {h : Hp} (ht : (h.2.1 a).1 = 11) : ex (d) 199 1 L (.ref a :: st) h = ex d 199 4 L (h.1 a 34 :: st) h := (ex_of d199_1 (d) L (.ref a :: st) h).trans (fin_get (mi := 199) f11_174 (tg1 ht rfl))
theorem d199_4 : decode (mB 199) 4 = .ok (.ireturn, 1) := by decide +kernel
theorem x199_4 {d : Nat} {L : Lc} {x : Int32} {h : Hp} : ex (d) 199 4 L [.int x] h = some (some (.int x), h) := (ex_of d199_4 (d) L [.int x] h).trans (rfl)
theorem d200_0 : decode (mB 200) 0 = .ok (.aload_n 0, 1) := by decide +kernel
theorem x200_0 {d : Nat} {st : List Value} {a : Nat} {h : Hp} : ex (d) 200 0 [some (.ref a)] st h = ex d 200 1 [some (.ref a)] (.ref a :: st) h := (ex_of d200_0 (d) [some (.ref a)] st h).trans (rfl)
theorem d200_1 : decode (mB 200) 1 = .ok (.getfield 171, 3) := by decide +kernel
theorem x200_1 {d : Nat} {L : Lc} {st : List Value} {a : Nat} {h : Hp} (ht : (h.2.1 a).1 = 11) : ex (d) 200 1 L (.ref a :: st) h = ex d 200 4 L (h.1 a 18 :: st) h := (ex_of d200_1 (d) L (.ref a :: st) h).trans (fin_get (mi := 200) f11_171 (tg1 ht rfl))
theorem d200_4 : decode (mB 200) 4 = .ok (.ireturn, 1) := by decide +kernel
theorem x200_4 {d : Nat} {L : Lc} {x : Int32} {h : Hp} : ex (d) 200 4 L [.int x] h = some (some (.int x), h) := (ex_of d200_4 (d) L [.int x] h).trans (rfl)
theorem d201_0 : decode (mB 201) 0 = .ok (.iload_n 2, 1) := by decide +kernel
theorem x201_0 {d : Nat} {l0 l1 : Option Value} {st : List Value} {x : Int32} {h : Hp} : ex (d) 201 0 [l0, l1, some (.int x)] st h = ex d 201 1 [l0, l1, some (.int x)] (.int x :: st) h := (ex_of d201_0 (d) [l0, l1, some (.int x)] st h).trans (rfl)
theorem d201_1 : decode (mB 201) 1 = .ok (.ifCond .ne 10, 3) := by decide +kernel
theorem x201_1 {d : Nat} {L : Lc} {st : List Value} {x : Int32} {h : Hp} : ex (d) 201 1 L (.int x :: st) h = if ¬ x = 0 then ex d 201 11 L st h else ex d 201 4 L st h := (ex_of d201_1 (d) L (.int x :: st) h).trans (fin_brq (off := 10) (tgt := 11) rfl (by decide))
theorem d201_4 : decode (mB 201) 4 = .ok (.aload_n 0, 1) := by decide +kernel
theorem x201_4 {d : Nat} {l1 l2 : Option Value} {st : List Value} {a : Nat} {h : Hp} : ex (d) 201 4 [some (.ref a), l1, l2] st h = ex d 201 5 [some (.ref a), l1, l2] (.ref a :: st) h := (ex_of d201_4 (d) [some (.ref a), l1, l2] st h).trans (rfl)
theorem d201_5 : decode (mB 201) 5 = .ok (.bipush 7, 2) := by decide +kernel
theorem x201_5 {d : Nat} {L : Lc} {st : List Value} {h : Hp} : ex (d) 201 5 L st h = ex d 201 7 L (.int (nI 7) :: st) h := (ex_of d201_5 (d) L st h).trans (rfl)
theorem d201_7 : decode (mB 201) 7 = .ok (.invokevirtual 109, 3) := by decide +kernel
theorem x201_7 {d : Nat} {L : Lc} {a : Nat} {v0 : Int32} {h : Hp} (ht : (h.2.1 a).1 = 11) : ex (d + 1) 201 7 L (.int v0 :: .ref a :: []) h = bnd (ex d 135 0 [some (.ref a), some (.int v0)] [] h) (fun v h' => ex (d + 1) 201 10 L (v.toList ++ []) h') := (ex_of d201_7 (d + 1) L (.int v0 :: .ref a :: []) h).trans (fin_vi (mi := 201) i11_109 ht rfl rfl (by simp [cat1_i, cat1_r]) (by simp) (Nat.le_of_ble_eq_true rfl))
theorem d201_10 : decode (mB 201) 10 = .ok (.ireturn, 1) := by decide +kernel
theorem x201_10 {d : Nat} {L : Lc} {x : Int32} {h : Hp} : ex (d) 201 10 L [.int x] h = some (some (.int x), h) := (ex_of d201_10 (d) L [.int x] h).trans (rfl)
theorem d201_11 : decode (mB 201) 11 = .ok (.iload_n 2, 1) := by decide +kernel
theorem x201_11 {d : Nat} {l0 l1 : Option Value} {st : List Value} {x : Int32} {h : Hp} : ex (d) 201 11 [l0, l1, some (.int x)] st h = ex d 201 12 [l0, l1, some (.int x)] (.int x :: st) h := (ex_of d201_11 (d) [l0, l1, some (.int x)] st h).trans (rfl)
theorem d201_12 : decode (mB 201) 12 = .ok (.ifCond .ge 10, 3) := by decide +kernel
theorem x201_12 {d : Nat} {L : Lc} {st : List Value} {x : Int32} {h : Hp} : ex (d) 201 12 L (.int x :: st) h = if 0 ≤ x then ex d 201 22 L st h else ex d 201 15 L st h := (ex_of d201_12 (d) L (.int x :: st) h).trans (fin_brq (off := 10) (tgt := 22) rfl (by decide))
theorem d201_15 : decode (mB 201) 15 = .ok (.aload_n 0, 1) := by decide +kernel
theorem x201_15 {d : Nat} {l1 l2 : Option Value} {st : List Value} {a : Nat} {h : Hp} : ex (d) 201 15 [some (.ref a), l1, l2] st h = ex d 201 16 [some (.ref a), l1, l2] (.ref a :: st) h := (ex_of d201_15 (d) [some (.ref a), l1, l2] st h).trans (rfl)
theorem d201_16 : decode (mB 201) 16 = .ok (.bipush 6, 2) := by decide +kernel
theorem x201_16 {d : Nat} {L : Lc} {st : List Value} {h : Hp} : ex (d) 201 16 L st h = ex d 201 18 L (.int (nI 6) :: st) h := (ex_of d201_16 (d) L st h).trans (rfl)
theorem d201_18 : decode (mB 201) 18 = .ok (.invokevirtual 109, 3) := by decide +kernel
theorem x201_18 {d : Nat} {L : Lc} {a : Nat} {v0 : Int32} {h : Hp} (ht : (h.2.1 a).1 = 11) : ex (d + 1) 201 18 L (.int v0 :: .ref a :: []) h = bnd (ex d 135 0 [some (.ref a), some (.int v0)] [] h) (fun v h' => ex (d + 1) 201 21 L (v.toList ++ []) h') := (ex_of d201_18 (d + 1) L (.int v0 :: .ref a :: []) h).trans (fin_vi (mi := 201) i11_109 ht rfl rfl (by simp [cat1_i, cat1_r]) (by simp) (Nat.le_of_ble_eq_true rfl))
theorem d201_21 : decode (mB 201) 21 = .ok (.ireturn, 1) := by decide +kernel
theorem x201_21 {d : Nat} {L : Lc} {x : Int32} {h : Hp} : ex (d) 201 21 L [.int x] h = some (some (.int x), h) := (ex_of d201_21 (d) L [.int x] h).trans (rfl)
theorem d201_22 : decode (mB 201) 22 = .ok (.iload_n 1, 1) := by decide +kernel
theorem x201_22 {d : Nat} {l0 l2 : Option Value} {st : List Value} {x : Int32} {h : Hp} : ex (d) 201 22 [l0, some (.int x), l2] st h = ex d 201 23 [l0, some (.int x), l2] (.int x :: st) h := (ex_of d201_22 (d) [l0, some (.int x), l2] st h).trans (rfl)
theorem d201_23 : decode (mB 201) 23 = .ok (.iconst 0, 1) := by decide +kernel
theorem x201_23 {d : Nat} {L : Lc} {st : List Value} {h : Hp} : ex (d) 201 23 L st h = ex d 201 24 L (.int (nI 0) :: st) h := (ex_of d201_23 (d) L st h).trans (rfl)
theorem d201_24 : decode (mB 201) 24 = .ok (.iload_n 2, 1) := by decide +kernel
theorem x201_24 {d : Nat} {l0 l1 : Option Value} {st : List Value} {x : Int32} {h : Hp} : ex (d) 201 24 [l0, l1, some (.int x)] st h = ex d 201 25 [l0, l1, some (.int x)] (.int x :: st) h := (ex_of d201_24 (d) [l0, l1, some (.int x)] st h).trans (rfl)
theorem d201_25 : decode (mB 201) 25 = .ok (.iconst 1, 1) := by decide +kernel
theorem x201_25 {d : Nat} {L : Lc} {st : List Value} {h : Hp} : ex (d) 201 25 L st h = ex d 201 26 L (.int (nI 1) :: st) h := (ex_of d201_25 (d) L st h).trans (rfl)
theorem d201_26 : decode (mB 201) 26 = .ok (.isub, 1) := by decide +kernel
theorem x201_26 {d : Nat} {L : Lc} {st : List Value} {x y : Int32} {h : Hp} : ex (d) 201 26 L (.int y :: .int x :: st) h = ex d 201 27 L (.int (x - y) :: st) h := (ex_of d201_26 (d) L (.int y :: .int x :: st) h).trans (rfl)
theorem d201_27 : decode (mB 201) 27 = .ok (.invokestatic 101, 3) := by decide +kernel
theorem x201_27 {d : Nat} {L : Lc}  {v0 : Int32} {v1 : Int32} {v2 : Int32} {h : Hp} : ex (d + 1) 201 27 L (.int v2 :: .int v1 :: .int v0 :: []) h = bnd (ex d 137 0 [some (.int v0), some (.int v1), some (.int v2)] [] h) (fun v h' => ex (d + 1) 201 30 L (v.toList ++ []) h') := (ex_of d201_27 (d + 1) L (.int v2 :: .int v1 :: .int v0 :: []) h).trans (fin_st (mi := 201) i11_101 (Or.inl rfl) (by simp) (by simp [cat1_i, cat1_r]) (by simp) (Nat.le_of_ble_eq_true rfl))
theorem d201_30 : decode (mB 201) 30 = .ok (.ifCond .eq 32, 3) := by decide +kernel
theorem x201_30 {d : Nat} {L : Lc} {st : List Value} {x : Int32} {h : Hp} : ex (d) 201 30 L (.int x :: st) h = if x = 0 then ex d 201 62 L st h else ex d 201 33 L st h := (ex_of d201_30 (d) L (.int x :: st) h).trans (fin_brq (off := 32) (tgt := 62) rfl (by decide))
theorem d201_33 : decode (mB 201) 33 = .ok (.aload_n 0, 1) := by decide +kernel
theorem x201_33 {d : Nat} {l1 l2 : Option Value} {st : List Value} {a : Nat} {h : Hp} : ex (d) 201 33 [some (.ref a), l1, l2] st h = ex d 201 34 [some (.ref a), l1, l2] (.ref a :: st) h := (ex_of d201_33 (d) [some (.ref a), l1, l2] st h).trans (rfl)
theorem d201_34 : decode (mB 201) 34 = .ok (.aload_n 0, 1) := by decide +kernel
theorem x201_34 {d : Nat} {l1 l2 : Option Value} {st : List Value} {a : Nat} {h : Hp} : ex (d) 201 34 [some (.ref a), l1, l2] st h = ex d 201 35 [some (.ref a), l1, l2] (.ref a :: st) h := (ex_of d201_34 (d) [some (.ref a), l1, l2] st h).trans (rfl)
theorem d201_35 : decode (mB 201) 35 = .ok (.getfield 174, 3) := by decide +kernel
theorem x201_35 {d : Nat} {L : Lc} {st : List Value} {a : Nat} {h : Hp} (ht : (h.2.1 a).1 = 11) : ex (d) 201 35 L (.ref a :: st) h = ex d 201 38 L (h.1 a 34 :: st) h := (ex_of d201_35 (d) L (.ref a :: st) h).trans (fin_get (mi := 201) f11_174 (tg1 ht rfl))
theorem d201_38 : decode (mB 201) 38 = .ok (.iload_n 2, 1) := by decide +kernel
theorem x201_38 {d : Nat} {l0 l1 : Option Value} {st : List Value} {x : Int32} {h : Hp} : ex (d) 201 38 [l0, l1, some (.int x)] st h = ex d 201 39 [l0, l1, some (.int x)] (.int x :: st) h := (ex_of d201_38 (d) [l0, l1, some (.int x)] st h).trans (rfl)
theorem d201_39 : decode (mB 201) 39 = .ok (.idiv, 1) := by decide +kernel
theorem x201_39 {d : Nat} {L : Lc} {st : List Value} {x y : Int32} {h : Hp} (hy : ¬ y = 0) : ex (d) 201 39 L (.int y :: .int x :: st) h = ex d 201 40 L (.int (x / y) :: st) h := (ex_of d201_39 (d) L (.int y :: .int x :: st) h).trans (fin_div hy)
theorem d201_40 : decode (mB 201) 40 = .ok (.iload_n 1, 1) := by decide +kernel
theorem x201_40 {d : Nat} {l0 l2 : Option Value} {st : List Value} {x : Int32} {h : Hp} : ex (d) 201 40 [l0, some (.int x), l2] st h = ex d 201 41 [l0, some (.int x), l2] (.int x :: st) h := (ex_of d201_40 (d) [l0, some (.int x), l2] st h).trans (rfl)
theorem d201_41 : decode (mB 201) 41 = .ok (.aload_n 0, 1) := by decide +kernel
theorem x201_41 {d : Nat} {l1 l2 : Option Value} {st : List Value} {a : Nat} {h : Hp} : ex (d) 201 41 [some (.ref a), l1, l2] st h = ex d 201 42 [some (.ref a), l1, l2] (.ref a :: st) h := (ex_of d201_41 (d) [some (.ref a), l1, l2] st h).trans (rfl)
theorem d201_42 : decode (mB 201) 42 = .ok (.getfield 174, 3) := by decide +kernel
theorem x201_42 {d : Nat} {L : Lc} {st : List Value} {a : Nat} {h : Hp} (ht : (h.2.1 a).1 = 11) : ex (d) 201 42 L (.ref a :: st) h = ex d 201 45 L (h.1 a 34 :: st) h := (ex_of d201_42 (d) L (.ref a :: st) h).trans (fin_get (mi := 201) f11_174 (tg1 ht rfl))
theorem d201_45 : decode (mB 201) 45 = .ok (.iload_n 2, 1) := by decide +kernel
theorem x201_45 {d : Nat} {l0 l1 : Option Value} {st : List Value} {x : Int32} {h : Hp} : ex (d) 201 45 [l0, l1, some (.int x)] st h = ex d 201 46 [l0, l1, some (.int x)] (.int x :: st) h := (ex_of d201_45 (d) [l0, l1, some (.int x)] st h).trans (rfl)
theorem d201_46 : decode (mB 201) 46 = .ok (.irem, 1) := by decide +kernel
theorem x201_46 {d : Nat} {L : Lc} {st : List Value} {x y : Int32} {h : Hp} (hy : ¬ y = 0) : ex (d) 201 46 L (.int y :: .int x :: st) h = ex d 201 47 L (.int (x - (x / y) * y) :: st) h := (ex_of d201_46 (d) L (.int y :: .int x :: st) h).trans (fin_rem hy)
theorem d201_47 : decode (mB 201) 47 = .ok (.if_icmp .ge 7, 3) := by decide +kernel
theorem x201_47 {d : Nat} {L : Lc} {st : List Value} {x y : Int32} {h : Hp} : ex (d) 201 47 L (.int y :: .int x :: st) h = if y ≤ x then ex d 201 54 L st h else ex d 201 50 L st h := (ex_of d201_47 (d) L (.int y :: .int x :: st) h).trans (fin_brq (off := 7) (tgt := 54) rfl (by decide))
theorem d201_50 : decode (mB 201) 50 = .ok (.iconst 1, 1) := by decide +kernel
theorem x201_50 {d : Nat} {L : Lc} {st : List Value} {h : Hp} : ex (d) 201 50 L st h = ex d 201 51 L (.int (nI 1) :: st) h := (ex_of d201_50 (d) L st h).trans (rfl)
theorem d201_51 : decode (mB 201) 51 = .ok (.goto 4, 3) := by decide +kernel
theorem x201_51 {d : Nat} {L : Lc} {st : List Value} {h : Hp} : ex (d) 201 51 L st h = ex d 201 55 L st h := (ex_of d201_51 (d) L st h).trans (rfl)
theorem d201_54 : decode (mB 201) 54 = .ok (.iconst 0, 1) := by decide +kernel
theorem x201_54 {d : Nat} {L : Lc} {st : List Value} {h : Hp} : ex (d) 201 54 L st h = ex d 201 55 L (.int (nI 0) :: st) h := (ex_of d201_54 (d) L st h).trans (rfl)
theorem d201_55 : decode (mB 201) 55 = .ok (.iadd, 1) := by decide +kernel
theorem x201_55 {d : Nat} {L : Lc} {st : List Value} {x y : Int32} {h : Hp} : ex (d) 201 55 L (.int y :: .int x :: st) h = ex d 201 56 L (.int (x + y) :: st) h := (ex_of d201_55 (d) L (.int y :: .int x :: st) h).trans (rfl)
theorem d201_56 : decode (mB 201) 56 = .ok (.invokevirtual 113, 3) := by decide +kernel
theorem x201_56 {d : Nat} {L : Lc} {a : Nat} {v0 : Int32} {h : Hp} (ht : (h.2.1 a).1 = 11) : ex (d + 1) 201 56 L (.int v0 :: .ref a :: []) h = bnd (ex d 134 0 [some (.ref a), some (.int v0)] [] h) (fun v h' => ex (d + 1) 201 59 L (v.toList ++ []) h') := (ex_of d201_56 (d + 1) L (.int v0 :: .ref a :: []) h).trans (fin_vi (mi := 201) i11_113 ht rfl rfl (by simp [cat1_i, cat1_r]) (by simp) (Nat.le_of_ble_eq_true rfl))
theorem d201_59 : decode (mB 201) 59 = .ok (.goto 8, 3) := by decide +kernel
theorem x201_59 {d : Nat} {L : Lc} {st : List Value} {h : Hp} : ex (d) 201 59 L st h = ex d 201 67 L st h := (ex_of d201_59 (d) L st h).trans (rfl)
theorem d201_62 : decode (mB 201) 62 = .ok (.aload_n 0, 1) := by decide +kernel
theorem x201_62 {d : Nat} {l1 l2 : Option Value} {st : List Value} {a : Nat} {h : Hp} : ex (d) 201 62 [some (.ref a), l1, l2] st h = ex d 201 63 [some (.ref a), l1, l2] (.ref a :: st) h := (ex_of d201_62 (d) [some (.ref a), l1, l2] st h).trans (rfl)
theorem d201_63 : decode (mB 201) 63 = .ok (.iconst 2, 1) := by decide +kernel
theorem x201_63 {d : Nat} {L : Lc} {st : List Value} {h : Hp} : ex (d) 201 63 L st h = ex d 201 64 L (.int (nI 2) :: st) h := (ex_of d201_63 (d) L st h).trans (rfl)
theorem d201_64 : decode (mB 201) 64 = .ok (.invokevirtual 109, 3) := by decide +kernel
theorem x201_64 {d : Nat} {L : Lc} {a : Nat} {v0 : Int32} {h : Hp} (ht : (h.2.1 a).1 = 11) : ex (d + 1) 201 64 L (.int v0 :: .ref a :: []) h = bnd (ex d 135 0 [some (.ref a), some (.int v0)] [] h) (fun v h' => ex (d + 1) 201 67 L (v.toList ++ []) h') := (ex_of d201_64 (d + 1) L (.int v0 :: .ref a :: []) h).trans (fin_vi (mi := 201) i11_109 ht rfl rfl (by simp [cat1_i, cat1_r]) (by simp) (Nat.le_of_ble_eq_true rfl))
theorem d201_67 : decode (mB 201) 67 = .ok (.ireturn, 1) := by decide +kernel
theorem x201_67 {d : Nat} {L : Lc} {x : Int32} {h : Hp} : ex (d) 201 67 L [.int x] h = some (some (.int x), h) := (ex_of d201_67 (d) L [.int x] h).trans (rfl)
theorem d202_0 : decode (mB 202) 0 = .ok (.iload_n 0, 1) := by decide +kernel
theorem x202_0 {d : Nat} {l1 : Option Value} {st : List Value} {x : Int32} {h : Hp} : ex (d) 202 0 [some (.int x), l1] st h = ex d 202 1 [some (.int x), l1] (.int x :: st) h := (ex_of d202_0 (d) [some (.int x), l1] st h).trans (rfl)
theorem d202_1 : decode (mB 202) 1 = .ok (.iload_n 1, 1) := by decide +kernel
theorem x202_1 {d : Nat} {l0 : Option Value} {st : List Value} {x : Int32} {h : Hp} : ex (d) 202 1 [l0, some (.int x)] st h = ex d 202 2 [l0, some (.int x)] (.int x :: st) h := (ex_of d202_1 (d) [l0, some (.int x)] st h).trans (rfl)
theorem d202_2 : decode (mB 202) 2 = .ok (.if_icmp .eq 22, 3) := by decide +kernel
theorem x202_2 {d : Nat} {L : Lc} {st : List Value} {x y : Int32} {h : Hp} : ex (d) 202 2 L (.int y :: .int x :: st) h = if x = y then ex d 202 24 L st h else ex d 202 5 L st h := (ex_of d202_2 (d) L (.int y :: .int x :: st) h).trans (fin_brq (off := 22) (tgt := 24) rfl (by decide))
theorem d202_5 : decode (mB 202) 5 = .ok (.iload_n 1, 1) := by decide +kernel
theorem x202_5 {d : Nat} {l0 : Option Value} {st : List Value} {x : Int32} {h : Hp} : ex (d) 202 5 [l0, some (.int x)] st h = ex d 202 6 [l0, some (.int x)] (.int x :: st) h := (ex_of d202_5 (d) [l0, some (.int x)] st h).trans (rfl)
theorem d202_6 : decode (mB 202) 6 = .ok (.ifCond .ne 8, 3) := by decide +kernel
theorem x202_6 {d : Nat} {L : Lc} {st : List Value} {x : Int32} {h : Hp} : ex (d) 202 6 L (.int x :: st) h = if ¬ x = 0 then ex d 202 14 L st h else ex d 202 9 L st h := (ex_of d202_6 (d) L (.int x :: st) h).trans (fin_brq (off := 8) (tgt := 14) rfl (by decide))
theorem d202_9 : decode (mB 202) 9 = .ok (.iload_n 0, 1) := by decide +kernel
theorem x202_9 {d : Nat} {l1 : Option Value} {st : List Value} {x : Int32} {h : Hp} : ex (d) 202 9 [some (.int x), l1] st h = ex d 202 10 [some (.int x), l1] (.int x :: st) h := (ex_of d202_9 (d) [some (.int x), l1] st h).trans (rfl)
theorem d202_10 : decode (mB 202) 10 = .ok (.iconst 2, 1) := by decide +kernel
theorem x202_10 {d : Nat} {L : Lc} {st : List Value} {h : Hp} : ex (d) 202 10 L st h = ex d 202 11 L (.int (nI 2) :: st) h := (ex_of d202_10 (d) L st h).trans (rfl)
theorem d202_11 : decode (mB 202) 11 = .ok (.if_icmp .le 13, 3) := by decide +kernel
theorem x202_11 {d : Nat} {L : Lc} {st : List Value} {x y : Int32} {h : Hp} : ex (d) 202 11 L (.int y :: .int x :: st) h = if x ≤ y then ex d 202 24 L st h else ex d 202 14 L st h := (ex_of d202_11 (d) L (.int y :: .int x :: st) h).trans (fin_brq (off := 13) (tgt := 24) rfl (by decide))
theorem d202_14 : decode (mB 202) 14 = .ok (.iload_n 1, 1) := by decide +kernel
theorem x202_14 {d : Nat} {l0 : Option Value} {st : List Value} {x : Int32} {h : Hp} : ex (d) 202 14 [l0, some (.int x)] st h = ex d 202 15 [l0, some (.int x)] (.int x :: st) h := (ex_of d202_14 (d) [l0, some (.int x)] st h).trans (rfl)
theorem d202_15 : decode (mB 202) 15 = .ok (.iconst 1, 1) := by decide +kernel
theorem x202_15 {d : Nat} {L : Lc} {st : List Value} {h : Hp} : ex (d) 202 15 L st h = ex d 202 16 L (.int (nI 1) :: st) h := (ex_of d202_15 (d) L st h).trans (rfl)
theorem d202_16 : decode (mB 202) 16 = .ok (.if_icmp .ne 12, 3) := by decide +kernel
theorem x202_16 {d : Nat} {L : Lc} {st : List Value} {x y : Int32} {h : Hp} : ex (d) 202 16 L (.int y :: .int x :: st) h = if ¬ x = y then ex d 202 28 L st h else ex d 202 19 L st h := (ex_of d202_16 (d) L (.int y :: .int x :: st) h).trans (fin_brq (off := 12) (tgt := 28) rfl (by decide))
theorem d202_19 : decode (mB 202) 19 = .ok (.iload_n 0, 1) := by decide +kernel
theorem x202_19 {d : Nat} {l1 : Option Value} {st : List Value} {x : Int32} {h : Hp} : ex (d) 202 19 [some (.int x), l1] st h = ex d 202 20 [some (.int x), l1] (.int x :: st) h := (ex_of d202_19 (d) [some (.int x), l1] st h).trans (rfl)
theorem d202_20 : decode (mB 202) 20 = .ok (.iconst 2, 1) := by decide +kernel
theorem x202_20 {d : Nat} {L : Lc} {st : List Value} {h : Hp} : ex (d) 202 20 L st h = ex d 202 21 L (.int (nI 2) :: st) h := (ex_of d202_20 (d) L st h).trans (rfl)
theorem d202_21 : decode (mB 202) 21 = .ok (.if_icmp .ne 7, 3) := by decide +kernel
theorem x202_21 {d : Nat} {L : Lc} {st : List Value} {x y : Int32} {h : Hp} : ex (d) 202 21 L (.int y :: .int x :: st) h = if ¬ x = y then ex d 202 28 L st h else ex d 202 24 L st h := (ex_of d202_21 (d) L (.int y :: .int x :: st) h).trans (fin_brq (off := 7) (tgt := 28) rfl (by decide))
theorem d202_24 : decode (mB 202) 24 = .ok (.iconst 1, 1) := by decide +kernel
theorem x202_24 {d : Nat} {L : Lc} {st : List Value} {h : Hp} : ex (d) 202 24 L st h = ex d 202 25 L (.int (nI 1) :: st) h := (ex_of d202_24 (d) L st h).trans (rfl)
theorem d202_25 : decode (mB 202) 25 = .ok (.goto 4, 3) := by decide +kernel
theorem x202_25 {d : Nat} {L : Lc} {st : List Value} {h : Hp} : ex (d) 202 25 L st h = ex d 202 29 L st h := (ex_of d202_25 (d) L st h).trans (rfl)
theorem d202_28 : decode (mB 202) 28 = .ok (.iconst 0, 1) := by decide +kernel
theorem x202_28 {d : Nat} {L : Lc} {st : List Value} {h : Hp} : ex (d) 202 28 L st h = ex d 202 29 L (.int (nI 0) :: st) h := (ex_of d202_28 (d) L st h).trans (rfl)
theorem d202_29 : decode (mB 202) 29 = .ok (.ireturn, 1) := by decide +kernel
theorem x202_29 {d : Nat} {L : Lc} {x : Int32} {h : Hp} (hx : x = 0 ∨ x = 1) : ex (d) 202 29 L [.int x] h = some (some (.int x), h) := (ex_of d202_29 (d) L [.int x] h).trans (fin_retb rfl hx)
theorem d203_0 : decode (mB 203) 0 = .ok (.iconst 1, 1) := by decide +kernel
theorem x203_0 {d : Nat} {L : Lc} {st : List Value} {h : Hp} : ex (d) 203 0 L st h = ex d 203 1 L (.int (nI 1) :: st) h := (ex_of d203_0 (d) L st h).trans (rfl)
theorem d203_1 : decode (mB 203) 1 = .ok (.istore 4, 2) := by decide +kernel
theorem x203_1 {d : Nat} {l0 l1 l2 l3 l4 l5 l6 l7 : Option Value} {st : List Value} {x : Int32} {h : Hp} : ex (d) 203 1 [l0, l1, l2, l3, l4, l5, l6, l7] (.int x :: st) h = ex d 203 3 [l0, l1, l2, clr l3, some (.int x), l5, l6, l7] st h := (ex_of d203_1 (d) [l0, l1, l2, l3, l4, l5, l6, l7] (.int x :: st) h).trans (rfl)
theorem d203_3 : decode (mB 203) 3 = .ok (.aload_n 0, 1) := by decide +kernel
theorem x203_3 {d : Nat} {l1 l2 l3 l4 l5 l6 l7 : Option Value} {st : List Value} {a : Nat} {h : Hp} : ex (d) 203 3 [some (.ref a), l1, l2, l3, l4, l5, l6, l7] st h = ex d 203 4 [some (.ref a), l1, l2, l3, l4, l5, l6, l7] (.ref a :: st) h := (ex_of d203_3 (d) [some (.ref a), l1, l2, l3, l4, l5, l6, l7] st h).trans (rfl)
theorem d203_4 : decode (mB 203) 4 = .ok (.getfield 85, 3) := by decide +kernel
theorem x203_4 {d : Nat} {L : Lc} {st : List Value} {a : Nat} {h : Hp} (ht : (h.2.1 a).1 = 11) : ex (d) 203 4 L (.ref a :: st) h = ex d 203 7 L (h.1 a 39 :: st) h := (ex_of d203_4 (d) L (.ref a :: st) h).trans (fin_get (mi := 203) f11_85 (tg1 ht rfl))
theorem d203_7 : decode (mB 203) 7 = .ok (.iconst 0, 1) := by decide +kernel
theorem x203_7 {d : Nat} {L : Lc} {st : List Value} {h : Hp} : ex (d) 203 7 L st h = ex d 203 8 L (.int (nI 0) :: st) h := (ex_of d203_7 (d) L st h).trans (rfl)
theorem d203_8 : decode (mB 203) 8 = .ok (.iload_n 1, 1) := by decide +kernel
theorem x203_8 {d : Nat} {l0 l2 l3 l4 l5 l6 l7 : Option Value} {st : List Value} {x : Int32} {h : Hp} : ex (d) 203 8 [l0, some (.int x), l2, l3, l4, l5, l6, l7] st h = ex d 203 9 [l0, some (.int x), l2, l3, l4, l5, l6, l7] (.int x :: st) h := (ex_of d203_8 (d) [l0, some (.int x), l2, l3, l4, l5, l6, l7] st h).trans (rfl)
theorem d203_9 : decode (mB 203) 9 = .ok (.iastore, 1) := by decide +kernel
theorem x203_9 {d : Nat} {L : Lc} {st : List Value} {a j : Nat} {x : Int32} {h : Hp} (ht : (h.2.1 a).1 = 20) (hj : j < (h.2.1 a).2) (hb : j < 2147483648) : ex (d) 203 9 L (.int x :: .int (nI j) :: .ref a :: st) h = ex d 203 10 L st (mup h.1 a j (.int x), h.2) := (ex_of d203_9 (d) L (.int x :: .int (nI j) :: .ref a :: st) h).trans (fin_iastore ht hj hb)
theorem d203_10 : decode (mB 203) 10 = .ok (.aload_n 0, 1) := by decide +kernel
theorem x203_10 {d : Nat} {l1 l2 l3 l4 l5 l6 l7 : Option Value} {st : List Value} {a : Nat} {h : Hp} : ex (d) 203 10 [some (.ref a), l1, l2, l3, l4, l5, l6, l7] st h = ex d 203 11 [some (.ref a), l1, l2, l3, l4, l5, l6, l7] (.ref a :: st) h := (ex_of d203_10 (d) [some (.ref a), l1, l2, l3, l4, l5, l6, l7] st h).trans (rfl)
theorem d203_11 : decode (mB 203) 11 = .ok (.getfield 88, 3) := by decide +kernel
theorem x203_11 {d : Nat} {L : Lc} {st : List Value} {a : Nat} {h : Hp} (ht : (h.2.1 a).1 = 11) : ex (d) 203 11 L (.ref a :: st) h = ex d 203 14 L (h.1 a 40 :: st) h := (ex_of d203_11 (d) L (.ref a :: st) h).trans (fin_get (mi := 203) f11_88 (tg1 ht rfl))
theorem d203_14 : decode (mB 203) 14 = .ok (.iconst 0, 1) := by decide +kernel
theorem x203_14 {d : Nat} {L : Lc} {st : List Value} {h : Hp} : ex (d) 203 14 L st h = ex d 203 15 L (.int (nI 0) :: st) h := (ex_of d203_14 (d) L st h).trans (rfl)
theorem d203_15 : decode (mB 203) 15 = .ok (.iconst 0, 1) := by decide +kernel
theorem x203_15 {d : Nat} {L : Lc} {st : List Value} {h : Hp} : ex (d) 203 15 L st h = ex d 203 16 L (.int (nI 0) :: st) h := (ex_of d203_15 (d) L st h).trans (rfl)
theorem d203_16 : decode (mB 203) 16 = .ok (.iastore, 1) := by decide +kernel
theorem x203_16 {d : Nat} {L : Lc} {st : List Value} {a j : Nat} {x : Int32} {h : Hp} (ht : (h.2.1 a).1 = 20) (hj : j < (h.2.1 a).2) (hb : j < 2147483648) : ex (d) 203 16 L (.int x :: .int (nI j) :: .ref a :: st) h = ex d 203 17 L st (mup h.1 a j (.int x), h.2) := (ex_of d203_16 (d) L (.int x :: .int (nI j) :: .ref a :: st) h).trans (fin_iastore ht hj hb)
theorem d203_17 : decode (mB 203) 17 = .ok (.aload_n 0, 1) := by decide +kernel
theorem x203_17 {d : Nat} {l1 l2 l3 l4 l5 l6 l7 : Option Value} {st : List Value} {a : Nat} {h : Hp} : ex (d) 203 17 [some (.ref a), l1, l2, l3, l4, l5, l6, l7] st h = ex d 203 18 [some (.ref a), l1, l2, l3, l4, l5, l6, l7] (.ref a :: st) h := (ex_of d203_17 (d) [some (.ref a), l1, l2, l3, l4, l5, l6, l7] st h).trans (rfl)
theorem d203_18 : decode (mB 203) 18 = .ok (.dup, 1) := by decide +kernel
theorem x203_18 {d : Nat} {L : Lc} {st : List Value} {a : Nat} {h : Hp} : ex (d) 203 18 L (.ref a :: st) h = ex d 203 19 L (.ref a :: .ref a :: st) h := (ex_of d203_18 (d) L (.ref a :: st) h).trans (rfl)
theorem x203_18i {d : Nat} {L : Lc} {st : List Value} {x : Int32} {h : Hp} : ex (d) 203 18 L (.int x :: st) h = ex d 203 19 L (.int x :: .int x :: st) h := (ex_of d203_18 (d) L (.int x :: st) h).trans (rfl)
theorem d203_19 : decode (mB 203) 19 = .ok (.getfield 129, 3) := by decide +kernel
theorem x203_19 {d : Nat} {L : Lc} {st : List Value} {a : Nat} {h : Hp} (ht : (h.2.1 a).1 = 11) : ex (d) 203 19 L (.ref a :: st) h = ex d 203 22 L (h.1 a 15 :: st) h := (ex_of d203_19 (d) L (.ref a :: st) h).trans (fin_get (mi := 203) f11_129 (tg1 ht rfl))
theorem d203_22 : decode (mB 203) 22 = .ok (.iconst 1, 1) := by decide +kernel
theorem x203_22 {d : Nat} {L : Lc} {st : List Value} {h : Hp} : ex (d) 203 22 L st h = ex d 203 23 L (.int (nI 1) :: st) h := (ex_of d203_22 (d) L st h).trans (rfl)
theorem d203_23 : decode (mB 203) 23 = .ok (.iadd, 1) := by decide +kernel
theorem x203_23 {d : Nat} {L : Lc} {st : List Value} {x y : Int32} {h : Hp} : ex (d) 203 23 L (.int y :: .int x :: st) h = ex d 203 24 L (.int (x + y) :: st) h := (ex_of d203_23 (d) L (.int y :: .int x :: st) h).trans (rfl)
theorem d203_24 : decode (mB 203) 24 = .ok (.putfield 129, 3) := by decide +kernel
theorem x203_24 {d : Nat} {L : Lc} {st : List Value} {a : Nat} {x : Int32} {h : Hp} (ht : (h.2.1 a).1 = 11) : ex (d) 203 24 L (.int x :: .ref a :: st) h = ex d 203 27 L st (mup h.1 a 15 (.int x), h.2) := (ex_of d203_24 (d) L (.int x :: .ref a :: st) h).trans (fin_put (mi := 203) f11_129 ht rfl rfl (by decide +kernel))
theorem d203_27 : decode (mB 203) 27 = .ok (.iload 4, 2) := by decide +kernel
theorem x203_27 {d : Nat} {l0 l1 l2 l3 l5 l6 l7 : Option Value} {st : List Value} {x : Int32} {h : Hp} : ex (d) 203 27 [l0, l1, l2, l3, some (.int x), l5, l6, l7] st h = ex d 203 29 [l0, l1, l2, l3, some (.int x), l5, l6, l7] (.int x :: st) h := (ex_of d203_27 (d) [l0, l1, l2, l3, some (.int x), l5, l6, l7] st h).trans (rfl)
theorem d203_29 : decode (mB 203) 29 = .ok (.ifCond .le 187, 3) := by decide +kernel
theorem x203_29 {d : Nat} {L : Lc} {st : List Value} {x : Int32} {h : Hp} : ex (d) 203 29 L (.int x :: st) h = if x ≤ 0 then ex d 203 216 L st h else ex d 203 32 L st h := (ex_of d203_29 (d) L (.int x :: st) h).trans (fin_brq (off := 187) (tgt := 216) rfl (by decide))
theorem d203_32 : decode (mB 203) 32 = .ok (.aload_n 0, 1) := by decide +kernel
theorem x203_32 {d : Nat} {l1 l2 l3 l4 l5 l6 l7 : Option Value} {st : List Value} {a : Nat} {h : Hp} : ex (d) 203 32 [some (.ref a), l1, l2, l3, l4, l5, l6, l7] st h = ex d 203 33 [some (.ref a), l1, l2, l3, l4, l5, l6, l7] (.ref a :: st) h := (ex_of d203_32 (d) [some (.ref a), l1, l2, l3, l4, l5, l6, l7] st h).trans (rfl)
theorem d203_33 : decode (mB 203) 33 = .ok (.getfield 85, 3) := by decide +kernel
theorem x203_33 {d : Nat} {L : Lc} {st : List Value} {a : Nat} {h : Hp} (ht : (h.2.1 a).1 = 11) : ex (d) 203 33 L (.ref a :: st) h = ex d 203 36 L (h.1 a 39 :: st) h := (ex_of d203_33 (d) L (.ref a :: st) h).trans (fin_get (mi := 203) f11_85 (tg1 ht rfl))
theorem d203_36 : decode (mB 203) 36 = .ok (.iload 4, 2) := by decide +kernel
theorem x203_36 {d : Nat} {l0 l1 l2 l3 l5 l6 l7 : Option Value} {st : List Value} {x : Int32} {h : Hp} : ex (d) 203 36 [l0, l1, l2, l3, some (.int x), l5, l6, l7] st h = ex d 203 38 [l0, l1, l2, l3, some (.int x), l5, l6, l7] (.int x :: st) h := (ex_of d203_36 (d) [l0, l1, l2, l3, some (.int x), l5, l6, l7] st h).trans (rfl)
theorem d203_38 : decode (mB 203) 38 = .ok (.iconst 1, 1) := by decide +kernel
theorem x203_38 {d : Nat} {L : Lc} {st : List Value} {h : Hp} : ex (d) 203 38 L st h = ex d 203 39 L (.int (nI 1) :: st) h := (ex_of d203_38 (d) L st h).trans (rfl)
theorem d203_39 : decode (mB 203) 39 = .ok (.isub, 1) := by decide +kernel
theorem x203_39 {d : Nat} {L : Lc} {st : List Value} {x y : Int32} {h : Hp} : ex (d) 203 39 L (.int y :: .int x :: st) h = ex d 203 40 L (.int (x - y) :: st) h := (ex_of d203_39 (d) L (.int y :: .int x :: st) h).trans (rfl)
theorem d203_40 : decode (mB 203) 40 = .ok (.iaload, 1) := by decide +kernel
theorem x203_40 {d : Nat} {L : Lc} {st : List Value} {a j : Nat} {h : Hp} (ht : (h.2.1 a).1 = 20) (hj : j < (h.2.1 a).2) (hb : j < 2147483648) : ex (d) 203 40 L (.int (nI j) :: .ref a :: st) h = ex d 203 41 L (h.1 a j :: st) h := (ex_of d203_40 (d) L (.int (nI j) :: .ref a :: st) h).trans (fin_iaload (Or.inl ht) hj hb)
theorem d203_41 : decode (mB 203) 41 = .ok (.istore 5, 2) := by decide +kernel
theorem x203_41 {d : Nat} {l0 l1 l2 l3 l4 l5 l6 l7 : Option Value} {st : List Value} {x : Int32} {h : Hp} : ex (d) 203 41 [l0, l1, l2, l3, l4, l5, l6, l7] (.int x :: st) h = ex d 203 43 [l0, l1, l2, l3, clr l4, some (.int x), l6, l7] st h := (ex_of d203_41 (d) [l0, l1, l2, l3, l4, l5, l6, l7] (.int x :: st) h).trans (rfl)
theorem d203_43 : decode (mB 203) 43 = .ok (.aload_n 0, 1) := by decide +kernel
theorem x203_43 {d : Nat} {l1 l2 l3 l4 l5 l6 l7 : Option Value} {st : List Value} {a : Nat} {h : Hp} : ex (d) 203 43 [some (.ref a), l1, l2, l3, l4, l5, l6, l7] st h = ex d 203 44 [some (.ref a), l1, l2, l3, l4, l5, l6, l7] (.ref a :: st) h := (ex_of d203_43 (d) [some (.ref a), l1, l2, l3, l4, l5, l6, l7] st h).trans (rfl)
theorem d203_44 : decode (mB 203) 44 = .ok (.getfield 88, 3) := by decide +kernel
theorem x203_44 {d : Nat} {L : Lc} {st : List Value} {a : Nat} {h : Hp} (ht : (h.2.1 a).1 = 11) : ex (d) 203 44 L (.ref a :: st) h = ex d 203 47 L (h.1 a 40 :: st) h := (ex_of d203_44 (d) L (.ref a :: st) h).trans (fin_get (mi := 203) f11_88 (tg1 ht rfl))
theorem d203_47 : decode (mB 203) 47 = .ok (.iload 4, 2) := by decide +kernel
theorem x203_47 {d : Nat} {l0 l1 l2 l3 l5 l6 l7 : Option Value} {st : List Value} {x : Int32} {h : Hp} : ex (d) 203 47 [l0, l1, l2, l3, some (.int x), l5, l6, l7] st h = ex d 203 49 [l0, l1, l2, l3, some (.int x), l5, l6, l7] (.int x :: st) h := (ex_of d203_47 (d) [l0, l1, l2, l3, some (.int x), l5, l6, l7] st h).trans (rfl)
theorem d203_49 : decode (mB 203) 49 = .ok (.iconst 1, 1) := by decide +kernel
theorem x203_49 {d : Nat} {L : Lc} {st : List Value} {h : Hp} : ex (d) 203 49 L st h = ex d 203 50 L (.int (nI 1) :: st) h := (ex_of d203_49 (d) L st h).trans (rfl)
theorem d203_50 : decode (mB 203) 50 = .ok (.isub, 1) := by decide +kernel
theorem x203_50 {d : Nat} {L : Lc} {st : List Value} {x y : Int32} {h : Hp} : ex (d) 203 50 L (.int y :: .int x :: st) h = ex d 203 51 L (.int (x - y) :: st) h := (ex_of d203_50 (d) L (.int y :: .int x :: st) h).trans (rfl)
theorem d203_51 : decode (mB 203) 51 = .ok (.iaload, 1) := by decide +kernel
theorem x203_51 {d : Nat} {L : Lc} {st : List Value} {a j : Nat} {h : Hp} (ht : (h.2.1 a).1 = 20) (hj : j < (h.2.1 a).2) (hb : j < 2147483648) : ex (d) 203 51 L (.int (nI j) :: .ref a :: st) h = ex d 203 52 L (h.1 a j :: st) h := (ex_of d203_51 (d) L (.int (nI j) :: .ref a :: st) h).trans (fin_iaload (Or.inl ht) hj hb)
theorem d203_52 : decode (mB 203) 52 = .ok (.istore 6, 2) := by decide +kernel
theorem x203_52 {d : Nat} {l0 l1 l2 l3 l4 l5 l6 l7 : Option Value} {st : List Value} {x : Int32} {h : Hp} : ex (d) 203 52 [l0, l1, l2, l3, l4, l5, l6, l7] (.int x :: st) h = ex d 203 54 [l0, l1, l2, l3, l4, clr l5, some (.int x), l7] st h := (ex_of d203_52 (d) [l0, l1, l2, l3, l4, l5, l6, l7] (.int x :: st) h).trans (rfl)
theorem d203_54 : decode (mB 203) 54 = .ok (.iload 6, 2) := by decide +kernel
theorem x203_54 {d : Nat} {l0 l1 l2 l3 l4 l5 l7 : Option Value} {st : List Value} {x : Int32} {h : Hp} : ex (d) 203 54 [l0, l1, l2, l3, l4, l5, some (.int x), l7] st h = ex d 203 56 [l0, l1, l2, l3, l4, l5, some (.int x), l7] (.int x :: st) h := (ex_of d203_54 (d) [l0, l1, l2, l3, l4, l5, some (.int x), l7] st h).trans (rfl)
theorem d203_56 : decode (mB 203) 56 = .ok (.aload_n 0, 1) := by decide +kernel
theorem x203_56 {d : Nat} {l1 l2 l3 l4 l5 l6 l7 : Option Value} {st : List Value} {a : Nat} {h : Hp} : ex (d) 203 56 [some (.ref a), l1, l2, l3, l4, l5, l6, l7] st h = ex d 203 57 [some (.ref a), l1, l2, l3, l4, l5, l6, l7] (.ref a :: st) h := (ex_of d203_56 (d) [some (.ref a), l1, l2, l3, l4, l5, l6, l7] st h).trans (rfl)
theorem d203_57 : decode (mB 203) 57 = .ok (.getfield 22, 3) := by decide +kernel
theorem x203_57 {d : Nat} {L : Lc} {st : List Value} {a : Nat} {h : Hp} (ht : (h.2.1 a).1 = 11) : ex (d) 203 57 L (.ref a :: st) h = ex d 203 60 L (h.1 a 6 :: st) h := (ex_of d203_57 (d) L (.ref a :: st) h).trans (fin_get (mi := 203) f11_22 (tg1 ht rfl))
theorem d203_60 : decode (mB 203) 60 = .ok (.iload 5, 2) := by decide +kernel
theorem x203_60 {d : Nat} {l0 l1 l2 l3 l4 l6 l7 : Option Value} {st : List Value} {x : Int32} {h : Hp} : ex (d) 203 60 [l0, l1, l2, l3, l4, some (.int x), l6, l7] st h = ex d 203 62 [l0, l1, l2, l3, l4, some (.int x), l6, l7] (.int x :: st) h := (ex_of d203_60 (d) [l0, l1, l2, l3, l4, some (.int x), l6, l7] st h).trans (rfl)
theorem d203_62 : decode (mB 203) 62 = .ok (.iaload, 1) := by decide +kernel
theorem x203_62 {d : Nat} {L : Lc} {st : List Value} {a j : Nat} {h : Hp} (ht : (h.2.1 a).1 = 20) (hj : j < (h.2.1 a).2) (hb : j < 2147483648) : ex (d) 203 62 L (.int (nI j) :: .ref a :: st) h = ex d 203 63 L (h.1 a j :: st) h := (ex_of d203_62 (d) L (.int (nI j) :: .ref a :: st) h).trans (fin_iaload (Or.inl ht) hj hb)
theorem d203_63 : decode (mB 203) 63 = .ok (.if_icmp .ne 9, 3) := by decide +kernel
theorem x203_63 {d : Nat} {L : Lc} {st : List Value} {x y : Int32} {h : Hp} : ex (d) 203 63 L (.int y :: .int x :: st) h = if ¬ x = y then ex d 203 72 L st h else ex d 203 66 L st h := (ex_of d203_63 (d) L (.int y :: .int x :: st) h).trans (fin_brq (off := 9) (tgt := 72) rfl (by decide))
theorem d203_66 : decode (mB 203) 66 = .ok (.iinc 4 (-1), 3) := by decide +kernel
theorem x203_66 {d : Nat} {l0 l1 l2 l3 l5 l6 l7 : Option Value} {st : List Value} {x : Int32} {h : Hp} : ex (d) 203 66 [l0, l1, l2, l3, some (.int x), l5, l6, l7] st h = ex d 203 69 [l0, l1, l2, clr l3, some (.int (x + (-1))), l5, l6, l7] st h := (ex_of d203_66 (d) [l0, l1, l2, l3, some (.int x), l5, l6, l7] st h).trans (rfl)
theorem d203_69 : decode (mB 203) 69 = .ok (.goto (-42), 3) := by decide +kernel
theorem x203_69 {d : Nat} {L : Lc} {st : List Value} {h : Hp} : ex (d) 203 69 L st h = ex d 203 27 L st h := (ex_of d203_69 (d) L st h).trans (rfl)
theorem d203_72 : decode (mB 203) 72 = .ok (.aload_n 0, 1) := by decide +kernel
theorem x203_72 {d : Nat} {l1 l2 l3 l4 l5 l6 l7 : Option Value} {st : List Value} {a : Nat} {h : Hp} : ex (d) 203 72 [some (.ref a), l1, l2, l3, l4, l5, l6, l7] st h = ex d 203 73 [some (.ref a), l1, l2, l3, l4, l5, l6, l7] (.ref a :: st) h := (ex_of d203_72 (d) [some (.ref a), l1, l2, l3, l4, l5, l6, l7] st h).trans (rfl)
theorem d203_73 : decode (mB 203) 73 = .ok (.getfield 88, 3) := by decide +kernel
theorem x203_73 {d : Nat} {L : Lc} {st : List Value} {a : Nat} {h : Hp} (ht : (h.2.1 a).1 = 11) : ex (d) 203 73 L (.ref a :: st) h = ex d 203 76 L (h.1 a 40 :: st) h := (ex_of d203_73 (d) L (.ref a :: st) h).trans (fin_get (mi := 203) f11_88 (tg1 ht rfl))
theorem d203_76 : decode (mB 203) 76 = .ok (.iload 4, 2) := by decide +kernel
theorem x203_76 {d : Nat} {l0 l1 l2 l3 l5 l6 l7 : Option Value} {st : List Value} {x : Int32} {h : Hp} : ex (d) 203 76 [l0, l1, l2, l3, some (.int x), l5, l6, l7] st h = ex d 203 78 [l0, l1, l2, l3, some (.int x), l5, l6, l7] (.int x :: st) h := (ex_of d203_76 (d) [l0, l1, l2, l3, some (.int x), l5, l6, l7] st h).trans (rfl)
theorem d203_78 : decode (mB 203) 78 = .ok (.iconst 1, 1) := by decide +kernel
theorem x203_78 {d : Nat} {L : Lc} {st : List Value} {h : Hp} : ex (d) 203 78 L st h = ex d 203 79 L (.int (nI 1) :: st) h := (ex_of d203_78 (d) L st h).trans (rfl)
theorem d203_79 : decode (mB 203) 79 = .ok (.isub, 1) := by decide +kernel
theorem x203_79 {d : Nat} {L : Lc} {st : List Value} {x y : Int32} {h : Hp} : ex (d) 203 79 L (.int y :: .int x :: st) h = ex d 203 80 L (.int (x - y) :: st) h := (ex_of d203_79 (d) L (.int y :: .int x :: st) h).trans (rfl)
theorem d203_80 : decode (mB 203) 80 = .ok (.dup2, 1) := by decide +kernel
theorem x203_80 {d : Nat} {L : Lc} {st : List Value} {x : Int32} {a : Nat} {h : Hp} : ex (d) 203 80 L (.int x :: .ref a :: st) h = ex d 203 81 L (.int x :: .ref a :: .int x :: .ref a :: st) h := (ex_of d203_80 (d) L (.int x :: .ref a :: st) h).trans (rfl)
theorem d203_81 : decode (mB 203) 81 = .ok (.iaload, 1) := by decide +kernel
theorem x203_81 {d : Nat} {L : Lc} {st : List Value} {a j : Nat} {h : Hp} (ht : (h.2.1 a).1 = 20) (hj : j < (h.2.1 a).2) (hb : j < 2147483648) : ex (d) 203 81 L (.int (nI j) :: .ref a :: st) h = ex d 203 82 L (h.1 a j :: st) h := (ex_of d203_81 (d) L (.int (nI j) :: .ref a :: st) h).trans (fin_iaload (Or.inl ht) hj hb)
theorem d203_82 : decode (mB 203) 82 = .ok (.iconst 1, 1) := by decide +kernel
theorem x203_82 {d : Nat} {L : Lc} {st : List Value} {h : Hp} : ex (d) 203 82 L st h = ex d 203 83 L (.int (nI 1) :: st) h := (ex_of d203_82 (d) L st h).trans (rfl)
theorem d203_83 : decode (mB 203) 83 = .ok (.iadd, 1) := by decide +kernel
theorem x203_83 {d : Nat} {L : Lc} {st : List Value} {x y : Int32} {h : Hp} : ex (d) 203 83 L (.int y :: .int x :: st) h = ex d 203 84 L (.int (x + y) :: st) h := (ex_of d203_83 (d) L (.int y :: .int x :: st) h).trans (rfl)
theorem d203_84 : decode (mB 203) 84 = .ok (.iastore, 1) := by decide +kernel
theorem x203_84 {d : Nat} {L : Lc} {st : List Value} {a j : Nat} {x : Int32} {h : Hp} (ht : (h.2.1 a).1 = 20) (hj : j < (h.2.1 a).2) (hb : j < 2147483648) : ex (d) 203 84 L (.int x :: .int (nI j) :: .ref a :: st) h = ex d 203 85 L st (mup h.1 a j (.int x), h.2) := (ex_of d203_84 (d) L (.int x :: .int (nI j) :: .ref a :: st) h).trans (fin_iastore ht hj hb)
theorem d203_85 : decode (mB 203) 85 = .ok (.aload_n 0, 1) := by decide +kernel
theorem x203_85 {d : Nat} {l1 l2 l3 l4 l5 l6 l7 : Option Value} {st : List Value} {a : Nat} {h : Hp} : ex (d) 203 85 [some (.ref a), l1, l2, l3, l4, l5, l6, l7] st h = ex d 203 86 [some (.ref a), l1, l2, l3, l4, l5, l6, l7] (.ref a :: st) h := (ex_of d203_85 (d) [some (.ref a), l1, l2, l3, l4, l5, l6, l7] st h).trans (rfl)
theorem d203_86 : decode (mB 203) 86 = .ok (.iload 5, 2) := by decide +kernel
theorem x203_86 {d : Nat} {l0 l1 l2 l3 l4 l6 l7 : Option Value} {st : List Value} {x : Int32} {h : Hp} : ex (d) 203 86 [l0, l1, l2, l3, l4, some (.int x), l6, l7] st h = ex d 203 88 [l0, l1, l2, l3, l4, some (.int x), l6, l7] (.int x :: st) h := (ex_of d203_86 (d) [l0, l1, l2, l3, l4, some (.int x), l6, l7] st h).trans (rfl)
theorem d203_88 : decode (mB 203) 88 = .ok (.iload 6, 2) := by decide +kernel
theorem x203_88 {d : Nat} {l0 l1 l2 l3 l4 l5 l7 : Option Value} {st : List Value} {x : Int32} {h : Hp} : ex (d) 203 88 [l0, l1, l2, l3, l4, l5, some (.int x), l7] st h = ex d 203 90 [l0, l1, l2, l3, l4, l5, some (.int x), l7] (.int x :: st) h := (ex_of d203_88 (d) [l0, l1, l2, l3, l4, l5, some (.int x), l7] st h).trans (rfl)
theorem d203_90 : decode (mB 203) 90 = .ok (.invokevirtual 135, 3) := by decide +kernel
theorem x203_90 {d : Nat} {L : Lc} {a : Nat} {v0 : Int32} {v1 : Int32} {h : Hp} (ht : (h.2.1 a).1 = 11) : ex (d + 1) 203 90 L (.int v1 :: .int v0 :: .ref a :: []) h = bnd (ex d 154 0 [some (.ref a), some (.int v0), some (.int v1)] [] h) (fun v h' => ex (d + 1) 203 93 L (v.toList ++ []) h') := (ex_of d203_90 (d + 1) L (.int v1 :: .int v0 :: .ref a :: []) h).trans (fin_vi (mi := 203) i11_135 ht rfl rfl (by simp [cat1_i, cat1_r]) (by simp) (Nat.le_of_ble_eq_true rfl))
theorem d203_93 : decode (mB 203) 93 = .ok (.istore 7, 2) := by decide +kernel
theorem x203_93 {d : Nat} {l0 l1 l2 l3 l4 l5 l6 l7 : Option Value} {st : List Value} {x : Int32} {h : Hp} : ex (d) 203 93 [l0, l1, l2, l3, l4, l5, l6, l7] (.int x :: st) h = ex d 203 95 [l0, l1, l2, l3, l4, l5, clr l6, some (.int x)] st h := (ex_of d203_93 (d) [l0, l1, l2, l3, l4, l5, l6, l7] (.int x :: st) h).trans (rfl)
theorem d203_95 : decode (mB 203) 95 = .ok (.iload 7, 2) := by decide +kernel
theorem x203_95 {d : Nat} {l0 l1 l2 l3 l4 l5 l6 : Option Value} {st : List Value} {x : Int32} {h : Hp} : ex (d) 203 95 [l0, l1, l2, l3, l4, l5, l6, some (.int x)] st h = ex d 203 97 [l0, l1, l2, l3, l4, l5, l6, some (.int x)] (.int x :: st) h := (ex_of d203_95 (d) [l0, l1, l2, l3, l4, l5, l6, some (.int x)] st h).trans (rfl)
theorem d203_97 : decode (mB 203) 97 = .ok (.ifCond .ge 6, 3) := by decide +kernel
theorem x203_97 {d : Nat} {L : Lc} {st : List Value} {x : Int32} {h : Hp} : ex (d) 203 97 L (.int x :: st) h = if 0 ≤ x then ex d 203 103 L st h else ex d 203 100 L st h := (ex_of d203_97 (d) L (.int x :: st) h).trans (fin_brq (off := 6) (tgt := 103) rfl (by decide))
theorem d203_100 : decode (mB 203) 100 = .ok (.goto (-73), 3) := by decide +kernel
theorem x203_100 {d : Nat} {L : Lc} {st : List Value} {h : Hp} : ex (d) 203 100 L st h = ex d 203 27 L st h := (ex_of d203_100 (d) L st h).trans (rfl)
theorem d203_103 : decode (mB 203) 103 = .ok (.aload_n 0, 1) := by decide +kernel
theorem x203_103 {d : Nat} {l1 l2 l3 l4 l5 l6 l7 : Option Value} {st : List Value} {a : Nat} {h : Hp} : ex (d) 203 103 [some (.ref a), l1, l2, l3, l4, l5, l6, l7] st h = ex d 203 104 [some (.ref a), l1, l2, l3, l4, l5, l6, l7] (.ref a :: st) h := (ex_of d203_103 (d) [some (.ref a), l1, l2, l3, l4, l5, l6, l7] st h).trans (rfl)
theorem d203_104 : decode (mB 203) 104 = .ok (.dup, 1) := by decide +kernel
theorem x203_104 {d : Nat} {L : Lc} {st : List Value} {a : Nat} {h : Hp} : ex (d) 203 104 L (.ref a :: st) h = ex d 203 105 L (.ref a :: .ref a :: st) h := (ex_of d203_104 (d) L (.ref a :: st) h).trans (rfl)
theorem x203_104i {d : Nat} {L : Lc} {st : List Value} {x : Int32} {h : Hp} : ex (d) 203 104 L (.int x :: st) h = ex d 203 105 L (.int x :: .int x :: st) h := (ex_of d203_104 (d) L (.int x :: st) h).trans (rfl)
theorem d203_105 : decode (mB 203) 105 = .ok (.getfield 249, 3) := by decide +kernel
theorem x203_105 {d : Nat} {L : Lc} {st : List Value} {a : Nat} {h : Hp} (ht : (h.2.1 a).1 = 11) : ex (d) 203 105 L (.ref a :: st) h = ex d 203 108 L (h.1 a 41 :: st) h := (ex_of d203_105 (d) L (.ref a :: st) h).trans (fin_get (mi := 203) f11_249 (tg1 ht rfl))
theorem d203_108 : decode (mB 203) 108 = .ok (.iconst 1, 1) := by decide +kernel
theorem x203_108 {d : Nat} {L : Lc} {st : List Value} {h : Hp} : ex (d) 203 108 L st h = ex d 203 109 L (.int (nI 1) :: st) h := (ex_of d203_108 (d) L st h).trans (rfl)
theorem d203_109 : decode (mB 203) 109 = .ok (.iadd, 1) := by decide +kernel
theorem x203_109 {d : Nat} {L : Lc} {st : List Value} {x y : Int32} {h : Hp} : ex (d) 203 109 L (.int y :: .int x :: st) h = ex d 203 110 L (.int (x + y) :: st) h := (ex_of d203_109 (d) L (.int y :: .int x :: st) h).trans (rfl)
theorem d203_110 : decode (mB 203) 110 = .ok (.putfield 249, 3) := by decide +kernel
theorem x203_110 {d : Nat} {L : Lc} {st : List Value} {a : Nat} {x : Int32} {h : Hp} (ht : (h.2.1 a).1 = 11) : ex (d) 203 110 L (.int x :: .ref a :: st) h = ex d 203 113 L st (mup h.1 a 41 (.int x), h.2) := (ex_of d203_110 (d) L (.int x :: .ref a :: st) h).trans (fin_put (mi := 203) f11_249 ht rfl rfl (by decide +kernel))
theorem d203_113 : decode (mB 203) 113 = .ok (.iload_n 3, 1) := by decide +kernel
theorem x203_113 {d : Nat} {l0 l1 l2 l4 l5 l6 l7 : Option Value} {st : List Value} {x : Int32} {h : Hp} : ex (d) 203 113 [l0, l1, l2, some (.int x), l4, l5, l6, l7] st h = ex d 203 114 [l0, l1, l2, some (.int x), l4, l5, l6, l7] (.int x :: st) h := (ex_of d203_113 (d) [l0, l1, l2, some (.int x), l4, l5, l6, l7] st h).trans (rfl)
theorem d203_114 : decode (mB 203) 114 = .ok (.ifCond .lt 44, 3) := by decide +kernel
theorem x203_114 {d : Nat} {L : Lc} {st : List Value} {x : Int32} {h : Hp} : ex (d) 203 114 L (.int x :: st) h = if x < 0 then ex d 203 158 L st h else ex d 203 117 L st h := (ex_of d203_114 (d) L (.int x :: st) h).trans (fin_brq (off := 44) (tgt := 158) rfl (by decide))
theorem d203_117 : decode (mB 203) 117 = .ok (.aload_n 0, 1) := by decide +kernel
theorem x203_117 {d : Nat} {l1 l2 l3 l4 l5 l6 l7 : Option Value} {st : List Value} {a : Nat} {h : Hp} : ex (d) 203 117 [some (.ref a), l1, l2, l3, l4, l5, l6, l7] st h = ex d 203 118 [some (.ref a), l1, l2, l3, l4, l5, l6, l7] (.ref a :: st) h := (ex_of d203_117 (d) [some (.ref a), l1, l2, l3, l4, l5, l6, l7] st h).trans (rfl)
theorem d203_118 : decode (mB 203) 118 = .ok (.iload 7, 2) := by decide +kernel
theorem x203_118 {d : Nat} {l0 l1 l2 l3 l4 l5 l6 : Option Value} {st : List Value} {x : Int32} {h : Hp} : ex (d) 203 118 [l0, l1, l2, l3, l4, l5, l6, some (.int x)] st h = ex d 203 120 [l0, l1, l2, l3, l4, l5, l6, some (.int x)] (.int x :: st) h := (ex_of d203_118 (d) [l0, l1, l2, l3, l4, l5, l6, some (.int x)] st h).trans (rfl)
theorem d203_120 : decode (mB 203) 120 = .ok (.invokevirtual 212, 3) := by decide +kernel
theorem x203_120 {d : Nat} {L : Lc} {a : Nat} {v0 : Int32} {h : Hp} (ht : (h.2.1 a).1 = 11) : ex (d + 1) 203 120 L (.int v0 :: .ref a :: []) h = bnd (ex d 139 0 [some (.ref a), some (.int v0)] [] h) (fun v h' => ex (d + 1) 203 123 L (v.toList ++ []) h') := (ex_of d203_120 (d + 1) L (.int v0 :: .ref a :: []) h).trans (fin_vi (mi := 203) i11_212 ht rfl rfl (by simp [cat1_i, cat1_r]) (by simp) (Nat.le_of_ble_eq_true rfl))
theorem d203_123 : decode (mB 203) 123 = .ok (.ifCond .eq 35, 3) := by decide +kernel
theorem x203_123 {d : Nat} {L : Lc} {st : List Value} {x : Int32} {h : Hp} : ex (d) 203 123 L (.int x :: st) h = if x = 0 then ex d 203 158 L st h else ex d 203 126 L st h := (ex_of d203_123 (d) L (.int x :: st) h).trans (fin_brq (off := 35) (tgt := 158) rfl (by decide))
theorem d203_126 : decode (mB 203) 126 = .ok (.aload_n 0, 1) := by decide +kernel
theorem x203_126 {d : Nat} {l1 l2 l3 l4 l5 l6 l7 : Option Value} {st : List Value} {a : Nat} {h : Hp} : ex (d) 203 126 [some (.ref a), l1, l2, l3, l4, l5, l6, l7] st h = ex d 203 127 [some (.ref a), l1, l2, l3, l4, l5, l6, l7] (.ref a :: st) h := (ex_of d203_126 (d) [some (.ref a), l1, l2, l3, l4, l5, l6, l7] st h).trans (rfl)
theorem d203_127 : decode (mB 203) 127 = .ok (.getfield 9, 3) := by decide +kernel
theorem x203_127 {d : Nat} {L : Lc} {st : List Value} {a : Nat} {h : Hp} (ht : (h.2.1 a).1 = 11) : ex (d) 203 127 L (.ref a :: st) h = ex d 203 130 L (h.1 a 2 :: st) h := (ex_of d203_127 (d) L (.ref a :: st) h).trans (fin_get (mi := 203) f11_9 (tg1 ht rfl))
theorem d203_130 : decode (mB 203) 130 = .ok (.iload 7, 2) := by decide +kernel
theorem x203_130 {d : Nat} {l0 l1 l2 l3 l4 l5 l6 : Option Value} {st : List Value} {x : Int32} {h : Hp} : ex (d) 203 130 [l0, l1, l2, l3, l4, l5, l6, some (.int x)] st h = ex d 203 132 [l0, l1, l2, l3, l4, l5, l6, some (.int x)] (.int x :: st) h := (ex_of d203_130 (d) [l0, l1, l2, l3, l4, l5, l6, some (.int x)] st h).trans (rfl)
theorem d203_132 : decode (mB 203) 132 = .ok (.iaload, 1) := by decide +kernel
theorem x203_132 {d : Nat} {L : Lc} {st : List Value} {a j : Nat} {h : Hp} (ht : (h.2.1 a).1 = 20) (hj : j < (h.2.1 a).2) (hb : j < 2147483648) : ex (d) 203 132 L (.int (nI j) :: .ref a :: st) h = ex d 203 133 L (h.1 a j :: st) h := (ex_of d203_132 (d) L (.int (nI j) :: .ref a :: st) h).trans (fin_iaload (Or.inl ht) hj hb)
theorem d203_133 : decode (mB 203) 133 = .ok (.iload_n 3, 1) := by decide +kernel
theorem x203_133 {d : Nat} {l0 l1 l2 l4 l5 l6 l7 : Option Value} {st : List Value} {x : Int32} {h : Hp} : ex (d) 203 133 [l0, l1, l2, some (.int x), l4, l5, l6, l7] st h = ex d 203 134 [l0, l1, l2, some (.int x), l4, l5, l6, l7] (.int x :: st) h := (ex_of d203_133 (d) [l0, l1, l2, some (.int x), l4, l5, l6, l7] st h).trans (rfl)
theorem d203_134 : decode (mB 203) 134 = .ok (.invokestatic 252, 3) := by decide +kernel
theorem x203_134 {d : Nat} {L : Lc}  {v0 : Int32} {v1 : Int32} {h : Hp} : ex (d + 1) 203 134 L (.int v1 :: .int v0 :: []) h = bnd (ex d 202 0 [some (.int v0), some (.int v1)] [] h) (fun v h' => ex (d + 1) 203 137 L (v.toList ++ []) h') := (ex_of d203_134 (d + 1) L (.int v1 :: .int v0 :: []) h).trans (fin_st (mi := 203) i11_252 (Or.inl rfl) (by simp) (by simp [cat1_i, cat1_r]) (by simp) (Nat.le_of_ble_eq_true rfl))
theorem d203_137 : decode (mB 203) 137 = .ok (.ifCond .eq 21, 3) := by decide +kernel
theorem x203_137 {d : Nat} {L : Lc} {st : List Value} {x : Int32} {h : Hp} : ex (d) 203 137 L (.int x :: st) h = if x = 0 then ex d 203 158 L st h else ex d 203 140 L st h := (ex_of d203_137 (d) L (.int x :: st) h).trans (fin_brq (off := 21) (tgt := 158) rfl (by decide))
theorem d203_140 : decode (mB 203) 140 = .ok (.iload_n 2, 1) := by decide +kernel
theorem x203_140 {d : Nat} {l0 l1 l3 l4 l5 l6 l7 : Option Value} {st : List Value} {x : Int32} {h : Hp} : ex (d) 203 140 [l0, l1, some (.int x), l3, l4, l5, l6, l7] st h = ex d 203 141 [l0, l1, some (.int x), l3, l4, l5, l6, l7] (.int x :: st) h := (ex_of d203_140 (d) [l0, l1, some (.int x), l3, l4, l5, l6, l7] st h).trans (rfl)
theorem d203_141 : decode (mB 203) 141 = .ok (.ifCond .lt 14, 3) := by decide +kernel
theorem x203_141 {d : Nat} {L : Lc} {st : List Value} {x : Int32} {h : Hp} : ex (d) 203 141 L (.int x :: st) h = if x < 0 then ex d 203 155 L st h else ex d 203 144 L st h := (ex_of d203_141 (d) L (.int x :: st) h).trans (fin_brq (off := 14) (tgt := 155) rfl (by decide))
theorem d203_144 : decode (mB 203) 144 = .ok (.aload_n 0, 1) := by decide +kernel
theorem x203_144 {d : Nat} {l1 l2 l3 l4 l5 l6 l7 : Option Value} {st : List Value} {a : Nat} {h : Hp} : ex (d) 203 144 [some (.ref a), l1, l2, l3, l4, l5, l6, l7] st h = ex d 203 145 [some (.ref a), l1, l2, l3, l4, l5, l6, l7] (.ref a :: st) h := (ex_of d203_144 (d) [some (.ref a), l1, l2, l3, l4, l5, l6, l7] st h).trans (rfl)
theorem d203_145 : decode (mB 203) 145 = .ok (.iload_n 2, 1) := by decide +kernel
theorem x203_145 {d : Nat} {l0 l1 l3 l4 l5 l6 l7 : Option Value} {st : List Value} {x : Int32} {h : Hp} : ex (d) 203 145 [l0, l1, some (.int x), l3, l4, l5, l6, l7] st h = ex d 203 146 [l0, l1, some (.int x), l3, l4, l5, l6, l7] (.int x :: st) h := (ex_of d203_145 (d) [l0, l1, some (.int x), l3, l4, l5, l6, l7] st h).trans (rfl)
theorem d203_146 : decode (mB 203) 146 = .ok (.iload 7, 2) := by decide +kernel
theorem x203_146 {d : Nat} {l0 l1 l2 l3 l4 l5 l6 : Option Value} {st : List Value} {x : Int32} {h : Hp} : ex (d) 203 146 [l0, l1, l2, l3, l4, l5, l6, some (.int x)] st h = ex d 203 148 [l0, l1, l2, l3, l4, l5, l6, some (.int x)] (.int x :: st) h := (ex_of d203_146 (d) [l0, l1, l2, l3, l4, l5, l6, some (.int x)] st h).trans (rfl)
theorem d203_148 : decode (mB 203) 148 = .ok (.invokevirtual 203, 3) := by decide +kernel
theorem x203_148 {d : Nat} {L : Lc} {a : Nat} {v0 : Int32} {v1 : Int32} {h : Hp} (ht : (h.2.1 a).1 = 11) : ex (d + 1) 203 148 L (.int v1 :: .int v0 :: .ref a :: []) h = bnd (ex d 179 0 [some (.ref a), some (.int v0), some (.int v1), none, none, none, none] [] h) (fun v h' => ex (d + 1) 203 151 L (v.toList ++ []) h') := (ex_of d203_148 (d + 1) L (.int v1 :: .int v0 :: .ref a :: []) h).trans (fin_vi (mi := 203) i11_203 ht rfl rfl (by simp [cat1_i, cat1_r]) (by simp) (Nat.le_of_ble_eq_true rfl))
theorem d203_151 : decode (mB 203) 151 = .ok (.iconst 1, 1) := by decide +kernel
theorem x203_151 {d : Nat} {L : Lc} {st : List Value} {h : Hp} : ex (d) 203 151 L st h = ex d 203 152 L (.int (nI 1) :: st) h := (ex_of d203_151 (d) L st h).trans (rfl)
theorem d203_152 : decode (mB 203) 152 = .ok (.if_icmp .ne 6, 3) := by decide +kernel
theorem x203_152 {d : Nat} {L : Lc} {st : List Value} {x y : Int32} {h : Hp} : ex (d) 203 152 L (.int y :: .int x :: st) h = if ¬ x = y then ex d 203 158 L st h else ex d 203 155 L st h := (ex_of d203_152 (d) L (.int y :: .int x :: st) h).trans (fin_brq (off := 6) (tgt := 158) rfl (by decide))
theorem d203_155 : decode (mB 203) 155 = .ok (.iload 7, 2) := by decide +kernel
theorem x203_155 {d : Nat} {l0 l1 l2 l3 l4 l5 l6 : Option Value} {st : List Value} {x : Int32} {h : Hp} : ex (d) 203 155 [l0, l1, l2, l3, l4, l5, l6, some (.int x)] st h = ex d 203 157 [l0, l1, l2, l3, l4, l5, l6, some (.int x)] (.int x :: st) h := (ex_of d203_155 (d) [l0, l1, l2, l3, l4, l5, l6, some (.int x)] st h).trans (rfl)
theorem d203_157 : decode (mB 203) 157 = .ok (.ireturn, 1) := by decide +kernel
theorem x203_157 {d : Nat} {L : Lc} {x : Int32} {h : Hp} : ex (d) 203 157 L [.int x] h = some (some (.int x), h) := (ex_of d203_157 (d) L [.int x] h).trans (rfl)
theorem d203_158 : decode (mB 203) 158 = .ok (.aload_n 0, 1) := by decide +kernel
theorem x203_158 {d : Nat} {l1 l2 l3 l4 l5 l6 l7 : Option Value} {st : List Value} {a : Nat} {h : Hp} : ex (d) 203 158 [some (.ref a), l1, l2, l3, l4, l5, l6, l7] st h = ex d 203 159 [some (.ref a), l1, l2, l3, l4, l5, l6, l7] (.ref a :: st) h := (ex_of d203_158 (d) [some (.ref a), l1, l2, l3, l4, l5, l6, l7] st h).trans (rfl)
theorem d203_159 : decode (mB 203) 159 = .ok (.getfield 9, 3) := by decide +kernel
theorem x203_159 {d : Nat} {L : Lc} {st : List Value} {a : Nat} {h : Hp} (ht : (h.2.1 a).1 = 11) : ex (d) 203 159 L (.ref a :: st) h = ex d 203 162 L (h.1 a 2 :: st) h := (ex_of d203_159 (d) L (.ref a :: st) h).trans (fin_get (mi := 203) f11_9 (tg1 ht rfl))
theorem d203_162 : decode (mB 203) 162 = .ok (.iload 7, 2) := by decide +kernel
theorem x203_162 {d : Nat} {l0 l1 l2 l3 l4 l5 l6 : Option Value} {st : List Value} {x : Int32} {h : Hp} : ex (d) 203 162 [l0, l1, l2, l3, l4, l5, l6, some (.int x)] st h = ex d 203 164 [l0, l1, l2, l3, l4, l5, l6, some (.int x)] (.int x :: st) h := (ex_of d203_162 (d) [l0, l1, l2, l3, l4, l5, l6, some (.int x)] st h).trans (rfl)
theorem d203_164 : decode (mB 203) 164 = .ok (.iaload, 1) := by decide +kernel
theorem x203_164 {d : Nat} {L : Lc} {st : List Value} {a j : Nat} {h : Hp} (ht : (h.2.1 a).1 = 20) (hj : j < (h.2.1 a).2) (hb : j < 2147483648) : ex (d) 203 164 L (.int (nI j) :: .ref a :: st) h = ex d 203 165 L (h.1 a j :: st) h := (ex_of d203_164 (d) L (.int (nI j) :: .ref a :: st) h).trans (fin_iaload (Or.inl ht) hj hb)
theorem d203_165 : decode (mB 203) 165 = .ok (.iconst 4, 1) := by decide +kernel
theorem x203_165 {d : Nat} {L : Lc} {st : List Value} {h : Hp} : ex (d) 203 165 L st h = ex d 203 166 L (.int (nI 4) :: st) h := (ex_of d203_165 (d) L st h).trans (rfl)
theorem d203_166 : decode (mB 203) 166 = .ok (.if_icmp .eq 17, 3) := by decide +kernel
theorem x203_166 {d : Nat} {L : Lc} {st : List Value} {x y : Int32} {h : Hp} : ex (d) 203 166 L (.int y :: .int x :: st) h = if x = y then ex d 203 183 L st h else ex d 203 169 L st h := (ex_of d203_166 (d) L (.int y :: .int x :: st) h).trans (fin_brq (off := 17) (tgt := 183) rfl (by decide))
theorem d203_169 : decode (mB 203) 169 = .ok (.aload_n 0, 1) := by decide +kernel
theorem x203_169 {d : Nat} {l1 l2 l3 l4 l5 l6 l7 : Option Value} {st : List Value} {a : Nat} {h : Hp} : ex (d) 203 169 [some (.ref a), l1, l2, l3, l4, l5, l6, l7] st h = ex d 203 170 [some (.ref a), l1, l2, l3, l4, l5, l6, l7] (.ref a :: st) h := (ex_of d203_169 (d) [some (.ref a), l1, l2, l3, l4, l5, l6, l7] st h).trans (rfl)
theorem d203_170 : decode (mB 203) 170 = .ok (.getfield 9, 3) := by decide +kernel
theorem x203_170 {d : Nat} {L : Lc} {st : List Value} {a : Nat} {h : Hp} (ht : (h.2.1 a).1 = 11) : ex (d) 203 170 L (.ref a :: st) h = ex d 203 173 L (h.1 a 2 :: st) h := (ex_of d203_170 (d) L (.ref a :: st) h).trans (fin_get (mi := 203) f11_9 (tg1 ht rfl))
theorem d203_173 : decode (mB 203) 173 = .ok (.iload 7, 2) := by decide +kernel
theorem x203_173 {d : Nat} {l0 l1 l2 l3 l4 l5 l6 : Option Value} {st : List Value} {x : Int32} {h : Hp} : ex (d) 203 173 [l0, l1, l2, l3, l4, l5, l6, some (.int x)] st h = ex d 203 175 [l0, l1, l2, l3, l4, l5, l6, some (.int x)] (.int x :: st) h := (ex_of d203_173 (d) [l0, l1, l2, l3, l4, l5, l6, some (.int x)] st h).trans (rfl)
theorem d203_175 : decode (mB 203) 175 = .ok (.iaload, 1) := by decide +kernel
theorem x203_175 {d : Nat} {L : Lc} {st : List Value} {a j : Nat} {h : Hp} (ht : (h.2.1 a).1 = 20) (hj : j < (h.2.1 a).2) (hb : j < 2147483648) : ex (d) 203 175 L (.int (nI j) :: .ref a :: st) h = ex d 203 176 L (h.1 a j :: st) h := (ex_of d203_175 (d) L (.int (nI j) :: .ref a :: st) h).trans (fin_iaload (Or.inl ht) hj hb)
theorem d203_176 : decode (mB 203) 176 = .ok (.iconst 5, 1) := by decide +kernel
theorem x203_176 {d : Nat} {L : Lc} {st : List Value} {h : Hp} : ex (d) 203 176 L st h = ex d 203 177 L (.int (nI 5) :: st) h := (ex_of d203_176 (d) L st h).trans (rfl)
theorem d203_177 : decode (mB 203) 177 = .ok (.if_icmp .eq 6, 3) := by decide +kernel
theorem x203_177 {d : Nat} {L : Lc} {st : List Value} {x y : Int32} {h : Hp} : ex (d) 203 177 L (.int y :: .int x :: st) h = if x = y then ex d 203 183 L st h else ex d 203 180 L st h := (ex_of d203_177 (d) L (.int y :: .int x :: st) h).trans (fin_brq (off := 6) (tgt := 183) rfl (by decide))
theorem d203_180 : decode (mB 203) 180 = .ok (.goto (-153), 3) := by decide +kernel
theorem x203_180 {d : Nat} {L : Lc} {st : List Value} {h : Hp} : ex (d) 203 180 L st h = ex d 203 27 L st h := (ex_of d203_180 (d) L st h).trans (rfl)
theorem d203_183 : decode (mB 203) 183 = .ok (.aload_n 0, 1) := by decide +kernel
theorem x203_183 {d : Nat} {l1 l2 l3 l4 l5 l6 l7 : Option Value} {st : List Value} {a : Nat} {h : Hp} : ex (d) 203 183 [some (.ref a), l1, l2, l3, l4, l5, l6, l7] st h = ex d 203 184 [some (.ref a), l1, l2, l3, l4, l5, l6, l7] (.ref a :: st) h := (ex_of d203_183 (d) [some (.ref a), l1, l2, l3, l4, l5, l6, l7] st h).trans (rfl)
theorem d203_184 : decode (mB 203) 184 = .ok (.dup, 1) := by decide +kernel
theorem x203_184 {d : Nat} {L : Lc} {st : List Value} {a : Nat} {h : Hp} : ex (d) 203 184 L (.ref a :: st) h = ex d 203 185 L (.ref a :: .ref a :: st) h := (ex_of d203_184 (d) L (.ref a :: st) h).trans (rfl)
theorem x203_184i {d : Nat} {L : Lc} {st : List Value} {x : Int32} {h : Hp} : ex (d) 203 184 L (.int x :: st) h = ex d 203 185 L (.int x :: .int x :: st) h := (ex_of d203_184 (d) L (.int x :: st) h).trans (rfl)
theorem d203_185 : decode (mB 203) 185 = .ok (.getfield 129, 3) := by decide +kernel
theorem x203_185 {d : Nat} {L : Lc} {st : List Value} {a : Nat} {h : Hp} (ht : (h.2.1 a).1 = 11) : ex (d) 203 185 L (.ref a :: st) h = ex d 203 188 L (h.1 a 15 :: st) h := (ex_of d203_185 (d) L (.ref a :: st) h).trans (fin_get (mi := 203) f11_129 (tg1 ht rfl))
theorem d203_188 : decode (mB 203) 188 = .ok (.iconst 1, 1) := by decide +kernel
theorem x203_188 {d : Nat} {L : Lc} {st : List Value} {h : Hp} : ex (d) 203 188 L st h = ex d 203 189 L (.int (nI 1) :: st) h := (ex_of d203_188 (d) L st h).trans (rfl)
theorem d203_189 : decode (mB 203) 189 = .ok (.iadd, 1) := by decide +kernel
theorem x203_189 {d : Nat} {L : Lc} {st : List Value} {x y : Int32} {h : Hp} : ex (d) 203 189 L (.int y :: .int x :: st) h = ex d 203 190 L (.int (x + y) :: st) h := (ex_of d203_189 (d) L (.int y :: .int x :: st) h).trans (rfl)
theorem d203_190 : decode (mB 203) 190 = .ok (.putfield 129, 3) := by decide +kernel
theorem x203_190 {d : Nat} {L : Lc} {st : List Value} {a : Nat} {x : Int32} {h : Hp} (ht : (h.2.1 a).1 = 11) : ex (d) 203 190 L (.int x :: .ref a :: st) h = ex d 203 193 L st (mup h.1 a 15 (.int x), h.2) := (ex_of d203_190 (d) L (.int x :: .ref a :: st) h).trans (fin_put (mi := 203) f11_129 ht rfl rfl (by decide +kernel))
theorem d203_193 : decode (mB 203) 193 = .ok (.aload_n 0, 1) := by decide +kernel
theorem x203_193 {d : Nat} {l1 l2 l3 l4 l5 l6 l7 : Option Value} {st : List Value} {a : Nat} {h : Hp} : ex (d) 203 193 [some (.ref a), l1, l2, l3, l4, l5, l6, l7] st h = ex d 203 194 [some (.ref a), l1, l2, l3, l4, l5, l6, l7] (.ref a :: st) h := (ex_of d203_193 (d) [some (.ref a), l1, l2, l3, l4, l5, l6, l7] st h).trans (rfl)
theorem d203_194 : decode (mB 203) 194 = .ok (.getfield 85, 3) := by decide +kernel
theorem x203_194 {d : Nat} {L : Lc} {st : List Value} {a : Nat} {h : Hp} (ht : (h.2.1 a).1 = 11) : ex (d) 203 194 L (.ref a :: st) h = ex d 203 197 L (h.1 a 39 :: st) h := (ex_of d203_194 (d) L (.ref a :: st) h).trans (fin_get (mi := 203) f11_85 (tg1 ht rfl))
theorem d203_197 : decode (mB 203) 197 = .ok (.iload 4, 2) := by decide +kernel
theorem x203_197 {d : Nat} {l0 l1 l2 l3 l5 l6 l7 : Option Value} {st : List Value} {x : Int32} {h : Hp} : ex (d) 203 197 [l0, l1, l2, l3, some (.int x), l5, l6, l7] st h = ex d 203 199 [l0, l1, l2, l3, some (.int x), l5, l6, l7] (.int x :: st) h := (ex_of d203_197 (d) [l0, l1, l2, l3, some (.int x), l5, l6, l7] st h).trans (rfl)
theorem d203_199 : decode (mB 203) 199 = .ok (.iload 7, 2) := by decide +kernel
theorem x203_199 {d : Nat} {l0 l1 l2 l3 l4 l5 l6 : Option Value} {st : List Value} {x : Int32} {h : Hp} : ex (d) 203 199 [l0, l1, l2, l3, l4, l5, l6, some (.int x)] st h = ex d 203 201 [l0, l1, l2, l3, l4, l5, l6, some (.int x)] (.int x :: st) h := (ex_of d203_199 (d) [l0, l1, l2, l3, l4, l5, l6, some (.int x)] st h).trans (rfl)
theorem d203_201 : decode (mB 203) 201 = .ok (.iastore, 1) := by decide +kernel
theorem x203_201 {d : Nat} {L : Lc} {st : List Value} {a j : Nat} {x : Int32} {h : Hp} (ht : (h.2.1 a).1 = 20) (hj : j < (h.2.1 a).2) (hb : j < 2147483648) : ex (d) 203 201 L (.int x :: .int (nI j) :: .ref a :: st) h = ex d 203 202 L st (mup h.1 a j (.int x), h.2) := (ex_of d203_201 (d) L (.int x :: .int (nI j) :: .ref a :: st) h).trans (fin_iastore ht hj hb)
theorem d203_202 : decode (mB 203) 202 = .ok (.aload_n 0, 1) := by decide +kernel
theorem x203_202 {d : Nat} {l1 l2 l3 l4 l5 l6 l7 : Option Value} {st : List Value} {a : Nat} {h : Hp} : ex (d) 203 202 [some (.ref a), l1, l2, l3, l4, l5, l6, l7] st h = ex d 203 203 [some (.ref a), l1, l2, l3, l4, l5, l6, l7] (.ref a :: st) h := (ex_of d203_202 (d) [some (.ref a), l1, l2, l3, l4, l5, l6, l7] st h).trans (rfl)
theorem d203_203 : decode (mB 203) 203 = .ok (.getfield 88, 3) := by decide +kernel
theorem x203_203 {d : Nat} {L : Lc} {st : List Value} {a : Nat} {h : Hp} (ht : (h.2.1 a).1 = 11) : ex (d) 203 203 L (.ref a :: st) h = ex d 203 206 L (h.1 a 40 :: st) h := (ex_of d203_203 (d) L (.ref a :: st) h).trans (fin_get (mi := 203) f11_88 (tg1 ht rfl))
theorem d203_206 : decode (mB 203) 206 = .ok (.iload 4, 2) := by decide +kernel
theorem x203_206 {d : Nat} {l0 l1 l2 l3 l5 l6 l7 : Option Value} {st : List Value} {x : Int32} {h : Hp} : ex (d) 203 206 [l0, l1, l2, l3, some (.int x), l5, l6, l7] st h = ex d 203 208 [l0, l1, l2, l3, some (.int x), l5, l6, l7] (.int x :: st) h := (ex_of d203_206 (d) [l0, l1, l2, l3, some (.int x), l5, l6, l7] st h).trans (rfl)
theorem d203_208 : decode (mB 203) 208 = .ok (.iconst 0, 1) := by decide +kernel
theorem x203_208 {d : Nat} {L : Lc} {st : List Value} {h : Hp} : ex (d) 203 208 L st h = ex d 203 209 L (.int (nI 0) :: st) h := (ex_of d203_208 (d) L st h).trans (rfl)
theorem d203_209 : decode (mB 203) 209 = .ok (.iastore, 1) := by decide +kernel
theorem x203_209 {d : Nat} {L : Lc} {st : List Value} {a j : Nat} {x : Int32} {h : Hp} (ht : (h.2.1 a).1 = 20) (hj : j < (h.2.1 a).2) (hb : j < 2147483648) : ex (d) 203 209 L (.int x :: .int (nI j) :: .ref a :: st) h = ex d 203 210 L st (mup h.1 a j (.int x), h.2) := (ex_of d203_209 (d) L (.int x :: .int (nI j) :: .ref a :: st) h).trans (fin_iastore ht hj hb)
theorem d203_210 : decode (mB 203) 210 = .ok (.iinc 4 1, 3) := by decide +kernel
theorem x203_210 {d : Nat} {l0 l1 l2 l3 l5 l6 l7 : Option Value} {st : List Value} {x : Int32} {h : Hp} : ex (d) 203 210 [l0, l1, l2, l3, some (.int x), l5, l6, l7] st h = ex d 203 213 [l0, l1, l2, clr l3, some (.int (x + (nI 1))), l5, l6, l7] st h := (ex_of d203_210 (d) [l0, l1, l2, l3, some (.int x), l5, l6, l7] st h).trans (rfl)
theorem d203_213 : decode (mB 203) 213 = .ok (.goto (-186), 3) := by decide +kernel
theorem x203_213 {d : Nat} {L : Lc} {st : List Value} {h : Hp} : ex (d) 203 213 L st h = ex d 203 27 L st h := (ex_of d203_213 (d) L st h).trans (rfl)
theorem d203_216 : decode (mB 203) 216 = .ok (.iconst (-1), 1) := by decide +kernel
theorem x203_216 {d : Nat} {L : Lc} {st : List Value} {h : Hp} : ex (d) 203 216 L st h = ex d 203 217 L (.int (-1) :: st) h := (ex_of d203_216 (d) L st h).trans (rfl)
theorem d203_217 : decode (mB 203) 217 = .ok (.ireturn, 1) := by decide +kernel
theorem x203_217 {d : Nat} {L : Lc} {x : Int32} {h : Hp} : ex (d) 203 217 L [.int x] h = some (some (.int x), h) := (ex_of d203_217 (d) L [.int x] h).trans (rfl)
theorem d204_0 : decode (mB 204) 0 = .ok (.iload_n 1, 1) := by decide +kernel
theorem x204_0 {d : Nat} {l0 l2 l3 l4 : Option Value} {st : List Value} {x : Int32} {h : Hp} : ex (d) 204 0 [l0, some (.int x), l2, l3, l4] st h = ex d 204 1 [l0, some (.int x), l2, l3, l4] (.int x :: st) h := (ex_of d204_0 (d) [l0, some (.int x), l2, l3, l4] st h).trans (rfl)
theorem d204_1 : decode (mB 204) 1 = .ok (.iconst (-1), 1) := by decide +kernel
theorem x204_1 {d : Nat} {L : Lc} {st : List Value} {h : Hp} : ex (d) 204 1 L st h = ex d 204 2 L (.int (-1) :: st) h := (ex_of d204_1 (d) L st h).trans (rfl)
theorem d204_2 : decode (mB 204) 2 = .ok (.if_icmp .eq 18, 3) := by decide +kernel
theorem x204_2 {d : Nat} {L : Lc} {st : List Value} {x y : Int32} {h : Hp} : ex (d) 204 2 L (.int y :: .int x :: st) h = if x = y then ex d 204 20 L st h else ex d 204 5 L st h := (ex_of d204_2 (d) L (.int y :: .int x :: st) h).trans (fin_brq (off := 18) (tgt := 20) rfl (by decide))
theorem d204_5 : decode (mB 204) 5 = .ok (.aload_n 0, 1) := by decide +kernel
theorem x204_5 {d : Nat} {l1 l2 l3 l4 : Option Value} {st : List Value} {a : Nat} {h : Hp} : ex (d) 204 5 [some (.ref a), l1, l2, l3, l4] st h = ex d 204 6 [some (.ref a), l1, l2, l3, l4] (.ref a :: st) h := (ex_of d204_5 (d) [some (.ref a), l1, l2, l3, l4] st h).trans (rfl)
theorem d204_6 : decode (mB 204) 6 = .ok (.iload_n 1, 1) := by decide +kernel
theorem x204_6 {d : Nat} {l0 l2 l3 l4 : Option Value} {st : List Value} {x : Int32} {h : Hp} : ex (d) 204 6 [l0, some (.int x), l2, l3, l4] st h = ex d 204 7 [l0, some (.int x), l2, l3, l4] (.int x :: st) h := (ex_of d204_6 (d) [l0, some (.int x), l2, l3, l4] st h).trans (rfl)
theorem d204_7 : decode (mB 204) 7 = .ok (.invokevirtual 191, 3) := by decide +kernel
theorem x204_7 {d : Nat} {L : Lc} {a : Nat} {v0 : Int32} {h : Hp} (ht : (h.2.1 a).1 = 11) : ex (d + 1) 204 7 L (.int v0 :: .ref a :: []) h = bnd (ex d 173 0 [some (.ref a), some (.int v0)] [] h) (fun v h' => ex (d + 1) 204 10 L (v.toList ++ []) h') := (ex_of d204_7 (d + 1) L (.int v0 :: .ref a :: []) h).trans (fin_vi (mi := 204) i11_191 ht rfl rfl (by simp [cat1_i, cat1_r]) (by simp) (Nat.le_of_ble_eq_true rfl))
theorem d204_10 : decode (mB 204) 10 = .ok (.ifCond .ne 10, 3) := by decide +kernel
theorem x204_10 {d : Nat} {L : Lc} {st : List Value} {x : Int32} {h : Hp} : ex (d) 204 10 L (.int x :: st) h = if ¬ x = 0 then ex d 204 20 L st h else ex d 204 13 L st h := (ex_of d204_10 (d) L (.int x :: st) h).trans (fin_brq (off := 10) (tgt := 20) rfl (by decide))
theorem d204_13 : decode (mB 204) 13 = .ok (.aload_n 0, 1) := by decide +kernel
theorem x204_13 {d : Nat} {l1 l2 l3 l4 : Option Value} {st : List Value} {a : Nat} {h : Hp} : ex (d) 204 13 [some (.ref a), l1, l2, l3, l4] st h = ex d 204 14 [some (.ref a), l1, l2, l3, l4] (.ref a :: st) h := (ex_of d204_13 (d) [some (.ref a), l1, l2, l3, l4] st h).trans (rfl)
theorem d204_14 : decode (mB 204) 14 = .ok (.bipush 10, 2) := by decide +kernel
theorem x204_14 {d : Nat} {L : Lc} {st : List Value} {h : Hp} : ex (d) 204 14 L st h = ex d 204 16 L (.int (nI 10) :: st) h := (ex_of d204_14 (d) L st h).trans (rfl)
theorem d204_16 : decode (mB 204) 16 = .ok (.invokevirtual 109, 3) := by decide +kernel
theorem x204_16 {d : Nat} {L : Lc} {a : Nat} {v0 : Int32} {h : Hp} (ht : (h.2.1 a).1 = 11) : ex (d + 1) 204 16 L (.int v0 :: .ref a :: []) h = bnd (ex d 135 0 [some (.ref a), some (.int v0)] [] h) (fun v h' => ex (d + 1) 204 19 L (v.toList ++ []) h') := (ex_of d204_16 (d + 1) L (.int v0 :: .ref a :: []) h).trans (fin_vi (mi := 204) i11_109 ht rfl rfl (by simp [cat1_i, cat1_r]) (by simp) (Nat.le_of_ble_eq_true rfl))
theorem d204_19 : decode (mB 204) 19 = .ok (.ireturn, 1) := by decide +kernel
theorem x204_19 {d : Nat} {L : Lc} {x : Int32} {h : Hp} : ex (d) 204 19 L [.int x] h = some (some (.int x), h) := (ex_of d204_19 (d) L [.int x] h).trans (rfl)
theorem d204_20 : decode (mB 204) 20 = .ok (.iload_n 2, 1) := by decide +kernel
theorem x204_20 {d : Nat} {l0 l1 l3 l4 : Option Value} {st : List Value} {x : Int32} {h : Hp} : ex (d) 204 20 [l0, l1, some (.int x), l3, l4] st h = ex d 204 21 [l0, l1, some (.int x), l3, l4] (.int x :: st) h := (ex_of d204_20 (d) [l0, l1, some (.int x), l3, l4] st h).trans (rfl)
theorem d204_21 : decode (mB 204) 21 = .ok (.iconst 0, 1) := by decide +kernel
theorem x204_21 {d : Nat} {L : Lc} {st : List Value} {h : Hp} : ex (d) 204 21 L st h = ex d 204 22 L (.int (nI 0) :: st) h := (ex_of d204_21 (d) L st h).trans (rfl)
theorem d204_22 : decode (mB 204) 22 = .ok (.iconst 4, 1) := by decide +kernel
theorem x204_22 {d : Nat} {L : Lc} {st : List Value} {h : Hp} : ex (d) 204 22 L st h = ex d 204 23 L (.int (nI 4) :: st) h := (ex_of d204_22 (d) L st h).trans (rfl)
theorem d204_23 : decode (mB 204) 23 = .ok (.invokestatic 101, 3) := by decide +kernel
theorem x204_23 {d : Nat} {L : Lc}  {v0 : Int32} {v1 : Int32} {v2 : Int32} {h : Hp} : ex (d + 1) 204 23 L (.int v2 :: .int v1 :: .int v0 :: []) h = bnd (ex d 137 0 [some (.int v0), some (.int v1), some (.int v2)] [] h) (fun v h' => ex (d + 1) 204 26 L (v.toList ++ []) h') := (ex_of d204_23 (d + 1) L (.int v2 :: .int v1 :: .int v0 :: []) h).trans (fin_st (mi := 204) i11_101 (Or.inl rfl) (by simp) (by simp [cat1_i, cat1_r]) (by simp) (Nat.le_of_ble_eq_true rfl))
theorem d204_26 : decode (mB 204) 26 = .ok (.ifCond .ne 10, 3) := by decide +kernel
theorem x204_26 {d : Nat} {L : Lc} {st : List Value} {x : Int32} {h : Hp} : ex (d) 204 26 L (.int x :: st) h = if ¬ x = 0 then ex d 204 36 L st h else ex d 204 29 L st h := (ex_of d204_26 (d) L (.int x :: st) h).trans (fin_brq (off := 10) (tgt := 36) rfl (by decide))
theorem d204_29 : decode (mB 204) 29 = .ok (.aload_n 0, 1) := by decide +kernel
theorem x204_29 {d : Nat} {l1 l2 l3 l4 : Option Value} {st : List Value} {a : Nat} {h : Hp} : ex (d) 204 29 [some (.ref a), l1, l2, l3, l4] st h = ex d 204 30 [some (.ref a), l1, l2, l3, l4] (.ref a :: st) h := (ex_of d204_29 (d) [some (.ref a), l1, l2, l3, l4] st h).trans (rfl)
theorem d204_30 : decode (mB 204) 30 = .ok (.bipush 6, 2) := by decide +kernel
theorem x204_30 {d : Nat} {L : Lc} {st : List Value} {h : Hp} : ex (d) 204 30 L st h = ex d 204 32 L (.int (nI 6) :: st) h := (ex_of d204_30 (d) L st h).trans (rfl)
theorem d204_32 : decode (mB 204) 32 = .ok (.invokevirtual 109, 3) := by decide +kernel
theorem x204_32 {d : Nat} {L : Lc} {a : Nat} {v0 : Int32} {h : Hp} (ht : (h.2.1 a).1 = 11) : ex (d + 1) 204 32 L (.int v0 :: .ref a :: []) h = bnd (ex d 135 0 [some (.ref a), some (.int v0)] [] h) (fun v h' => ex (d + 1) 204 35 L (v.toList ++ []) h') := (ex_of d204_32 (d + 1) L (.int v0 :: .ref a :: []) h).trans (fin_vi (mi := 204) i11_109 ht rfl rfl (by simp [cat1_i, cat1_r]) (by simp) (Nat.le_of_ble_eq_true rfl))
theorem d204_35 : decode (mB 204) 35 = .ok (.ireturn, 1) := by decide +kernel
theorem x204_35 {d : Nat} {L : Lc} {x : Int32} {h : Hp} : ex (d) 204 35 L [.int x] h = some (some (.int x), h) := (ex_of d204_35 (d) L [.int x] h).trans (rfl)
theorem d204_36 : decode (mB 204) 36 = .ok (.aload_n 0, 1) := by decide +kernel
theorem x204_36 {d : Nat} {l1 l2 l3 l4 : Option Value} {st : List Value} {a : Nat} {h : Hp} : ex (d) 204 36 [some (.ref a), l1, l2, l3, l4] st h = ex d 204 37 [some (.ref a), l1, l2, l3, l4] (.ref a :: st) h := (ex_of d204_36 (d) [some (.ref a), l1, l2, l3, l4] st h).trans (rfl)
theorem d204_37 : decode (mB 204) 37 = .ok (.dup, 1) := by decide +kernel
theorem x204_37 {d : Nat} {L : Lc} {st : List Value} {a : Nat} {h : Hp} : ex (d) 204 37 L (.ref a :: st) h = ex d 204 38 L (.ref a :: .ref a :: st) h := (ex_of d204_37 (d) L (.ref a :: st) h).trans (rfl)
theorem x204_37i {d : Nat} {L : Lc} {st : List Value} {x : Int32} {h : Hp} : ex (d) 204 37 L (.int x :: st) h = ex d 204 38 L (.int x :: .int x :: st) h := (ex_of d204_37 (d) L (.int x :: st) h).trans (rfl)
theorem d204_38 : decode (mB 204) 38 = .ok (.getfield 126, 3) := by decide +kernel
theorem x204_38 {d : Nat} {L : Lc} {st : List Value} {a : Nat} {h : Hp} (ht : (h.2.1 a).1 = 11) : ex (d) 204 38 L (.ref a :: st) h = ex d 204 41 L (h.1 a 14 :: st) h := (ex_of d204_38 (d) L (.ref a :: st) h).trans (fin_get (mi := 204) f11_126 (tg1 ht rfl))
theorem d204_41 : decode (mB 204) 41 = .ok (.iconst 1, 1) := by decide +kernel
theorem x204_41 {d : Nat} {L : Lc} {st : List Value} {h : Hp} : ex (d) 204 41 L st h = ex d 204 42 L (.int (nI 1) :: st) h := (ex_of d204_41 (d) L st h).trans (rfl)
theorem d204_42 : decode (mB 204) 42 = .ok (.iadd, 1) := by decide +kernel
theorem x204_42 {d : Nat} {L : Lc} {st : List Value} {x y : Int32} {h : Hp} : ex (d) 204 42 L (.int y :: .int x :: st) h = ex d 204 43 L (.int (x + y) :: st) h := (ex_of d204_42 (d) L (.int y :: .int x :: st) h).trans (rfl)
theorem d204_43 : decode (mB 204) 43 = .ok (.putfield 126, 3) := by decide +kernel
theorem x204_43 {d : Nat} {L : Lc} {st : List Value} {a : Nat} {x : Int32} {h : Hp} (ht : (h.2.1 a).1 = 11) : ex (d) 204 43 L (.int x :: .ref a :: st) h = ex d 204 46 L st (mup h.1 a 14 (.int x), h.2) := (ex_of d204_43 (d) L (.int x :: .ref a :: st) h).trans (fin_put (mi := 204) f11_126 ht rfl rfl (by decide +kernel))
theorem d204_46 : decode (mB 204) 46 = .ok (.iconst 0, 1) := by decide +kernel
theorem x204_46 {d : Nat} {L : Lc} {st : List Value} {h : Hp} : ex (d) 204 46 L st h = ex d 204 47 L (.int (nI 0) :: st) h := (ex_of d204_46 (d) L st h).trans (rfl)
theorem d204_47 : decode (mB 204) 47 = .ok (.istore_n 3, 1) := by decide +kernel
theorem x204_47 {d : Nat} {l0 l1 l2 l3 l4 : Option Value} {st : List Value} {x : Int32} {h : Hp} : ex (d) 204 47 [l0, l1, l2, l3, l4] (.int x :: st) h = ex d 204 48 [l0, l1, clr l2, some (.int x), l4] st h := (ex_of d204_47 (d) [l0, l1, l2, l3, l4] (.int x :: st) h).trans (rfl)
theorem d204_48 : decode (mB 204) 48 = .ok (.iload_n 3, 1) := by decide +kernel
theorem x204_48 {d : Nat} {l0 l1 l2 l4 : Option Value} {st : List Value} {x : Int32} {h : Hp} : ex (d) 204 48 [l0, l1, l2, some (.int x), l4] st h = ex d 204 49 [l0, l1, l2, some (.int x), l4] (.int x :: st) h := (ex_of d204_48 (d) [l0, l1, l2, some (.int x), l4] st h).trans (rfl)
theorem d204_49 : decode (mB 204) 49 = .ok (.aload_n 0, 1) := by decide +kernel
theorem x204_49 {d : Nat} {l1 l2 l3 l4 : Option Value} {st : List Value} {a : Nat} {h : Hp} : ex (d) 204 49 [some (.ref a), l1, l2, l3, l4] st h = ex d 204 50 [some (.ref a), l1, l2, l3, l4] (.ref a :: st) h := (ex_of d204_49 (d) [some (.ref a), l1, l2, l3, l4] st h).trans (rfl)
theorem d204_50 : decode (mB 204) 50 = .ok (.getfield 98, 3) := by decide +kernel
theorem x204_50 {d : Nat} {L : Lc} {st : List Value} {a : Nat} {h : Hp} (ht : (h.2.1 a).1 = 11) : ex (d) 204 50 L (.ref a :: st) h = ex d 204 53 L (h.1 a 8 :: st) h := (ex_of d204_50 (d) L (.ref a :: st) h).trans (fin_get (mi := 204) f11_98 (tg1 ht rfl))
theorem d204_53 : decode (mB 204) 53 = .ok (.if_icmp .ge 34, 3) := by decide +kernel
theorem x204_53 {d : Nat} {L : Lc} {st : List Value} {x y : Int32} {h : Hp} : ex (d) 204 53 L (.int y :: .int x :: st) h = if y ≤ x then ex d 204 87 L st h else ex d 204 56 L st h := (ex_of d204_53 (d) L (.int y :: .int x :: st) h).trans (fin_brq (off := 34) (tgt := 87) rfl (by decide))
theorem d204_56 : decode (mB 204) 56 = .ok (.aload_n 0, 1) := by decide +kernel
theorem x204_56 {d : Nat} {l1 l2 l3 l4 : Option Value} {st : List Value} {a : Nat} {h : Hp} : ex (d) 204 56 [some (.ref a), l1, l2, l3, l4] st h = ex d 204 57 [some (.ref a), l1, l2, l3, l4] (.ref a :: st) h := (ex_of d204_56 (d) [some (.ref a), l1, l2, l3, l4] st h).trans (rfl)
theorem d204_57 : decode (mB 204) 57 = .ok (.sipush 200, 3) := by decide +kernel
theorem x204_57 {d : Nat} {L : Lc} {st : List Value} {h : Hp} : ex (d) 204 57 L st h = ex d 204 60 L (.int (nI 200) :: st) h := (ex_of d204_57 (d) L st h).trans (rfl)
theorem d204_60 : decode (mB 204) 60 = .ok (.iload_n 3, 1) := by decide +kernel
theorem x204_60 {d : Nat} {l0 l1 l2 l4 : Option Value} {st : List Value} {x : Int32} {h : Hp} : ex (d) 204 60 [l0, l1, l2, some (.int x), l4] st h = ex d 204 61 [l0, l1, l2, some (.int x), l4] (.int x :: st) h := (ex_of d204_60 (d) [l0, l1, l2, some (.int x), l4] st h).trans (rfl)
theorem d204_61 : decode (mB 204) 61 = .ok (.iadd, 1) := by decide +kernel
theorem x204_61 {d : Nat} {L : Lc} {st : List Value} {x y : Int32} {h : Hp} : ex (d) 204 61 L (.int y :: .int x :: st) h = ex d 204 62 L (.int (x + y) :: st) h := (ex_of d204_61 (d) L (.int y :: .int x :: st) h).trans (rfl)
theorem d204_62 : decode (mB 204) 62 = .ok (.iload_n 1, 1) := by decide +kernel
theorem x204_62 {d : Nat} {l0 l2 l3 l4 : Option Value} {st : List Value} {x : Int32} {h : Hp} : ex (d) 204 62 [l0, some (.int x), l2, l3, l4] st h = ex d 204 63 [l0, some (.int x), l2, l3, l4] (.int x :: st) h := (ex_of d204_62 (d) [l0, some (.int x), l2, l3, l4] st h).trans (rfl)
theorem d204_63 : decode (mB 204) 63 = .ok (.iload_n 2, 1) := by decide +kernel
theorem x204_63 {d : Nat} {l0 l1 l3 l4 : Option Value} {st : List Value} {x : Int32} {h : Hp} : ex (d) 204 63 [l0, l1, some (.int x), l3, l4] st h = ex d 204 64 [l0, l1, some (.int x), l3, l4] (.int x :: st) h := (ex_of d204_63 (d) [l0, l1, some (.int x), l3, l4] st h).trans (rfl)
theorem d204_64 : decode (mB 204) 64 = .ok (.invokevirtual 256, 3) := by decide +kernel
theorem x204_64 {d : Nat} {L : Lc} {a : Nat} {v0 : Int32} {v1 : Int32} {v2 : Int32} {h : Hp} (ht : (h.2.1 a).1 = 11) : ex (d + 1) 204 64 L (.int v2 :: .int v1 :: .int v0 :: .ref a :: []) h = bnd (ex d 203 0 [some (.ref a), some (.int v0), some (.int v1), some (.int v2), none, none, none, none] [] h) (fun v h' => ex (d + 1) 204 67 L (v.toList ++ []) h') := (ex_of d204_64 (d + 1) L (.int v2 :: .int v1 :: .int v0 :: .ref a :: []) h).trans (fin_vi (mi := 204) i11_256 ht rfl rfl (by simp [cat1_i, cat1_r]) (by simp) (Nat.le_of_ble_eq_true rfl))
theorem d204_67 : decode (mB 204) 67 = .ok (.istore 4, 2) := by decide +kernel
theorem x204_67 {d : Nat} {l0 l1 l2 l3 l4 : Option Value} {st : List Value} {x : Int32} {h : Hp} : ex (d) 204 67 [l0, l1, l2, l3, l4] (.int x :: st) h = ex d 204 69 [l0, l1, l2, clr l3, some (.int x)] st h := (ex_of d204_67 (d) [l0, l1, l2, l3, l4] (.int x :: st) h).trans (rfl)
theorem d204_69 : decode (mB 204) 69 = .ok (.iload 4, 2) := by decide +kernel
theorem x204_69 {d : Nat} {l0 l1 l2 l3 : Option Value} {st : List Value} {x : Int32} {h : Hp} : ex (d) 204 69 [l0, l1, l2, l3, some (.int x)] st h = ex d 204 71 [l0, l1, l2, l3, some (.int x)] (.int x :: st) h := (ex_of d204_69 (d) [l0, l1, l2, l3, some (.int x)] st h).trans (rfl)
theorem d204_71 : decode (mB 204) 71 = .ok (.ifCond .lt 10, 3) := by decide +kernel
theorem x204_71 {d : Nat} {L : Lc} {st : List Value} {x : Int32} {h : Hp} : ex (d) 204 71 L (.int x :: st) h = if x < 0 then ex d 204 81 L st h else ex d 204 74 L st h := (ex_of d204_71 (d) L (.int x :: st) h).trans (fin_brq (off := 10) (tgt := 81) rfl (by decide))
theorem d204_74 : decode (mB 204) 74 = .ok (.aload_n 0, 1) := by decide +kernel
theorem x204_74 {d : Nat} {l1 l2 l3 l4 : Option Value} {st : List Value} {a : Nat} {h : Hp} : ex (d) 204 74 [some (.ref a), l1, l2, l3, l4] st h = ex d 204 75 [some (.ref a), l1, l2, l3, l4] (.ref a :: st) h := (ex_of d204_74 (d) [some (.ref a), l1, l2, l3, l4] st h).trans (rfl)
theorem d204_75 : decode (mB 204) 75 = .ok (.iload 4, 2) := by decide +kernel
theorem x204_75 {d : Nat} {l0 l1 l2 l3 : Option Value} {st : List Value} {x : Int32} {h : Hp} : ex (d) 204 75 [l0, l1, l2, l3, some (.int x)] st h = ex d 204 77 [l0, l1, l2, l3, some (.int x)] (.int x :: st) h := (ex_of d204_75 (d) [l0, l1, l2, l3, some (.int x)] st h).trans (rfl)
theorem d204_77 : decode (mB 204) 77 = .ok (.invokevirtual 113, 3) := by decide +kernel
theorem x204_77 {d : Nat} {L : Lc} {a : Nat} {v0 : Int32} {h : Hp} (ht : (h.2.1 a).1 = 11) : ex (d + 1) 204 77 L (.int v0 :: .ref a :: []) h = bnd (ex d 134 0 [some (.ref a), some (.int v0)] [] h) (fun v h' => ex (d + 1) 204 80 L (v.toList ++ []) h') := (ex_of d204_77 (d + 1) L (.int v0 :: .ref a :: []) h).trans (fin_vi (mi := 204) i11_113 ht rfl rfl (by simp [cat1_i, cat1_r]) (by simp) (Nat.le_of_ble_eq_true rfl))
theorem d204_80 : decode (mB 204) 80 = .ok (.ireturn, 1) := by decide +kernel
theorem x204_80 {d : Nat} {L : Lc} {x : Int32} {h : Hp} : ex (d) 204 80 L [.int x] h = some (some (.int x), h) := (ex_of d204_80 (d) L [.int x] h).trans (rfl)
theorem d204_81 : decode (mB 204) 81 = .ok (.iinc 3 1, 3) := by decide +kernel
theorem x204_81 {d : Nat} {l0 l1 l2 l4 : Option Value} {st : List Value} {x : Int32} {h : Hp} : ex (d) 204 81 [l0, l1, l2, some (.int x), l4] st h = ex d 204 84 [l0, l1, clr l2, some (.int (x + (nI 1))), l4] st h := (ex_of d204_81 (d) [l0, l1, l2, some (.int x), l4] st h).trans (rfl)
theorem d204_84 : decode (mB 204) 84 = .ok (.goto (-36), 3) := by decide +kernel
theorem x204_84 {d : Nat} {L : Lc} {st : List Value} {h : Hp} : ex (d) 204 84 L st h = ex d 204 48 L st h := (ex_of d204_84 (d) L st h).trans (rfl)
theorem d204_87 : decode (mB 204) 87 = .ok (.aload_n 0, 1) := by decide +kernel
theorem x204_87 {d : Nat} {l1 l2 l3 l4 : Option Value} {st : List Value} {a : Nat} {h : Hp} : ex (d) 204 87 [some (.ref a), l1, l2, l3, l4] st h = ex d 204 88 [some (.ref a), l1, l2, l3, l4] (.ref a :: st) h := (ex_of d204_87 (d) [some (.ref a), l1, l2, l3, l4] st h).trans (rfl)
theorem d204_88 : decode (mB 204) 88 = .ok (.iconst 3, 1) := by decide +kernel
theorem x204_88 {d : Nat} {L : Lc} {st : List Value} {h : Hp} : ex (d) 204 88 L st h = ex d 204 89 L (.int (nI 3) :: st) h := (ex_of d204_88 (d) L st h).trans (rfl)
theorem d204_89 : decode (mB 204) 89 = .ok (.invokevirtual 109, 3) := by decide +kernel
theorem x204_89 {d : Nat} {L : Lc} {a : Nat} {v0 : Int32} {h : Hp} (ht : (h.2.1 a).1 = 11) : ex (d + 1) 204 89 L (.int v0 :: .ref a :: []) h = bnd (ex d 135 0 [some (.ref a), some (.int v0)] [] h) (fun v h' => ex (d + 1) 204 92 L (v.toList ++ []) h') := (ex_of d204_89 (d + 1) L (.int v0 :: .ref a :: []) h).trans (fin_vi (mi := 204) i11_109 ht rfl rfl (by simp [cat1_i, cat1_r]) (by simp) (Nat.le_of_ble_eq_true rfl))
theorem d204_92 : decode (mB 204) 92 = .ok (.ireturn, 1) := by decide +kernel
theorem x204_92 {d : Nat} {L : Lc} {x : Int32} {h : Hp} : ex (d) 204 92 L [.int x] h = some (some (.int x), h) := (ex_of d204_92 (d) L [.int x] h).trans (rfl)
theorem d205_0 : decode (mB 205) 0 = .ok (.aload_n 0, 1) := by decide +kernel
theorem x205_0 {d : Nat} {l1 l2 l3 : Option Value} {st : List Value} {a : Nat} {h : Hp} : ex (d) 205 0 [some (.ref a), l1, l2, l3] st h = ex d 205 1 [some (.ref a), l1, l2, l3] (.ref a :: st) h := (ex_of d205_0 (d) [some (.ref a), l1, l2, l3] st h).trans (rfl)
theorem d205_1 : decode (mB 205) 1 = .ok (.iload_n 1, 1) := by decide +kernel
theorem x205_1 {d : Nat} {l0 l2 l3 : Option Value} {st : List Value} {x : Int32} {h : Hp} : ex (d) 205 1 [l0, some (.int x), l2, l3] st h = ex d 205 2 [l0, some (.int x), l2, l3] (.int x :: st) h := (ex_of d205_1 (d) [l0, some (.int x), l2, l3] st h).trans (rfl)
theorem d205_2 : decode (mB 205) 2 = .ok (.invokevirtual 132, 3) := by decide +kernel
theorem x205_2 {d : Nat} {L : Lc} {a : Nat} {v0 : Int32} {h : Hp} (ht : (h.2.1 a).1 = 11) : ex (d + 1) 205 2 L (.int v0 :: .ref a :: []) h = bnd (ex d 140 0 [some (.ref a), some (.int v0), none] [] h) (fun v h' => ex (d + 1) 205 5 L (v.toList ++ []) h') := (ex_of d205_2 (d + 1) L (.int v0 :: .ref a :: []) h).trans (fin_vi (mi := 205) i11_132 ht rfl rfl (by simp [cat1_i, cat1_r]) (by simp) (Nat.le_of_ble_eq_true rfl))
theorem d205_5 : decode (mB 205) 5 = .ok (.istore_n 2, 1) := by decide +kernel
theorem x205_5 {d : Nat} {l0 l1 l2 l3 : Option Value} {st : List Value} {x : Int32} {h : Hp} : ex (d) 205 5 [l0, l1, l2, l3] (.int x :: st) h = ex d 205 6 [l0, clr l1, some (.int x), l3] st h := (ex_of d205_5 (d) [l0, l1, l2, l3] (.int x :: st) h).trans (rfl)
theorem d205_6 : decode (mB 205) 6 = .ok (.iload_n 2, 1) := by decide +kernel
theorem x205_6 {d : Nat} {l0 l1 l3 : Option Value} {st : List Value} {x : Int32} {h : Hp} : ex (d) 205 6 [l0, l1, some (.int x), l3] st h = ex d 205 7 [l0, l1, some (.int x), l3] (.int x :: st) h := (ex_of d205_6 (d) [l0, l1, some (.int x), l3] st h).trans (rfl)
theorem d205_7 : decode (mB 205) 7 = .ok (.ifCond .ge 9, 3) := by decide +kernel
theorem x205_7 {d : Nat} {L : Lc} {st : List Value} {x : Int32} {h : Hp} : ex (d) 205 7 L (.int x :: st) h = if 0 ≤ x then ex d 205 16 L st h else ex d 205 10 L st h := (ex_of d205_7 (d) L (.int x :: st) h).trans (fin_brq (off := 9) (tgt := 16) rfl (by decide))
theorem d205_10 : decode (mB 205) 10 = .ok (.aload_n 0, 1) := by decide +kernel
theorem x205_10 {d : Nat} {l1 l2 l3 : Option Value} {st : List Value} {a : Nat} {h : Hp} : ex (d) 205 10 [some (.ref a), l1, l2, l3] st h = ex d 205 11 [some (.ref a), l1, l2, l3] (.ref a :: st) h := (ex_of d205_10 (d) [some (.ref a), l1, l2, l3] st h).trans (rfl)
theorem d205_11 : decode (mB 205) 11 = .ok (.iconst 1, 1) := by decide +kernel
theorem x205_11 {d : Nat} {L : Lc} {st : List Value} {h : Hp} : ex (d) 205 11 L st h = ex d 205 12 L (.int (nI 1) :: st) h := (ex_of d205_11 (d) L st h).trans (rfl)
theorem d205_12 : decode (mB 205) 12 = .ok (.invokevirtual 109, 3) := by decide +kernel
theorem x205_12 {d : Nat} {L : Lc} {a : Nat} {v0 : Int32} {h : Hp} (ht : (h.2.1 a).1 = 11) : ex (d + 1) 205 12 L (.int v0 :: .ref a :: []) h = bnd (ex d 135 0 [some (.ref a), some (.int v0)] [] h) (fun v h' => ex (d + 1) 205 15 L (v.toList ++ []) h') := (ex_of d205_12 (d + 1) L (.int v0 :: .ref a :: []) h).trans (fin_vi (mi := 205) i11_109 ht rfl rfl (by simp [cat1_i, cat1_r]) (by simp) (Nat.le_of_ble_eq_true rfl))
theorem d205_15 : decode (mB 205) 15 = .ok (.ireturn, 1) := by decide +kernel
theorem x205_15 {d : Nat} {L : Lc} {x : Int32} {h : Hp} : ex (d) 205 15 L [.int x] h = some (some (.int x), h) := (ex_of d205_15 (d) L [.int x] h).trans (rfl)
theorem d205_16 : decode (mB 205) 16 = .ok (.aload_n 0, 1) := by decide +kernel
theorem x205_16 {d : Nat} {l1 l2 l3 : Option Value} {st : List Value} {a : Nat} {h : Hp} : ex (d) 205 16 [some (.ref a), l1, l2, l3] st h = ex d 205 17 [some (.ref a), l1, l2, l3] (.ref a :: st) h := (ex_of d205_16 (d) [some (.ref a), l1, l2, l3] st h).trans (rfl)
theorem d205_17 : decode (mB 205) 17 = .ok (.dup, 1) := by decide +kernel
theorem x205_17 {d : Nat} {L : Lc} {st : List Value} {a : Nat} {h : Hp} : ex (d) 205 17 L (.ref a :: st) h = ex d 205 18 L (.ref a :: .ref a :: st) h := (ex_of d205_17 (d) L (.ref a :: st) h).trans (rfl)
theorem x205_17i {d : Nat} {L : Lc} {st : List Value} {x : Int32} {h : Hp} : ex (d) 205 17 L (.int x :: st) h = ex d 205 18 L (.int x :: .int x :: st) h := (ex_of d205_17 (d) L (.int x :: st) h).trans (rfl)
theorem d205_18 : decode (mB 205) 18 = .ok (.getfield 126, 3) := by decide +kernel
theorem x205_18 {d : Nat} {L : Lc} {st : List Value} {a : Nat} {h : Hp} (ht : (h.2.1 a).1 = 11) : ex (d) 205 18 L (.ref a :: st) h = ex d 205 21 L (h.1 a 14 :: st) h := (ex_of d205_18 (d) L (.ref a :: st) h).trans (fin_get (mi := 205) f11_126 (tg1 ht rfl))
theorem d205_21 : decode (mB 205) 21 = .ok (.iconst 1, 1) := by decide +kernel
theorem x205_21 {d : Nat} {L : Lc} {st : List Value} {h : Hp} : ex (d) 205 21 L st h = ex d 205 22 L (.int (nI 1) :: st) h := (ex_of d205_21 (d) L st h).trans (rfl)
theorem d205_22 : decode (mB 205) 22 = .ok (.iadd, 1) := by decide +kernel
theorem x205_22 {d : Nat} {L : Lc} {st : List Value} {x y : Int32} {h : Hp} : ex (d) 205 22 L (.int y :: .int x :: st) h = ex d 205 23 L (.int (x + y) :: st) h := (ex_of d205_22 (d) L (.int y :: .int x :: st) h).trans (rfl)
theorem d205_23 : decode (mB 205) 23 = .ok (.putfield 126, 3) := by decide +kernel
theorem x205_23 {d : Nat} {L : Lc} {st : List Value} {a : Nat} {x : Int32} {h : Hp} (ht : (h.2.1 a).1 = 11) : ex (d) 205 23 L (.int x :: .ref a :: st) h = ex d 205 26 L st (mup h.1 a 14 (.int x), h.2) := (ex_of d205_23 (d) L (.int x :: .ref a :: st) h).trans (fin_put (mi := 205) f11_126 ht rfl rfl (by decide +kernel))
theorem d205_26 : decode (mB 205) 26 = .ok (.aload_n 0, 1) := by decide +kernel
theorem x205_26 {d : Nat} {l1 l2 l3 : Option Value} {st : List Value} {a : Nat} {h : Hp} : ex (d) 205 26 [some (.ref a), l1, l2, l3] st h = ex d 205 27 [some (.ref a), l1, l2, l3] (.ref a :: st) h := (ex_of d205_26 (d) [some (.ref a), l1, l2, l3] st h).trans (rfl)
theorem d205_27 : decode (mB 205) 27 = .ok (.iconst 0, 1) := by decide +kernel
theorem x205_27 {d : Nat} {L : Lc} {st : List Value} {h : Hp} : ex (d) 205 27 L st h = ex d 205 28 L (.int (nI 0) :: st) h := (ex_of d205_27 (d) L st h).trans (rfl)
theorem d205_28 : decode (mB 205) 28 = .ok (.putfield 249, 3) := by decide +kernel
theorem x205_28 {d : Nat} {L : Lc} {st : List Value} {a : Nat} {x : Int32} {h : Hp} (ht : (h.2.1 a).1 = 11) : ex (d) 205 28 L (.int x :: .ref a :: st) h = ex d 205 31 L st (mup h.1 a 41 (.int x), h.2) := (ex_of d205_28 (d) L (.int x :: .ref a :: st) h).trans (fin_put (mi := 205) f11_249 ht rfl rfl (by decide +kernel))
theorem d205_31 : decode (mB 205) 31 = .ok (.aload_n 0, 1) := by decide +kernel
theorem x205_31 {d : Nat} {l1 l2 l3 : Option Value} {st : List Value} {a : Nat} {h : Hp} : ex (d) 205 31 [some (.ref a), l1, l2, l3] st h = ex d 205 32 [some (.ref a), l1, l2, l3] (.ref a :: st) h := (ex_of d205_31 (d) [some (.ref a), l1, l2, l3] st h).trans (rfl)
theorem d205_32 : decode (mB 205) 32 = .ok (.iload_n 2, 1) := by decide +kernel
theorem x205_32 {d : Nat} {l0 l1 l3 : Option Value} {st : List Value} {x : Int32} {h : Hp} : ex (d) 205 32 [l0, l1, some (.int x), l3] st h = ex d 205 33 [l0, l1, some (.int x), l3] (.int x :: st) h := (ex_of d205_32 (d) [l0, l1, some (.int x), l3] st h).trans (rfl)
theorem d205_33 : decode (mB 205) 33 = .ok (.iconst (-1), 1) := by decide +kernel
theorem x205_33 {d : Nat} {L : Lc} {st : List Value} {h : Hp} : ex (d) 205 33 L st h = ex d 205 34 L (.int (-1) :: st) h := (ex_of d205_33 (d) L st h).trans (rfl)
theorem d205_34 : decode (mB 205) 34 = .ok (.iconst (-1), 1) := by decide +kernel
theorem x205_34 {d : Nat} {L : Lc} {st : List Value} {h : Hp} : ex (d) 205 34 L st h = ex d 205 35 L (.int (-1) :: st) h := (ex_of d205_34 (d) L st h).trans (rfl)
theorem d205_35 : decode (mB 205) 35 = .ok (.invokevirtual 256, 3) := by decide +kernel
theorem x205_35 {d : Nat} {L : Lc} {a : Nat} {v0 : Int32} {v1 : Int32} {v2 : Int32} {h : Hp} (ht : (h.2.1 a).1 = 11) : ex (d + 1) 205 35 L (.int v2 :: .int v1 :: .int v0 :: .ref a :: []) h = bnd (ex d 203 0 [some (.ref a), some (.int v0), some (.int v1), some (.int v2), none, none, none, none] [] h) (fun v h' => ex (d + 1) 205 38 L (v.toList ++ []) h') := (ex_of d205_35 (d + 1) L (.int v2 :: .int v1 :: .int v0 :: .ref a :: []) h).trans (fin_vi (mi := 205) i11_256 ht rfl rfl (by simp [cat1_i, cat1_r]) (by simp) (Nat.le_of_ble_eq_true rfl))
theorem d205_38 : decode (mB 205) 38 = .ok (.istore_n 3, 1) := by decide +kernel
theorem x205_38 {d : Nat} {l0 l1 l2 l3 : Option Value} {st : List Value} {x : Int32} {h : Hp} : ex (d) 205 38 [l0, l1, l2, l3] (.int x :: st) h = ex d 205 39 [l0, l1, clr l2, some (.int x)] st h := (ex_of d205_38 (d) [l0, l1, l2, l3] (.int x :: st) h).trans (rfl)
theorem d205_39 : decode (mB 205) 39 = .ok (.aload_n 0, 1) := by decide +kernel
theorem x205_39 {d : Nat} {l1 l2 l3 : Option Value} {st : List Value} {a : Nat} {h : Hp} : ex (d) 205 39 [some (.ref a), l1, l2, l3] st h = ex d 205 40 [some (.ref a), l1, l2, l3] (.ref a :: st) h := (ex_of d205_39 (d) [some (.ref a), l1, l2, l3] st h).trans (rfl)
theorem d205_40 : decode (mB 205) 40 = .ok (.aload_n 0, 1) := by decide +kernel
theorem x205_40 {d : Nat} {l1 l2 l3 : Option Value} {st : List Value} {a : Nat} {h : Hp} : ex (d) 205 40 [some (.ref a), l1, l2, l3] st h = ex d 205 41 [some (.ref a), l1, l2, l3] (.ref a :: st) h := (ex_of d205_40 (d) [some (.ref a), l1, l2, l3] st h).trans (rfl)
theorem d205_41 : decode (mB 205) 41 = .ok (.getfield 249, 3) := by decide +kernel
theorem x205_41 {d : Nat} {L : Lc} {st : List Value} {a : Nat} {h : Hp} (ht : (h.2.1 a).1 = 11) : ex (d) 205 41 L (.ref a :: st) h = ex d 205 44 L (h.1 a 41 :: st) h := (ex_of d205_41 (d) L (.ref a :: st) h).trans (fin_get (mi := 205) f11_249 (tg1 ht rfl))
theorem d205_44 : decode (mB 205) 44 = .ok (.invokevirtual 113, 3) := by decide +kernel
theorem x205_44 {d : Nat} {L : Lc} {a : Nat} {v0 : Int32} {h : Hp} (ht : (h.2.1 a).1 = 11) : ex (d + 1) 205 44 L (.int v0 :: .ref a :: []) h = bnd (ex d 134 0 [some (.ref a), some (.int v0)] [] h) (fun v h' => ex (d + 1) 205 47 L (v.toList ++ []) h') := (ex_of d205_44 (d + 1) L (.int v0 :: .ref a :: []) h).trans (fin_vi (mi := 205) i11_113 ht rfl rfl (by simp [cat1_i, cat1_r]) (by simp) (Nat.le_of_ble_eq_true rfl))
theorem d205_47 : decode (mB 205) 47 = .ok (.ireturn, 1) := by decide +kernel
theorem x205_47 {d : Nat} {L : Lc} {x : Int32} {h : Hp} : ex (d) 205 47 L [.int x] h = some (some (.int x), h) := (ex_of d205_47 (d) L [.int x] h).trans (rfl)
theorem d206_0 : decode (mB 206) 0 = .ok (.iload_n 1, 1) := by decide +kernel
theorem x206_0 {d : Nat} {l0 : Option Value} {st : List Value} {x : Int32} {h : Hp} : ex (d) 206 0 [l0, some (.int x)] st h = ex d 206 1 [l0, some (.int x)] (.int x :: st) h := (ex_of d206_0 (d) [l0, some (.int x)] st h).trans (rfl)
theorem d206_1 : decode (mB 206) 1 = .ok (.iconst 0, 1) := by decide +kernel
theorem x206_1 {d : Nat} {L : Lc} {st : List Value} {h : Hp} : ex (d) 206 1 L st h = ex d 206 2 L (.int (nI 0) :: st) h := (ex_of d206_1 (d) L st h).trans (rfl)
theorem d206_2 : decode (mB 206) 2 = .ok (.iconst 2, 1) := by decide +kernel
theorem x206_2 {d : Nat} {L : Lc} {st : List Value} {h : Hp} : ex (d) 206 2 L st h = ex d 206 3 L (.int (nI 2) :: st) h := (ex_of d206_2 (d) L st h).trans (rfl)
theorem d206_3 : decode (mB 206) 3 = .ok (.invokestatic 101, 3) := by decide +kernel
theorem x206_3 {d : Nat} {L : Lc}  {v0 : Int32} {v1 : Int32} {v2 : Int32} {h : Hp} : ex (d + 1) 206 3 L (.int v2 :: .int v1 :: .int v0 :: []) h = bnd (ex d 137 0 [some (.int v0), some (.int v1), some (.int v2)] [] h) (fun v h' => ex (d + 1) 206 6 L (v.toList ++ []) h') := (ex_of d206_3 (d + 1) L (.int v2 :: .int v1 :: .int v0 :: []) h).trans (fin_st (mi := 206) i11_101 (Or.inl rfl) (by simp) (by simp [cat1_i, cat1_r]) (by simp) (Nat.le_of_ble_eq_true rfl))
theorem d206_6 : decode (mB 206) 6 = .ok (.ifCond .eq 34, 3) := by decide +kernel
theorem x206_6 {d : Nat} {L : Lc} {st : List Value} {x : Int32} {h : Hp} : ex (d) 206 6 L (.int x :: st) h = if x = 0 then ex d 206 40 L st h else ex d 206 9 L st h := (ex_of d206_6 (d) L (.int x :: st) h).trans (fin_brq (off := 34) (tgt := 40) rfl (by decide))
theorem d206_9 : decode (mB 206) 9 = .ok (.aload_n 0, 1) := by decide +kernel
theorem x206_9 {d : Nat} {l1 : Option Value} {st : List Value} {a : Nat} {h : Hp} : ex (d) 206 9 [some (.ref a), l1] st h = ex d 206 10 [some (.ref a), l1] (.ref a :: st) h := (ex_of d206_9 (d) [some (.ref a), l1] st h).trans (rfl)
theorem d206_10 : decode (mB 206) 10 = .ok (.iload_n 1, 1) := by decide +kernel
theorem x206_10 {d : Nat} {l0 : Option Value} {st : List Value} {x : Int32} {h : Hp} : ex (d) 206 10 [l0, some (.int x)] st h = ex d 206 11 [l0, some (.int x)] (.int x :: st) h := (ex_of d206_10 (d) [l0, some (.int x)] st h).trans (rfl)
theorem d206_11 : decode (mB 206) 11 = .ok (.ifCond .ne 10, 3) := by decide +kernel
theorem x206_11 {d : Nat} {L : Lc} {st : List Value} {x : Int32} {h : Hp} : ex (d) 206 11 L (.int x :: st) h = if ¬ x = 0 then ex d 206 21 L st h else ex d 206 14 L st h := (ex_of d206_11 (d) L (.int x :: st) h).trans (fin_brq (off := 10) (tgt := 21) rfl (by decide))
theorem d206_14 : decode (mB 206) 14 = .ok (.aload_n 0, 1) := by decide +kernel
theorem x206_14 {d : Nat} {l1 : Option Value} {st : List Value} {a : Nat} {h : Hp} : ex (d) 206 14 [some (.ref a), l1] st h = ex d 206 15 [some (.ref a), l1] (.ref a :: st) h := (ex_of d206_14 (d) [some (.ref a), l1] st h).trans (rfl)
theorem d206_15 : decode (mB 206) 15 = .ok (.getfield 126, 3) := by decide +kernel
theorem x206_15 {d : Nat} {L : Lc} {st : List Value} {a : Nat} {h : Hp} (ht : (h.2.1 a).1 = 11) : ex (d) 206 15 L (.ref a :: st) h = ex d 206 18 L (h.1 a 14 :: st) h := (ex_of d206_15 (d) L (.ref a :: st) h).trans (fin_get (mi := 206) f11_126 (tg1 ht rfl))
theorem d206_18 : decode (mB 206) 18 = .ok (.goto 16, 3) := by decide +kernel
theorem x206_18 {d : Nat} {L : Lc} {st : List Value} {h : Hp} : ex (d) 206 18 L st h = ex d 206 34 L st h := (ex_of d206_18 (d) L st h).trans (rfl)
theorem d206_21 : decode (mB 206) 21 = .ok (.iload_n 1, 1) := by decide +kernel
theorem x206_21 {d : Nat} {l0 : Option Value} {st : List Value} {x : Int32} {h : Hp} : ex (d) 206 21 [l0, some (.int x)] st h = ex d 206 22 [l0, some (.int x)] (.int x :: st) h := (ex_of d206_21 (d) [l0, some (.int x)] st h).trans (rfl)
theorem d206_22 : decode (mB 206) 22 = .ok (.iconst 1, 1) := by decide +kernel
theorem x206_22 {d : Nat} {L : Lc} {st : List Value} {h : Hp} : ex (d) 206 22 L st h = ex d 206 23 L (.int (nI 1) :: st) h := (ex_of d206_22 (d) L st h).trans (rfl)
theorem d206_23 : decode (mB 206) 23 = .ok (.if_icmp .ne 10, 3) := by decide +kernel
theorem x206_23 {d : Nat} {L : Lc} {st : List Value} {x y : Int32} {h : Hp} : ex (d) 206 23 L (.int y :: .int x :: st) h = if ¬ x = y then ex d 206 33 L st h else ex d 206 26 L st h := (ex_of d206_23 (d) L (.int y :: .int x :: st) h).trans (fin_brq (off := 10) (tgt := 33) rfl (by decide))
theorem d206_26 : decode (mB 206) 26 = .ok (.aload_n 0, 1) := by decide +kernel
theorem x206_26 {d : Nat} {l1 : Option Value} {st : List Value} {a : Nat} {h : Hp} : ex (d) 206 26 [some (.ref a), l1] st h = ex d 206 27 [some (.ref a), l1] (.ref a :: st) h := (ex_of d206_26 (d) [some (.ref a), l1] st h).trans (rfl)
theorem d206_27 : decode (mB 206) 27 = .ok (.getfield 129, 3) := by decide +kernel
theorem x206_27 {d : Nat} {L : Lc} {st : List Value} {a : Nat} {h : Hp} (ht : (h.2.1 a).1 = 11) : ex (d) 206 27 L (.ref a :: st) h = ex d 206 30 L (h.1 a 15 :: st) h := (ex_of d206_27 (d) L (.ref a :: st) h).trans (fin_get (mi := 206) f11_129 (tg1 ht rfl))
theorem d206_30 : decode (mB 206) 30 = .ok (.goto 4, 3) := by decide +kernel
theorem x206_30 {d : Nat} {L : Lc} {st : List Value} {h : Hp} : ex (d) 206 30 L st h = ex d 206 34 L st h := (ex_of d206_30 (d) L st h).trans (rfl)
theorem d206_33 : decode (mB 206) 33 = .ok (.iconst 0, 1) := by decide +kernel
theorem x206_33 {d : Nat} {L : Lc} {st : List Value} {h : Hp} : ex (d) 206 33 L st h = ex d 206 34 L (.int (nI 0) :: st) h := (ex_of d206_33 (d) L st h).trans (rfl)
theorem d206_34 : decode (mB 206) 34 = .ok (.invokevirtual 113, 3) := by decide +kernel
theorem x206_34 {d : Nat} {L : Lc} {a : Nat} {v0 : Int32} {h : Hp} (ht : (h.2.1 a).1 = 11) : ex (d + 1) 206 34 L (.int v0 :: .ref a :: []) h = bnd (ex d 134 0 [some (.ref a), some (.int v0)] [] h) (fun v h' => ex (d + 1) 206 37 L (v.toList ++ []) h') := (ex_of d206_34 (d + 1) L (.int v0 :: .ref a :: []) h).trans (fin_vi (mi := 206) i11_113 ht rfl rfl (by simp [cat1_i, cat1_r]) (by simp) (Nat.le_of_ble_eq_true rfl))
theorem d206_37 : decode (mB 206) 37 = .ok (.goto 9, 3) := by decide +kernel
theorem x206_37 {d : Nat} {L : Lc} {st : List Value} {h : Hp} : ex (d) 206 37 L st h = ex d 206 46 L st h := (ex_of d206_37 (d) L st h).trans (rfl)
theorem d206_40 : decode (mB 206) 40 = .ok (.aload_n 0, 1) := by decide +kernel
theorem x206_40 {d : Nat} {l1 : Option Value} {st : List Value} {a : Nat} {h : Hp} : ex (d) 206 40 [some (.ref a), l1] st h = ex d 206 41 [some (.ref a), l1] (.ref a :: st) h := (ex_of d206_40 (d) [some (.ref a), l1] st h).trans (rfl)
theorem d206_41 : decode (mB 206) 41 = .ok (.bipush 6, 2) := by decide +kernel
theorem x206_41 {d : Nat} {L : Lc} {st : List Value} {h : Hp} : ex (d) 206 41 L st h = ex d 206 43 L (.int (nI 6) :: st) h := (ex_of d206_41 (d) L st h).trans (rfl)
theorem d206_43 : decode (mB 206) 43 = .ok (.invokevirtual 109, 3) := by decide +kernel
theorem x206_43 {d : Nat} {L : Lc} {a : Nat} {v0 : Int32} {h : Hp} (ht : (h.2.1 a).1 = 11) : ex (d + 1) 206 43 L (.int v0 :: .ref a :: []) h = bnd (ex d 135 0 [some (.ref a), some (.int v0)] [] h) (fun v h' => ex (d + 1) 206 46 L (v.toList ++ []) h') := (ex_of d206_43 (d + 1) L (.int v0 :: .ref a :: []) h).trans (fin_vi (mi := 206) i11_109 ht rfl rfl (by simp [cat1_i, cat1_r]) (by simp) (Nat.le_of_ble_eq_true rfl))
theorem d206_46 : decode (mB 206) 46 = .ok (.ireturn, 1) := by decide +kernel
theorem x206_46 {d : Nat} {L : Lc} {x : Int32} {h : Hp} : ex (d) 206 46 L [.int x] h = some (some (.int x), h) := (ex_of d206_46 (d) L [.int x] h).trans (rfl)
theorem d207_0 : decode (mB 207) 0 = .ok (.aload_n 0, 1) := by decide +kernel
theorem x207_0 {d : Nat} {st : List Value} {a : Nat} {h : Hp} : ex (d) 207 0 [some (.ref a)] st h = ex d 207 1 [some (.ref a)] (.ref a :: st) h := (ex_of d207_0 (d) [some (.ref a)] st h).trans (rfl)
theorem d207_1 : decode (mB 207) 1 = .ok (.getfield 91, 3) := by decide +kernel
theorem x207_1 {d : Nat} {L : Lc} {st : List Value} {a : Nat} {h : Hp} (ht : (h.2.1 a).1 = 11) : ex (d) 207 1 L (.ref a :: st) h = ex d 207 4 L (h.1 a 0 :: st) h := (ex_of d207_1 (d) L (.ref a :: st) h).trans (fin_get (mi := 207) f11_91 (tg1 ht rfl))
theorem d207_4 : decode (mB 207) 4 = .ok (.ireturn, 1) := by decide +kernel
theorem x207_4 {d : Nat} {L : Lc} {x : Int32} {h : Hp} : ex (d) 207 4 L [.int x] h = some (some (.int x), h) := (ex_of d207_4 (d) L [.int x] h).trans (rfl)
theorem d208_0 : decode (mB 208) 0 = .ok (.bipush 17, 2) := by decide +kernel
theorem x208_0 {d : Nat} {L : Lc} {st : List Value} {h : Hp} : ex (d) 208 0 L st h = ex d 208 2 L (.int (nI 17) :: st) h := (ex_of d208_0 (d) L st h).trans (rfl)
theorem d208_2 : decode (mB 208) 2 = .ok (.istore_n 1, 1) := by decide +kernel
theorem x208_2 {d : Nat} {l0 l1 l2 l3 : Option Value} {st : List Value} {x : Int32} {h : Hp} : ex (d) 208 2 [l0, l1, l2, l3] (.int x :: st) h = ex d 208 3 [clr l0, some (.int x), l2, l3] st h := (ex_of d208_2 (d) [l0, l1, l2, l3] (.int x :: st) h).trans (rfl)
theorem d208_3 : decode (mB 208) 3 = .ok (.iconst 0, 1) := by decide +kernel
theorem x208_3 {d : Nat} {L : Lc} {st : List Value} {h : Hp} : ex (d) 208 3 L st h = ex d 208 4 L (.int (nI 0) :: st) h := (ex_of d208_3 (d) L st h).trans (rfl)
theorem d208_4 : decode (mB 208) 4 = .ok (.istore_n 2, 1) := by decide +kernel
theorem x208_4 {d : Nat} {l0 l1 l2 l3 : Option Value} {st : List Value} {x : Int32} {h : Hp} : ex (d) 208 4 [l0, l1, l2, l3] (.int x :: st) h = ex d 208 5 [l0, clr l1, some (.int x), l3] st h := (ex_of d208_4 (d) [l0, l1, l2, l3] (.int x :: st) h).trans (rfl)
theorem d208_5 : decode (mB 208) 5 = .ok (.iload_n 2, 1) := by decide +kernel
theorem x208_5 {d : Nat} {l0 l1 l3 : Option Value} {st : List Value} {x : Int32} {h : Hp} : ex (d) 208 5 [l0, l1, some (.int x), l3] st h = ex d 208 6 [l0, l1, some (.int x), l3] (.int x :: st) h := (ex_of d208_5 (d) [l0, l1, some (.int x), l3] st h).trans (rfl)
theorem d208_6 : decode (mB 208) 6 = .ok (.aload_n 0, 1) := by decide +kernel
theorem x208_6 {d : Nat} {l1 l2 l3 : Option Value} {st : List Value} {a : Nat} {h : Hp} : ex (d) 208 6 [some (.ref a), l1, l2, l3] st h = ex d 208 7 [some (.ref a), l1, l2, l3] (.ref a :: st) h := (ex_of d208_6 (d) [some (.ref a), l1, l2, l3] st h).trans (rfl)
theorem d208_7 : decode (mB 208) 7 = .ok (.getfield 95, 3) := by decide +kernel
theorem x208_7 {d : Nat} {L : Lc} {st : List Value} {a : Nat} {h : Hp} (ht : (h.2.1 a).1 = 11) : ex (d) 208 7 L (.ref a :: st) h = ex d 208 10 L (h.1 a 1 :: st) h := (ex_of d208_7 (d) L (.ref a :: st) h).trans (fin_get (mi := 208) f11_95 (tg1 ht rfl))
theorem d208_10 : decode (mB 208) 10 = .ok (.if_icmp .ge 80, 3) := by decide +kernel
theorem x208_10 {d : Nat} {L : Lc} {st : List Value} {x y : Int32} {h : Hp} : ex (d) 208 10 L (.int y :: .int x :: st) h = if y ≤ x then ex d 208 90 L st h else ex d 208 13 L st h := (ex_of d208_10 (d) L (.int y :: .int x :: st) h).trans (fin_brq (off := 80) (tgt := 90) rfl (by decide))
theorem d208_13 : decode (mB 208) 13 = .ok (.iload_n 1, 1) := by decide +kernel
theorem x208_13 {d : Nat} {l0 l2 l3 : Option Value} {st : List Value} {x : Int32} {h : Hp} : ex (d) 208 13 [l0, some (.int x), l2, l3] st h = ex d 208 14 [l0, some (.int x), l2, l3] (.int x :: st) h := (ex_of d208_13 (d) [l0, some (.int x), l2, l3] st h).trans (rfl)
theorem d208_14 : decode (mB 208) 14 = .ok (.bipush 31, 2) := by decide +kernel
theorem x208_14 {d : Nat} {L : Lc} {st : List Value} {h : Hp} : ex (d) 208 14 L st h = ex d 208 16 L (.int (nI 31) :: st) h := (ex_of d208_14 (d) L st h).trans (rfl)
theorem d208_16 : decode (mB 208) 16 = .ok (.imul, 1) := by decide +kernel
theorem x208_16 {d : Nat} {L : Lc} {st : List Value} {x y : Int32} {h : Hp} : ex (d) 208 16 L (.int y :: .int x :: st) h = ex d 208 17 L (.int (x * y) :: st) h := (ex_of d208_16 (d) L (.int y :: .int x :: st) h).trans (rfl)
theorem d208_17 : decode (mB 208) 17 = .ok (.aload_n 0, 1) := by decide +kernel
theorem x208_17 {d : Nat} {l1 l2 l3 : Option Value} {st : List Value} {a : Nat} {h : Hp} : ex (d) 208 17 [some (.ref a), l1, l2, l3] st h = ex d 208 18 [some (.ref a), l1, l2, l3] (.ref a :: st) h := (ex_of d208_17 (d) [some (.ref a), l1, l2, l3] st h).trans (rfl)
theorem d208_18 : decode (mB 208) 18 = .ok (.getfield 9, 3) := by decide +kernel
theorem x208_18 {d : Nat} {L : Lc} {st : List Value} {a : Nat} {h : Hp} (ht : (h.2.1 a).1 = 11) : ex (d) 208 18 L (.ref a :: st) h = ex d 208 21 L (h.1 a 2 :: st) h := (ex_of d208_18 (d) L (.ref a :: st) h).trans (fin_get (mi := 208) f11_9 (tg1 ht rfl))
theorem d208_21 : decode (mB 208) 21 = .ok (.iload_n 2, 1) := by decide +kernel
theorem x208_21 {d : Nat} {l0 l1 l3 : Option Value} {st : List Value} {x : Int32} {h : Hp} : ex (d) 208 21 [l0, l1, some (.int x), l3] st h = ex d 208 22 [l0, l1, some (.int x), l3] (.int x :: st) h := (ex_of d208_21 (d) [l0, l1, some (.int x), l3] st h).trans (rfl)
theorem d208_22 : decode (mB 208) 22 = .ok (.iaload, 1) := by decide +kernel
theorem x208_22 {d : Nat} {L : Lc} {st : List Value} {a j : Nat} {h : Hp} (ht : (h.2.1 a).1 = 20) (hj : j < (h.2.1 a).2) (hb : j < 2147483648) : ex (d) 208 22 L (.int (nI j) :: .ref a :: st) h = ex d 208 23 L (h.1 a j :: st) h := (ex_of d208_22 (d) L (.int (nI j) :: .ref a :: st) h).trans (fin_iaload (Or.inl ht) hj hb)
theorem d208_23 : decode (mB 208) 23 = .ok (.iadd, 1) := by decide +kernel
theorem x208_23 {d : Nat} {L : Lc} {st : List Value} {x y : Int32} {h : Hp} : ex (d) 208 23 L (.int y :: .int x :: st) h = ex d 208 24 L (.int (x + y) :: st) h := (ex_of d208_23 (d) L (.int y :: .int x :: st) h).trans (rfl)
theorem d208_24 : decode (mB 208) 24 = .ok (.bipush 31, 2) := by decide +kernel
theorem x208_24 {d : Nat} {L : Lc} {st : List Value} {h : Hp} : ex (d) 208 24 L st h = ex d 208 26 L (.int (nI 31) :: st) h := (ex_of d208_24 (d) L st h).trans (rfl)
theorem d208_26 : decode (mB 208) 26 = .ok (.imul, 1) := by decide +kernel
theorem x208_26 {d : Nat} {L : Lc} {st : List Value} {x y : Int32} {h : Hp} : ex (d) 208 26 L (.int y :: .int x :: st) h = ex d 208 27 L (.int (x * y) :: st) h := (ex_of d208_26 (d) L (.int y :: .int x :: st) h).trans (rfl)
theorem d208_27 : decode (mB 208) 27 = .ok (.aload_n 0, 1) := by decide +kernel
theorem x208_27 {d : Nat} {l1 l2 l3 : Option Value} {st : List Value} {a : Nat} {h : Hp} : ex (d) 208 27 [some (.ref a), l1, l2, l3] st h = ex d 208 28 [some (.ref a), l1, l2, l3] (.ref a :: st) h := (ex_of d208_27 (d) [some (.ref a), l1, l2, l3] st h).trans (rfl)
theorem d208_28 : decode (mB 208) 28 = .ok (.getfield 13, 3) := by decide +kernel
theorem x208_28 {d : Nat} {L : Lc} {st : List Value} {a : Nat} {h : Hp} (ht : (h.2.1 a).1 = 11) : ex (d) 208 28 L (.ref a :: st) h = ex d 208 31 L (h.1 a 3 :: st) h := (ex_of d208_28 (d) L (.ref a :: st) h).trans (fin_get (mi := 208) f11_13 (tg1 ht rfl))
theorem d208_31 : decode (mB 208) 31 = .ok (.iload_n 2, 1) := by decide +kernel
theorem x208_31 {d : Nat} {l0 l1 l3 : Option Value} {st : List Value} {x : Int32} {h : Hp} : ex (d) 208 31 [l0, l1, some (.int x), l3] st h = ex d 208 32 [l0, l1, some (.int x), l3] (.int x :: st) h := (ex_of d208_31 (d) [l0, l1, some (.int x), l3] st h).trans (rfl)
theorem d208_32 : decode (mB 208) 32 = .ok (.iaload, 1) := by decide +kernel
theorem x208_32 {d : Nat} {L : Lc} {st : List Value} {a j : Nat} {h : Hp} (ht : (h.2.1 a).1 = 20) (hj : j < (h.2.1 a).2) (hb : j < 2147483648) : ex (d) 208 32 L (.int (nI j) :: .ref a :: st) h = ex d 208 33 L (h.1 a j :: st) h := (ex_of d208_32 (d) L (.int (nI j) :: .ref a :: st) h).trans (fin_iaload (Or.inl ht) hj hb)
theorem d208_33 : decode (mB 208) 33 = .ok (.iadd, 1) := by decide +kernel
theorem x208_33 {d : Nat} {L : Lc} {st : List Value} {x y : Int32} {h : Hp} : ex (d) 208 33 L (.int y :: .int x :: st) h = ex d 208 34 L (.int (x + y) :: st) h := (ex_of d208_33 (d) L (.int y :: .int x :: st) h).trans (rfl)
theorem d208_34 : decode (mB 208) 34 = .ok (.bipush 31, 2) := by decide +kernel
theorem x208_34 {d : Nat} {L : Lc} {st : List Value} {h : Hp} : ex (d) 208 34 L st h = ex d 208 36 L (.int (nI 31) :: st) h := (ex_of d208_34 (d) L st h).trans (rfl)
theorem d208_36 : decode (mB 208) 36 = .ok (.imul, 1) := by decide +kernel
theorem x208_36 {d : Nat} {L : Lc} {st : List Value} {x y : Int32} {h : Hp} : ex (d) 208 36 L (.int y :: .int x :: st) h = ex d 208 37 L (.int (x * y) :: st) h := (ex_of d208_36 (d) L (.int y :: .int x :: st) h).trans (rfl)
theorem d208_37 : decode (mB 208) 37 = .ok (.aload_n 0, 1) := by decide +kernel
theorem x208_37 {d : Nat} {l1 l2 l3 : Option Value} {st : List Value} {a : Nat} {h : Hp} : ex (d) 208 37 [some (.ref a), l1, l2, l3] st h = ex d 208 38 [some (.ref a), l1, l2, l3] (.ref a :: st) h := (ex_of d208_37 (d) [some (.ref a), l1, l2, l3] st h).trans (rfl)
theorem d208_38 : decode (mB 208) 38 = .ok (.getfield 16, 3) := by decide +kernel
theorem x208_38 {d : Nat} {L : Lc} {st : List Value} {a : Nat} {h : Hp} (ht : (h.2.1 a).1 = 11) : ex (d) 208 38 L (.ref a :: st) h = ex d 208 41 L (h.1 a 4 :: st) h := (ex_of d208_38 (d) L (.ref a :: st) h).trans (fin_get (mi := 208) f11_16 (tg1 ht rfl))
theorem d208_41 : decode (mB 208) 41 = .ok (.iload_n 2, 1) := by decide +kernel
theorem x208_41 {d : Nat} {l0 l1 l3 : Option Value} {st : List Value} {x : Int32} {h : Hp} : ex (d) 208 41 [l0, l1, some (.int x), l3] st h = ex d 208 42 [l0, l1, some (.int x), l3] (.int x :: st) h := (ex_of d208_41 (d) [l0, l1, some (.int x), l3] st h).trans (rfl)
theorem d208_42 : decode (mB 208) 42 = .ok (.iaload, 1) := by decide +kernel
theorem x208_42 {d : Nat} {L : Lc} {st : List Value} {a j : Nat} {h : Hp} (ht : (h.2.1 a).1 = 20) (hj : j < (h.2.1 a).2) (hb : j < 2147483648) : ex (d) 208 42 L (.int (nI j) :: .ref a :: st) h = ex d 208 43 L (h.1 a j :: st) h := (ex_of d208_42 (d) L (.int (nI j) :: .ref a :: st) h).trans (fin_iaload (Or.inl ht) hj hb)
theorem d208_43 : decode (mB 208) 43 = .ok (.iadd, 1) := by decide +kernel
theorem x208_43 {d : Nat} {L : Lc} {st : List Value} {x y : Int32} {h : Hp} : ex (d) 208 43 L (.int y :: .int x :: st) h = ex d 208 44 L (.int (x + y) :: st) h := (ex_of d208_43 (d) L (.int y :: .int x :: st) h).trans (rfl)
theorem d208_44 : decode (mB 208) 44 = .ok (.istore_n 1, 1) := by decide +kernel
theorem x208_44 {d : Nat} {l0 l1 l2 l3 : Option Value} {st : List Value} {x : Int32} {h : Hp} : ex (d) 208 44 [l0, l1, l2, l3] (.int x :: st) h = ex d 208 45 [clr l0, some (.int x), l2, l3] st h := (ex_of d208_44 (d) [l0, l1, l2, l3] (.int x :: st) h).trans (rfl)
theorem d208_45 : decode (mB 208) 45 = .ok (.iconst 0, 1) := by decide +kernel
theorem x208_45 {d : Nat} {L : Lc} {st : List Value} {h : Hp} : ex (d) 208 45 L st h = ex d 208 46 L (.int (nI 0) :: st) h := (ex_of d208_45 (d) L st h).trans (rfl)
theorem d208_46 : decode (mB 208) 46 = .ok (.istore_n 3, 1) := by decide +kernel
theorem x208_46 {d : Nat} {l0 l1 l2 l3 : Option Value} {st : List Value} {x : Int32} {h : Hp} : ex (d) 208 46 [l0, l1, l2, l3] (.int x :: st) h = ex d 208 47 [l0, l1, clr l2, some (.int x)] st h := (ex_of d208_46 (d) [l0, l1, l2, l3] (.int x :: st) h).trans (rfl)
theorem d208_47 : decode (mB 208) 47 = .ok (.iload_n 3, 1) := by decide +kernel
theorem x208_47 {d : Nat} {l0 l1 l2 : Option Value} {st : List Value} {x : Int32} {h : Hp} : ex (d) 208 47 [l0, l1, l2, some (.int x)] st h = ex d 208 48 [l0, l1, l2, some (.int x)] (.int x :: st) h := (ex_of d208_47 (d) [l0, l1, l2, some (.int x)] st h).trans (rfl)
theorem d208_48 : decode (mB 208) 48 = .ok (.bipush 6, 2) := by decide +kernel
theorem x208_48 {d : Nat} {L : Lc} {st : List Value} {h : Hp} : ex (d) 208 48 L st h = ex d 208 50 L (.int (nI 6) :: st) h := (ex_of d208_48 (d) L st h).trans (rfl)
theorem d208_50 : decode (mB 208) 50 = .ok (.if_icmp .ge 34, 3) := by decide +kernel
theorem x208_50 {d : Nat} {L : Lc} {st : List Value} {x y : Int32} {h : Hp} : ex (d) 208 50 L (.int y :: .int x :: st) h = if y ≤ x then ex d 208 84 L st h else ex d 208 53 L st h := (ex_of d208_50 (d) L (.int y :: .int x :: st) h).trans (fin_brq (off := 34) (tgt := 84) rfl (by decide))
theorem d208_53 : decode (mB 208) 53 = .ok (.aload_n 0, 1) := by decide +kernel
theorem x208_53 {d : Nat} {l1 l2 l3 : Option Value} {st : List Value} {a : Nat} {h : Hp} : ex (d) 208 53 [some (.ref a), l1, l2, l3] st h = ex d 208 54 [some (.ref a), l1, l2, l3] (.ref a :: st) h := (ex_of d208_53 (d) [some (.ref a), l1, l2, l3] st h).trans (rfl)
theorem d208_54 : decode (mB 208) 54 = .ok (.iload_n 2, 1) := by decide +kernel
theorem x208_54 {d : Nat} {l0 l1 l3 : Option Value} {st : List Value} {x : Int32} {h : Hp} : ex (d) 208 54 [l0, l1, some (.int x), l3] st h = ex d 208 55 [l0, l1, some (.int x), l3] (.int x :: st) h := (ex_of d208_54 (d) [l0, l1, some (.int x), l3] st h).trans (rfl)
theorem d208_55 : decode (mB 208) 55 = .ok (.invokevirtual 138, 3) := by decide +kernel
theorem x208_55 {d : Nat} {L : Lc} {a : Nat} {v0 : Int32} {h : Hp} (ht : (h.2.1 a).1 = 11) : ex (d + 1) 208 55 L (.int v0 :: .ref a :: []) h = bnd (ex d 138 0 [some (.ref a), some (.int v0)] [] h) (fun v h' => ex (d + 1) 208 58 L (v.toList ++ []) h') := (ex_of d208_55 (d + 1) L (.int v0 :: .ref a :: []) h).trans (fin_vi (mi := 208) i11_138 ht rfl rfl (by simp [cat1_i, cat1_r]) (by simp) (Nat.le_of_ble_eq_true rfl))
theorem d208_58 : decode (mB 208) 58 = .ok (.ifCond .eq 26, 3) := by decide +kernel
theorem x208_58 {d : Nat} {L : Lc} {st : List Value} {x : Int32} {h : Hp} : ex (d) 208 58 L (.int x :: st) h = if x = 0 then ex d 208 84 L st h else ex d 208 61 L st h := (ex_of d208_58 (d) L (.int x :: st) h).trans (fin_brq (off := 26) (tgt := 84) rfl (by decide))
theorem d208_61 : decode (mB 208) 61 = .ok (.iload_n 1, 1) := by decide +kernel
theorem x208_61 {d : Nat} {l0 l2 l3 : Option Value} {st : List Value} {x : Int32} {h : Hp} : ex (d) 208 61 [l0, some (.int x), l2, l3] st h = ex d 208 62 [l0, some (.int x), l2, l3] (.int x :: st) h := (ex_of d208_61 (d) [l0, some (.int x), l2, l3] st h).trans (rfl)
theorem d208_62 : decode (mB 208) 62 = .ok (.bipush 31, 2) := by decide +kernel
theorem x208_62 {d : Nat} {L : Lc} {st : List Value} {h : Hp} : ex (d) 208 62 L st h = ex d 208 64 L (.int (nI 31) :: st) h := (ex_of d208_62 (d) L st h).trans (rfl)
theorem d208_64 : decode (mB 208) 64 = .ok (.imul, 1) := by decide +kernel
theorem x208_64 {d : Nat} {L : Lc} {st : List Value} {x y : Int32} {h : Hp} : ex (d) 208 64 L (.int y :: .int x :: st) h = ex d 208 65 L (.int (x * y) :: st) h := (ex_of d208_64 (d) L (.int y :: .int x :: st) h).trans (rfl)
theorem d208_65 : decode (mB 208) 65 = .ok (.aload_n 0, 1) := by decide +kernel
theorem x208_65 {d : Nat} {l1 l2 l3 : Option Value} {st : List Value} {a : Nat} {h : Hp} : ex (d) 208 65 [some (.ref a), l1, l2, l3] st h = ex d 208 66 [some (.ref a), l1, l2, l3] (.ref a :: st) h := (ex_of d208_65 (d) [some (.ref a), l1, l2, l3] st h).trans (rfl)
theorem d208_66 : decode (mB 208) 66 = .ok (.getfield 28, 3) := by decide +kernel
theorem x208_66 {d : Nat} {L : Lc} {st : List Value} {a : Nat} {h : Hp} (ht : (h.2.1 a).1 = 11) : ex (d) 208 66 L (.ref a :: st) h = ex d 208 69 L (h.1 a 9 :: st) h := (ex_of d208_66 (d) L (.ref a :: st) h).trans (fin_get (mi := 208) f11_28 (tg1 ht rfl))
theorem d208_69 : decode (mB 208) 69 = .ok (.bipush 6, 2) := by decide +kernel
theorem x208_69 {d : Nat} {L : Lc} {st : List Value} {h : Hp} : ex (d) 208 69 L st h = ex d 208 71 L (.int (nI 6) :: st) h := (ex_of d208_69 (d) L st h).trans (rfl)
theorem d208_71 : decode (mB 208) 71 = .ok (.iload_n 2, 1) := by decide +kernel
theorem x208_71 {d : Nat} {l0 l1 l3 : Option Value} {st : List Value} {x : Int32} {h : Hp} : ex (d) 208 71 [l0, l1, some (.int x), l3] st h = ex d 208 72 [l0, l1, some (.int x), l3] (.int x :: st) h := (ex_of d208_71 (d) [l0, l1, some (.int x), l3] st h).trans (rfl)
theorem d208_72 : decode (mB 208) 72 = .ok (.imul, 1) := by decide +kernel
theorem x208_72 {d : Nat} {L : Lc} {st : List Value} {x y : Int32} {h : Hp} : ex (d) 208 72 L (.int y :: .int x :: st) h = ex d 208 73 L (.int (x * y) :: st) h := (ex_of d208_72 (d) L (.int y :: .int x :: st) h).trans (rfl)
theorem d208_73 : decode (mB 208) 73 = .ok (.iload_n 3, 1) := by decide +kernel
theorem x208_73 {d : Nat} {l0 l1 l2 : Option Value} {st : List Value} {x : Int32} {h : Hp} : ex (d) 208 73 [l0, l1, l2, some (.int x)] st h = ex d 208 74 [l0, l1, l2, some (.int x)] (.int x :: st) h := (ex_of d208_73 (d) [l0, l1, l2, some (.int x)] st h).trans (rfl)
theorem d208_74 : decode (mB 208) 74 = .ok (.iadd, 1) := by decide +kernel
theorem x208_74 {d : Nat} {L : Lc} {st : List Value} {x y : Int32} {h : Hp} : ex (d) 208 74 L (.int y :: .int x :: st) h = ex d 208 75 L (.int (x + y) :: st) h := (ex_of d208_74 (d) L (.int y :: .int x :: st) h).trans (rfl)
theorem d208_75 : decode (mB 208) 75 = .ok (.iaload, 1) := by decide +kernel
theorem x208_75 {d : Nat} {L : Lc} {st : List Value} {a j : Nat} {h : Hp} (ht : (h.2.1 a).1 = 20) (hj : j < (h.2.1 a).2) (hb : j < 2147483648) : ex (d) 208 75 L (.int (nI j) :: .ref a :: st) h = ex d 208 76 L (h.1 a j :: st) h := (ex_of d208_75 (d) L (.int (nI j) :: .ref a :: st) h).trans (fin_iaload (Or.inl ht) hj hb)
theorem d208_76 : decode (mB 208) 76 = .ok (.iadd, 1) := by decide +kernel
theorem x208_76 {d : Nat} {L : Lc} {st : List Value} {x y : Int32} {h : Hp} : ex (d) 208 76 L (.int y :: .int x :: st) h = ex d 208 77 L (.int (x + y) :: st) h := (ex_of d208_76 (d) L (.int y :: .int x :: st) h).trans (rfl)
theorem d208_77 : decode (mB 208) 77 = .ok (.istore_n 1, 1) := by decide +kernel
theorem x208_77 {d : Nat} {l0 l1 l2 l3 : Option Value} {st : List Value} {x : Int32} {h : Hp} : ex (d) 208 77 [l0, l1, l2, l3] (.int x :: st) h = ex d 208 78 [clr l0, some (.int x), l2, l3] st h := (ex_of d208_77 (d) [l0, l1, l2, l3] (.int x :: st) h).trans (rfl)
theorem d208_78 : decode (mB 208) 78 = .ok (.iinc 3 1, 3) := by decide +kernel
theorem x208_78 {d : Nat} {l0 l1 l2 : Option Value} {st : List Value} {x : Int32} {h : Hp} : ex (d) 208 78 [l0, l1, l2, some (.int x)] st h = ex d 208 81 [l0, l1, clr l2, some (.int (x + (nI 1)))] st h := (ex_of d208_78 (d) [l0, l1, l2, some (.int x)] st h).trans (rfl)
theorem d208_81 : decode (mB 208) 81 = .ok (.goto (-34), 3) := by decide +kernel
theorem x208_81 {d : Nat} {L : Lc} {st : List Value} {h : Hp} : ex (d) 208 81 L st h = ex d 208 47 L st h := (ex_of d208_81 (d) L st h).trans (rfl)
theorem d208_84 : decode (mB 208) 84 = .ok (.iinc 2 1, 3) := by decide +kernel
theorem x208_84 {d : Nat} {l0 l1 l3 : Option Value} {st : List Value} {x : Int32} {h : Hp} : ex (d) 208 84 [l0, l1, some (.int x), l3] st h = ex d 208 87 [l0, clr l1, some (.int (x + (nI 1))), l3] st h := (ex_of d208_84 (d) [l0, l1, some (.int x), l3] st h).trans (rfl)
theorem d208_87 : decode (mB 208) 87 = .ok (.goto (-82), 3) := by decide +kernel
theorem x208_87 {d : Nat} {L : Lc} {st : List Value} {h : Hp} : ex (d) 208 87 L st h = ex d 208 5 L st h := (ex_of d208_87 (d) L st h).trans (rfl)
theorem d208_90 : decode (mB 208) 90 = .ok (.iconst 0, 1) := by decide +kernel
theorem x208_90 {d : Nat} {L : Lc} {st : List Value} {h : Hp} : ex (d) 208 90 L st h = ex d 208 91 L (.int (nI 0) :: st) h := (ex_of d208_90 (d) L st h).trans (rfl)
theorem d208_91 : decode (mB 208) 91 = .ok (.istore_n 2, 1) := by decide +kernel
theorem x208_91 {d : Nat} {l0 l1 l2 l3 : Option Value} {st : List Value} {x : Int32} {h : Hp} : ex (d) 208 91 [l0, l1, l2, l3] (.int x :: st) h = ex d 208 92 [l0, clr l1, some (.int x), l3] st h := (ex_of d208_91 (d) [l0, l1, l2, l3] (.int x :: st) h).trans (rfl)
theorem d208_92 : decode (mB 208) 92 = .ok (.iload_n 2, 1) := by decide +kernel
theorem x208_92 {d : Nat} {l0 l1 l3 : Option Value} {st : List Value} {x : Int32} {h : Hp} : ex (d) 208 92 [l0, l1, some (.int x), l3] st h = ex d 208 93 [l0, l1, some (.int x), l3] (.int x :: st) h := (ex_of d208_92 (d) [l0, l1, some (.int x), l3] st h).trans (rfl)
theorem d208_93 : decode (mB 208) 93 = .ok (.aload_n 0, 1) := by decide +kernel
theorem x208_93 {d : Nat} {l1 l2 l3 : Option Value} {st : List Value} {a : Nat} {h : Hp} : ex (d) 208 93 [some (.ref a), l1, l2, l3] st h = ex d 208 94 [some (.ref a), l1, l2, l3] (.ref a :: st) h := (ex_of d208_93 (d) [some (.ref a), l1, l2, l3] st h).trans (rfl)
theorem d208_94 : decode (mB 208) 94 = .ok (.getfield 98, 3) := by decide +kernel
theorem x208_94 {d : Nat} {L : Lc} {st : List Value} {a : Nat} {h : Hp} (ht : (h.2.1 a).1 = 11) : ex (d) 208 94 L (.ref a :: st) h = ex d 208 97 L (h.1 a 8 :: st) h := (ex_of d208_94 (d) L (.ref a :: st) h).trans (fin_get (mi := 208) f11_98 (tg1 ht rfl))
theorem d208_97 : decode (mB 208) 97 = .ok (.if_icmp .ge 47, 3) := by decide +kernel
theorem x208_97 {d : Nat} {L : Lc} {st : List Value} {x y : Int32} {h : Hp} : ex (d) 208 97 L (.int y :: .int x :: st) h = if y ≤ x then ex d 208 144 L st h else ex d 208 100 L st h := (ex_of d208_97 (d) L (.int y :: .int x :: st) h).trans (fin_brq (off := 47) (tgt := 144) rfl (by decide))
theorem d208_100 : decode (mB 208) 100 = .ok (.iconst 0, 1) := by decide +kernel
theorem x208_100 {d : Nat} {L : Lc} {st : List Value} {h : Hp} : ex (d) 208 100 L st h = ex d 208 101 L (.int (nI 0) :: st) h := (ex_of d208_100 (d) L st h).trans (rfl)
theorem d208_101 : decode (mB 208) 101 = .ok (.istore_n 3, 1) := by decide +kernel
theorem x208_101 {d : Nat} {l0 l1 l2 l3 : Option Value} {st : List Value} {x : Int32} {h : Hp} : ex (d) 208 101 [l0, l1, l2, l3] (.int x :: st) h = ex d 208 102 [l0, l1, clr l2, some (.int x)] st h := (ex_of d208_101 (d) [l0, l1, l2, l3] (.int x :: st) h).trans (rfl)
theorem d208_102 : decode (mB 208) 102 = .ok (.iload_n 3, 1) := by decide +kernel
theorem x208_102 {d : Nat} {l0 l1 l2 : Option Value} {st : List Value} {x : Int32} {h : Hp} : ex (d) 208 102 [l0, l1, l2, some (.int x)] st h = ex d 208 103 [l0, l1, l2, some (.int x)] (.int x :: st) h := (ex_of d208_102 (d) [l0, l1, l2, some (.int x)] st h).trans (rfl)
theorem d208_103 : decode (mB 208) 103 = .ok (.aload_n 0, 1) := by decide +kernel
theorem x208_103 {d : Nat} {l1 l2 l3 : Option Value} {st : List Value} {a : Nat} {h : Hp} : ex (d) 208 103 [some (.ref a), l1, l2, l3] st h = ex d 208 104 [some (.ref a), l1, l2, l3] (.ref a :: st) h := (ex_of d208_103 (d) [some (.ref a), l1, l2, l3] st h).trans (rfl)
theorem d208_104 : decode (mB 208) 104 = .ok (.getfield 22, 3) := by decide +kernel
theorem x208_104 {d : Nat} {L : Lc} {st : List Value} {a : Nat} {h : Hp} (ht : (h.2.1 a).1 = 11) : ex (d) 208 104 L (.ref a :: st) h = ex d 208 107 L (h.1 a 6 :: st) h := (ex_of d208_104 (d) L (.ref a :: st) h).trans (fin_get (mi := 208) f11_22 (tg1 ht rfl))
theorem d208_107 : decode (mB 208) 107 = .ok (.sipush 200, 3) := by decide +kernel
theorem x208_107 {d : Nat} {L : Lc} {st : List Value} {h : Hp} : ex (d) 208 107 L st h = ex d 208 110 L (.int (nI 200) :: st) h := (ex_of d208_107 (d) L st h).trans (rfl)
theorem d208_110 : decode (mB 208) 110 = .ok (.iload_n 2, 1) := by decide +kernel
theorem x208_110 {d : Nat} {l0 l1 l3 : Option Value} {st : List Value} {x : Int32} {h : Hp} : ex (d) 208 110 [l0, l1, some (.int x), l3] st h = ex d 208 111 [l0, l1, some (.int x), l3] (.int x :: st) h := (ex_of d208_110 (d) [l0, l1, some (.int x), l3] st h).trans (rfl)
theorem d208_111 : decode (mB 208) 111 = .ok (.iadd, 1) := by decide +kernel
theorem x208_111 {d : Nat} {L : Lc} {st : List Value} {x y : Int32} {h : Hp} : ex (d) 208 111 L (.int y :: .int x :: st) h = ex d 208 112 L (.int (x + y) :: st) h := (ex_of d208_111 (d) L (.int y :: .int x :: st) h).trans (rfl)
theorem d208_112 : decode (mB 208) 112 = .ok (.iaload, 1) := by decide +kernel
theorem x208_112 {d : Nat} {L : Lc} {st : List Value} {a j : Nat} {h : Hp} (ht : (h.2.1 a).1 = 20) (hj : j < (h.2.1 a).2) (hb : j < 2147483648) : ex (d) 208 112 L (.int (nI j) :: .ref a :: st) h = ex d 208 113 L (h.1 a j :: st) h := (ex_of d208_112 (d) L (.int (nI j) :: .ref a :: st) h).trans (fin_iaload (Or.inl ht) hj hb)
theorem d208_113 : decode (mB 208) 113 = .ok (.if_icmp .ge 25, 3) := by decide +kernel
theorem x208_113 {d : Nat} {L : Lc} {st : List Value} {x y : Int32} {h : Hp} : ex (d) 208 113 L (.int y :: .int x :: st) h = if y ≤ x then ex d 208 138 L st h else ex d 208 116 L st h := (ex_of d208_113 (d) L (.int y :: .int x :: st) h).trans (fin_brq (off := 25) (tgt := 138) rfl (by decide))
theorem d208_116 : decode (mB 208) 116 = .ok (.iload_n 1, 1) := by decide +kernel
theorem x208_116 {d : Nat} {l0 l2 l3 : Option Value} {st : List Value} {x : Int32} {h : Hp} : ex (d) 208 116 [l0, some (.int x), l2, l3] st h = ex d 208 117 [l0, some (.int x), l2, l3] (.int x :: st) h := (ex_of d208_116 (d) [l0, some (.int x), l2, l3] st h).trans (rfl)
theorem d208_117 : decode (mB 208) 117 = .ok (.bipush 31, 2) := by decide +kernel
theorem x208_117 {d : Nat} {L : Lc} {st : List Value} {h : Hp} : ex (d) 208 117 L st h = ex d 208 119 L (.int (nI 31) :: st) h := (ex_of d208_117 (d) L st h).trans (rfl)
theorem d208_119 : decode (mB 208) 119 = .ok (.imul, 1) := by decide +kernel
theorem x208_119 {d : Nat} {L : Lc} {st : List Value} {x y : Int32} {h : Hp} : ex (d) 208 119 L (.int y :: .int x :: st) h = ex d 208 120 L (.int (x * y) :: st) h := (ex_of d208_119 (d) L (.int y :: .int x :: st) h).trans (rfl)
theorem d208_120 : decode (mB 208) 120 = .ok (.aload_n 0, 1) := by decide +kernel
theorem x208_120 {d : Nat} {l1 l2 l3 : Option Value} {st : List Value} {a : Nat} {h : Hp} : ex (d) 208 120 [some (.ref a), l1, l2, l3] st h = ex d 208 121 [some (.ref a), l1, l2, l3] (.ref a :: st) h := (ex_of d208_120 (d) [some (.ref a), l1, l2, l3] st h).trans (rfl)
theorem d208_121 : decode (mB 208) 121 = .ok (.sipush 200, 3) := by decide +kernel
theorem x208_121 {d : Nat} {L : Lc} {st : List Value} {h : Hp} : ex (d) 208 121 L st h = ex d 208 124 L (.int (nI 200) :: st) h := (ex_of d208_121 (d) L st h).trans (rfl)
theorem d208_124 : decode (mB 208) 124 = .ok (.iload_n 2, 1) := by decide +kernel
theorem x208_124 {d : Nat} {l0 l1 l3 : Option Value} {st : List Value} {x : Int32} {h : Hp} : ex (d) 208 124 [l0, l1, some (.int x), l3] st h = ex d 208 125 [l0, l1, some (.int x), l3] (.int x :: st) h := (ex_of d208_124 (d) [l0, l1, some (.int x), l3] st h).trans (rfl)
theorem d208_125 : decode (mB 208) 125 = .ok (.iadd, 1) := by decide +kernel
theorem x208_125 {d : Nat} {L : Lc} {st : List Value} {x y : Int32} {h : Hp} : ex (d) 208 125 L (.int y :: .int x :: st) h = ex d 208 126 L (.int (x + y) :: st) h := (ex_of d208_125 (d) L (.int y :: .int x :: st) h).trans (rfl)
theorem d208_126 : decode (mB 208) 126 = .ok (.iload_n 3, 1) := by decide +kernel
theorem x208_126 {d : Nat} {l0 l1 l2 : Option Value} {st : List Value} {x : Int32} {h : Hp} : ex (d) 208 126 [l0, l1, l2, some (.int x)] st h = ex d 208 127 [l0, l1, l2, some (.int x)] (.int x :: st) h := (ex_of d208_126 (d) [l0, l1, l2, some (.int x)] st h).trans (rfl)
theorem d208_127 : decode (mB 208) 127 = .ok (.invokevirtual 135, 3) := by decide +kernel
theorem x208_127 {d : Nat} {L : Lc} {s0 : Value} {a : Nat} {v0 : Int32} {v1 : Int32} {h : Hp} (ht : (h.2.1 a).1 = 11) : ex (d + 1) 208 127 L (.int v1 :: .int v0 :: .ref a :: [s0]) h = bnd (ex d 154 0 [some (.ref a), some (.int v0), some (.int v1)] [] h) (fun v h' => ex (d + 1) 208 130 L (v.toList ++ [s0]) h') := (ex_of d208_127 (d + 1) L (.int v1 :: .int v0 :: .ref a :: [s0]) h).trans (fin_vi (mi := 208) i11_135 ht rfl rfl (by simp [cat1_i, cat1_r]) (by simp) (Nat.le_of_ble_eq_true rfl))
theorem d208_130 : decode (mB 208) 130 = .ok (.iadd, 1) := by decide +kernel
theorem x208_130 {d : Nat} {L : Lc} {st : List Value} {x y : Int32} {h : Hp} : ex (d) 208 130 L (.int y :: .int x :: st) h = ex d 208 131 L (.int (x + y) :: st) h := (ex_of d208_130 (d) L (.int y :: .int x :: st) h).trans (rfl)
theorem d208_131 : decode (mB 208) 131 = .ok (.istore_n 1, 1) := by decide +kernel
theorem x208_131 {d : Nat} {l0 l1 l2 l3 : Option Value} {st : List Value} {x : Int32} {h : Hp} : ex (d) 208 131 [l0, l1, l2, l3] (.int x :: st) h = ex d 208 132 [clr l0, some (.int x), l2, l3] st h := (ex_of d208_131 (d) [l0, l1, l2, l3] (.int x :: st) h).trans (rfl)
theorem d208_132 : decode (mB 208) 132 = .ok (.iinc 3 1, 3) := by decide +kernel
theorem x208_132 {d : Nat} {l0 l1 l2 : Option Value} {st : List Value} {x : Int32} {h : Hp} : ex (d) 208 132 [l0, l1, l2, some (.int x)] st h = ex d 208 135 [l0, l1, clr l2, some (.int (x + (nI 1)))] st h := (ex_of d208_132 (d) [l0, l1, l2, some (.int x)] st h).trans (rfl)
theorem d208_135 : decode (mB 208) 135 = .ok (.goto (-33), 3) := by decide +kernel
theorem x208_135 {d : Nat} {L : Lc} {st : List Value} {h : Hp} : ex (d) 208 135 L st h = ex d 208 102 L st h := (ex_of d208_135 (d) L st h).trans (rfl)
theorem d208_138 : decode (mB 208) 138 = .ok (.iinc 2 1, 3) := by decide +kernel
theorem x208_138 {d : Nat} {l0 l1 l3 : Option Value} {st : List Value} {x : Int32} {h : Hp} : ex (d) 208 138 [l0, l1, some (.int x), l3] st h = ex d 208 141 [l0, clr l1, some (.int (x + (nI 1))), l3] st h := (ex_of d208_138 (d) [l0, l1, some (.int x), l3] st h).trans (rfl)
theorem d208_141 : decode (mB 208) 141 = .ok (.goto (-49), 3) := by decide +kernel
theorem x208_141 {d : Nat} {L : Lc} {st : List Value} {h : Hp} : ex (d) 208 141 L st h = ex d 208 92 L st h := (ex_of d208_141 (d) L st h).trans (rfl)
theorem d208_144 : decode (mB 208) 144 = .ok (.iload_n 1, 1) := by decide +kernel
theorem x208_144 {d : Nat} {l0 l2 l3 : Option Value} {st : List Value} {x : Int32} {h : Hp} : ex (d) 208 144 [l0, some (.int x), l2, l3] st h = ex d 208 145 [l0, some (.int x), l2, l3] (.int x :: st) h := (ex_of d208_144 (d) [l0, some (.int x), l2, l3] st h).trans (rfl)
theorem d208_145 : decode (mB 208) 145 = .ok (.bipush 31, 2) := by decide +kernel
theorem x208_145 {d : Nat} {L : Lc} {st : List Value} {h : Hp} : ex (d) 208 145 L st h = ex d 208 147 L (.int (nI 31) :: st) h := (ex_of d208_145 (d) L st h).trans (rfl)
theorem d208_147 : decode (mB 208) 147 = .ok (.imul, 1) := by decide +kernel
theorem x208_147 {d : Nat} {L : Lc} {st : List Value} {x y : Int32} {h : Hp} : ex (d) 208 147 L (.int y :: .int x :: st) h = ex d 208 148 L (.int (x * y) :: st) h := (ex_of d208_147 (d) L (.int y :: .int x :: st) h).trans (rfl)
theorem d208_148 : decode (mB 208) 148 = .ok (.aload_n 0, 1) := by decide +kernel
theorem x208_148 {d : Nat} {l1 l2 l3 : Option Value} {st : List Value} {a : Nat} {h : Hp} : ex (d) 208 148 [some (.ref a), l1, l2, l3] st h = ex d 208 149 [some (.ref a), l1, l2, l3] (.ref a :: st) h := (ex_of d208_148 (d) [some (.ref a), l1, l2, l3] st h).trans (rfl)
theorem d208_149 : decode (mB 208) 149 = .ok (.getfield 174, 3) := by decide +kernel
theorem x208_149 {d : Nat} {L : Lc} {st : List Value} {a : Nat} {h : Hp} (ht : (h.2.1 a).1 = 11) : ex (d) 208 149 L (.ref a :: st) h = ex d 208 152 L (h.1 a 34 :: st) h := (ex_of d208_149 (d) L (.ref a :: st) h).trans (fin_get (mi := 208) f11_174 (tg1 ht rfl))
theorem d208_152 : decode (mB 208) 152 = .ok (.iadd, 1) := by decide +kernel
theorem x208_152 {d : Nat} {L : Lc} {st : List Value} {x y : Int32} {h : Hp} : ex (d) 208 152 L (.int y :: .int x :: st) h = ex d 208 153 L (.int (x + y) :: st) h := (ex_of d208_152 (d) L (.int y :: .int x :: st) h).trans (rfl)
theorem d208_153 : decode (mB 208) 153 = .ok (.bipush 31, 2) := by decide +kernel
theorem x208_153 {d : Nat} {L : Lc} {st : List Value} {h : Hp} : ex (d) 208 153 L st h = ex d 208 155 L (.int (nI 31) :: st) h := (ex_of d208_153 (d) L st h).trans (rfl)
theorem d208_155 : decode (mB 208) 155 = .ok (.imul, 1) := by decide +kernel
theorem x208_155 {d : Nat} {L : Lc} {st : List Value} {x y : Int32} {h : Hp} : ex (d) 208 155 L (.int y :: .int x :: st) h = ex d 208 156 L (.int (x * y) :: st) h := (ex_of d208_155 (d) L (.int y :: .int x :: st) h).trans (rfl)
theorem d208_156 : decode (mB 208) 156 = .ok (.aload_n 0, 1) := by decide +kernel
theorem x208_156 {d : Nat} {l1 l2 l3 : Option Value} {st : List Value} {a : Nat} {h : Hp} : ex (d) 208 156 [some (.ref a), l1, l2, l3] st h = ex d 208 157 [some (.ref a), l1, l2, l3] (.ref a :: st) h := (ex_of d208_156 (d) [some (.ref a), l1, l2, l3] st h).trans (rfl)
theorem d208_157 : decode (mB 208) 157 = .ok (.getfield 171, 3) := by decide +kernel
theorem x208_157 {d : Nat} {L : Lc} {st : List Value} {a : Nat} {h : Hp} (ht : (h.2.1 a).1 = 11) : ex (d) 208 157 L (.ref a :: st) h = ex d 208 160 L (h.1 a 18 :: st) h := (ex_of d208_157 (d) L (.ref a :: st) h).trans (fin_get (mi := 208) f11_171 (tg1 ht rfl))
theorem d208_160 : decode (mB 208) 160 = .ok (.iadd, 1) := by decide +kernel
theorem x208_160 {d : Nat} {L : Lc} {st : List Value} {x y : Int32} {h : Hp} : ex (d) 208 160 L (.int y :: .int x :: st) h = ex d 208 161 L (.int (x + y) :: st) h := (ex_of d208_160 (d) L (.int y :: .int x :: st) h).trans (rfl)
theorem d208_161 : decode (mB 208) 161 = .ok (.istore_n 1, 1) := by decide +kernel
theorem x208_161 {d : Nat} {l0 l1 l2 l3 : Option Value} {st : List Value} {x : Int32} {h : Hp} : ex (d) 208 161 [l0, l1, l2, l3] (.int x :: st) h = ex d 208 162 [clr l0, some (.int x), l2, l3] st h := (ex_of d208_161 (d) [l0, l1, l2, l3] (.int x :: st) h).trans (rfl)
theorem d208_162 : decode (mB 208) 162 = .ok (.iload_n 1, 1) := by decide +kernel
theorem x208_162 {d : Nat} {l0 l2 l3 : Option Value} {st : List Value} {x : Int32} {h : Hp} : ex (d) 208 162 [l0, some (.int x), l2, l3] st h = ex d 208 163 [l0, some (.int x), l2, l3] (.int x :: st) h := (ex_of d208_162 (d) [l0, some (.int x), l2, l3] st h).trans (rfl)
theorem d208_163 : decode (mB 208) 163 = .ok (.bipush 31, 2) := by decide +kernel
theorem x208_163 {d : Nat} {L : Lc} {st : List Value} {h : Hp} : ex (d) 208 163 L st h = ex d 208 165 L (.int (nI 31) :: st) h := (ex_of d208_163 (d) L st h).trans (rfl)
theorem d208_165 : decode (mB 208) 165 = .ok (.imul, 1) := by decide +kernel
theorem x208_165 {d : Nat} {L : Lc} {st : List Value} {x y : Int32} {h : Hp} : ex (d) 208 165 L (.int y :: .int x :: st) h = ex d 208 166 L (.int (x * y) :: st) h := (ex_of d208_165 (d) L (.int y :: .int x :: st) h).trans (rfl)
theorem d208_166 : decode (mB 208) 166 = .ok (.aload_n 0, 1) := by decide +kernel
theorem x208_166 {d : Nat} {l1 l2 l3 : Option Value} {st : List Value} {a : Nat} {h : Hp} : ex (d) 208 166 [some (.ref a), l1, l2, l3] st h = ex d 208 167 [some (.ref a), l1, l2, l3] (.ref a :: st) h := (ex_of d208_166 (d) [some (.ref a), l1, l2, l3] st h).trans (rfl)
theorem d208_167 : decode (mB 208) 167 = .ok (.getfield 126, 3) := by decide +kernel
theorem x208_167 {d : Nat} {L : Lc} {st : List Value} {a : Nat} {h : Hp} (ht : (h.2.1 a).1 = 11) : ex (d) 208 167 L (.ref a :: st) h = ex d 208 170 L (h.1 a 14 :: st) h := (ex_of d208_167 (d) L (.ref a :: st) h).trans (fin_get (mi := 208) f11_126 (tg1 ht rfl))
theorem d208_170 : decode (mB 208) 170 = .ok (.iadd, 1) := by decide +kernel
theorem x208_170 {d : Nat} {L : Lc} {st : List Value} {x y : Int32} {h : Hp} : ex (d) 208 170 L (.int y :: .int x :: st) h = ex d 208 171 L (.int (x + y) :: st) h := (ex_of d208_170 (d) L (.int y :: .int x :: st) h).trans (rfl)
theorem d208_171 : decode (mB 208) 171 = .ok (.bipush 31, 2) := by decide +kernel
theorem x208_171 {d : Nat} {L : Lc} {st : List Value} {h : Hp} : ex (d) 208 171 L st h = ex d 208 173 L (.int (nI 31) :: st) h := (ex_of d208_171 (d) L st h).trans (rfl)
theorem d208_173 : decode (mB 208) 173 = .ok (.imul, 1) := by decide +kernel
theorem x208_173 {d : Nat} {L : Lc} {st : List Value} {x y : Int32} {h : Hp} : ex (d) 208 173 L (.int y :: .int x :: st) h = ex d 208 174 L (.int (x * y) :: st) h := (ex_of d208_173 (d) L (.int y :: .int x :: st) h).trans (rfl)
theorem d208_174 : decode (mB 208) 174 = .ok (.aload_n 0, 1) := by decide +kernel
theorem x208_174 {d : Nat} {l1 l2 l3 : Option Value} {st : List Value} {a : Nat} {h : Hp} : ex (d) 208 174 [some (.ref a), l1, l2, l3] st h = ex d 208 175 [some (.ref a), l1, l2, l3] (.ref a :: st) h := (ex_of d208_174 (d) [some (.ref a), l1, l2, l3] st h).trans (rfl)
theorem d208_175 : decode (mB 208) 175 = .ok (.getfield 129, 3) := by decide +kernel
theorem x208_175 {d : Nat} {L : Lc} {st : List Value} {a : Nat} {h : Hp} (ht : (h.2.1 a).1 = 11) : ex (d) 208 175 L (.ref a :: st) h = ex d 208 178 L (h.1 a 15 :: st) h := (ex_of d208_175 (d) L (.ref a :: st) h).trans (fin_get (mi := 208) f11_129 (tg1 ht rfl))
theorem d208_178 : decode (mB 208) 178 = .ok (.iadd, 1) := by decide +kernel
theorem x208_178 {d : Nat} {L : Lc} {st : List Value} {x y : Int32} {h : Hp} : ex (d) 208 178 L (.int y :: .int x :: st) h = ex d 208 179 L (.int (x + y) :: st) h := (ex_of d208_178 (d) L (.int y :: .int x :: st) h).trans (rfl)
theorem d208_179 : decode (mB 208) 179 = .ok (.ireturn, 1) := by decide +kernel
theorem x208_179 {d : Nat} {L : Lc} {x : Int32} {h : Hp} : ex (d) 208 179 L [.int x] h = some (some (.int x), h) := (ex_of d208_179 (d) L [.int x] h).trans (rfl)
