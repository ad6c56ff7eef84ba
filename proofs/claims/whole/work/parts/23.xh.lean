/-! ===== x-rows, printed by wip/whole/gen/genx.py: X12_partFits, X12_both, X12_fitOf, X12_costOf, X12_minutesOf, X12_fits, X12_cost, X12_minutes, X12_daysOf, X12_wash, X12_role, X12_clear, X12_scene, X12_gather, X12_agree ===== -/
theorem d177_0 : decode (mB 177) 0 = .ok (.aload_n 0, 1) := by decide +kernel
theorem x177_0 {d : Nat} {l1 l2 l3 l4 l5 l6 : Option Value} {st : List Value} {a : Nat} {h : Hp} : ex (d) 177 0 [some (.ref a), l1, l2, l3, l4, l5, l6] st h = ex d 177 1 [some (.ref a), l1, l2, l3, l4, l5, l6] (.ref a :: st) h := (ex_of d177_0 (d) [some (.ref a), l1, l2, l3, l4, l5, l6] st h).trans (rfl)
theorem d177_1 : decode (mB 177) 1 = .ok (.getfield 46, 3) := by decide +kernel
theorem x177_1 {d : Nat} {L : Lc} {st : List Value} {a : Nat} {h : Hp} (ht : (h.2.1 a).1 = 11) : ex (d) 177 1 L (.ref a :: st) h = ex d 177 4 L (h.1 a 20 :: st) h := (ex_of d177_1 (d) L (.ref a :: st) h).trans (fin_get (mi := 177) f11_46 (tg1 ht rfl))
theorem d177_4 : decode (mB 177) 4 = .ok (.bipush 6, 2) := by decide +kernel
theorem x177_4 {d : Nat} {L : Lc} {st : List Value} {h : Hp} : ex (d) 177 4 L st h = ex d 177 6 L (.int (nI 6) :: st) h := (ex_of d177_4 (d) L st h).trans (rfl)
theorem d177_6 : decode (mB 177) 6 = .ok (.iload_n 1, 1) := by decide +kernel
theorem x177_6 {d : Nat} {l0 l2 l3 l4 l5 l6 : Option Value} {st : List Value} {x : Int32} {h : Hp} : ex (d) 177 6 [l0, some (.int x), l2, l3, l4, l5, l6] st h = ex d 177 7 [l0, some (.int x), l2, l3, l4, l5, l6] (.int x :: st) h := (ex_of d177_6 (d) [l0, some (.int x), l2, l3, l4, l5, l6] st h).trans (rfl)
theorem d177_7 : decode (mB 177) 7 = .ok (.imul, 1) := by decide +kernel
theorem x177_7 {d : Nat} {L : Lc} {st : List Value} {x y : Int32} {h : Hp} : ex (d) 177 7 L (.int y :: .int x :: st) h = ex d 177 8 L (.int (x * y) :: st) h := (ex_of d177_7 (d) L (.int y :: .int x :: st) h).trans (rfl)
theorem d177_8 : decode (mB 177) 8 = .ok (.iload_n 3, 1) := by decide +kernel
theorem x177_8 {d : Nat} {l0 l1 l2 l4 l5 l6 : Option Value} {st : List Value} {x : Int32} {h : Hp} : ex (d) 177 8 [l0, l1, l2, some (.int x), l4, l5, l6] st h = ex d 177 9 [l0, l1, l2, some (.int x), l4, l5, l6] (.int x :: st) h := (ex_of d177_8 (d) [l0, l1, l2, some (.int x), l4, l5, l6] st h).trans (rfl)
theorem d177_9 : decode (mB 177) 9 = .ok (.iadd, 1) := by decide +kernel
theorem x177_9 {d : Nat} {L : Lc} {st : List Value} {x y : Int32} {h : Hp} : ex (d) 177 9 L (.int y :: .int x :: st) h = ex d 177 10 L (.int (x + y) :: st) h := (ex_of d177_9 (d) L (.int y :: .int x :: st) h).trans (rfl)
theorem d177_10 : decode (mB 177) 10 = .ok (.iaload, 1) := by decide +kernel
theorem x177_10 {d : Nat} {L : Lc} {st : List Value} {a j : Nat} {h : Hp} (ht : (h.2.1 a).1 = 20) (hj : j < (h.2.1 a).2) (hb : j < 2147483648) : ex (d) 177 10 L (.int (nI j) :: .ref a :: st) h = ex d 177 11 L (h.1 a j :: st) h := (ex_of d177_10 (d) L (.int (nI j) :: .ref a :: st) h).trans (fin_iaload (Or.inl ht) hj hb)
theorem d177_11 : decode (mB 177) 11 = .ok (.istore 4, 2) := by decide +kernel
theorem x177_11 {d : Nat} {l0 l1 l2 l3 l4 l5 l6 : Option Value} {st : List Value} {x : Int32} {h : Hp} : ex (d) 177 11 [l0, l1, l2, l3, l4, l5, l6] (.int x :: st) h = ex d 177 13 [l0, l1, l2, clr l3, some (.int x), l5, l6] st h := (ex_of d177_11 (d) [l0, l1, l2, l3, l4, l5, l6] (.int x :: st) h).trans (rfl)
theorem d177_13 : decode (mB 177) 13 = .ok (.bipush 6, 2) := by decide +kernel
theorem x177_13 {d : Nat} {L : Lc} {st : List Value} {h : Hp} : ex (d) 177 13 L st h = ex d 177 15 L (.int (nI 6) :: st) h := (ex_of d177_13 (d) L st h).trans (rfl)
theorem d177_15 : decode (mB 177) 15 = .ok (.iload_n 2, 1) := by decide +kernel
theorem x177_15 {d : Nat} {l0 l1 l3 l4 l5 l6 : Option Value} {st : List Value} {x : Int32} {h : Hp} : ex (d) 177 15 [l0, l1, some (.int x), l3, l4, l5, l6] st h = ex d 177 16 [l0, l1, some (.int x), l3, l4, l5, l6] (.int x :: st) h := (ex_of d177_15 (d) [l0, l1, some (.int x), l3, l4, l5, l6] st h).trans (rfl)
theorem d177_16 : decode (mB 177) 16 = .ok (.imul, 1) := by decide +kernel
theorem x177_16 {d : Nat} {L : Lc} {st : List Value} {x y : Int32} {h : Hp} : ex (d) 177 16 L (.int y :: .int x :: st) h = ex d 177 17 L (.int (x * y) :: st) h := (ex_of d177_16 (d) L (.int y :: .int x :: st) h).trans (rfl)
theorem d177_17 : decode (mB 177) 17 = .ok (.iload_n 3, 1) := by decide +kernel
theorem x177_17 {d : Nat} {l0 l1 l2 l4 l5 l6 : Option Value} {st : List Value} {x : Int32} {h : Hp} : ex (d) 177 17 [l0, l1, l2, some (.int x), l4, l5, l6] st h = ex d 177 18 [l0, l1, l2, some (.int x), l4, l5, l6] (.int x :: st) h := (ex_of d177_17 (d) [l0, l1, l2, some (.int x), l4, l5, l6] st h).trans (rfl)
theorem d177_18 : decode (mB 177) 18 = .ok (.iadd, 1) := by decide +kernel
theorem x177_18 {d : Nat} {L : Lc} {st : List Value} {x y : Int32} {h : Hp} : ex (d) 177 18 L (.int y :: .int x :: st) h = ex d 177 19 L (.int (x + y) :: st) h := (ex_of d177_18 (d) L (.int y :: .int x :: st) h).trans (rfl)
theorem d177_19 : decode (mB 177) 19 = .ok (.istore 5, 2) := by decide +kernel
theorem x177_19 {d : Nat} {l0 l1 l2 l3 l4 l5 l6 : Option Value} {st : List Value} {x : Int32} {h : Hp} : ex (d) 177 19 [l0, l1, l2, l3, l4, l5, l6] (.int x :: st) h = ex d 177 21 [l0, l1, l2, l3, clr l4, some (.int x), l6] st h := (ex_of d177_19 (d) [l0, l1, l2, l3, l4, l5, l6] (.int x :: st) h).trans (rfl)
theorem d177_21 : decode (mB 177) 21 = .ok (.iload 4, 2) := by decide +kernel
theorem x177_21 {d : Nat} {l0 l1 l2 l3 l5 l6 : Option Value} {st : List Value} {x : Int32} {h : Hp} : ex (d) 177 21 [l0, l1, l2, l3, some (.int x), l5, l6] st h = ex d 177 23 [l0, l1, l2, l3, some (.int x), l5, l6] (.int x :: st) h := (ex_of d177_21 (d) [l0, l1, l2, l3, some (.int x), l5, l6] st h).trans (rfl)
theorem d177_23 : decode (mB 177) 23 = .ok (.bipush (-2), 2) := by decide +kernel
theorem x177_23 {d : Nat} {L : Lc} {st : List Value} {h : Hp} : ex (d) 177 23 L st h = ex d 177 25 L (.int (-2) :: st) h := (ex_of d177_23 (d) L st h).trans (rfl)
theorem d177_25 : decode (mB 177) 25 = .ok (.if_icmp .ne 5, 3) := by decide +kernel
theorem x177_25 {d : Nat} {L : Lc} {st : List Value} {x y : Int32} {h : Hp} : ex (d) 177 25 L (.int y :: .int x :: st) h = if ¬ x = y then ex d 177 30 L st h else ex d 177 28 L st h := (ex_of d177_25 (d) L (.int y :: .int x :: st) h).trans (fin_brq (off := 5) (tgt := 30) rfl (by decide))
theorem d177_28 : decode (mB 177) 28 = .ok (.iconst 0, 1) := by decide +kernel
theorem x177_28 {d : Nat} {L : Lc} {st : List Value} {h : Hp} : ex (d) 177 28 L st h = ex d 177 29 L (.int (nI 0) :: st) h := (ex_of d177_28 (d) L st h).trans (rfl)
theorem d177_29 : decode (mB 177) 29 = .ok (.ireturn, 1) := by decide +kernel
theorem x177_29 {d : Nat} {L : Lc} {x : Int32} {h : Hp} : ex (d) 177 29 L [.int x] h = some (some (.int x), h) := (ex_of d177_29 (d) L [.int x] h).trans (rfl)
theorem d177_30 : decode (mB 177) 30 = .ok (.iload 4, 2) := by decide +kernel
theorem x177_30 {d : Nat} {l0 l1 l2 l3 l5 l6 : Option Value} {st : List Value} {x : Int32} {h : Hp} : ex (d) 177 30 [l0, l1, l2, l3, some (.int x), l5, l6] st h = ex d 177 32 [l0, l1, l2, l3, some (.int x), l5, l6] (.int x :: st) h := (ex_of d177_30 (d) [l0, l1, l2, l3, some (.int x), l5, l6] st h).trans (rfl)
theorem d177_32 : decode (mB 177) 32 = .ok (.iconst (-1), 1) := by decide +kernel
theorem x177_32 {d : Nat} {L : Lc} {st : List Value} {h : Hp} : ex (d) 177 32 L st h = ex d 177 33 L (.int (-1) :: st) h := (ex_of d177_32 (d) L st h).trans (rfl)
theorem d177_33 : decode (mB 177) 33 = .ok (.if_icmp .eq 13, 3) := by decide +kernel
theorem x177_33 {d : Nat} {L : Lc} {st : List Value} {x y : Int32} {h : Hp} : ex (d) 177 33 L (.int y :: .int x :: st) h = if x = y then ex d 177 46 L st h else ex d 177 36 L st h := (ex_of d177_33 (d) L (.int y :: .int x :: st) h).trans (fin_brq (off := 13) (tgt := 46) rfl (by decide))
theorem d177_36 : decode (mB 177) 36 = .ok (.aload_n 0, 1) := by decide +kernel
theorem x177_36 {d : Nat} {l1 l2 l3 l4 l5 l6 : Option Value} {st : List Value} {a : Nat} {h : Hp} : ex (d) 177 36 [some (.ref a), l1, l2, l3, l4, l5, l6] st h = ex d 177 37 [some (.ref a), l1, l2, l3, l4, l5, l6] (.ref a :: st) h := (ex_of d177_36 (d) [some (.ref a), l1, l2, l3, l4, l5, l6] st h).trans (rfl)
theorem d177_37 : decode (mB 177) 37 = .ok (.getfield 28, 3) := by decide +kernel
theorem x177_37 {d : Nat} {L : Lc} {st : List Value} {a : Nat} {h : Hp} (ht : (h.2.1 a).1 = 11) : ex (d) 177 37 L (.ref a :: st) h = ex d 177 40 L (h.1 a 9 :: st) h := (ex_of d177_37 (d) L (.ref a :: st) h).trans (fin_get (mi := 177) f11_28 (tg1 ht rfl))
theorem d177_40 : decode (mB 177) 40 = .ok (.iload 5, 2) := by decide +kernel
theorem x177_40 {d : Nat} {l0 l1 l2 l3 l4 l6 : Option Value} {st : List Value} {x : Int32} {h : Hp} : ex (d) 177 40 [l0, l1, l2, l3, l4, some (.int x), l6] st h = ex d 177 42 [l0, l1, l2, l3, l4, some (.int x), l6] (.int x :: st) h := (ex_of d177_40 (d) [l0, l1, l2, l3, l4, some (.int x), l6] st h).trans (rfl)
theorem d177_42 : decode (mB 177) 42 = .ok (.iaload, 1) := by decide +kernel
theorem x177_42 {d : Nat} {L : Lc} {st : List Value} {a j : Nat} {h : Hp} (ht : (h.2.1 a).1 = 20) (hj : j < (h.2.1 a).2) (hb : j < 2147483648) : ex (d) 177 42 L (.int (nI j) :: .ref a :: st) h = ex d 177 43 L (h.1 a j :: st) h := (ex_of d177_42 (d) L (.int (nI j) :: .ref a :: st) h).trans (fin_iaload (Or.inl ht) hj hb)
theorem d177_43 : decode (mB 177) 43 = .ok (.ifCond .ne 5, 3) := by decide +kernel
theorem x177_43 {d : Nat} {L : Lc} {st : List Value} {x : Int32} {h : Hp} : ex (d) 177 43 L (.int x :: st) h = if ¬ x = 0 then ex d 177 48 L st h else ex d 177 46 L st h := (ex_of d177_43 (d) L (.int x :: st) h).trans (fin_brq (off := 5) (tgt := 48) rfl (by decide))
theorem d177_46 : decode (mB 177) 46 = .ok (.iconst 2, 1) := by decide +kernel
theorem x177_46 {d : Nat} {L : Lc} {st : List Value} {h : Hp} : ex (d) 177 46 L st h = ex d 177 47 L (.int (nI 2) :: st) h := (ex_of d177_46 (d) L st h).trans (rfl)
theorem d177_47 : decode (mB 177) 47 = .ok (.ireturn, 1) := by decide +kernel
theorem x177_47 {d : Nat} {L : Lc} {x : Int32} {h : Hp} : ex (d) 177 47 L [.int x] h = some (some (.int x), h) := (ex_of d177_47 (d) L [.int x] h).trans (rfl)
theorem d177_48 : decode (mB 177) 48 = .ok (.iload 4, 2) := by decide +kernel
theorem x177_48 {d : Nat} {l0 l1 l2 l3 l5 l6 : Option Value} {st : List Value} {x : Int32} {h : Hp} : ex (d) 177 48 [l0, l1, l2, l3, some (.int x), l5, l6] st h = ex d 177 50 [l0, l1, l2, l3, some (.int x), l5, l6] (.int x :: st) h := (ex_of d177_48 (d) [l0, l1, l2, l3, some (.int x), l5, l6] st h).trans (rfl)
theorem d177_50 : decode (mB 177) 50 = .ok (.iconst 4, 1) := by decide +kernel
theorem x177_50 {d : Nat} {L : Lc} {st : List Value} {h : Hp} : ex (d) 177 50 L st h = ex d 177 51 L (.int (nI 4) :: st) h := (ex_of d177_50 (d) L st h).trans (rfl)
theorem d177_51 : decode (mB 177) 51 = .ok (.iadd, 1) := by decide +kernel
theorem x177_51 {d : Nat} {L : Lc} {st : List Value} {x y : Int32} {h : Hp} : ex (d) 177 51 L (.int y :: .int x :: st) h = ex d 177 52 L (.int (x + y) :: st) h := (ex_of d177_51 (d) L (.int y :: .int x :: st) h).trans (rfl)
theorem d177_52 : decode (mB 177) 52 = .ok (.iconst 5, 1) := by decide +kernel
theorem x177_52 {d : Nat} {L : Lc} {st : List Value} {h : Hp} : ex (d) 177 52 L st h = ex d 177 53 L (.int (nI 5) :: st) h := (ex_of d177_52 (d) L st h).trans (rfl)
theorem d177_53 : decode (mB 177) 53 = .ok (.idiv, 1) := by decide +kernel
theorem x177_53 {d : Nat} {L : Lc} {st : List Value} {x y : Int32} {h : Hp} (hy : ¬ y = 0) : ex (d) 177 53 L (.int y :: .int x :: st) h = ex d 177 54 L (.int (x / y) :: st) h := (ex_of d177_53 (d) L (.int y :: .int x :: st) h).trans (fin_div hy)
theorem d177_54 : decode (mB 177) 54 = .ok (.istore 6, 2) := by decide +kernel
theorem x177_54 {d : Nat} {l0 l1 l2 l3 l4 l5 l6 : Option Value} {st : List Value} {x : Int32} {h : Hp} : ex (d) 177 54 [l0, l1, l2, l3, l4, l5, l6] (.int x :: st) h = ex d 177 56 [l0, l1, l2, l3, l4, clr l5, some (.int x)] st h := (ex_of d177_54 (d) [l0, l1, l2, l3, l4, l5, l6] (.int x :: st) h).trans (rfl)
theorem d177_56 : decode (mB 177) 56 = .ok (.iload 6, 2) := by decide +kernel
theorem x177_56 {d : Nat} {l0 l1 l2 l3 l4 l5 : Option Value} {st : List Value} {x : Int32} {h : Hp} : ex (d) 177 56 [l0, l1, l2, l3, l4, l5, some (.int x)] st h = ex d 177 58 [l0, l1, l2, l3, l4, l5, some (.int x)] (.int x :: st) h := (ex_of d177_56 (d) [l0, l1, l2, l3, l4, l5, some (.int x)] st h).trans (rfl)
theorem d177_58 : decode (mB 177) 58 = .ok (.aload_n 0, 1) := by decide +kernel
theorem x177_58 {d : Nat} {l1 l2 l3 l4 l5 l6 : Option Value} {st : List Value} {a : Nat} {h : Hp} : ex (d) 177 58 [some (.ref a), l1, l2, l3, l4, l5, l6] st h = ex d 177 59 [some (.ref a), l1, l2, l3, l4, l5, l6] (.ref a :: st) h := (ex_of d177_58 (d) [some (.ref a), l1, l2, l3, l4, l5, l6] st h).trans (rfl)
theorem d177_59 : decode (mB 177) 59 = .ok (.getfield 28, 3) := by decide +kernel
theorem x177_59 {d : Nat} {L : Lc} {st : List Value} {a : Nat} {h : Hp} (ht : (h.2.1 a).1 = 11) : ex (d) 177 59 L (.ref a :: st) h = ex d 177 62 L (h.1 a 9 :: st) h := (ex_of d177_59 (d) L (.ref a :: st) h).trans (fin_get (mi := 177) f11_28 (tg1 ht rfl))
theorem d177_62 : decode (mB 177) 62 = .ok (.iload 5, 2) := by decide +kernel
theorem x177_62 {d : Nat} {l0 l1 l2 l3 l4 l6 : Option Value} {st : List Value} {x : Int32} {h : Hp} : ex (d) 177 62 [l0, l1, l2, l3, l4, some (.int x), l6] st h = ex d 177 64 [l0, l1, l2, l3, l4, some (.int x), l6] (.int x :: st) h := (ex_of d177_62 (d) [l0, l1, l2, l3, l4, some (.int x), l6] st h).trans (rfl)
theorem d177_64 : decode (mB 177) 64 = .ok (.iaload, 1) := by decide +kernel
theorem x177_64 {d : Nat} {L : Lc} {st : List Value} {a j : Nat} {h : Hp} (ht : (h.2.1 a).1 = 20) (hj : j < (h.2.1 a).2) (hb : j < 2147483648) : ex (d) 177 64 L (.int (nI j) :: .ref a :: st) h = ex d 177 65 L (h.1 a j :: st) h := (ex_of d177_64 (d) L (.int (nI j) :: .ref a :: st) h).trans (fin_iaload (Or.inl ht) hj hb)
theorem d177_65 : decode (mB 177) 65 = .ok (.aload_n 0, 1) := by decide +kernel
theorem x177_65 {d : Nat} {l1 l2 l3 l4 l5 l6 : Option Value} {st : List Value} {a : Nat} {h : Hp} : ex (d) 177 65 [some (.ref a), l1, l2, l3, l4, l5, l6] st h = ex d 177 66 [some (.ref a), l1, l2, l3, l4, l5, l6] (.ref a :: st) h := (ex_of d177_65 (d) [some (.ref a), l1, l2, l3, l4, l5, l6] st h).trans (rfl)
theorem d177_66 : decode (mB 177) 66 = .ok (.getfield 31, 3) := by decide +kernel
theorem x177_66 {d : Nat} {L : Lc} {st : List Value} {a : Nat} {h : Hp} (ht : (h.2.1 a).1 = 11) : ex (d) 177 66 L (.ref a :: st) h = ex d 177 69 L (h.1 a 10 :: st) h := (ex_of d177_66 (d) L (.ref a :: st) h).trans (fin_get (mi := 177) f11_31 (tg1 ht rfl))
theorem d177_69 : decode (mB 177) 69 = .ok (.iload 5, 2) := by decide +kernel
theorem x177_69 {d : Nat} {l0 l1 l2 l3 l4 l6 : Option Value} {st : List Value} {x : Int32} {h : Hp} : ex (d) 177 69 [l0, l1, l2, l3, l4, some (.int x), l6] st h = ex d 177 71 [l0, l1, l2, l3, l4, some (.int x), l6] (.int x :: st) h := (ex_of d177_69 (d) [l0, l1, l2, l3, l4, some (.int x), l6] st h).trans (rfl)
theorem d177_71 : decode (mB 177) 71 = .ok (.iaload, 1) := by decide +kernel
theorem x177_71 {d : Nat} {L : Lc} {st : List Value} {a j : Nat} {h : Hp} (ht : (h.2.1 a).1 = 20) (hj : j < (h.2.1 a).2) (hb : j < 2147483648) : ex (d) 177 71 L (.int (nI j) :: .ref a :: st) h = ex d 177 72 L (h.1 a j :: st) h := (ex_of d177_71 (d) L (.int (nI j) :: .ref a :: st) h).trans (fin_iaload (Or.inl ht) hj hb)
theorem d177_72 : decode (mB 177) 72 = .ok (.isub, 1) := by decide +kernel
theorem x177_72 {d : Nat} {L : Lc} {st : List Value} {x y : Int32} {h : Hp} : ex (d) 177 72 L (.int y :: .int x :: st) h = ex d 177 73 L (.int (x - y) :: st) h := (ex_of d177_72 (d) L (.int y :: .int x :: st) h).trans (rfl)
theorem d177_73 : decode (mB 177) 73 = .ok (.if_icmp .lt 23, 3) := by decide +kernel
theorem x177_73 {d : Nat} {L : Lc} {st : List Value} {x y : Int32} {h : Hp} : ex (d) 177 73 L (.int y :: .int x :: st) h = if x < y then ex d 177 96 L st h else ex d 177 76 L st h := (ex_of d177_73 (d) L (.int y :: .int x :: st) h).trans (fin_brq (off := 23) (tgt := 96) rfl (by decide))
theorem d177_76 : decode (mB 177) 76 = .ok (.iload 6, 2) := by decide +kernel
theorem x177_76 {d : Nat} {l0 l1 l2 l3 l4 l5 : Option Value} {st : List Value} {x : Int32} {h : Hp} : ex (d) 177 76 [l0, l1, l2, l3, l4, l5, some (.int x)] st h = ex d 177 78 [l0, l1, l2, l3, l4, l5, some (.int x)] (.int x :: st) h := (ex_of d177_76 (d) [l0, l1, l2, l3, l4, l5, some (.int x)] st h).trans (rfl)
theorem d177_78 : decode (mB 177) 78 = .ok (.aload_n 0, 1) := by decide +kernel
theorem x177_78 {d : Nat} {l1 l2 l3 l4 l5 l6 : Option Value} {st : List Value} {a : Nat} {h : Hp} : ex (d) 177 78 [some (.ref a), l1, l2, l3, l4, l5, l6] st h = ex d 177 79 [some (.ref a), l1, l2, l3, l4, l5, l6] (.ref a :: st) h := (ex_of d177_78 (d) [some (.ref a), l1, l2, l3, l4, l5, l6] st h).trans (rfl)
theorem d177_79 : decode (mB 177) 79 = .ok (.getfield 28, 3) := by decide +kernel
theorem x177_79 {d : Nat} {L : Lc} {st : List Value} {a : Nat} {h : Hp} (ht : (h.2.1 a).1 = 11) : ex (d) 177 79 L (.ref a :: st) h = ex d 177 82 L (h.1 a 9 :: st) h := (ex_of d177_79 (d) L (.ref a :: st) h).trans (fin_get (mi := 177) f11_28 (tg1 ht rfl))
theorem d177_82 : decode (mB 177) 82 = .ok (.iload 5, 2) := by decide +kernel
theorem x177_82 {d : Nat} {l0 l1 l2 l3 l4 l6 : Option Value} {st : List Value} {x : Int32} {h : Hp} : ex (d) 177 82 [l0, l1, l2, l3, l4, some (.int x), l6] st h = ex d 177 84 [l0, l1, l2, l3, l4, some (.int x), l6] (.int x :: st) h := (ex_of d177_82 (d) [l0, l1, l2, l3, l4, some (.int x), l6] st h).trans (rfl)
theorem d177_84 : decode (mB 177) 84 = .ok (.iaload, 1) := by decide +kernel
theorem x177_84 {d : Nat} {L : Lc} {st : List Value} {a j : Nat} {h : Hp} (ht : (h.2.1 a).1 = 20) (hj : j < (h.2.1 a).2) (hb : j < 2147483648) : ex (d) 177 84 L (.int (nI j) :: .ref a :: st) h = ex d 177 85 L (h.1 a j :: st) h := (ex_of d177_84 (d) L (.int (nI j) :: .ref a :: st) h).trans (fin_iaload (Or.inl ht) hj hb)
theorem d177_85 : decode (mB 177) 85 = .ok (.aload_n 0, 1) := by decide +kernel
theorem x177_85 {d : Nat} {l1 l2 l3 l4 l5 l6 : Option Value} {st : List Value} {a : Nat} {h : Hp} : ex (d) 177 85 [some (.ref a), l1, l2, l3, l4, l5, l6] st h = ex d 177 86 [some (.ref a), l1, l2, l3, l4, l5, l6] (.ref a :: st) h := (ex_of d177_85 (d) [some (.ref a), l1, l2, l3, l4, l5, l6] st h).trans (rfl)
theorem d177_86 : decode (mB 177) 86 = .ok (.getfield 34, 3) := by decide +kernel
theorem x177_86 {d : Nat} {L : Lc} {st : List Value} {a : Nat} {h : Hp} (ht : (h.2.1 a).1 = 11) : ex (d) 177 86 L (.ref a :: st) h = ex d 177 89 L (h.1 a 11 :: st) h := (ex_of d177_86 (d) L (.ref a :: st) h).trans (fin_get (mi := 177) f11_34 (tg1 ht rfl))
theorem d177_89 : decode (mB 177) 89 = .ok (.iload 5, 2) := by decide +kernel
theorem x177_89 {d : Nat} {l0 l1 l2 l3 l4 l6 : Option Value} {st : List Value} {x : Int32} {h : Hp} : ex (d) 177 89 [l0, l1, l2, l3, l4, some (.int x), l6] st h = ex d 177 91 [l0, l1, l2, l3, l4, some (.int x), l6] (.int x :: st) h := (ex_of d177_89 (d) [l0, l1, l2, l3, l4, some (.int x), l6] st h).trans (rfl)
theorem d177_91 : decode (mB 177) 91 = .ok (.iaload, 1) := by decide +kernel
theorem x177_91 {d : Nat} {L : Lc} {st : List Value} {a j : Nat} {h : Hp} (ht : (h.2.1 a).1 = 20) (hj : j < (h.2.1 a).2) (hb : j < 2147483648) : ex (d) 177 91 L (.int (nI j) :: .ref a :: st) h = ex d 177 92 L (h.1 a j :: st) h := (ex_of d177_91 (d) L (.int (nI j) :: .ref a :: st) h).trans (fin_iaload (Or.inl ht) hj hb)
theorem d177_92 : decode (mB 177) 92 = .ok (.iadd, 1) := by decide +kernel
theorem x177_92 {d : Nat} {L : Lc} {st : List Value} {x y : Int32} {h : Hp} : ex (d) 177 92 L (.int y :: .int x :: st) h = ex d 177 93 L (.int (x + y) :: st) h := (ex_of d177_92 (d) L (.int y :: .int x :: st) h).trans (rfl)
theorem d177_93 : decode (mB 177) 93 = .ok (.if_icmp .le 7, 3) := by decide +kernel
theorem x177_93 {d : Nat} {L : Lc} {st : List Value} {x y : Int32} {h : Hp} : ex (d) 177 93 L (.int y :: .int x :: st) h = if x ≤ y then ex d 177 100 L st h else ex d 177 96 L st h := (ex_of d177_93 (d) L (.int y :: .int x :: st) h).trans (fin_brq (off := 7) (tgt := 100) rfl (by decide))
theorem d177_96 : decode (mB 177) 96 = .ok (.iconst 0, 1) := by decide +kernel
theorem x177_96 {d : Nat} {L : Lc} {st : List Value} {h : Hp} : ex (d) 177 96 L st h = ex d 177 97 L (.int (nI 0) :: st) h := (ex_of d177_96 (d) L st h).trans (rfl)
theorem d177_97 : decode (mB 177) 97 = .ok (.goto 4, 3) := by decide +kernel
theorem x177_97 {d : Nat} {L : Lc} {st : List Value} {h : Hp} : ex (d) 177 97 L st h = ex d 177 101 L st h := (ex_of d177_97 (d) L st h).trans (rfl)
theorem d177_100 : decode (mB 177) 100 = .ok (.iconst 1, 1) := by decide +kernel
theorem x177_100 {d : Nat} {L : Lc} {st : List Value} {h : Hp} : ex (d) 177 100 L st h = ex d 177 101 L (.int (nI 1) :: st) h := (ex_of d177_100 (d) L st h).trans (rfl)
theorem d177_101 : decode (mB 177) 101 = .ok (.ireturn, 1) := by decide +kernel
theorem x177_101 {d : Nat} {L : Lc} {x : Int32} {h : Hp} : ex (d) 177 101 L [.int x] h = some (some (.int x), h) := (ex_of d177_101 (d) L [.int x] h).trans (rfl)
theorem d178_0 : decode (mB 178) 0 = .ok (.iload_n 0, 1) := by decide +kernel
theorem x178_0 {d : Nat} {l1 : Option Value} {st : List Value} {x : Int32} {h : Hp} : ex (d) 178 0 [some (.int x), l1] st h = ex d 178 1 [some (.int x), l1] (.int x :: st) h := (ex_of d178_0 (d) [some (.int x), l1] st h).trans (rfl)
theorem d178_1 : decode (mB 178) 1 = .ok (.ifCond .eq 7, 3) := by decide +kernel
theorem x178_1 {d : Nat} {L : Lc} {st : List Value} {x : Int32} {h : Hp} : ex (d) 178 1 L (.int x :: st) h = if x = 0 then ex d 178 8 L st h else ex d 178 4 L st h := (ex_of d178_1 (d) L (.int x :: st) h).trans (fin_brq (off := 7) (tgt := 8) rfl (by decide))
theorem d178_4 : decode (mB 178) 4 = .ok (.iload_n 1, 1) := by decide +kernel
theorem x178_4 {d : Nat} {l0 : Option Value} {st : List Value} {x : Int32} {h : Hp} : ex (d) 178 4 [l0, some (.int x)] st h = ex d 178 5 [l0, some (.int x)] (.int x :: st) h := (ex_of d178_4 (d) [l0, some (.int x)] st h).trans (rfl)
theorem d178_5 : decode (mB 178) 5 = .ok (.ifCond .ne 7, 3) := by decide +kernel
theorem x178_5 {d : Nat} {L : Lc} {st : List Value} {x : Int32} {h : Hp} : ex (d) 178 5 L (.int x :: st) h = if ¬ x = 0 then ex d 178 12 L st h else ex d 178 8 L st h := (ex_of d178_5 (d) L (.int x :: st) h).trans (fin_brq (off := 7) (tgt := 12) rfl (by decide))
theorem d178_8 : decode (mB 178) 8 = .ok (.iconst 0, 1) := by decide +kernel
theorem x178_8 {d : Nat} {L : Lc} {st : List Value} {h : Hp} : ex (d) 178 8 L st h = ex d 178 9 L (.int (nI 0) :: st) h := (ex_of d178_8 (d) L st h).trans (rfl)
theorem d178_9 : decode (mB 178) 9 = .ok (.goto 18, 3) := by decide +kernel
theorem x178_9 {d : Nat} {L : Lc} {st : List Value} {h : Hp} : ex (d) 178 9 L st h = ex d 178 27 L st h := (ex_of d178_9 (d) L st h).trans (rfl)
theorem d178_12 : decode (mB 178) 12 = .ok (.iload_n 0, 1) := by decide +kernel
theorem x178_12 {d : Nat} {l1 : Option Value} {st : List Value} {x : Int32} {h : Hp} : ex (d) 178 12 [some (.int x), l1] st h = ex d 178 13 [some (.int x), l1] (.int x :: st) h := (ex_of d178_12 (d) [some (.int x), l1] st h).trans (rfl)
theorem d178_13 : decode (mB 178) 13 = .ok (.iconst 2, 1) := by decide +kernel
theorem x178_13 {d : Nat} {L : Lc} {st : List Value} {h : Hp} : ex (d) 178 13 L st h = ex d 178 14 L (.int (nI 2) :: st) h := (ex_of d178_13 (d) L st h).trans (rfl)
theorem d178_14 : decode (mB 178) 14 = .ok (.if_icmp .eq 8, 3) := by decide +kernel
theorem x178_14 {d : Nat} {L : Lc} {st : List Value} {x y : Int32} {h : Hp} : ex (d) 178 14 L (.int y :: .int x :: st) h = if x = y then ex d 178 22 L st h else ex d 178 17 L st h := (ex_of d178_14 (d) L (.int y :: .int x :: st) h).trans (fin_brq (off := 8) (tgt := 22) rfl (by decide))
theorem d178_17 : decode (mB 178) 17 = .ok (.iload_n 1, 1) := by decide +kernel
theorem x178_17 {d : Nat} {l0 : Option Value} {st : List Value} {x : Int32} {h : Hp} : ex (d) 178 17 [l0, some (.int x)] st h = ex d 178 18 [l0, some (.int x)] (.int x :: st) h := (ex_of d178_17 (d) [l0, some (.int x)] st h).trans (rfl)
theorem d178_18 : decode (mB 178) 18 = .ok (.iconst 2, 1) := by decide +kernel
theorem x178_18 {d : Nat} {L : Lc} {st : List Value} {h : Hp} : ex (d) 178 18 L st h = ex d 178 19 L (.int (nI 2) :: st) h := (ex_of d178_18 (d) L st h).trans (rfl)
theorem d178_19 : decode (mB 178) 19 = .ok (.if_icmp .ne 7, 3) := by decide +kernel
theorem x178_19 {d : Nat} {L : Lc} {st : List Value} {x y : Int32} {h : Hp} : ex (d) 178 19 L (.int y :: .int x :: st) h = if ¬ x = y then ex d 178 26 L st h else ex d 178 22 L st h := (ex_of d178_19 (d) L (.int y :: .int x :: st) h).trans (fin_brq (off := 7) (tgt := 26) rfl (by decide))
theorem d178_22 : decode (mB 178) 22 = .ok (.iconst 2, 1) := by decide +kernel
theorem x178_22 {d : Nat} {L : Lc} {st : List Value} {h : Hp} : ex (d) 178 22 L st h = ex d 178 23 L (.int (nI 2) :: st) h := (ex_of d178_22 (d) L st h).trans (rfl)
theorem d178_23 : decode (mB 178) 23 = .ok (.goto 4, 3) := by decide +kernel
theorem x178_23 {d : Nat} {L : Lc} {st : List Value} {h : Hp} : ex (d) 178 23 L st h = ex d 178 27 L st h := (ex_of d178_23 (d) L st h).trans (rfl)
theorem d178_26 : decode (mB 178) 26 = .ok (.iconst 1, 1) := by decide +kernel
theorem x178_26 {d : Nat} {L : Lc} {st : List Value} {h : Hp} : ex (d) 178 26 L st h = ex d 178 27 L (.int (nI 1) :: st) h := (ex_of d178_26 (d) L st h).trans (rfl)
theorem d178_27 : decode (mB 178) 27 = .ok (.ireturn, 1) := by decide +kernel
theorem x178_27 {d : Nat} {L : Lc} {x : Int32} {h : Hp} : ex (d) 178 27 L [.int x] h = some (some (.int x), h) := (ex_of d178_27 (d) L [.int x] h).trans (rfl)
theorem d179_0 : decode (mB 179) 0 = .ok (.aload_n 0, 1) := by decide +kernel
theorem x179_0 {d : Nat} {l1 l2 l3 l4 l5 l6 : Option Value} {st : List Value} {a : Nat} {h : Hp} : ex (d) 179 0 [some (.ref a), l1, l2, l3, l4, l5, l6] st h = ex d 179 1 [some (.ref a), l1, l2, l3, l4, l5, l6] (.ref a :: st) h := (ex_of d179_0 (d) [some (.ref a), l1, l2, l3, l4, l5, l6] st h).trans (rfl)
theorem d179_1 : decode (mB 179) 1 = .ok (.getfield 9, 3) := by decide +kernel
theorem x179_1 {d : Nat} {L : Lc} {st : List Value} {a : Nat} {h : Hp} (ht : (h.2.1 a).1 = 11) : ex (d) 179 1 L (.ref a :: st) h = ex d 179 4 L (h.1 a 2 :: st) h := (ex_of d179_1 (d) L (.ref a :: st) h).trans (fin_get (mi := 179) f11_9 (tg1 ht rfl))
theorem d179_4 : decode (mB 179) 4 = .ok (.iload_n 2, 1) := by decide +kernel
theorem x179_4 {d : Nat} {l0 l1 l3 l4 l5 l6 : Option Value} {st : List Value} {x : Int32} {h : Hp} : ex (d) 179 4 [l0, l1, some (.int x), l3, l4, l5, l6] st h = ex d 179 5 [l0, l1, some (.int x), l3, l4, l5, l6] (.int x :: st) h := (ex_of d179_4 (d) [l0, l1, some (.int x), l3, l4, l5, l6] st h).trans (rfl)
theorem d179_5 : decode (mB 179) 5 = .ok (.iaload, 1) := by decide +kernel
theorem x179_5 {d : Nat} {L : Lc} {st : List Value} {a j : Nat} {h : Hp} (ht : (h.2.1 a).1 = 20) (hj : j < (h.2.1 a).2) (hb : j < 2147483648) : ex (d) 179 5 L (.int (nI j) :: .ref a :: st) h = ex d 179 6 L (h.1 a j :: st) h := (ex_of d179_5 (d) L (.int (nI j) :: .ref a :: st) h).trans (fin_iaload (Or.inl ht) hj hb)
theorem d179_6 : decode (mB 179) 6 = .ok (.iconst 4, 1) := by decide +kernel
theorem x179_6 {d : Nat} {L : Lc} {st : List Value} {h : Hp} : ex (d) 179 6 L st h = ex d 179 7 L (.int (nI 4) :: st) h := (ex_of d179_6 (d) L st h).trans (rfl)
theorem d179_7 : decode (mB 179) 7 = .ok (.if_icmp .eq 58, 3) := by decide +kernel
theorem x179_7 {d : Nat} {L : Lc} {st : List Value} {x y : Int32} {h : Hp} : ex (d) 179 7 L (.int y :: .int x :: st) h = if x = y then ex d 179 65 L st h else ex d 179 10 L st h := (ex_of d179_7 (d) L (.int y :: .int x :: st) h).trans (fin_brq (off := 58) (tgt := 65) rfl (by decide))
theorem d179_10 : decode (mB 179) 10 = .ok (.iconst 1, 1) := by decide +kernel
theorem x179_10 {d : Nat} {L : Lc} {st : List Value} {h : Hp} : ex (d) 179 10 L st h = ex d 179 11 L (.int (nI 1) :: st) h := (ex_of d179_10 (d) L st h).trans (rfl)
theorem d179_11 : decode (mB 179) 11 = .ok (.istore_n 3, 1) := by decide +kernel
theorem x179_11 {d : Nat} {l0 l1 l2 l3 l4 l5 l6 : Option Value} {st : List Value} {x : Int32} {h : Hp} : ex (d) 179 11 [l0, l1, l2, l3, l4, l5, l6] (.int x :: st) h = ex d 179 12 [l0, l1, clr l2, some (.int x), l4, l5, l6] st h := (ex_of d179_11 (d) [l0, l1, l2, l3, l4, l5, l6] (.int x :: st) h).trans (rfl)
theorem d179_12 : decode (mB 179) 12 = .ok (.iconst 0, 1) := by decide +kernel
theorem x179_12 {d : Nat} {L : Lc} {st : List Value} {h : Hp} : ex (d) 179 12 L st h = ex d 179 13 L (.int (nI 0) :: st) h := (ex_of d179_12 (d) L st h).trans (rfl)
theorem d179_13 : decode (mB 179) 13 = .ok (.istore 4, 2) := by decide +kernel
theorem x179_13 {d : Nat} {l0 l1 l2 l3 l4 l5 l6 : Option Value} {st : List Value} {x : Int32} {h : Hp} : ex (d) 179 13 [l0, l1, l2, l3, l4, l5, l6] (.int x :: st) h = ex d 179 15 [l0, l1, l2, clr l3, some (.int x), l5, l6] st h := (ex_of d179_13 (d) [l0, l1, l2, l3, l4, l5, l6] (.int x :: st) h).trans (rfl)
theorem d179_15 : decode (mB 179) 15 = .ok (.iload 4, 2) := by decide +kernel
theorem x179_15 {d : Nat} {l0 l1 l2 l3 l5 l6 : Option Value} {st : List Value} {x : Int32} {h : Hp} : ex (d) 179 15 [l0, l1, l2, l3, some (.int x), l5, l6] st h = ex d 179 17 [l0, l1, l2, l3, some (.int x), l5, l6] (.int x :: st) h := (ex_of d179_15 (d) [l0, l1, l2, l3, some (.int x), l5, l6] st h).trans (rfl)
theorem d179_17 : decode (mB 179) 17 = .ok (.bipush 6, 2) := by decide +kernel
theorem x179_17 {d : Nat} {L : Lc} {st : List Value} {h : Hp} : ex (d) 179 17 L st h = ex d 179 19 L (.int (nI 6) :: st) h := (ex_of d179_17 (d) L st h).trans (rfl)
theorem d179_19 : decode (mB 179) 19 = .ok (.if_icmp .ge 44, 3) := by decide +kernel
theorem x179_19 {d : Nat} {L : Lc} {st : List Value} {x y : Int32} {h : Hp} : ex (d) 179 19 L (.int y :: .int x :: st) h = if y ≤ x then ex d 179 63 L st h else ex d 179 22 L st h := (ex_of d179_19 (d) L (.int y :: .int x :: st) h).trans (fin_brq (off := 44) (tgt := 63) rfl (by decide))
theorem d179_22 : decode (mB 179) 22 = .ok (.aload_n 0, 1) := by decide +kernel
theorem x179_22 {d : Nat} {l1 l2 l3 l4 l5 l6 : Option Value} {st : List Value} {a : Nat} {h : Hp} : ex (d) 179 22 [some (.ref a), l1, l2, l3, l4, l5, l6] st h = ex d 179 23 [some (.ref a), l1, l2, l3, l4, l5, l6] (.ref a :: st) h := (ex_of d179_22 (d) [some (.ref a), l1, l2, l3, l4, l5, l6] st h).trans (rfl)
theorem d179_23 : decode (mB 179) 23 = .ok (.getfield 9, 3) := by decide +kernel
theorem x179_23 {d : Nat} {L : Lc} {st : List Value} {a : Nat} {h : Hp} (ht : (h.2.1 a).1 = 11) : ex (d) 179 23 L (.ref a :: st) h = ex d 179 26 L (h.1 a 2 :: st) h := (ex_of d179_23 (d) L (.ref a :: st) h).trans (fin_get (mi := 179) f11_9 (tg1 ht rfl))
theorem d179_26 : decode (mB 179) 26 = .ok (.iload_n 2, 1) := by decide +kernel
theorem x179_26 {d : Nat} {l0 l1 l3 l4 l5 l6 : Option Value} {st : List Value} {x : Int32} {h : Hp} : ex (d) 179 26 [l0, l1, some (.int x), l3, l4, l5, l6] st h = ex d 179 27 [l0, l1, some (.int x), l3, l4, l5, l6] (.int x :: st) h := (ex_of d179_26 (d) [l0, l1, some (.int x), l3, l4, l5, l6] st h).trans (rfl)
theorem d179_27 : decode (mB 179) 27 = .ok (.iaload, 1) := by decide +kernel
theorem x179_27 {d : Nat} {L : Lc} {st : List Value} {a j : Nat} {h : Hp} (ht : (h.2.1 a).1 = 20) (hj : j < (h.2.1 a).2) (hb : j < 2147483648) : ex (d) 179 27 L (.int (nI j) :: .ref a :: st) h = ex d 179 28 L (h.1 a j :: st) h := (ex_of d179_27 (d) L (.int (nI j) :: .ref a :: st) h).trans (fin_iaload (Or.inl ht) hj hb)
theorem d179_28 : decode (mB 179) 28 = .ok (.invokestatic 194, 3) := by decide +kernel
theorem x179_28 {d : Nat} {L : Lc}  {v0 : Int32} {h : Hp} : ex (d + 1) 179 28 L (.int v0 :: []) h = bnd (ex d 176 0 [some (.int v0)] [] h) (fun v h' => ex (d + 1) 179 31 L (v.toList ++ []) h') := (ex_of d179_28 (d + 1) L (.int v0 :: []) h).trans (fin_st (mi := 179) i11_194 (Or.inl rfl) (by simp) (by simp [cat1_i, cat1_r]) (by simp) (Nat.le_of_ble_eq_true rfl))
theorem d179_31 : decode (mB 179) 31 = .ok (.iload 4, 2) := by decide +kernel
theorem x179_31 {d : Nat} {l0 l1 l2 l3 l5 l6 : Option Value} {st : List Value} {x : Int32} {h : Hp} : ex (d) 179 31 [l0, l1, l2, l3, some (.int x), l5, l6] st h = ex d 179 33 [l0, l1, l2, l3, some (.int x), l5, l6] (.int x :: st) h := (ex_of d179_31 (d) [l0, l1, l2, l3, some (.int x), l5, l6] st h).trans (rfl)
theorem d179_33 : decode (mB 179) 33 = .ok (.ishr, 1) := by decide +kernel
theorem x179_33 {d : Nat} {L : Lc} {st : List Value} {x y : Int32} {h : Hp} : ex (d) 179 33 L (.int y :: .int x :: st) h = ex d 179 34 L (.int (x >>> (y &&& 31)) :: st) h := (ex_of d179_33 (d) L (.int y :: .int x :: st) h).trans (rfl)
theorem d179_34 : decode (mB 179) 34 = .ok (.iconst 1, 1) := by decide +kernel
theorem x179_34 {d : Nat} {L : Lc} {st : List Value} {h : Hp} : ex (d) 179 34 L st h = ex d 179 35 L (.int (nI 1) :: st) h := (ex_of d179_34 (d) L st h).trans (rfl)
theorem d179_35 : decode (mB 179) 35 = .ok (.iand, 1) := by decide +kernel
theorem x179_35 {d : Nat} {L : Lc} {st : List Value} {x y : Int32} {h : Hp} : ex (d) 179 35 L (.int y :: .int x :: st) h = ex d 179 36 L (.int (x &&& y) :: st) h := (ex_of d179_35 (d) L (.int y :: .int x :: st) h).trans (rfl)
theorem d179_36 : decode (mB 179) 36 = .ok (.iconst 1, 1) := by decide +kernel
theorem x179_36 {d : Nat} {L : Lc} {st : List Value} {h : Hp} : ex (d) 179 36 L st h = ex d 179 37 L (.int (nI 1) :: st) h := (ex_of d179_36 (d) L st h).trans (rfl)
theorem d179_37 : decode (mB 179) 37 = .ok (.if_icmp .ne 18, 3) := by decide +kernel
theorem x179_37 {d : Nat} {L : Lc} {st : List Value} {x y : Int32} {h : Hp} : ex (d) 179 37 L (.int y :: .int x :: st) h = if ¬ x = y then ex d 179 55 L st h else ex d 179 40 L st h := (ex_of d179_37 (d) L (.int y :: .int x :: st) h).trans (fin_brq (off := 18) (tgt := 55) rfl (by decide))
theorem d179_40 : decode (mB 179) 40 = .ok (.iload_n 3, 1) := by decide +kernel
theorem x179_40 {d : Nat} {l0 l1 l2 l4 l5 l6 : Option Value} {st : List Value} {x : Int32} {h : Hp} : ex (d) 179 40 [l0, l1, l2, some (.int x), l4, l5, l6] st h = ex d 179 41 [l0, l1, l2, some (.int x), l4, l5, l6] (.int x :: st) h := (ex_of d179_40 (d) [l0, l1, l2, some (.int x), l4, l5, l6] st h).trans (rfl)
theorem d179_41 : decode (mB 179) 41 = .ok (.aload_n 0, 1) := by decide +kernel
theorem x179_41 {d : Nat} {l1 l2 l3 l4 l5 l6 : Option Value} {st : List Value} {a : Nat} {h : Hp} : ex (d) 179 41 [some (.ref a), l1, l2, l3, l4, l5, l6] st h = ex d 179 42 [some (.ref a), l1, l2, l3, l4, l5, l6] (.ref a :: st) h := (ex_of d179_41 (d) [some (.ref a), l1, l2, l3, l4, l5, l6] st h).trans (rfl)
theorem d179_42 : decode (mB 179) 42 = .ok (.iload_n 1, 1) := by decide +kernel
theorem x179_42 {d : Nat} {l0 l2 l3 l4 l5 l6 : Option Value} {st : List Value} {x : Int32} {h : Hp} : ex (d) 179 42 [l0, some (.int x), l2, l3, l4, l5, l6] st h = ex d 179 43 [l0, some (.int x), l2, l3, l4, l5, l6] (.int x :: st) h := (ex_of d179_42 (d) [l0, some (.int x), l2, l3, l4, l5, l6] st h).trans (rfl)
theorem d179_43 : decode (mB 179) 43 = .ok (.iload_n 2, 1) := by decide +kernel
theorem x179_43 {d : Nat} {l0 l1 l3 l4 l5 l6 : Option Value} {st : List Value} {x : Int32} {h : Hp} : ex (d) 179 43 [l0, l1, some (.int x), l3, l4, l5, l6] st h = ex d 179 44 [l0, l1, some (.int x), l3, l4, l5, l6] (.int x :: st) h := (ex_of d179_43 (d) [l0, l1, some (.int x), l3, l4, l5, l6] st h).trans (rfl)
theorem d179_44 : decode (mB 179) 44 = .ok (.iload 4, 2) := by decide +kernel
theorem x179_44 {d : Nat} {l0 l1 l2 l3 l5 l6 : Option Value} {st : List Value} {x : Int32} {h : Hp} : ex (d) 179 44 [l0, l1, l2, l3, some (.int x), l5, l6] st h = ex d 179 46 [l0, l1, l2, l3, some (.int x), l5, l6] (.int x :: st) h := (ex_of d179_44 (d) [l0, l1, l2, l3, some (.int x), l5, l6] st h).trans (rfl)
theorem d179_46 : decode (mB 179) 46 = .ok (.invokevirtual 197, 3) := by decide +kernel
theorem x179_46 {d : Nat} {L : Lc} {s0 : Value} {a : Nat} {v0 : Int32} {v1 : Int32} {v2 : Int32} {h : Hp} (ht : (h.2.1 a).1 = 11) : ex (d + 1) 179 46 L (.int v2 :: .int v1 :: .int v0 :: .ref a :: [s0]) h = bnd (ex d 177 0 [some (.ref a), some (.int v0), some (.int v1), some (.int v2), none, none, none] [] h) (fun v h' => ex (d + 1) 179 49 L (v.toList ++ [s0]) h') := (ex_of d179_46 (d + 1) L (.int v2 :: .int v1 :: .int v0 :: .ref a :: [s0]) h).trans (fin_vi (mi := 179) i11_197 ht rfl rfl (by simp [cat1_i, cat1_r]) (by simp) (Nat.le_of_ble_eq_true rfl))
theorem d179_49 : decode (mB 179) 49 = .ok (.invokestatic 200, 3) := by decide +kernel
theorem x179_49 {d : Nat} {L : Lc}  {v0 : Int32} {v1 : Int32} {h : Hp} : ex (d + 1) 179 49 L (.int v1 :: .int v0 :: []) h = bnd (ex d 178 0 [some (.int v0), some (.int v1)] [] h) (fun v h' => ex (d + 1) 179 52 L (v.toList ++ []) h') := (ex_of d179_49 (d + 1) L (.int v1 :: .int v0 :: []) h).trans (fin_st (mi := 179) i11_200 (Or.inl rfl) (by simp) (by simp [cat1_i, cat1_r]) (by simp) (Nat.le_of_ble_eq_true rfl))
theorem d179_52 : decode (mB 179) 52 = .ok (.goto 4, 3) := by decide +kernel
theorem x179_52 {d : Nat} {L : Lc} {st : List Value} {h : Hp} : ex (d) 179 52 L st h = ex d 179 56 L st h := (ex_of d179_52 (d) L st h).trans (rfl)
theorem d179_55 : decode (mB 179) 55 = .ok (.iload_n 3, 1) := by decide +kernel
theorem x179_55 {d : Nat} {l0 l1 l2 l4 l5 l6 : Option Value} {st : List Value} {x : Int32} {h : Hp} : ex (d) 179 55 [l0, l1, l2, some (.int x), l4, l5, l6] st h = ex d 179 56 [l0, l1, l2, some (.int x), l4, l5, l6] (.int x :: st) h := (ex_of d179_55 (d) [l0, l1, l2, some (.int x), l4, l5, l6] st h).trans (rfl)
theorem d179_56 : decode (mB 179) 56 = .ok (.istore_n 3, 1) := by decide +kernel
theorem x179_56 {d : Nat} {l0 l1 l2 l3 l4 l5 l6 : Option Value} {st : List Value} {x : Int32} {h : Hp} : ex (d) 179 56 [l0, l1, l2, l3, l4, l5, l6] (.int x :: st) h = ex d 179 57 [l0, l1, clr l2, some (.int x), l4, l5, l6] st h := (ex_of d179_56 (d) [l0, l1, l2, l3, l4, l5, l6] (.int x :: st) h).trans (rfl)
theorem d179_57 : decode (mB 179) 57 = .ok (.iinc 4 1, 3) := by decide +kernel
theorem x179_57 {d : Nat} {l0 l1 l2 l3 l5 l6 : Option Value} {st : List Value} {x : Int32} {h : Hp} : ex (d) 179 57 [l0, l1, l2, l3, some (.int x), l5, l6] st h = ex d 179 60 [l0, l1, l2, clr l3, some (.int (x + (nI 1))), l5, l6] st h := (ex_of d179_57 (d) [l0, l1, l2, l3, some (.int x), l5, l6] st h).trans (rfl)
theorem d179_60 : decode (mB 179) 60 = .ok (.goto (-45), 3) := by decide +kernel
theorem x179_60 {d : Nat} {L : Lc} {st : List Value} {h : Hp} : ex (d) 179 60 L st h = ex d 179 15 L st h := (ex_of d179_60 (d) L st h).trans (rfl)
theorem d179_63 : decode (mB 179) 63 = .ok (.iload_n 3, 1) := by decide +kernel
theorem x179_63 {d : Nat} {l0 l1 l2 l4 l5 l6 : Option Value} {st : List Value} {x : Int32} {h : Hp} : ex (d) 179 63 [l0, l1, l2, some (.int x), l4, l5, l6] st h = ex d 179 64 [l0, l1, l2, some (.int x), l4, l5, l6] (.int x :: st) h := (ex_of d179_63 (d) [l0, l1, l2, some (.int x), l4, l5, l6] st h).trans (rfl)
theorem d179_64 : decode (mB 179) 64 = .ok (.ireturn, 1) := by decide +kernel
theorem x179_64 {d : Nat} {L : Lc} {x : Int32} {h : Hp} : ex (d) 179 64 L [.int x] h = some (some (.int x), h) := (ex_of d179_64 (d) L [.int x] h).trans (rfl)
theorem d179_65 : decode (mB 179) 65 = .ok (.iconst 1, 1) := by decide +kernel
theorem x179_65 {d : Nat} {L : Lc} {st : List Value} {h : Hp} : ex (d) 179 65 L st h = ex d 179 66 L (.int (nI 1) :: st) h := (ex_of d179_65 (d) L st h).trans (rfl)
theorem d179_66 : decode (mB 179) 66 = .ok (.istore_n 3, 1) := by decide +kernel
theorem x179_66 {d : Nat} {l0 l1 l2 l3 l4 l5 l6 : Option Value} {st : List Value} {x : Int32} {h : Hp} : ex (d) 179 66 [l0, l1, l2, l3, l4, l5, l6] (.int x :: st) h = ex d 179 67 [l0, l1, clr l2, some (.int x), l4, l5, l6] st h := (ex_of d179_66 (d) [l0, l1, l2, l3, l4, l5, l6] (.int x :: st) h).trans (rfl)
theorem d179_67 : decode (mB 179) 67 = .ok (.iconst 0, 1) := by decide +kernel
theorem x179_67 {d : Nat} {L : Lc} {st : List Value} {h : Hp} : ex (d) 179 67 L st h = ex d 179 68 L (.int (nI 0) :: st) h := (ex_of d179_67 (d) L st h).trans (rfl)
theorem d179_68 : decode (mB 179) 68 = .ok (.istore 4, 2) := by decide +kernel
theorem x179_68 {d : Nat} {l0 l1 l2 l3 l4 l5 l6 : Option Value} {st : List Value} {x : Int32} {h : Hp} : ex (d) 179 68 [l0, l1, l2, l3, l4, l5, l6] (.int x :: st) h = ex d 179 70 [l0, l1, l2, clr l3, some (.int x), l5, l6] st h := (ex_of d179_68 (d) [l0, l1, l2, l3, l4, l5, l6] (.int x :: st) h).trans (rfl)
theorem d179_70 : decode (mB 179) 70 = .ok (.iconst 0, 1) := by decide +kernel
theorem x179_70 {d : Nat} {L : Lc} {st : List Value} {h : Hp} : ex (d) 179 70 L st h = ex d 179 71 L (.int (nI 0) :: st) h := (ex_of d179_70 (d) L st h).trans (rfl)
theorem d179_71 : decode (mB 179) 71 = .ok (.istore 5, 2) := by decide +kernel
theorem x179_71 {d : Nat} {l0 l1 l2 l3 l4 l5 l6 : Option Value} {st : List Value} {x : Int32} {h : Hp} : ex (d) 179 71 [l0, l1, l2, l3, l4, l5, l6] (.int x :: st) h = ex d 179 73 [l0, l1, l2, l3, clr l4, some (.int x), l6] st h := (ex_of d179_71 (d) [l0, l1, l2, l3, l4, l5, l6] (.int x :: st) h).trans (rfl)
theorem d179_73 : decode (mB 179) 73 = .ok (.iload 5, 2) := by decide +kernel
theorem x179_73 {d : Nat} {l0 l1 l2 l3 l4 l6 : Option Value} {st : List Value} {x : Int32} {h : Hp} : ex (d) 179 73 [l0, l1, l2, l3, l4, some (.int x), l6] st h = ex d 179 75 [l0, l1, l2, l3, l4, some (.int x), l6] (.int x :: st) h := (ex_of d179_73 (d) [l0, l1, l2, l3, l4, some (.int x), l6] st h).trans (rfl)
theorem d179_75 : decode (mB 179) 75 = .ok (.bipush 6, 2) := by decide +kernel
theorem x179_75 {d : Nat} {L : Lc} {st : List Value} {h : Hp} : ex (d) 179 75 L st h = ex d 179 77 L (.int (nI 6) :: st) h := (ex_of d179_75 (d) L st h).trans (rfl)
theorem d179_77 : decode (mB 179) 77 = .ok (.if_icmp .ge 41, 3) := by decide +kernel
theorem x179_77 {d : Nat} {L : Lc} {st : List Value} {x y : Int32} {h : Hp} : ex (d) 179 77 L (.int y :: .int x :: st) h = if y ≤ x then ex d 179 118 L st h else ex d 179 80 L st h := (ex_of d179_77 (d) L (.int y :: .int x :: st) h).trans (fin_brq (off := 41) (tgt := 118) rfl (by decide))
theorem d179_80 : decode (mB 179) 80 = .ok (.aload_n 0, 1) := by decide +kernel
theorem x179_80 {d : Nat} {l1 l2 l3 l4 l5 l6 : Option Value} {st : List Value} {a : Nat} {h : Hp} : ex (d) 179 80 [some (.ref a), l1, l2, l3, l4, l5, l6] st h = ex d 179 81 [some (.ref a), l1, l2, l3, l4, l5, l6] (.ref a :: st) h := (ex_of d179_80 (d) [some (.ref a), l1, l2, l3, l4, l5, l6] st h).trans (rfl)
theorem d179_81 : decode (mB 179) 81 = .ok (.iload_n 2, 1) := by decide +kernel
theorem x179_81 {d : Nat} {l0 l1 l3 l4 l5 l6 : Option Value} {st : List Value} {x : Int32} {h : Hp} : ex (d) 179 81 [l0, l1, some (.int x), l3, l4, l5, l6] st h = ex d 179 82 [l0, l1, some (.int x), l3, l4, l5, l6] (.int x :: st) h := (ex_of d179_81 (d) [l0, l1, some (.int x), l3, l4, l5, l6] st h).trans (rfl)
theorem d179_82 : decode (mB 179) 82 = .ok (.iload 5, 2) := by decide +kernel
theorem x179_82 {d : Nat} {l0 l1 l2 l3 l4 l6 : Option Value} {st : List Value} {x : Int32} {h : Hp} : ex (d) 179 82 [l0, l1, l2, l3, l4, some (.int x), l6] st h = ex d 179 84 [l0, l1, l2, l3, l4, some (.int x), l6] (.int x :: st) h := (ex_of d179_82 (d) [l0, l1, l2, l3, l4, some (.int x), l6] st h).trans (rfl)
theorem d179_84 : decode (mB 179) 84 = .ok (.invokevirtual 135, 3) := by decide +kernel
theorem x179_84 {d : Nat} {L : Lc} {a : Nat} {v0 : Int32} {v1 : Int32} {h : Hp} (ht : (h.2.1 a).1 = 11) : ex (d + 1) 179 84 L (.int v1 :: .int v0 :: .ref a :: []) h = bnd (ex d 154 0 [some (.ref a), some (.int v0), some (.int v1)] [] h) (fun v h' => ex (d + 1) 179 87 L (v.toList ++ []) h') := (ex_of d179_84 (d + 1) L (.int v1 :: .int v0 :: .ref a :: []) h).trans (fin_vi (mi := 179) i11_135 ht rfl rfl (by simp [cat1_i, cat1_r]) (by simp) (Nat.le_of_ble_eq_true rfl))
theorem d179_87 : decode (mB 179) 87 = .ok (.istore 6, 2) := by decide +kernel
theorem x179_87 {d : Nat} {l0 l1 l2 l3 l4 l5 l6 : Option Value} {st : List Value} {x : Int32} {h : Hp} : ex (d) 179 87 [l0, l1, l2, l3, l4, l5, l6] (.int x :: st) h = ex d 179 89 [l0, l1, l2, l3, l4, clr l5, some (.int x)] st h := (ex_of d179_87 (d) [l0, l1, l2, l3, l4, l5, l6] (.int x :: st) h).trans (rfl)
theorem d179_89 : decode (mB 179) 89 = .ok (.iload 6, 2) := by decide +kernel
theorem x179_89 {d : Nat} {l0 l1 l2 l3 l4 l5 : Option Value} {st : List Value} {x : Int32} {h : Hp} : ex (d) 179 89 [l0, l1, l2, l3, l4, l5, some (.int x)] st h = ex d 179 91 [l0, l1, l2, l3, l4, l5, some (.int x)] (.int x :: st) h := (ex_of d179_89 (d) [l0, l1, l2, l3, l4, l5, some (.int x)] st h).trans (rfl)
theorem d179_91 : decode (mB 179) 91 = .ok (.ifCond .ge 6, 3) := by decide +kernel
theorem x179_91 {d : Nat} {L : Lc} {st : List Value} {x : Int32} {h : Hp} : ex (d) 179 91 L (.int x :: st) h = if 0 ≤ x then ex d 179 97 L st h else ex d 179 94 L st h := (ex_of d179_91 (d) L (.int x :: st) h).trans (fin_brq (off := 6) (tgt := 97) rfl (by decide))
theorem d179_94 : decode (mB 179) 94 = .ok (.goto 18, 3) := by decide +kernel
theorem x179_94 {d : Nat} {L : Lc} {st : List Value} {h : Hp} : ex (d) 179 94 L st h = ex d 179 112 L st h := (ex_of d179_94 (d) L st h).trans (rfl)
theorem d179_97 : decode (mB 179) 97 = .ok (.iinc 4 1, 3) := by decide +kernel
theorem x179_97 {d : Nat} {l0 l1 l2 l3 l5 l6 : Option Value} {st : List Value} {x : Int32} {h : Hp} : ex (d) 179 97 [l0, l1, l2, l3, some (.int x), l5, l6] st h = ex d 179 100 [l0, l1, l2, clr l3, some (.int (x + (nI 1))), l5, l6] st h := (ex_of d179_97 (d) [l0, l1, l2, l3, some (.int x), l5, l6] st h).trans (rfl)
theorem d179_100 : decode (mB 179) 100 = .ok (.iload_n 3, 1) := by decide +kernel
theorem x179_100 {d : Nat} {l0 l1 l2 l4 l5 l6 : Option Value} {st : List Value} {x : Int32} {h : Hp} : ex (d) 179 100 [l0, l1, l2, some (.int x), l4, l5, l6] st h = ex d 179 101 [l0, l1, l2, some (.int x), l4, l5, l6] (.int x :: st) h := (ex_of d179_100 (d) [l0, l1, l2, some (.int x), l4, l5, l6] st h).trans (rfl)
theorem d179_101 : decode (mB 179) 101 = .ok (.aload_n 0, 1) := by decide +kernel
theorem x179_101 {d : Nat} {l1 l2 l3 l4 l5 l6 : Option Value} {st : List Value} {a : Nat} {h : Hp} : ex (d) 179 101 [some (.ref a), l1, l2, l3, l4, l5, l6] st h = ex d 179 102 [some (.ref a), l1, l2, l3, l4, l5, l6] (.ref a :: st) h := (ex_of d179_101 (d) [some (.ref a), l1, l2, l3, l4, l5, l6] st h).trans (rfl)
theorem d179_102 : decode (mB 179) 102 = .ok (.iload_n 1, 1) := by decide +kernel
theorem x179_102 {d : Nat} {l0 l2 l3 l4 l5 l6 : Option Value} {st : List Value} {x : Int32} {h : Hp} : ex (d) 179 102 [l0, some (.int x), l2, l3, l4, l5, l6] st h = ex d 179 103 [l0, some (.int x), l2, l3, l4, l5, l6] (.int x :: st) h := (ex_of d179_102 (d) [l0, some (.int x), l2, l3, l4, l5, l6] st h).trans (rfl)
theorem d179_103 : decode (mB 179) 103 = .ok (.iload 6, 2) := by decide +kernel
theorem x179_103 {d : Nat} {l0 l1 l2 l3 l4 l5 : Option Value} {st : List Value} {x : Int32} {h : Hp} : ex (d) 179 103 [l0, l1, l2, l3, l4, l5, some (.int x)] st h = ex d 179 105 [l0, l1, l2, l3, l4, l5, some (.int x)] (.int x :: st) h := (ex_of d179_103 (d) [l0, l1, l2, l3, l4, l5, some (.int x)] st h).trans (rfl)
theorem d179_105 : decode (mB 179) 105 = .ok (.invokevirtual 203, 3) := by decide +kernel
theorem x179_105 {d : Nat} {L : Lc} {s0 : Value} {a : Nat} {v0 : Int32} {v1 : Int32} {h : Hp} (ht : (h.2.1 a).1 = 11) : ex (d + 1) 179 105 L (.int v1 :: .int v0 :: .ref a :: [s0]) h = bnd (ex d 179 0 [some (.ref a), some (.int v0), some (.int v1), none, none, none, none] [] h) (fun v h' => ex (d + 1) 179 108 L (v.toList ++ [s0]) h') := (ex_of d179_105 (d + 1) L (.int v1 :: .int v0 :: .ref a :: [s0]) h).trans (fin_vi (mi := 179) i11_203 ht rfl rfl (by simp [cat1_i, cat1_r]) (by simp) (Nat.le_of_ble_eq_true rfl))
theorem d179_108 : decode (mB 179) 108 = .ok (.invokestatic 200, 3) := by decide +kernel
theorem x179_108 {d : Nat} {L : Lc}  {v0 : Int32} {v1 : Int32} {h : Hp} : ex (d + 1) 179 108 L (.int v1 :: .int v0 :: []) h = bnd (ex d 178 0 [some (.int v0), some (.int v1)] [] h) (fun v h' => ex (d + 1) 179 111 L (v.toList ++ []) h') := (ex_of d179_108 (d + 1) L (.int v1 :: .int v0 :: []) h).trans (fin_st (mi := 179) i11_200 (Or.inl rfl) (by simp) (by simp [cat1_i, cat1_r]) (by simp) (Nat.le_of_ble_eq_true rfl))
theorem d179_111 : decode (mB 179) 111 = .ok (.istore_n 3, 1) := by decide +kernel
theorem x179_111 {d : Nat} {l0 l1 l2 l3 l4 l5 l6 : Option Value} {st : List Value} {x : Int32} {h : Hp} : ex (d) 179 111 [l0, l1, l2, l3, l4, l5, l6] (.int x :: st) h = ex d 179 112 [l0, l1, clr l2, some (.int x), l4, l5, l6] st h := (ex_of d179_111 (d) [l0, l1, l2, l3, l4, l5, l6] (.int x :: st) h).trans (rfl)
theorem d179_112 : decode (mB 179) 112 = .ok (.iinc 5 1, 3) := by decide +kernel
theorem x179_112 {d : Nat} {l0 l1 l2 l3 l4 l6 : Option Value} {st : List Value} {x : Int32} {h : Hp} : ex (d) 179 112 [l0, l1, l2, l3, l4, some (.int x), l6] st h = ex d 179 115 [l0, l1, l2, l3, clr l4, some (.int (x + (nI 1))), l6] st h := (ex_of d179_112 (d) [l0, l1, l2, l3, l4, some (.int x), l6] st h).trans (rfl)
theorem d179_115 : decode (mB 179) 115 = .ok (.goto (-42), 3) := by decide +kernel
theorem x179_115 {d : Nat} {L : Lc} {st : List Value} {h : Hp} : ex (d) 179 115 L st h = ex d 179 73 L st h := (ex_of d179_115 (d) L st h).trans (rfl)
theorem d179_118 : decode (mB 179) 118 = .ok (.iload 4, 2) := by decide +kernel
theorem x179_118 {d : Nat} {l0 l1 l2 l3 l5 l6 : Option Value} {st : List Value} {x : Int32} {h : Hp} : ex (d) 179 118 [l0, l1, l2, l3, some (.int x), l5, l6] st h = ex d 179 120 [l0, l1, l2, l3, some (.int x), l5, l6] (.int x :: st) h := (ex_of d179_118 (d) [l0, l1, l2, l3, some (.int x), l5, l6] st h).trans (rfl)
theorem d179_120 : decode (mB 179) 120 = .ok (.ifCond .ne 7, 3) := by decide +kernel
theorem x179_120 {d : Nat} {L : Lc} {st : List Value} {x : Int32} {h : Hp} : ex (d) 179 120 L (.int x :: st) h = if ¬ x = 0 then ex d 179 127 L st h else ex d 179 123 L st h := (ex_of d179_120 (d) L (.int x :: st) h).trans (fin_brq (off := 7) (tgt := 127) rfl (by decide))
theorem d179_123 : decode (mB 179) 123 = .ok (.iconst 2, 1) := by decide +kernel
theorem x179_123 {d : Nat} {L : Lc} {st : List Value} {h : Hp} : ex (d) 179 123 L st h = ex d 179 124 L (.int (nI 2) :: st) h := (ex_of d179_123 (d) L st h).trans (rfl)
theorem d179_124 : decode (mB 179) 124 = .ok (.goto 4, 3) := by decide +kernel
theorem x179_124 {d : Nat} {L : Lc} {st : List Value} {h : Hp} : ex (d) 179 124 L st h = ex d 179 128 L st h := (ex_of d179_124 (d) L st h).trans (rfl)
theorem d179_127 : decode (mB 179) 127 = .ok (.iload_n 3, 1) := by decide +kernel
theorem x179_127 {d : Nat} {l0 l1 l2 l4 l5 l6 : Option Value} {st : List Value} {x : Int32} {h : Hp} : ex (d) 179 127 [l0, l1, l2, some (.int x), l4, l5, l6] st h = ex d 179 128 [l0, l1, l2, some (.int x), l4, l5, l6] (.int x :: st) h := (ex_of d179_127 (d) [l0, l1, l2, some (.int x), l4, l5, l6] st h).trans (rfl)
theorem d179_128 : decode (mB 179) 128 = .ok (.ireturn, 1) := by decide +kernel
theorem x179_128 {d : Nat} {L : Lc} {x : Int32} {h : Hp} : ex (d) 179 128 L [.int x] h = some (some (.int x), h) := (ex_of d179_128 (d) L [.int x] h).trans (rfl)
theorem d180_0 : decode (mB 180) 0 = .ok (.iconst 0, 1) := by decide +kernel
theorem x180_0 {d : Nat} {L : Lc} {st : List Value} {h : Hp} : ex (d) 180 0 L st h = ex d 180 1 L (.int (nI 0) :: st) h := (ex_of d180_0 (d) L st h).trans (rfl)
theorem d180_1 : decode (mB 180) 1 = .ok (.istore_n 3, 1) := by decide +kernel
theorem x180_1 {d : Nat} {l0 l1 l2 l3 l4 l5 : Option Value} {st : List Value} {x : Int32} {h : Hp} : ex (d) 180 1 [l0, l1, l2, l3, l4, l5] (.int x :: st) h = ex d 180 2 [l0, l1, clr l2, some (.int x), l4, l5] st h := (ex_of d180_1 (d) [l0, l1, l2, l3, l4, l5] (.int x :: st) h).trans (rfl)
theorem d180_2 : decode (mB 180) 2 = .ok (.aload_n 0, 1) := by decide +kernel
theorem x180_2 {d : Nat} {l1 l2 l3 l4 l5 : Option Value} {st : List Value} {a : Nat} {h : Hp} : ex (d) 180 2 [some (.ref a), l1, l2, l3, l4, l5] st h = ex d 180 3 [some (.ref a), l1, l2, l3, l4, l5] (.ref a :: st) h := (ex_of d180_2 (d) [some (.ref a), l1, l2, l3, l4, l5] st h).trans (rfl)
theorem d180_3 : decode (mB 180) 3 = .ok (.getfield 9, 3) := by decide +kernel
theorem x180_3 {d : Nat} {L : Lc} {st : List Value} {a : Nat} {h : Hp} (ht : (h.2.1 a).1 = 11) : ex (d) 180 3 L (.ref a :: st) h = ex d 180 6 L (h.1 a 2 :: st) h := (ex_of d180_3 (d) L (.ref a :: st) h).trans (fin_get (mi := 180) f11_9 (tg1 ht rfl))
theorem d180_6 : decode (mB 180) 6 = .ok (.iload_n 2, 1) := by decide +kernel
theorem x180_6 {d : Nat} {l0 l1 l3 l4 l5 : Option Value} {st : List Value} {x : Int32} {h : Hp} : ex (d) 180 6 [l0, l1, some (.int x), l3, l4, l5] st h = ex d 180 7 [l0, l1, some (.int x), l3, l4, l5] (.int x :: st) h := (ex_of d180_6 (d) [l0, l1, some (.int x), l3, l4, l5] st h).trans (rfl)
theorem d180_7 : decode (mB 180) 7 = .ok (.iaload, 1) := by decide +kernel
theorem x180_7 {d : Nat} {L : Lc} {st : List Value} {a j : Nat} {h : Hp} (ht : (h.2.1 a).1 = 20) (hj : j < (h.2.1 a).2) (hb : j < 2147483648) : ex (d) 180 7 L (.int (nI j) :: .ref a :: st) h = ex d 180 8 L (h.1 a j :: st) h := (ex_of d180_7 (d) L (.int (nI j) :: .ref a :: st) h).trans (fin_iaload (Or.inl ht) hj hb)
theorem d180_8 : decode (mB 180) 8 = .ok (.iconst 4, 1) := by decide +kernel
theorem x180_8 {d : Nat} {L : Lc} {st : List Value} {h : Hp} : ex (d) 180 8 L st h = ex d 180 9 L (.int (nI 4) :: st) h := (ex_of d180_8 (d) L st h).trans (rfl)
theorem d180_9 : decode (mB 180) 9 = .ok (.if_icmp .ne 50, 3) := by decide +kernel
theorem x180_9 {d : Nat} {L : Lc} {st : List Value} {x y : Int32} {h : Hp} : ex (d) 180 9 L (.int y :: .int x :: st) h = if ¬ x = y then ex d 180 59 L st h else ex d 180 12 L st h := (ex_of d180_9 (d) L (.int y :: .int x :: st) h).trans (fin_brq (off := 50) (tgt := 59) rfl (by decide))
theorem d180_12 : decode (mB 180) 12 = .ok (.iconst 0, 1) := by decide +kernel
theorem x180_12 {d : Nat} {L : Lc} {st : List Value} {h : Hp} : ex (d) 180 12 L st h = ex d 180 13 L (.int (nI 0) :: st) h := (ex_of d180_12 (d) L st h).trans (rfl)
theorem d180_13 : decode (mB 180) 13 = .ok (.istore 4, 2) := by decide +kernel
theorem x180_13 {d : Nat} {l0 l1 l2 l3 l4 l5 : Option Value} {st : List Value} {x : Int32} {h : Hp} : ex (d) 180 13 [l0, l1, l2, l3, l4, l5] (.int x :: st) h = ex d 180 15 [l0, l1, l2, clr l3, some (.int x), l5] st h := (ex_of d180_13 (d) [l0, l1, l2, l3, l4, l5] (.int x :: st) h).trans (rfl)
theorem d180_15 : decode (mB 180) 15 = .ok (.iload 4, 2) := by decide +kernel
theorem x180_15 {d : Nat} {l0 l1 l2 l3 l5 : Option Value} {st : List Value} {x : Int32} {h : Hp} : ex (d) 180 15 [l0, l1, l2, l3, some (.int x), l5] st h = ex d 180 17 [l0, l1, l2, l3, some (.int x), l5] (.int x :: st) h := (ex_of d180_15 (d) [l0, l1, l2, l3, some (.int x), l5] st h).trans (rfl)
theorem d180_17 : decode (mB 180) 17 = .ok (.bipush 6, 2) := by decide +kernel
theorem x180_17 {d : Nat} {L : Lc} {st : List Value} {h : Hp} : ex (d) 180 17 L st h = ex d 180 19 L (.int (nI 6) :: st) h := (ex_of d180_17 (d) L st h).trans (rfl)
theorem d180_19 : decode (mB 180) 19 = .ok (.if_icmp .ge 38, 3) := by decide +kernel
theorem x180_19 {d : Nat} {L : Lc} {st : List Value} {x y : Int32} {h : Hp} : ex (d) 180 19 L (.int y :: .int x :: st) h = if y ≤ x then ex d 180 57 L st h else ex d 180 22 L st h := (ex_of d180_19 (d) L (.int y :: .int x :: st) h).trans (fin_brq (off := 38) (tgt := 57) rfl (by decide))
theorem d180_22 : decode (mB 180) 22 = .ok (.iload_n 3, 1) := by decide +kernel
theorem x180_22 {d : Nat} {l0 l1 l2 l4 l5 : Option Value} {st : List Value} {x : Int32} {h : Hp} : ex (d) 180 22 [l0, l1, l2, some (.int x), l4, l5] st h = ex d 180 23 [l0, l1, l2, some (.int x), l4, l5] (.int x :: st) h := (ex_of d180_22 (d) [l0, l1, l2, some (.int x), l4, l5] st h).trans (rfl)
theorem d180_23 : decode (mB 180) 23 = .ok (.aload_n 0, 1) := by decide +kernel
theorem x180_23 {d : Nat} {l1 l2 l3 l4 l5 : Option Value} {st : List Value} {a : Nat} {h : Hp} : ex (d) 180 23 [some (.ref a), l1, l2, l3, l4, l5] st h = ex d 180 24 [some (.ref a), l1, l2, l3, l4, l5] (.ref a :: st) h := (ex_of d180_23 (d) [some (.ref a), l1, l2, l3, l4, l5] st h).trans (rfl)
theorem d180_24 : decode (mB 180) 24 = .ok (.iload_n 2, 1) := by decide +kernel
theorem x180_24 {d : Nat} {l0 l1 l3 l4 l5 : Option Value} {st : List Value} {x : Int32} {h : Hp} : ex (d) 180 24 [l0, l1, some (.int x), l3, l4, l5] st h = ex d 180 25 [l0, l1, some (.int x), l3, l4, l5] (.int x :: st) h := (ex_of d180_24 (d) [l0, l1, some (.int x), l3, l4, l5] st h).trans (rfl)
theorem d180_25 : decode (mB 180) 25 = .ok (.iload 4, 2) := by decide +kernel
theorem x180_25 {d : Nat} {l0 l1 l2 l3 l5 : Option Value} {st : List Value} {x : Int32} {h : Hp} : ex (d) 180 25 [l0, l1, l2, l3, some (.int x), l5] st h = ex d 180 27 [l0, l1, l2, l3, some (.int x), l5] (.int x :: st) h := (ex_of d180_25 (d) [l0, l1, l2, l3, some (.int x), l5] st h).trans (rfl)
theorem d180_27 : decode (mB 180) 27 = .ok (.invokevirtual 135, 3) := by decide +kernel
theorem x180_27 {d : Nat} {L : Lc} {s0 : Value} {a : Nat} {v0 : Int32} {v1 : Int32} {h : Hp} (ht : (h.2.1 a).1 = 11) : ex (d + 1) 180 27 L (.int v1 :: .int v0 :: .ref a :: [s0]) h = bnd (ex d 154 0 [some (.ref a), some (.int v0), some (.int v1)] [] h) (fun v h' => ex (d + 1) 180 30 L (v.toList ++ [s0]) h') := (ex_of d180_27 (d + 1) L (.int v1 :: .int v0 :: .ref a :: [s0]) h).trans (fin_vi (mi := 180) i11_135 ht rfl rfl (by simp [cat1_i, cat1_r]) (by simp) (Nat.le_of_ble_eq_true rfl))
theorem d180_30 : decode (mB 180) 30 = .ok (.ifCond .ge 7, 3) := by decide +kernel
theorem x180_30 {d : Nat} {L : Lc} {st : List Value} {x : Int32} {h : Hp} : ex (d) 180 30 L (.int x :: st) h = if 0 ≤ x then ex d 180 37 L st h else ex d 180 33 L st h := (ex_of d180_30 (d) L (.int x :: st) h).trans (fin_brq (off := 7) (tgt := 37) rfl (by decide))
theorem d180_33 : decode (mB 180) 33 = .ok (.iconst 0, 1) := by decide +kernel
theorem x180_33 {d : Nat} {L : Lc} {st : List Value} {h : Hp} : ex (d) 180 33 L st h = ex d 180 34 L (.int (nI 0) :: st) h := (ex_of d180_33 (d) L st h).trans (rfl)
theorem d180_34 : decode (mB 180) 34 = .ok (.goto 15, 3) := by decide +kernel
theorem x180_34 {d : Nat} {L : Lc} {st : List Value} {h : Hp} : ex (d) 180 34 L st h = ex d 180 49 L st h := (ex_of d180_34 (d) L st h).trans (rfl)
theorem d180_37 : decode (mB 180) 37 = .ok (.aload_n 0, 1) := by decide +kernel
theorem x180_37 {d : Nat} {l1 l2 l3 l4 l5 : Option Value} {st : List Value} {a : Nat} {h : Hp} : ex (d) 180 37 [some (.ref a), l1, l2, l3, l4, l5] st h = ex d 180 38 [some (.ref a), l1, l2, l3, l4, l5] (.ref a :: st) h := (ex_of d180_37 (d) [some (.ref a), l1, l2, l3, l4, l5] st h).trans (rfl)
theorem d180_38 : decode (mB 180) 38 = .ok (.iload_n 1, 1) := by decide +kernel
theorem x180_38 {d : Nat} {l0 l2 l3 l4 l5 : Option Value} {st : List Value} {x : Int32} {h : Hp} : ex (d) 180 38 [l0, some (.int x), l2, l3, l4, l5] st h = ex d 180 39 [l0, some (.int x), l2, l3, l4, l5] (.int x :: st) h := (ex_of d180_38 (d) [l0, some (.int x), l2, l3, l4, l5] st h).trans (rfl)
theorem d180_39 : decode (mB 180) 39 = .ok (.aload_n 0, 1) := by decide +kernel
theorem x180_39 {d : Nat} {l1 l2 l3 l4 l5 : Option Value} {st : List Value} {a : Nat} {h : Hp} : ex (d) 180 39 [some (.ref a), l1, l2, l3, l4, l5] st h = ex d 180 40 [some (.ref a), l1, l2, l3, l4, l5] (.ref a :: st) h := (ex_of d180_39 (d) [some (.ref a), l1, l2, l3, l4, l5] st h).trans (rfl)
theorem d180_40 : decode (mB 180) 40 = .ok (.iload_n 2, 1) := by decide +kernel
theorem x180_40 {d : Nat} {l0 l1 l3 l4 l5 : Option Value} {st : List Value} {x : Int32} {h : Hp} : ex (d) 180 40 [l0, l1, some (.int x), l3, l4, l5] st h = ex d 180 41 [l0, l1, some (.int x), l3, l4, l5] (.int x :: st) h := (ex_of d180_40 (d) [l0, l1, some (.int x), l3, l4, l5] st h).trans (rfl)
theorem d180_41 : decode (mB 180) 41 = .ok (.iload 4, 2) := by decide +kernel
theorem x180_41 {d : Nat} {l0 l1 l2 l3 l5 : Option Value} {st : List Value} {x : Int32} {h : Hp} : ex (d) 180 41 [l0, l1, l2, l3, some (.int x), l5] st h = ex d 180 43 [l0, l1, l2, l3, some (.int x), l5] (.int x :: st) h := (ex_of d180_41 (d) [l0, l1, l2, l3, some (.int x), l5] st h).trans (rfl)
theorem d180_43 : decode (mB 180) 43 = .ok (.invokevirtual 135, 3) := by decide +kernel
theorem x180_43 {d : Nat} {L : Lc} {s0 s1 s2 : Value} {a : Nat} {v0 : Int32} {v1 : Int32} {h : Hp} (ht : (h.2.1 a).1 = 11) : ex (d + 1) 180 43 L (.int v1 :: .int v0 :: .ref a :: [s0, s1, s2]) h = bnd (ex d 154 0 [some (.ref a), some (.int v0), some (.int v1)] [] h) (fun v h' => ex (d + 1) 180 46 L (v.toList ++ [s0, s1, s2]) h') := (ex_of d180_43 (d + 1) L (.int v1 :: .int v0 :: .ref a :: [s0, s1, s2]) h).trans (fin_vi (mi := 180) i11_135 ht rfl rfl (by simp [cat1_i, cat1_r]) (by simp) (Nat.le_of_ble_eq_true rfl))
theorem d180_46 : decode (mB 180) 46 = .ok (.invokevirtual 206, 3) := by decide +kernel
theorem x180_46 {d : Nat} {L : Lc} {s0 : Value} {a : Nat} {v0 : Int32} {v1 : Int32} {h : Hp} (ht : (h.2.1 a).1 = 11) : ex (d + 1) 180 46 L (.int v1 :: .int v0 :: .ref a :: [s0]) h = bnd (ex d 180 0 [some (.ref a), some (.int v0), some (.int v1), none, none, none] [] h) (fun v h' => ex (d + 1) 180 49 L (v.toList ++ [s0]) h') := (ex_of d180_46 (d + 1) L (.int v1 :: .int v0 :: .ref a :: [s0]) h).trans (fin_vi (mi := 180) i11_206 ht rfl rfl (by simp [cat1_i, cat1_r]) (by simp) (Nat.le_of_ble_eq_true rfl))
theorem d180_49 : decode (mB 180) 49 = .ok (.iadd, 1) := by decide +kernel
theorem x180_49 {d : Nat} {L : Lc} {st : List Value} {x y : Int32} {h : Hp} : ex (d) 180 49 L (.int y :: .int x :: st) h = ex d 180 50 L (.int (x + y) :: st) h := (ex_of d180_49 (d) L (.int y :: .int x :: st) h).trans (rfl)
theorem d180_50 : decode (mB 180) 50 = .ok (.istore_n 3, 1) := by decide +kernel
theorem x180_50 {d : Nat} {l0 l1 l2 l3 l4 l5 : Option Value} {st : List Value} {x : Int32} {h : Hp} : ex (d) 180 50 [l0, l1, l2, l3, l4, l5] (.int x :: st) h = ex d 180 51 [l0, l1, clr l2, some (.int x), l4, l5] st h := (ex_of d180_50 (d) [l0, l1, l2, l3, l4, l5] (.int x :: st) h).trans (rfl)
theorem d180_51 : decode (mB 180) 51 = .ok (.iinc 4 1, 3) := by decide +kernel
theorem x180_51 {d : Nat} {l0 l1 l2 l3 l5 : Option Value} {st : List Value} {x : Int32} {h : Hp} : ex (d) 180 51 [l0, l1, l2, l3, some (.int x), l5] st h = ex d 180 54 [l0, l1, l2, clr l3, some (.int (x + (nI 1))), l5] st h := (ex_of d180_51 (d) [l0, l1, l2, l3, some (.int x), l5] st h).trans (rfl)
theorem d180_54 : decode (mB 180) 54 = .ok (.goto (-39), 3) := by decide +kernel
theorem x180_54 {d : Nat} {L : Lc} {st : List Value} {h : Hp} : ex (d) 180 54 L st h = ex d 180 15 L st h := (ex_of d180_54 (d) L st h).trans (rfl)
theorem d180_57 : decode (mB 180) 57 = .ok (.iload_n 3, 1) := by decide +kernel
theorem x180_57 {d : Nat} {l0 l1 l2 l4 l5 : Option Value} {st : List Value} {x : Int32} {h : Hp} : ex (d) 180 57 [l0, l1, l2, some (.int x), l4, l5] st h = ex d 180 58 [l0, l1, l2, some (.int x), l4, l5] (.int x :: st) h := (ex_of d180_57 (d) [l0, l1, l2, some (.int x), l4, l5] st h).trans (rfl)
theorem d180_58 : decode (mB 180) 58 = .ok (.ireturn, 1) := by decide +kernel
theorem x180_58 {d : Nat} {L : Lc} {x : Int32} {h : Hp} : ex (d) 180 58 L [.int x] h = some (some (.int x), h) := (ex_of d180_58 (d) L [.int x] h).trans (rfl)
theorem d180_59 : decode (mB 180) 59 = .ok (.iconst 0, 1) := by decide +kernel
theorem x180_59 {d : Nat} {L : Lc} {st : List Value} {h : Hp} : ex (d) 180 59 L st h = ex d 180 60 L (.int (nI 0) :: st) h := (ex_of d180_59 (d) L st h).trans (rfl)
theorem d180_60 : decode (mB 180) 60 = .ok (.istore 4, 2) := by decide +kernel
theorem x180_60 {d : Nat} {l0 l1 l2 l3 l4 l5 : Option Value} {st : List Value} {x : Int32} {h : Hp} : ex (d) 180 60 [l0, l1, l2, l3, l4, l5] (.int x :: st) h = ex d 180 62 [l0, l1, l2, clr l3, some (.int x), l5] st h := (ex_of d180_60 (d) [l0, l1, l2, l3, l4, l5] (.int x :: st) h).trans (rfl)
theorem d180_62 : decode (mB 180) 62 = .ok (.iload 4, 2) := by decide +kernel
theorem x180_62 {d : Nat} {l0 l1 l2 l3 l5 : Option Value} {st : List Value} {x : Int32} {h : Hp} : ex (d) 180 62 [l0, l1, l2, l3, some (.int x), l5] st h = ex d 180 64 [l0, l1, l2, l3, some (.int x), l5] (.int x :: st) h := (ex_of d180_62 (d) [l0, l1, l2, l3, some (.int x), l5] st h).trans (rfl)
theorem d180_64 : decode (mB 180) 64 = .ok (.bipush 6, 2) := by decide +kernel
theorem x180_64 {d : Nat} {L : Lc} {st : List Value} {h : Hp} : ex (d) 180 64 L st h = ex d 180 66 L (.int (nI 6) :: st) h := (ex_of d180_64 (d) L st h).trans (rfl)
theorem d180_66 : decode (mB 180) 66 = .ok (.if_icmp .ge 77, 3) := by decide +kernel
theorem x180_66 {d : Nat} {L : Lc} {st : List Value} {x y : Int32} {h : Hp} : ex (d) 180 66 L (.int y :: .int x :: st) h = if y ≤ x then ex d 180 143 L st h else ex d 180 69 L st h := (ex_of d180_66 (d) L (.int y :: .int x :: st) h).trans (fin_brq (off := 77) (tgt := 143) rfl (by decide))
theorem d180_69 : decode (mB 180) 69 = .ok (.aload_n 0, 1) := by decide +kernel
theorem x180_69 {d : Nat} {l1 l2 l3 l4 l5 : Option Value} {st : List Value} {a : Nat} {h : Hp} : ex (d) 180 69 [some (.ref a), l1, l2, l3, l4, l5] st h = ex d 180 70 [some (.ref a), l1, l2, l3, l4, l5] (.ref a :: st) h := (ex_of d180_69 (d) [some (.ref a), l1, l2, l3, l4, l5] st h).trans (rfl)
theorem d180_70 : decode (mB 180) 70 = .ok (.getfield 46, 3) := by decide +kernel
theorem x180_70 {d : Nat} {L : Lc} {st : List Value} {a : Nat} {h : Hp} (ht : (h.2.1 a).1 = 11) : ex (d) 180 70 L (.ref a :: st) h = ex d 180 73 L (h.1 a 20 :: st) h := (ex_of d180_70 (d) L (.ref a :: st) h).trans (fin_get (mi := 180) f11_46 (tg1 ht rfl))
theorem d180_73 : decode (mB 180) 73 = .ok (.bipush 6, 2) := by decide +kernel
theorem x180_73 {d : Nat} {L : Lc} {st : List Value} {h : Hp} : ex (d) 180 73 L st h = ex d 180 75 L (.int (nI 6) :: st) h := (ex_of d180_73 (d) L st h).trans (rfl)
theorem d180_75 : decode (mB 180) 75 = .ok (.iload_n 1, 1) := by decide +kernel
theorem x180_75 {d : Nat} {l0 l2 l3 l4 l5 : Option Value} {st : List Value} {x : Int32} {h : Hp} : ex (d) 180 75 [l0, some (.int x), l2, l3, l4, l5] st h = ex d 180 76 [l0, some (.int x), l2, l3, l4, l5] (.int x :: st) h := (ex_of d180_75 (d) [l0, some (.int x), l2, l3, l4, l5] st h).trans (rfl)
theorem d180_76 : decode (mB 180) 76 = .ok (.imul, 1) := by decide +kernel
theorem x180_76 {d : Nat} {L : Lc} {st : List Value} {x y : Int32} {h : Hp} : ex (d) 180 76 L (.int y :: .int x :: st) h = ex d 180 77 L (.int (x * y) :: st) h := (ex_of d180_76 (d) L (.int y :: .int x :: st) h).trans (rfl)
theorem d180_77 : decode (mB 180) 77 = .ok (.iload 4, 2) := by decide +kernel
theorem x180_77 {d : Nat} {l0 l1 l2 l3 l5 : Option Value} {st : List Value} {x : Int32} {h : Hp} : ex (d) 180 77 [l0, l1, l2, l3, some (.int x), l5] st h = ex d 180 79 [l0, l1, l2, l3, some (.int x), l5] (.int x :: st) h := (ex_of d180_77 (d) [l0, l1, l2, l3, some (.int x), l5] st h).trans (rfl)
theorem d180_79 : decode (mB 180) 79 = .ok (.iadd, 1) := by decide +kernel
theorem x180_79 {d : Nat} {L : Lc} {st : List Value} {x y : Int32} {h : Hp} : ex (d) 180 79 L (.int y :: .int x :: st) h = ex d 180 80 L (.int (x + y) :: st) h := (ex_of d180_79 (d) L (.int y :: .int x :: st) h).trans (rfl)
theorem d180_80 : decode (mB 180) 80 = .ok (.iaload, 1) := by decide +kernel
theorem x180_80 {d : Nat} {L : Lc} {st : List Value} {a j : Nat} {h : Hp} (ht : (h.2.1 a).1 = 20) (hj : j < (h.2.1 a).2) (hb : j < 2147483648) : ex (d) 180 80 L (.int (nI j) :: .ref a :: st) h = ex d 180 81 L (h.1 a j :: st) h := (ex_of d180_80 (d) L (.int (nI j) :: .ref a :: st) h).trans (fin_iaload (Or.inl ht) hj hb)
theorem d180_81 : decode (mB 180) 81 = .ok (.iconst 4, 1) := by decide +kernel
theorem x180_81 {d : Nat} {L : Lc} {st : List Value} {h : Hp} : ex (d) 180 81 L st h = ex d 180 82 L (.int (nI 4) :: st) h := (ex_of d180_81 (d) L st h).trans (rfl)
theorem d180_82 : decode (mB 180) 82 = .ok (.iadd, 1) := by decide +kernel
theorem x180_82 {d : Nat} {L : Lc} {st : List Value} {x y : Int32} {h : Hp} : ex (d) 180 82 L (.int y :: .int x :: st) h = ex d 180 83 L (.int (x + y) :: st) h := (ex_of d180_82 (d) L (.int y :: .int x :: st) h).trans (rfl)
theorem d180_83 : decode (mB 180) 83 = .ok (.iconst 5, 1) := by decide +kernel
theorem x180_83 {d : Nat} {L : Lc} {st : List Value} {h : Hp} : ex (d) 180 83 L st h = ex d 180 84 L (.int (nI 5) :: st) h := (ex_of d180_83 (d) L st h).trans (rfl)
theorem d180_84 : decode (mB 180) 84 = .ok (.idiv, 1) := by decide +kernel
theorem x180_84 {d : Nat} {L : Lc} {st : List Value} {x y : Int32} {h : Hp} (hy : ¬ y = 0) : ex (d) 180 84 L (.int y :: .int x :: st) h = ex d 180 85 L (.int (x / y) :: st) h := (ex_of d180_84 (d) L (.int y :: .int x :: st) h).trans (fin_div hy)
theorem d180_85 : decode (mB 180) 85 = .ok (.aload_n 0, 1) := by decide +kernel
theorem x180_85 {d : Nat} {l1 l2 l3 l4 l5 : Option Value} {st : List Value} {a : Nat} {h : Hp} : ex (d) 180 85 [some (.ref a), l1, l2, l3, l4, l5] st h = ex d 180 86 [some (.ref a), l1, l2, l3, l4, l5] (.ref a :: st) h := (ex_of d180_85 (d) [some (.ref a), l1, l2, l3, l4, l5] st h).trans (rfl)
theorem d180_86 : decode (mB 180) 86 = .ok (.getfield 28, 3) := by decide +kernel
theorem x180_86 {d : Nat} {L : Lc} {st : List Value} {a : Nat} {h : Hp} (ht : (h.2.1 a).1 = 11) : ex (d) 180 86 L (.ref a :: st) h = ex d 180 89 L (h.1 a 9 :: st) h := (ex_of d180_86 (d) L (.ref a :: st) h).trans (fin_get (mi := 180) f11_28 (tg1 ht rfl))
theorem d180_89 : decode (mB 180) 89 = .ok (.bipush 6, 2) := by decide +kernel
theorem x180_89 {d : Nat} {L : Lc} {st : List Value} {h : Hp} : ex (d) 180 89 L st h = ex d 180 91 L (.int (nI 6) :: st) h := (ex_of d180_89 (d) L st h).trans (rfl)
theorem d180_91 : decode (mB 180) 91 = .ok (.iload_n 2, 1) := by decide +kernel
theorem x180_91 {d : Nat} {l0 l1 l3 l4 l5 : Option Value} {st : List Value} {x : Int32} {h : Hp} : ex (d) 180 91 [l0, l1, some (.int x), l3, l4, l5] st h = ex d 180 92 [l0, l1, some (.int x), l3, l4, l5] (.int x :: st) h := (ex_of d180_91 (d) [l0, l1, some (.int x), l3, l4, l5] st h).trans (rfl)
theorem d180_92 : decode (mB 180) 92 = .ok (.imul, 1) := by decide +kernel
theorem x180_92 {d : Nat} {L : Lc} {st : List Value} {x y : Int32} {h : Hp} : ex (d) 180 92 L (.int y :: .int x :: st) h = ex d 180 93 L (.int (x * y) :: st) h := (ex_of d180_92 (d) L (.int y :: .int x :: st) h).trans (rfl)
theorem d180_93 : decode (mB 180) 93 = .ok (.iload 4, 2) := by decide +kernel
theorem x180_93 {d : Nat} {l0 l1 l2 l3 l5 : Option Value} {st : List Value} {x : Int32} {h : Hp} : ex (d) 180 93 [l0, l1, l2, l3, some (.int x), l5] st h = ex d 180 95 [l0, l1, l2, l3, some (.int x), l5] (.int x :: st) h := (ex_of d180_93 (d) [l0, l1, l2, l3, some (.int x), l5] st h).trans (rfl)
theorem d180_95 : decode (mB 180) 95 = .ok (.iadd, 1) := by decide +kernel
theorem x180_95 {d : Nat} {L : Lc} {st : List Value} {x y : Int32} {h : Hp} : ex (d) 180 95 L (.int y :: .int x :: st) h = ex d 180 96 L (.int (x + y) :: st) h := (ex_of d180_95 (d) L (.int y :: .int x :: st) h).trans (rfl)
theorem d180_96 : decode (mB 180) 96 = .ok (.iaload, 1) := by decide +kernel
theorem x180_96 {d : Nat} {L : Lc} {st : List Value} {a j : Nat} {h : Hp} (ht : (h.2.1 a).1 = 20) (hj : j < (h.2.1 a).2) (hb : j < 2147483648) : ex (d) 180 96 L (.int (nI j) :: .ref a :: st) h = ex d 180 97 L (h.1 a j :: st) h := (ex_of d180_96 (d) L (.int (nI j) :: .ref a :: st) h).trans (fin_iaload (Or.inl ht) hj hb)
theorem d180_97 : decode (mB 180) 97 = .ok (.isub, 1) := by decide +kernel
theorem x180_97 {d : Nat} {L : Lc} {st : List Value} {x y : Int32} {h : Hp} : ex (d) 180 97 L (.int y :: .int x :: st) h = ex d 180 98 L (.int (x - y) :: st) h := (ex_of d180_97 (d) L (.int y :: .int x :: st) h).trans (rfl)
theorem d180_98 : decode (mB 180) 98 = .ok (.istore 5, 2) := by decide +kernel
theorem x180_98 {d : Nat} {l0 l1 l2 l3 l4 l5 : Option Value} {st : List Value} {x : Int32} {h : Hp} : ex (d) 180 98 [l0, l1, l2, l3, l4, l5] (.int x :: st) h = ex d 180 100 [l0, l1, l2, l3, clr l4, some (.int x)] st h := (ex_of d180_98 (d) [l0, l1, l2, l3, l4, l5] (.int x :: st) h).trans (rfl)
theorem d180_100 : decode (mB 180) 100 = .ok (.iload_n 3, 1) := by decide +kernel
theorem x180_100 {d : Nat} {l0 l1 l2 l4 l5 : Option Value} {st : List Value} {x : Int32} {h : Hp} : ex (d) 180 100 [l0, l1, l2, some (.int x), l4, l5] st h = ex d 180 101 [l0, l1, l2, some (.int x), l4, l5] (.int x :: st) h := (ex_of d180_100 (d) [l0, l1, l2, some (.int x), l4, l5] st h).trans (rfl)
theorem d180_101 : decode (mB 180) 101 = .ok (.aload_n 0, 1) := by decide +kernel
theorem x180_101 {d : Nat} {l1 l2 l3 l4 l5 : Option Value} {st : List Value} {a : Nat} {h : Hp} : ex (d) 180 101 [some (.ref a), l1, l2, l3, l4, l5] st h = ex d 180 102 [some (.ref a), l1, l2, l3, l4, l5] (.ref a :: st) h := (ex_of d180_101 (d) [some (.ref a), l1, l2, l3, l4, l5] st h).trans (rfl)
theorem d180_102 : decode (mB 180) 102 = .ok (.getfield 9, 3) := by decide +kernel
theorem x180_102 {d : Nat} {L : Lc} {st : List Value} {a : Nat} {h : Hp} (ht : (h.2.1 a).1 = 11) : ex (d) 180 102 L (.ref a :: st) h = ex d 180 105 L (h.1 a 2 :: st) h := (ex_of d180_102 (d) L (.ref a :: st) h).trans (fin_get (mi := 180) f11_9 (tg1 ht rfl))
theorem d180_105 : decode (mB 180) 105 = .ok (.iload_n 2, 1) := by decide +kernel
theorem x180_105 {d : Nat} {l0 l1 l3 l4 l5 : Option Value} {st : List Value} {x : Int32} {h : Hp} : ex (d) 180 105 [l0, l1, some (.int x), l3, l4, l5] st h = ex d 180 106 [l0, l1, some (.int x), l3, l4, l5] (.int x :: st) h := (ex_of d180_105 (d) [l0, l1, some (.int x), l3, l4, l5] st h).trans (rfl)
theorem d180_106 : decode (mB 180) 106 = .ok (.iaload, 1) := by decide +kernel
theorem x180_106 {d : Nat} {L : Lc} {st : List Value} {a j : Nat} {h : Hp} (ht : (h.2.1 a).1 = 20) (hj : j < (h.2.1 a).2) (hb : j < 2147483648) : ex (d) 180 106 L (.int (nI j) :: .ref a :: st) h = ex d 180 107 L (h.1 a j :: st) h := (ex_of d180_106 (d) L (.int (nI j) :: .ref a :: st) h).trans (fin_iaload (Or.inl ht) hj hb)
theorem d180_107 : decode (mB 180) 107 = .ok (.invokestatic 194, 3) := by decide +kernel
theorem x180_107 {d : Nat} {L : Lc} {s0 : Value}  {v0 : Int32} {h : Hp} : ex (d + 1) 180 107 L (.int v0 :: [s0]) h = bnd (ex d 176 0 [some (.int v0)] [] h) (fun v h' => ex (d + 1) 180 110 L (v.toList ++ [s0]) h') := (ex_of d180_107 (d + 1) L (.int v0 :: [s0]) h).trans (fin_st (mi := 180) i11_194 (Or.inl rfl) (by simp) (by simp [cat1_i, cat1_r]) (by simp) (Nat.le_of_ble_eq_true rfl))
theorem d180_110 : decode (mB 180) 110 = .ok (.iload 4, 2) := by decide +kernel
theorem x180_110 {d : Nat} {l0 l1 l2 l3 l5 : Option Value} {st : List Value} {x : Int32} {h : Hp} : ex (d) 180 110 [l0, l1, l2, l3, some (.int x), l5] st h = ex d 180 112 [l0, l1, l2, l3, some (.int x), l5] (.int x :: st) h := (ex_of d180_110 (d) [l0, l1, l2, l3, some (.int x), l5] st h).trans (rfl)
theorem d180_112 : decode (mB 180) 112 = .ok (.ishr, 1) := by decide +kernel
theorem x180_112 {d : Nat} {L : Lc} {st : List Value} {x y : Int32} {h : Hp} : ex (d) 180 112 L (.int y :: .int x :: st) h = ex d 180 113 L (.int (x >>> (y &&& 31)) :: st) h := (ex_of d180_112 (d) L (.int y :: .int x :: st) h).trans (rfl)
theorem d180_113 : decode (mB 180) 113 = .ok (.iconst 1, 1) := by decide +kernel
theorem x180_113 {d : Nat} {L : Lc} {st : List Value} {h : Hp} : ex (d) 180 113 L st h = ex d 180 114 L (.int (nI 1) :: st) h := (ex_of d180_113 (d) L st h).trans (rfl)
theorem d180_114 : decode (mB 180) 114 = .ok (.iand, 1) := by decide +kernel
theorem x180_114 {d : Nat} {L : Lc} {st : List Value} {x y : Int32} {h : Hp} : ex (d) 180 114 L (.int y :: .int x :: st) h = ex d 180 115 L (.int (x &&& y) :: st) h := (ex_of d180_114 (d) L (.int y :: .int x :: st) h).trans (rfl)
theorem d180_115 : decode (mB 180) 115 = .ok (.ifCond .ne 7, 3) := by decide +kernel
theorem x180_115 {d : Nat} {L : Lc} {st : List Value} {x : Int32} {h : Hp} : ex (d) 180 115 L (.int x :: st) h = if ¬ x = 0 then ex d 180 122 L st h else ex d 180 118 L st h := (ex_of d180_115 (d) L (.int x :: st) h).trans (fin_brq (off := 7) (tgt := 122) rfl (by decide))
theorem d180_118 : decode (mB 180) 118 = .ok (.iconst 0, 1) := by decide +kernel
theorem x180_118 {d : Nat} {L : Lc} {st : List Value} {h : Hp} : ex (d) 180 118 L st h = ex d 180 119 L (.int (nI 0) :: st) h := (ex_of d180_118 (d) L st h).trans (rfl)
theorem d180_119 : decode (mB 180) 119 = .ok (.goto 16, 3) := by decide +kernel
theorem x180_119 {d : Nat} {L : Lc} {st : List Value} {h : Hp} : ex (d) 180 119 L st h = ex d 180 135 L st h := (ex_of d180_119 (d) L st h).trans (rfl)
theorem d180_122 : decode (mB 180) 122 = .ok (.iload 5, 2) := by decide +kernel
theorem x180_122 {d : Nat} {l0 l1 l2 l3 l4 : Option Value} {st : List Value} {x : Int32} {h : Hp} : ex (d) 180 122 [l0, l1, l2, l3, l4, some (.int x)] st h = ex d 180 124 [l0, l1, l2, l3, l4, some (.int x)] (.int x :: st) h := (ex_of d180_122 (d) [l0, l1, l2, l3, l4, some (.int x)] st h).trans (rfl)
theorem d180_124 : decode (mB 180) 124 = .ok (.ifCond .ge 9, 3) := by decide +kernel
theorem x180_124 {d : Nat} {L : Lc} {st : List Value} {x : Int32} {h : Hp} : ex (d) 180 124 L (.int x :: st) h = if 0 ≤ x then ex d 180 133 L st h else ex d 180 127 L st h := (ex_of d180_124 (d) L (.int x :: st) h).trans (fin_brq (off := 9) (tgt := 133) rfl (by decide))
theorem d180_127 : decode (mB 180) 127 = .ok (.iload 5, 2) := by decide +kernel
theorem x180_127 {d : Nat} {l0 l1 l2 l3 l4 : Option Value} {st : List Value} {x : Int32} {h : Hp} : ex (d) 180 127 [l0, l1, l2, l3, l4, some (.int x)] st h = ex d 180 129 [l0, l1, l2, l3, l4, some (.int x)] (.int x :: st) h := (ex_of d180_127 (d) [l0, l1, l2, l3, l4, some (.int x)] st h).trans (rfl)
theorem d180_129 : decode (mB 180) 129 = .ok (.ineg, 1) := by decide +kernel
theorem x180_129 {d : Nat} {L : Lc} {st : List Value} {x : Int32} {h : Hp} : ex (d) 180 129 L (.int x :: st) h = ex d 180 130 L (.int (-x) :: st) h := (ex_of d180_129 (d) L (.int x :: st) h).trans (rfl)
theorem d180_130 : decode (mB 180) 130 = .ok (.goto 5, 3) := by decide +kernel
theorem x180_130 {d : Nat} {L : Lc} {st : List Value} {h : Hp} : ex (d) 180 130 L st h = ex d 180 135 L st h := (ex_of d180_130 (d) L st h).trans (rfl)
theorem d180_133 : decode (mB 180) 133 = .ok (.iload 5, 2) := by decide +kernel
theorem x180_133 {d : Nat} {l0 l1 l2 l3 l4 : Option Value} {st : List Value} {x : Int32} {h : Hp} : ex (d) 180 133 [l0, l1, l2, l3, l4, some (.int x)] st h = ex d 180 135 [l0, l1, l2, l3, l4, some (.int x)] (.int x :: st) h := (ex_of d180_133 (d) [l0, l1, l2, l3, l4, some (.int x)] st h).trans (rfl)
theorem d180_135 : decode (mB 180) 135 = .ok (.iadd, 1) := by decide +kernel
theorem x180_135 {d : Nat} {L : Lc} {st : List Value} {x y : Int32} {h : Hp} : ex (d) 180 135 L (.int y :: .int x :: st) h = ex d 180 136 L (.int (x + y) :: st) h := (ex_of d180_135 (d) L (.int y :: .int x :: st) h).trans (rfl)
theorem d180_136 : decode (mB 180) 136 = .ok (.istore_n 3, 1) := by decide +kernel
theorem x180_136 {d : Nat} {l0 l1 l2 l3 l4 l5 : Option Value} {st : List Value} {x : Int32} {h : Hp} : ex (d) 180 136 [l0, l1, l2, l3, l4, l5] (.int x :: st) h = ex d 180 137 [l0, l1, clr l2, some (.int x), l4, l5] st h := (ex_of d180_136 (d) [l0, l1, l2, l3, l4, l5] (.int x :: st) h).trans (rfl)
theorem d180_137 : decode (mB 180) 137 = .ok (.iinc 4 1, 3) := by decide +kernel
theorem x180_137 {d : Nat} {l0 l1 l2 l3 l5 : Option Value} {st : List Value} {x : Int32} {h : Hp} : ex (d) 180 137 [l0, l1, l2, l3, some (.int x), l5] st h = ex d 180 140 [l0, l1, l2, clr l3, some (.int (x + (nI 1))), l5] st h := (ex_of d180_137 (d) [l0, l1, l2, l3, some (.int x), l5] st h).trans (rfl)
theorem d180_140 : decode (mB 180) 140 = .ok (.goto (-78), 3) := by decide +kernel
theorem x180_140 {d : Nat} {L : Lc} {st : List Value} {h : Hp} : ex (d) 180 140 L st h = ex d 180 62 L st h := (ex_of d180_140 (d) L st h).trans (rfl)
theorem d180_143 : decode (mB 180) 143 = .ok (.aload_n 0, 1) := by decide +kernel
theorem x180_143 {d : Nat} {l1 l2 l3 l4 l5 : Option Value} {st : List Value} {a : Nat} {h : Hp} : ex (d) 180 143 [some (.ref a), l1, l2, l3, l4, l5] st h = ex d 180 144 [some (.ref a), l1, l2, l3, l4, l5] (.ref a :: st) h := (ex_of d180_143 (d) [some (.ref a), l1, l2, l3, l4, l5] st h).trans (rfl)
theorem d180_144 : decode (mB 180) 144 = .ok (.getfield 9, 3) := by decide +kernel
theorem x180_144 {d : Nat} {L : Lc} {st : List Value} {a : Nat} {h : Hp} (ht : (h.2.1 a).1 = 11) : ex (d) 180 144 L (.ref a :: st) h = ex d 180 147 L (h.1 a 2 :: st) h := (ex_of d180_144 (d) L (.ref a :: st) h).trans (fin_get (mi := 180) f11_9 (tg1 ht rfl))
theorem d180_147 : decode (mB 180) 147 = .ok (.iload_n 2, 1) := by decide +kernel
theorem x180_147 {d : Nat} {l0 l1 l3 l4 l5 : Option Value} {st : List Value} {x : Int32} {h : Hp} : ex (d) 180 147 [l0, l1, some (.int x), l3, l4, l5] st h = ex d 180 148 [l0, l1, some (.int x), l3, l4, l5] (.int x :: st) h := (ex_of d180_147 (d) [l0, l1, some (.int x), l3, l4, l5] st h).trans (rfl)
theorem d180_148 : decode (mB 180) 148 = .ok (.iaload, 1) := by decide +kernel
theorem x180_148 {d : Nat} {L : Lc} {st : List Value} {a j : Nat} {h : Hp} (ht : (h.2.1 a).1 = 20) (hj : j < (h.2.1 a).2) (hb : j < 2147483648) : ex (d) 180 148 L (.int (nI j) :: .ref a :: st) h = ex d 180 149 L (h.1 a j :: st) h := (ex_of d180_148 (d) L (.int (nI j) :: .ref a :: st) h).trans (fin_iaload (Or.inl ht) hj hb)
theorem d180_149 : decode (mB 180) 149 = .ok (.iload_n 3, 1) := by decide +kernel
theorem x180_149 {d : Nat} {l0 l1 l2 l4 l5 : Option Value} {st : List Value} {x : Int32} {h : Hp} : ex (d) 180 149 [l0, l1, l2, some (.int x), l4, l5] st h = ex d 180 150 [l0, l1, l2, some (.int x), l4, l5] (.int x :: st) h := (ex_of d180_149 (d) [l0, l1, l2, some (.int x), l4, l5] st h).trans (rfl)
theorem d180_150 : decode (mB 180) 150 = .ok (.invokestatic 185, 3) := by decide +kernel
theorem x180_150 {d : Nat} {L : Lc}  {v0 : Int32} {v1 : Int32} {h : Hp} : ex (d + 1) 180 150 L (.int v1 :: .int v0 :: []) h = bnd (ex d 170 0 [some (.int v0), some (.int v1), none] [] h) (fun v h' => ex (d + 1) 180 153 L (v.toList ++ []) h') := (ex_of d180_150 (d + 1) L (.int v1 :: .int v0 :: []) h).trans (fin_st (mi := 180) i11_185 (Or.inl rfl) (by simp) (by simp [cat1_i, cat1_r]) (by simp) (Nat.le_of_ble_eq_true rfl))
theorem d180_153 : decode (mB 180) 153 = .ok (.ireturn, 1) := by decide +kernel
theorem x180_153 {d : Nat} {L : Lc} {x : Int32} {h : Hp} : ex (d) 180 153 L [.int x] h = some (some (.int x), h) := (ex_of d180_153 (d) L [.int x] h).trans (rfl)
theorem d181_0 : decode (mB 181) 0 = .ok (.aload_n 0, 1) := by decide +kernel
theorem x181_0 {d : Nat} {l1 l2 l3 : Option Value} {st : List Value} {a : Nat} {h : Hp} : ex (d) 181 0 [some (.ref a), l1, l2, l3] st h = ex d 181 1 [some (.ref a), l1, l2, l3] (.ref a :: st) h := (ex_of d181_0 (d) [some (.ref a), l1, l2, l3] st h).trans (rfl)
theorem d181_1 : decode (mB 181) 1 = .ok (.getfield 9, 3) := by decide +kernel
theorem x181_1 {d : Nat} {L : Lc} {st : List Value} {a : Nat} {h : Hp} (ht : (h.2.1 a).1 = 11) : ex (d) 181 1 L (.ref a :: st) h = ex d 181 4 L (h.1 a 2 :: st) h := (ex_of d181_1 (d) L (.ref a :: st) h).trans (fin_get (mi := 181) f11_9 (tg1 ht rfl))
theorem d181_4 : decode (mB 181) 4 = .ok (.iload_n 1, 1) := by decide +kernel
theorem x181_4 {d : Nat} {l0 l2 l3 : Option Value} {st : List Value} {x : Int32} {h : Hp} : ex (d) 181 4 [l0, some (.int x), l2, l3] st h = ex d 181 5 [l0, some (.int x), l2, l3] (.int x :: st) h := (ex_of d181_4 (d) [l0, some (.int x), l2, l3] st h).trans (rfl)
theorem d181_5 : decode (mB 181) 5 = .ok (.iaload, 1) := by decide +kernel
theorem x181_5 {d : Nat} {L : Lc} {st : List Value} {a j : Nat} {h : Hp} (ht : (h.2.1 a).1 = 20) (hj : j < (h.2.1 a).2) (hb : j < 2147483648) : ex (d) 181 5 L (.int (nI j) :: .ref a :: st) h = ex d 181 6 L (h.1 a j :: st) h := (ex_of d181_5 (d) L (.int (nI j) :: .ref a :: st) h).trans (fin_iaload (Or.inl ht) hj hb)
theorem d181_6 : decode (mB 181) 6 = .ok (.iconst 4, 1) := by decide +kernel
theorem x181_6 {d : Nat} {L : Lc} {st : List Value} {h : Hp} : ex (d) 181 6 L st h = ex d 181 7 L (.int (nI 4) :: st) h := (ex_of d181_6 (d) L st h).trans (rfl)
theorem d181_7 : decode (mB 181) 7 = .ok (.if_icmp .eq 34, 3) := by decide +kernel
theorem x181_7 {d : Nat} {L : Lc} {st : List Value} {x y : Int32} {h : Hp} : ex (d) 181 7 L (.int y :: .int x :: st) h = if x = y then ex d 181 41 L st h else ex d 181 10 L st h := (ex_of d181_7 (d) L (.int y :: .int x :: st) h).trans (fin_brq (off := 34) (tgt := 41) rfl (by decide))
theorem d181_10 : decode (mB 181) 10 = .ok (.aload_n 0, 1) := by decide +kernel
theorem x181_10 {d : Nat} {l1 l2 l3 : Option Value} {st : List Value} {a : Nat} {h : Hp} : ex (d) 181 10 [some (.ref a), l1, l2, l3] st h = ex d 181 11 [some (.ref a), l1, l2, l3] (.ref a :: st) h := (ex_of d181_10 (d) [some (.ref a), l1, l2, l3] st h).trans (rfl)
theorem d181_11 : decode (mB 181) 11 = .ok (.getfield 9, 3) := by decide +kernel
theorem x181_11 {d : Nat} {L : Lc} {st : List Value} {a : Nat} {h : Hp} (ht : (h.2.1 a).1 = 11) : ex (d) 181 11 L (.ref a :: st) h = ex d 181 14 L (h.1 a 2 :: st) h := (ex_of d181_11 (d) L (.ref a :: st) h).trans (fin_get (mi := 181) f11_9 (tg1 ht rfl))
theorem d181_14 : decode (mB 181) 14 = .ok (.iload_n 1, 1) := by decide +kernel
theorem x181_14 {d : Nat} {l0 l2 l3 : Option Value} {st : List Value} {x : Int32} {h : Hp} : ex (d) 181 14 [l0, some (.int x), l2, l3] st h = ex d 181 15 [l0, some (.int x), l2, l3] (.int x :: st) h := (ex_of d181_14 (d) [l0, some (.int x), l2, l3] st h).trans (rfl)
theorem d181_15 : decode (mB 181) 15 = .ok (.iaload, 1) := by decide +kernel
theorem x181_15 {d : Nat} {L : Lc} {st : List Value} {a j : Nat} {h : Hp} (ht : (h.2.1 a).1 = 20) (hj : j < (h.2.1 a).2) (hb : j < 2147483648) : ex (d) 181 15 L (.int (nI j) :: .ref a :: st) h = ex d 181 16 L (h.1 a j :: st) h := (ex_of d181_15 (d) L (.int (nI j) :: .ref a :: st) h).trans (fin_iaload (Or.inl ht) hj hb)
theorem d181_16 : decode (mB 181) 16 = .ok (.iconst 1, 1) := by decide +kernel
theorem x181_16 {d : Nat} {L : Lc} {st : List Value} {h : Hp} : ex (d) 181 16 L st h = ex d 181 17 L (.int (nI 1) :: st) h := (ex_of d181_16 (d) L st h).trans (rfl)
theorem d181_17 : decode (mB 181) 17 = .ok (.if_icmp .ne 7, 3) := by decide +kernel
theorem x181_17 {d : Nat} {L : Lc} {st : List Value} {x y : Int32} {h : Hp} : ex (d) 181 17 L (.int y :: .int x :: st) h = if ¬ x = y then ex d 181 24 L st h else ex d 181 20 L st h := (ex_of d181_17 (d) L (.int y :: .int x :: st) h).trans (fin_brq (off := 7) (tgt := 24) rfl (by decide))
theorem d181_20 : decode (mB 181) 20 = .ok (.iconst 1, 1) := by decide +kernel
theorem x181_20 {d : Nat} {L : Lc} {st : List Value} {h : Hp} : ex (d) 181 20 L st h = ex d 181 21 L (.int (nI 1) :: st) h := (ex_of d181_20 (d) L st h).trans (rfl)
theorem d181_21 : decode (mB 181) 21 = .ok (.goto 19, 3) := by decide +kernel
theorem x181_21 {d : Nat} {L : Lc} {st : List Value} {h : Hp} : ex (d) 181 21 L st h = ex d 181 40 L st h := (ex_of d181_21 (d) L st h).trans (rfl)
theorem d181_24 : decode (mB 181) 24 = .ok (.aload_n 0, 1) := by decide +kernel
theorem x181_24 {d : Nat} {l1 l2 l3 : Option Value} {st : List Value} {a : Nat} {h : Hp} : ex (d) 181 24 [some (.ref a), l1, l2, l3] st h = ex d 181 25 [some (.ref a), l1, l2, l3] (.ref a :: st) h := (ex_of d181_24 (d) [some (.ref a), l1, l2, l3] st h).trans (rfl)
theorem d181_25 : decode (mB 181) 25 = .ok (.getfield 9, 3) := by decide +kernel
theorem x181_25 {d : Nat} {L : Lc} {st : List Value} {a : Nat} {h : Hp} (ht : (h.2.1 a).1 = 11) : ex (d) 181 25 L (.ref a :: st) h = ex d 181 28 L (h.1 a 2 :: st) h := (ex_of d181_25 (d) L (.ref a :: st) h).trans (fin_get (mi := 181) f11_9 (tg1 ht rfl))
theorem d181_28 : decode (mB 181) 28 = .ok (.iload_n 1, 1) := by decide +kernel
theorem x181_28 {d : Nat} {l0 l2 l3 : Option Value} {st : List Value} {x : Int32} {h : Hp} : ex (d) 181 28 [l0, some (.int x), l2, l3] st h = ex d 181 29 [l0, some (.int x), l2, l3] (.int x :: st) h := (ex_of d181_28 (d) [l0, some (.int x), l2, l3] st h).trans (rfl)
theorem d181_29 : decode (mB 181) 29 = .ok (.iaload, 1) := by decide +kernel
theorem x181_29 {d : Nat} {L : Lc} {st : List Value} {a j : Nat} {h : Hp} (ht : (h.2.1 a).1 = 20) (hj : j < (h.2.1 a).2) (hb : j < 2147483648) : ex (d) 181 29 L (.int (nI j) :: .ref a :: st) h = ex d 181 30 L (h.1 a j :: st) h := (ex_of d181_29 (d) L (.int (nI j) :: .ref a :: st) h).trans (fin_iaload (Or.inl ht) hj hb)
theorem d181_30 : decode (mB 181) 30 = .ok (.iconst 2, 1) := by decide +kernel
theorem x181_30 {d : Nat} {L : Lc} {st : List Value} {h : Hp} : ex (d) 181 30 L st h = ex d 181 31 L (.int (nI 2) :: st) h := (ex_of d181_30 (d) L st h).trans (rfl)
theorem d181_31 : decode (mB 181) 31 = .ok (.if_icmp .ne 8, 3) := by decide +kernel
theorem x181_31 {d : Nat} {L : Lc} {st : List Value} {x y : Int32} {h : Hp} : ex (d) 181 31 L (.int y :: .int x :: st) h = if ¬ x = y then ex d 181 39 L st h else ex d 181 34 L st h := (ex_of d181_31 (d) L (.int y :: .int x :: st) h).trans (fin_brq (off := 8) (tgt := 39) rfl (by decide))
theorem d181_34 : decode (mB 181) 34 = .ok (.bipush 6, 2) := by decide +kernel
theorem x181_34 {d : Nat} {L : Lc} {st : List Value} {h : Hp} : ex (d) 181 34 L st h = ex d 181 36 L (.int (nI 6) :: st) h := (ex_of d181_34 (d) L st h).trans (rfl)
theorem d181_36 : decode (mB 181) 36 = .ok (.goto 4, 3) := by decide +kernel
theorem x181_36 {d : Nat} {L : Lc} {st : List Value} {h : Hp} : ex (d) 181 36 L st h = ex d 181 40 L st h := (ex_of d181_36 (d) L st h).trans (rfl)
theorem d181_39 : decode (mB 181) 39 = .ok (.iconst 3, 1) := by decide +kernel
theorem x181_39 {d : Nat} {L : Lc} {st : List Value} {h : Hp} : ex (d) 181 39 L st h = ex d 181 40 L (.int (nI 3) :: st) h := (ex_of d181_39 (d) L st h).trans (rfl)
theorem d181_40 : decode (mB 181) 40 = .ok (.ireturn, 1) := by decide +kernel
theorem x181_40 {d : Nat} {L : Lc} {x : Int32} {h : Hp} : ex (d) 181 40 L [.int x] h = some (some (.int x), h) := (ex_of d181_40 (d) L [.int x] h).trans (rfl)
theorem d181_41 : decode (mB 181) 41 = .ok (.iconst 0, 1) := by decide +kernel
theorem x181_41 {d : Nat} {L : Lc} {st : List Value} {h : Hp} : ex (d) 181 41 L st h = ex d 181 42 L (.int (nI 0) :: st) h := (ex_of d181_41 (d) L st h).trans (rfl)
theorem d181_42 : decode (mB 181) 42 = .ok (.istore_n 2, 1) := by decide +kernel
theorem x181_42 {d : Nat} {l0 l1 l2 l3 : Option Value} {st : List Value} {x : Int32} {h : Hp} : ex (d) 181 42 [l0, l1, l2, l3] (.int x :: st) h = ex d 181 43 [l0, clr l1, some (.int x), l3] st h := (ex_of d181_42 (d) [l0, l1, l2, l3] (.int x :: st) h).trans (rfl)
theorem d181_43 : decode (mB 181) 43 = .ok (.iconst 0, 1) := by decide +kernel
theorem x181_43 {d : Nat} {L : Lc} {st : List Value} {h : Hp} : ex (d) 181 43 L st h = ex d 181 44 L (.int (nI 0) :: st) h := (ex_of d181_43 (d) L st h).trans (rfl)
theorem d181_44 : decode (mB 181) 44 = .ok (.istore_n 3, 1) := by decide +kernel
theorem x181_44 {d : Nat} {l0 l1 l2 l3 : Option Value} {st : List Value} {x : Int32} {h : Hp} : ex (d) 181 44 [l0, l1, l2, l3] (.int x :: st) h = ex d 181 45 [l0, l1, clr l2, some (.int x)] st h := (ex_of d181_44 (d) [l0, l1, l2, l3] (.int x :: st) h).trans (rfl)
theorem d181_45 : decode (mB 181) 45 = .ok (.iload_n 3, 1) := by decide +kernel
theorem x181_45 {d : Nat} {l0 l1 l2 : Option Value} {st : List Value} {x : Int32} {h : Hp} : ex (d) 181 45 [l0, l1, l2, some (.int x)] st h = ex d 181 46 [l0, l1, l2, some (.int x)] (.int x :: st) h := (ex_of d181_45 (d) [l0, l1, l2, some (.int x)] st h).trans (rfl)
theorem d181_46 : decode (mB 181) 46 = .ok (.bipush 6, 2) := by decide +kernel
theorem x181_46 {d : Nat} {L : Lc} {st : List Value} {h : Hp} : ex (d) 181 46 L st h = ex d 181 48 L (.int (nI 6) :: st) h := (ex_of d181_46 (d) L st h).trans (rfl)
theorem d181_48 : decode (mB 181) 48 = .ok (.if_icmp .ge 35, 3) := by decide +kernel
theorem x181_48 {d : Nat} {L : Lc} {st : List Value} {x y : Int32} {h : Hp} : ex (d) 181 48 L (.int y :: .int x :: st) h = if y ≤ x then ex d 181 83 L st h else ex d 181 51 L st h := (ex_of d181_48 (d) L (.int y :: .int x :: st) h).trans (fin_brq (off := 35) (tgt := 83) rfl (by decide))
theorem d181_51 : decode (mB 181) 51 = .ok (.iload_n 2, 1) := by decide +kernel
theorem x181_51 {d : Nat} {l0 l1 l3 : Option Value} {st : List Value} {x : Int32} {h : Hp} : ex (d) 181 51 [l0, l1, some (.int x), l3] st h = ex d 181 52 [l0, l1, some (.int x), l3] (.int x :: st) h := (ex_of d181_51 (d) [l0, l1, some (.int x), l3] st h).trans (rfl)
theorem d181_52 : decode (mB 181) 52 = .ok (.aload_n 0, 1) := by decide +kernel
theorem x181_52 {d : Nat} {l1 l2 l3 : Option Value} {st : List Value} {a : Nat} {h : Hp} : ex (d) 181 52 [some (.ref a), l1, l2, l3] st h = ex d 181 53 [some (.ref a), l1, l2, l3] (.ref a :: st) h := (ex_of d181_52 (d) [some (.ref a), l1, l2, l3] st h).trans (rfl)
theorem d181_53 : decode (mB 181) 53 = .ok (.iload_n 1, 1) := by decide +kernel
theorem x181_53 {d : Nat} {l0 l2 l3 : Option Value} {st : List Value} {x : Int32} {h : Hp} : ex (d) 181 53 [l0, some (.int x), l2, l3] st h = ex d 181 54 [l0, some (.int x), l2, l3] (.int x :: st) h := (ex_of d181_53 (d) [l0, some (.int x), l2, l3] st h).trans (rfl)
theorem d181_54 : decode (mB 181) 54 = .ok (.iload_n 3, 1) := by decide +kernel
theorem x181_54 {d : Nat} {l0 l1 l2 : Option Value} {st : List Value} {x : Int32} {h : Hp} : ex (d) 181 54 [l0, l1, l2, some (.int x)] st h = ex d 181 55 [l0, l1, l2, some (.int x)] (.int x :: st) h := (ex_of d181_54 (d) [l0, l1, l2, some (.int x)] st h).trans (rfl)
theorem d181_55 : decode (mB 181) 55 = .ok (.invokevirtual 135, 3) := by decide +kernel
theorem x181_55 {d : Nat} {L : Lc} {s0 : Value} {a : Nat} {v0 : Int32} {v1 : Int32} {h : Hp} (ht : (h.2.1 a).1 = 11) : ex (d + 1) 181 55 L (.int v1 :: .int v0 :: .ref a :: [s0]) h = bnd (ex d 154 0 [some (.ref a), some (.int v0), some (.int v1)] [] h) (fun v h' => ex (d + 1) 181 58 L (v.toList ++ [s0]) h') := (ex_of d181_55 (d + 1) L (.int v1 :: .int v0 :: .ref a :: [s0]) h).trans (fin_vi (mi := 181) i11_135 ht rfl rfl (by simp [cat1_i, cat1_r]) (by simp) (Nat.le_of_ble_eq_true rfl))
theorem d181_58 : decode (mB 181) 58 = .ok (.ifCond .ge 7, 3) := by decide +kernel
theorem x181_58 {d : Nat} {L : Lc} {st : List Value} {x : Int32} {h : Hp} : ex (d) 181 58 L (.int x :: st) h = if 0 ≤ x then ex d 181 65 L st h else ex d 181 61 L st h := (ex_of d181_58 (d) L (.int x :: st) h).trans (fin_brq (off := 7) (tgt := 65) rfl (by decide))
theorem d181_61 : decode (mB 181) 61 = .ok (.iconst 0, 1) := by decide +kernel
theorem x181_61 {d : Nat} {L : Lc} {st : List Value} {h : Hp} : ex (d) 181 61 L st h = ex d 181 62 L (.int (nI 0) :: st) h := (ex_of d181_61 (d) L st h).trans (rfl)
theorem d181_62 : decode (mB 181) 62 = .ok (.goto 13, 3) := by decide +kernel
theorem x181_62 {d : Nat} {L : Lc} {st : List Value} {h : Hp} : ex (d) 181 62 L st h = ex d 181 75 L st h := (ex_of d181_62 (d) L st h).trans (rfl)
theorem d181_65 : decode (mB 181) 65 = .ok (.aload_n 0, 1) := by decide +kernel
theorem x181_65 {d : Nat} {l1 l2 l3 : Option Value} {st : List Value} {a : Nat} {h : Hp} : ex (d) 181 65 [some (.ref a), l1, l2, l3] st h = ex d 181 66 [some (.ref a), l1, l2, l3] (.ref a :: st) h := (ex_of d181_65 (d) [some (.ref a), l1, l2, l3] st h).trans (rfl)
theorem d181_66 : decode (mB 181) 66 = .ok (.aload_n 0, 1) := by decide +kernel
theorem x181_66 {d : Nat} {l1 l2 l3 : Option Value} {st : List Value} {a : Nat} {h : Hp} : ex (d) 181 66 [some (.ref a), l1, l2, l3] st h = ex d 181 67 [some (.ref a), l1, l2, l3] (.ref a :: st) h := (ex_of d181_66 (d) [some (.ref a), l1, l2, l3] st h).trans (rfl)
theorem d181_67 : decode (mB 181) 67 = .ok (.iload_n 1, 1) := by decide +kernel
theorem x181_67 {d : Nat} {l0 l2 l3 : Option Value} {st : List Value} {x : Int32} {h : Hp} : ex (d) 181 67 [l0, some (.int x), l2, l3] st h = ex d 181 68 [l0, some (.int x), l2, l3] (.int x :: st) h := (ex_of d181_67 (d) [l0, some (.int x), l2, l3] st h).trans (rfl)
theorem d181_68 : decode (mB 181) 68 = .ok (.iload_n 3, 1) := by decide +kernel
theorem x181_68 {d : Nat} {l0 l1 l2 : Option Value} {st : List Value} {x : Int32} {h : Hp} : ex (d) 181 68 [l0, l1, l2, some (.int x)] st h = ex d 181 69 [l0, l1, l2, some (.int x)] (.int x :: st) h := (ex_of d181_68 (d) [l0, l1, l2, some (.int x)] st h).trans (rfl)
theorem d181_69 : decode (mB 181) 69 = .ok (.invokevirtual 135, 3) := by decide +kernel
theorem x181_69 {d : Nat} {L : Lc} {s0 s1 : Value} {a : Nat} {v0 : Int32} {v1 : Int32} {h : Hp} (ht : (h.2.1 a).1 = 11) : ex (d + 1) 181 69 L (.int v1 :: .int v0 :: .ref a :: [s0, s1]) h = bnd (ex d 154 0 [some (.ref a), some (.int v0), some (.int v1)] [] h) (fun v h' => ex (d + 1) 181 72 L (v.toList ++ [s0, s1]) h') := (ex_of d181_69 (d + 1) L (.int v1 :: .int v0 :: .ref a :: [s0, s1]) h).trans (fin_vi (mi := 181) i11_135 ht rfl rfl (by simp [cat1_i, cat1_r]) (by simp) (Nat.le_of_ble_eq_true rfl))
theorem d181_72 : decode (mB 181) 72 = .ok (.invokevirtual 209, 3) := by decide +kernel
theorem x181_72 {d : Nat} {L : Lc} {s0 : Value} {a : Nat} {v0 : Int32} {h : Hp} (ht : (h.2.1 a).1 = 11) : ex (d + 1) 181 72 L (.int v0 :: .ref a :: [s0]) h = bnd (ex d 181 0 [some (.ref a), some (.int v0), none, none] [] h) (fun v h' => ex (d + 1) 181 75 L (v.toList ++ [s0]) h') := (ex_of d181_72 (d + 1) L (.int v0 :: .ref a :: [s0]) h).trans (fin_vi (mi := 181) i11_209 ht rfl rfl (by simp [cat1_i, cat1_r]) (by simp) (Nat.le_of_ble_eq_true rfl))
theorem d181_75 : decode (mB 181) 75 = .ok (.iadd, 1) := by decide +kernel
theorem x181_75 {d : Nat} {L : Lc} {st : List Value} {x y : Int32} {h : Hp} : ex (d) 181 75 L (.int y :: .int x :: st) h = ex d 181 76 L (.int (x + y) :: st) h := (ex_of d181_75 (d) L (.int y :: .int x :: st) h).trans (rfl)
theorem d181_76 : decode (mB 181) 76 = .ok (.istore_n 2, 1) := by decide +kernel
theorem x181_76 {d : Nat} {l0 l1 l2 l3 : Option Value} {st : List Value} {x : Int32} {h : Hp} : ex (d) 181 76 [l0, l1, l2, l3] (.int x :: st) h = ex d 181 77 [l0, clr l1, some (.int x), l3] st h := (ex_of d181_76 (d) [l0, l1, l2, l3] (.int x :: st) h).trans (rfl)
theorem d181_77 : decode (mB 181) 77 = .ok (.iinc 3 1, 3) := by decide +kernel
theorem x181_77 {d : Nat} {l0 l1 l2 : Option Value} {st : List Value} {x : Int32} {h : Hp} : ex (d) 181 77 [l0, l1, l2, some (.int x)] st h = ex d 181 80 [l0, l1, clr l2, some (.int (x + (nI 1)))] st h := (ex_of d181_77 (d) [l0, l1, l2, some (.int x)] st h).trans (rfl)
theorem d181_80 : decode (mB 181) 80 = .ok (.goto (-35), 3) := by decide +kernel
theorem x181_80 {d : Nat} {L : Lc} {st : List Value} {h : Hp} : ex (d) 181 80 L st h = ex d 181 45 L st h := (ex_of d181_80 (d) L st h).trans (rfl)
theorem d181_83 : decode (mB 181) 83 = .ok (.iload_n 2, 1) := by decide +kernel
theorem x181_83 {d : Nat} {l0 l1 l3 : Option Value} {st : List Value} {x : Int32} {h : Hp} : ex (d) 181 83 [l0, l1, some (.int x), l3] st h = ex d 181 84 [l0, l1, some (.int x), l3] (.int x :: st) h := (ex_of d181_83 (d) [l0, l1, some (.int x), l3] st h).trans (rfl)
theorem d181_84 : decode (mB 181) 84 = .ok (.ireturn, 1) := by decide +kernel
theorem x181_84 {d : Nat} {L : Lc} {x : Int32} {h : Hp} : ex (d) 181 84 L [.int x] h = some (some (.int x), h) := (ex_of d181_84 (d) L [.int x] h).trans (rfl)
theorem d182_0 : decode (mB 182) 0 = .ok (.aload_n 0, 1) := by decide +kernel
theorem x182_0 {d : Nat} {l1 l2 : Option Value} {st : List Value} {a : Nat} {h : Hp} : ex (d) 182 0 [some (.ref a), l1, l2] st h = ex d 182 1 [some (.ref a), l1, l2] (.ref a :: st) h := (ex_of d182_0 (d) [some (.ref a), l1, l2] st h).trans (rfl)
theorem d182_1 : decode (mB 182) 1 = .ok (.iload_n 1, 1) := by decide +kernel
theorem x182_1 {d : Nat} {l0 l2 : Option Value} {st : List Value} {x : Int32} {h : Hp} : ex (d) 182 1 [l0, some (.int x), l2] st h = ex d 182 2 [l0, some (.int x), l2] (.int x :: st) h := (ex_of d182_1 (d) [l0, some (.int x), l2] st h).trans (rfl)
theorem d182_2 : decode (mB 182) 2 = .ok (.invokevirtual 191, 3) := by decide +kernel
theorem x182_2 {d : Nat} {L : Lc} {a : Nat} {v0 : Int32} {h : Hp} (ht : (h.2.1 a).1 = 11) : ex (d + 1) 182 2 L (.int v0 :: .ref a :: []) h = bnd (ex d 173 0 [some (.ref a), some (.int v0)] [] h) (fun v h' => ex (d + 1) 182 5 L (v.toList ++ []) h') := (ex_of d182_2 (d + 1) L (.int v0 :: .ref a :: []) h).trans (fin_vi (mi := 182) i11_191 ht rfl rfl (by simp [cat1_i, cat1_r]) (by simp) (Nat.le_of_ble_eq_true rfl))
theorem d182_5 : decode (mB 182) 5 = .ok (.ifCond .eq 11, 3) := by decide +kernel
theorem x182_5 {d : Nat} {L : Lc} {st : List Value} {x : Int32} {h : Hp} : ex (d) 182 5 L (.int x :: st) h = if x = 0 then ex d 182 16 L st h else ex d 182 8 L st h := (ex_of d182_5 (d) L (.int x :: st) h).trans (fin_brq (off := 11) (tgt := 16) rfl (by decide))
theorem d182_8 : decode (mB 182) 8 = .ok (.aload_n 0, 1) := by decide +kernel
theorem x182_8 {d : Nat} {l1 l2 : Option Value} {st : List Value} {a : Nat} {h : Hp} : ex (d) 182 8 [some (.ref a), l1, l2] st h = ex d 182 9 [some (.ref a), l1, l2] (.ref a :: st) h := (ex_of d182_8 (d) [some (.ref a), l1, l2] st h).trans (rfl)
theorem d182_9 : decode (mB 182) 9 = .ok (.iload_n 2, 1) := by decide +kernel
theorem x182_9 {d : Nat} {l0 l1 : Option Value} {st : List Value} {x : Int32} {h : Hp} : ex (d) 182 9 [l0, l1, some (.int x)] st h = ex d 182 10 [l0, l1, some (.int x)] (.int x :: st) h := (ex_of d182_9 (d) [l0, l1, some (.int x)] st h).trans (rfl)
theorem d182_10 : decode (mB 182) 10 = .ok (.invokevirtual 105, 3) := by decide +kernel
theorem x182_10 {d : Nat} {L : Lc} {a : Nat} {v0 : Int32} {h : Hp} (ht : (h.2.1 a).1 = 11) : ex (d + 1) 182 10 L (.int v0 :: .ref a :: []) h = bnd (ex d 136 0 [some (.ref a), some (.int v0)] [] h) (fun v h' => ex (d + 1) 182 13 L (v.toList ++ []) h') := (ex_of d182_10 (d + 1) L (.int v0 :: .ref a :: []) h).trans (fin_vi (mi := 182) i11_105 ht rfl rfl (by simp [cat1_i, cat1_r]) (by simp) (Nat.le_of_ble_eq_true rfl))
theorem d182_13 : decode (mB 182) 13 = .ok (.ifCond .ne 12, 3) := by decide +kernel
theorem x182_13 {d : Nat} {L : Lc} {st : List Value} {x : Int32} {h : Hp} : ex (d) 182 13 L (.int x :: st) h = if ¬ x = 0 then ex d 182 25 L st h else ex d 182 16 L st h := (ex_of d182_13 (d) L (.int x :: st) h).trans (fin_brq (off := 12) (tgt := 25) rfl (by decide))
theorem d182_16 : decode (mB 182) 16 = .ok (.aload_n 0, 1) := by decide +kernel
theorem x182_16 {d : Nat} {l1 l2 : Option Value} {st : List Value} {a : Nat} {h : Hp} : ex (d) 182 16 [some (.ref a), l1, l2] st h = ex d 182 17 [some (.ref a), l1, l2] (.ref a :: st) h := (ex_of d182_16 (d) [some (.ref a), l1, l2] st h).trans (rfl)
theorem d182_17 : decode (mB 182) 17 = .ok (.bipush 10, 2) := by decide +kernel
theorem x182_17 {d : Nat} {L : Lc} {st : List Value} {h : Hp} : ex (d) 182 17 L st h = ex d 182 19 L (.int (nI 10) :: st) h := (ex_of d182_17 (d) L st h).trans (rfl)
theorem d182_19 : decode (mB 182) 19 = .ok (.invokevirtual 109, 3) := by decide +kernel
theorem x182_19 {d : Nat} {L : Lc} {a : Nat} {v0 : Int32} {h : Hp} (ht : (h.2.1 a).1 = 11) : ex (d + 1) 182 19 L (.int v0 :: .ref a :: []) h = bnd (ex d 135 0 [some (.ref a), some (.int v0)] [] h) (fun v h' => ex (d + 1) 182 22 L (v.toList ++ []) h') := (ex_of d182_19 (d + 1) L (.int v0 :: .ref a :: []) h).trans (fin_vi (mi := 182) i11_109 ht rfl rfl (by simp [cat1_i, cat1_r]) (by simp) (Nat.le_of_ble_eq_true rfl))
theorem d182_22 : decode (mB 182) 22 = .ok (.goto 29, 3) := by decide +kernel
theorem x182_22 {d : Nat} {L : Lc} {st : List Value} {h : Hp} : ex (d) 182 22 L st h = ex d 182 51 L st h := (ex_of d182_22 (d) L st h).trans (rfl)
theorem d182_25 : decode (mB 182) 25 = .ok (.aload_n 0, 1) := by decide +kernel
theorem x182_25 {d : Nat} {l1 l2 : Option Value} {st : List Value} {a : Nat} {h : Hp} : ex (d) 182 25 [some (.ref a), l1, l2] st h = ex d 182 26 [some (.ref a), l1, l2] (.ref a :: st) h := (ex_of d182_25 (d) [some (.ref a), l1, l2] st h).trans (rfl)
theorem d182_26 : decode (mB 182) 26 = .ok (.iload_n 2, 1) := by decide +kernel
theorem x182_26 {d : Nat} {l0 l1 : Option Value} {st : List Value} {x : Int32} {h : Hp} : ex (d) 182 26 [l0, l1, some (.int x)] st h = ex d 182 27 [l0, l1, some (.int x)] (.int x :: st) h := (ex_of d182_26 (d) [l0, l1, some (.int x)] st h).trans (rfl)
theorem d182_27 : decode (mB 182) 27 = .ok (.invokevirtual 212, 3) := by decide +kernel
theorem x182_27 {d : Nat} {L : Lc} {a : Nat} {v0 : Int32} {h : Hp} (ht : (h.2.1 a).1 = 11) : ex (d + 1) 182 27 L (.int v0 :: .ref a :: []) h = bnd (ex d 139 0 [some (.ref a), some (.int v0)] [] h) (fun v h' => ex (d + 1) 182 30 L (v.toList ++ []) h') := (ex_of d182_27 (d + 1) L (.int v0 :: .ref a :: []) h).trans (fin_vi (mi := 182) i11_212 ht rfl rfl (by simp [cat1_i, cat1_r]) (by simp) (Nat.le_of_ble_eq_true rfl))
theorem d182_30 : decode (mB 182) 30 = .ok (.ifCond .ne 11, 3) := by decide +kernel
theorem x182_30 {d : Nat} {L : Lc} {st : List Value} {x : Int32} {h : Hp} : ex (d) 182 30 L (.int x :: st) h = if ¬ x = 0 then ex d 182 41 L st h else ex d 182 33 L st h := (ex_of d182_30 (d) L (.int x :: st) h).trans (fin_brq (off := 11) (tgt := 41) rfl (by decide))
theorem d182_33 : decode (mB 182) 33 = .ok (.aload_n 0, 1) := by decide +kernel
theorem x182_33 {d : Nat} {l1 l2 : Option Value} {st : List Value} {a : Nat} {h : Hp} : ex (d) 182 33 [some (.ref a), l1, l2] st h = ex d 182 34 [some (.ref a), l1, l2] (.ref a :: st) h := (ex_of d182_33 (d) [some (.ref a), l1, l2] st h).trans (rfl)
theorem d182_34 : decode (mB 182) 34 = .ok (.iconst 4, 1) := by decide +kernel
theorem x182_34 {d : Nat} {L : Lc} {st : List Value} {h : Hp} : ex (d) 182 34 L st h = ex d 182 35 L (.int (nI 4) :: st) h := (ex_of d182_34 (d) L st h).trans (rfl)
theorem d182_35 : decode (mB 182) 35 = .ok (.invokevirtual 109, 3) := by decide +kernel
theorem x182_35 {d : Nat} {L : Lc} {a : Nat} {v0 : Int32} {h : Hp} (ht : (h.2.1 a).1 = 11) : ex (d + 1) 182 35 L (.int v0 :: .ref a :: []) h = bnd (ex d 135 0 [some (.ref a), some (.int v0)] [] h) (fun v h' => ex (d + 1) 182 38 L (v.toList ++ []) h') := (ex_of d182_35 (d + 1) L (.int v0 :: .ref a :: []) h).trans (fin_vi (mi := 182) i11_109 ht rfl rfl (by simp [cat1_i, cat1_r]) (by simp) (Nat.le_of_ble_eq_true rfl))
theorem d182_38 : decode (mB 182) 38 = .ok (.goto 13, 3) := by decide +kernel
theorem x182_38 {d : Nat} {L : Lc} {st : List Value} {h : Hp} : ex (d) 182 38 L st h = ex d 182 51 L st h := (ex_of d182_38 (d) L st h).trans (rfl)
theorem d182_41 : decode (mB 182) 41 = .ok (.aload_n 0, 1) := by decide +kernel
theorem x182_41 {d : Nat} {l1 l2 : Option Value} {st : List Value} {a : Nat} {h : Hp} : ex (d) 182 41 [some (.ref a), l1, l2] st h = ex d 182 42 [some (.ref a), l1, l2] (.ref a :: st) h := (ex_of d182_41 (d) [some (.ref a), l1, l2] st h).trans (rfl)
theorem d182_42 : decode (mB 182) 42 = .ok (.aload_n 0, 1) := by decide +kernel
theorem x182_42 {d : Nat} {l1 l2 : Option Value} {st : List Value} {a : Nat} {h : Hp} : ex (d) 182 42 [some (.ref a), l1, l2] st h = ex d 182 43 [some (.ref a), l1, l2] (.ref a :: st) h := (ex_of d182_42 (d) [some (.ref a), l1, l2] st h).trans (rfl)
theorem d182_43 : decode (mB 182) 43 = .ok (.iload_n 1, 1) := by decide +kernel
theorem x182_43 {d : Nat} {l0 l2 : Option Value} {st : List Value} {x : Int32} {h : Hp} : ex (d) 182 43 [l0, some (.int x), l2] st h = ex d 182 44 [l0, some (.int x), l2] (.int x :: st) h := (ex_of d182_43 (d) [l0, some (.int x), l2] st h).trans (rfl)
theorem d182_44 : decode (mB 182) 44 = .ok (.iload_n 2, 1) := by decide +kernel
theorem x182_44 {d : Nat} {l0 l1 : Option Value} {st : List Value} {x : Int32} {h : Hp} : ex (d) 182 44 [l0, l1, some (.int x)] st h = ex d 182 45 [l0, l1, some (.int x)] (.int x :: st) h := (ex_of d182_44 (d) [l0, l1, some (.int x)] st h).trans (rfl)
theorem d182_45 : decode (mB 182) 45 = .ok (.invokevirtual 203, 3) := by decide +kernel
theorem x182_45 {d : Nat} {L : Lc} {s0 : Value} {a : Nat} {v0 : Int32} {v1 : Int32} {h : Hp} (ht : (h.2.1 a).1 = 11) : ex (d + 1) 182 45 L (.int v1 :: .int v0 :: .ref a :: [s0]) h = bnd (ex d 179 0 [some (.ref a), some (.int v0), some (.int v1), none, none, none, none] [] h) (fun v h' => ex (d + 1) 182 48 L (v.toList ++ [s0]) h') := (ex_of d182_45 (d + 1) L (.int v1 :: .int v0 :: .ref a :: [s0]) h).trans (fin_vi (mi := 182) i11_203 ht rfl rfl (by simp [cat1_i, cat1_r]) (by simp) (Nat.le_of_ble_eq_true rfl))
theorem d182_48 : decode (mB 182) 48 = .ok (.invokevirtual 113, 3) := by decide +kernel
theorem x182_48 {d : Nat} {L : Lc} {a : Nat} {v0 : Int32} {h : Hp} (ht : (h.2.1 a).1 = 11) : ex (d + 1) 182 48 L (.int v0 :: .ref a :: []) h = bnd (ex d 134 0 [some (.ref a), some (.int v0)] [] h) (fun v h' => ex (d + 1) 182 51 L (v.toList ++ []) h') := (ex_of d182_48 (d + 1) L (.int v0 :: .ref a :: []) h).trans (fin_vi (mi := 182) i11_113 ht rfl rfl (by simp [cat1_i, cat1_r]) (by simp) (Nat.le_of_ble_eq_true rfl))
theorem d182_51 : decode (mB 182) 51 = .ok (.ireturn, 1) := by decide +kernel
theorem x182_51 {d : Nat} {L : Lc} {x : Int32} {h : Hp} : ex (d) 182 51 L [.int x] h = some (some (.int x), h) := (ex_of d182_51 (d) L [.int x] h).trans (rfl)
theorem d183_0 : decode (mB 183) 0 = .ok (.aload_n 0, 1) := by decide +kernel
theorem x183_0 {d : Nat} {l1 l2 : Option Value} {st : List Value} {a : Nat} {h : Hp} : ex (d) 183 0 [some (.ref a), l1, l2] st h = ex d 183 1 [some (.ref a), l1, l2] (.ref a :: st) h := (ex_of d183_0 (d) [some (.ref a), l1, l2] st h).trans (rfl)
theorem d183_1 : decode (mB 183) 1 = .ok (.iload_n 1, 1) := by decide +kernel
theorem x183_1 {d : Nat} {l0 l2 : Option Value} {st : List Value} {x : Int32} {h : Hp} : ex (d) 183 1 [l0, some (.int x), l2] st h = ex d 183 2 [l0, some (.int x), l2] (.int x :: st) h := (ex_of d183_1 (d) [l0, some (.int x), l2] st h).trans (rfl)
theorem d183_2 : decode (mB 183) 2 = .ok (.invokevirtual 191, 3) := by decide +kernel
theorem x183_2 {d : Nat} {L : Lc} {a : Nat} {v0 : Int32} {h : Hp} (ht : (h.2.1 a).1 = 11) : ex (d + 1) 183 2 L (.int v0 :: .ref a :: []) h = bnd (ex d 173 0 [some (.ref a), some (.int v0)] [] h) (fun v h' => ex (d + 1) 183 5 L (v.toList ++ []) h') := (ex_of d183_2 (d + 1) L (.int v0 :: .ref a :: []) h).trans (fin_vi (mi := 183) i11_191 ht rfl rfl (by simp [cat1_i, cat1_r]) (by simp) (Nat.le_of_ble_eq_true rfl))
theorem d183_5 : decode (mB 183) 5 = .ok (.ifCond .eq 11, 3) := by decide +kernel
theorem x183_5 {d : Nat} {L : Lc} {st : List Value} {x : Int32} {h : Hp} : ex (d) 183 5 L (.int x :: st) h = if x = 0 then ex d 183 16 L st h else ex d 183 8 L st h := (ex_of d183_5 (d) L (.int x :: st) h).trans (fin_brq (off := 11) (tgt := 16) rfl (by decide))
theorem d183_8 : decode (mB 183) 8 = .ok (.aload_n 0, 1) := by decide +kernel
theorem x183_8 {d : Nat} {l1 l2 : Option Value} {st : List Value} {a : Nat} {h : Hp} : ex (d) 183 8 [some (.ref a), l1, l2] st h = ex d 183 9 [some (.ref a), l1, l2] (.ref a :: st) h := (ex_of d183_8 (d) [some (.ref a), l1, l2] st h).trans (rfl)
theorem d183_9 : decode (mB 183) 9 = .ok (.iload_n 2, 1) := by decide +kernel
theorem x183_9 {d : Nat} {l0 l1 : Option Value} {st : List Value} {x : Int32} {h : Hp} : ex (d) 183 9 [l0, l1, some (.int x)] st h = ex d 183 10 [l0, l1, some (.int x)] (.int x :: st) h := (ex_of d183_9 (d) [l0, l1, some (.int x)] st h).trans (rfl)
theorem d183_10 : decode (mB 183) 10 = .ok (.invokevirtual 105, 3) := by decide +kernel
theorem x183_10 {d : Nat} {L : Lc} {a : Nat} {v0 : Int32} {h : Hp} (ht : (h.2.1 a).1 = 11) : ex (d + 1) 183 10 L (.int v0 :: .ref a :: []) h = bnd (ex d 136 0 [some (.ref a), some (.int v0)] [] h) (fun v h' => ex (d + 1) 183 13 L (v.toList ++ []) h') := (ex_of d183_10 (d + 1) L (.int v0 :: .ref a :: []) h).trans (fin_vi (mi := 183) i11_105 ht rfl rfl (by simp [cat1_i, cat1_r]) (by simp) (Nat.le_of_ble_eq_true rfl))
theorem d183_13 : decode (mB 183) 13 = .ok (.ifCond .ne 10, 3) := by decide +kernel
theorem x183_13 {d : Nat} {L : Lc} {st : List Value} {x : Int32} {h : Hp} : ex (d) 183 13 L (.int x :: st) h = if ¬ x = 0 then ex d 183 23 L st h else ex d 183 16 L st h := (ex_of d183_13 (d) L (.int x :: st) h).trans (fin_brq (off := 10) (tgt := 23) rfl (by decide))
theorem d183_16 : decode (mB 183) 16 = .ok (.aload_n 0, 1) := by decide +kernel
theorem x183_16 {d : Nat} {l1 l2 : Option Value} {st : List Value} {a : Nat} {h : Hp} : ex (d) 183 16 [some (.ref a), l1, l2] st h = ex d 183 17 [some (.ref a), l1, l2] (.ref a :: st) h := (ex_of d183_16 (d) [some (.ref a), l1, l2] st h).trans (rfl)
theorem d183_17 : decode (mB 183) 17 = .ok (.bipush 10, 2) := by decide +kernel
theorem x183_17 {d : Nat} {L : Lc} {st : List Value} {h : Hp} : ex (d) 183 17 L st h = ex d 183 19 L (.int (nI 10) :: st) h := (ex_of d183_17 (d) L st h).trans (rfl)
theorem d183_19 : decode (mB 183) 19 = .ok (.invokevirtual 109, 3) := by decide +kernel
theorem x183_19 {d : Nat} {L : Lc} {a : Nat} {v0 : Int32} {h : Hp} (ht : (h.2.1 a).1 = 11) : ex (d + 1) 183 19 L (.int v0 :: .ref a :: []) h = bnd (ex d 135 0 [some (.ref a), some (.int v0)] [] h) (fun v h' => ex (d + 1) 183 22 L (v.toList ++ []) h') := (ex_of d183_19 (d + 1) L (.int v0 :: .ref a :: []) h).trans (fin_vi (mi := 183) i11_109 ht rfl rfl (by simp [cat1_i, cat1_r]) (by simp) (Nat.le_of_ble_eq_true rfl))
theorem d183_22 : decode (mB 183) 22 = .ok (.ireturn, 1) := by decide +kernel
theorem x183_22 {d : Nat} {L : Lc} {x : Int32} {h : Hp} : ex (d) 183 22 L [.int x] h = some (some (.int x), h) := (ex_of d183_22 (d) L [.int x] h).trans (rfl)
theorem d183_23 : decode (mB 183) 23 = .ok (.aload_n 0, 1) := by decide +kernel
theorem x183_23 {d : Nat} {l1 l2 : Option Value} {st : List Value} {a : Nat} {h : Hp} : ex (d) 183 23 [some (.ref a), l1, l2] st h = ex d 183 24 [some (.ref a), l1, l2] (.ref a :: st) h := (ex_of d183_23 (d) [some (.ref a), l1, l2] st h).trans (rfl)
theorem d183_24 : decode (mB 183) 24 = .ok (.iload_n 2, 1) := by decide +kernel
theorem x183_24 {d : Nat} {l0 l1 : Option Value} {st : List Value} {x : Int32} {h : Hp} : ex (d) 183 24 [l0, l1, some (.int x)] st h = ex d 183 25 [l0, l1, some (.int x)] (.int x :: st) h := (ex_of d183_24 (d) [l0, l1, some (.int x)] st h).trans (rfl)
theorem d183_25 : decode (mB 183) 25 = .ok (.invokevirtual 212, 3) := by decide +kernel
theorem x183_25 {d : Nat} {L : Lc} {a : Nat} {v0 : Int32} {h : Hp} (ht : (h.2.1 a).1 = 11) : ex (d + 1) 183 25 L (.int v0 :: .ref a :: []) h = bnd (ex d 139 0 [some (.ref a), some (.int v0)] [] h) (fun v h' => ex (d + 1) 183 28 L (v.toList ++ []) h') := (ex_of d183_25 (d + 1) L (.int v0 :: .ref a :: []) h).trans (fin_vi (mi := 183) i11_212 ht rfl rfl (by simp [cat1_i, cat1_r]) (by simp) (Nat.le_of_ble_eq_true rfl))
theorem d183_28 : decode (mB 183) 28 = .ok (.ifCond .ne 9, 3) := by decide +kernel
theorem x183_28 {d : Nat} {L : Lc} {st : List Value} {x : Int32} {h : Hp} : ex (d) 183 28 L (.int x :: st) h = if ¬ x = 0 then ex d 183 37 L st h else ex d 183 31 L st h := (ex_of d183_28 (d) L (.int x :: st) h).trans (fin_brq (off := 9) (tgt := 37) rfl (by decide))
theorem d183_31 : decode (mB 183) 31 = .ok (.aload_n 0, 1) := by decide +kernel
theorem x183_31 {d : Nat} {l1 l2 : Option Value} {st : List Value} {a : Nat} {h : Hp} : ex (d) 183 31 [some (.ref a), l1, l2] st h = ex d 183 32 [some (.ref a), l1, l2] (.ref a :: st) h := (ex_of d183_31 (d) [some (.ref a), l1, l2] st h).trans (rfl)
theorem d183_32 : decode (mB 183) 32 = .ok (.iconst 4, 1) := by decide +kernel
theorem x183_32 {d : Nat} {L : Lc} {st : List Value} {h : Hp} : ex (d) 183 32 L st h = ex d 183 33 L (.int (nI 4) :: st) h := (ex_of d183_32 (d) L st h).trans (rfl)
theorem d183_33 : decode (mB 183) 33 = .ok (.invokevirtual 109, 3) := by decide +kernel
theorem x183_33 {d : Nat} {L : Lc} {a : Nat} {v0 : Int32} {h : Hp} (ht : (h.2.1 a).1 = 11) : ex (d + 1) 183 33 L (.int v0 :: .ref a :: []) h = bnd (ex d 135 0 [some (.ref a), some (.int v0)] [] h) (fun v h' => ex (d + 1) 183 36 L (v.toList ++ []) h') := (ex_of d183_33 (d + 1) L (.int v0 :: .ref a :: []) h).trans (fin_vi (mi := 183) i11_109 ht rfl rfl (by simp [cat1_i, cat1_r]) (by simp) (Nat.le_of_ble_eq_true rfl))
theorem d183_36 : decode (mB 183) 36 = .ok (.ireturn, 1) := by decide +kernel
theorem x183_36 {d : Nat} {L : Lc} {x : Int32} {h : Hp} : ex (d) 183 36 L [.int x] h = some (some (.int x), h) := (ex_of d183_36 (d) L [.int x] h).trans (rfl)
theorem d183_37 : decode (mB 183) 37 = .ok (.aload_n 0, 1) := by decide +kernel
theorem x183_37 {d : Nat} {l1 l2 : Option Value} {st : List Value} {a : Nat} {h : Hp} : ex (d) 183 37 [some (.ref a), l1, l2] st h = ex d 183 38 [some (.ref a), l1, l2] (.ref a :: st) h := (ex_of d183_37 (d) [some (.ref a), l1, l2] st h).trans (rfl)
theorem d183_38 : decode (mB 183) 38 = .ok (.iload_n 1, 1) := by decide +kernel
theorem x183_38 {d : Nat} {l0 l2 : Option Value} {st : List Value} {x : Int32} {h : Hp} : ex (d) 183 38 [l0, some (.int x), l2] st h = ex d 183 39 [l0, some (.int x), l2] (.int x :: st) h := (ex_of d183_38 (d) [l0, some (.int x), l2] st h).trans (rfl)
theorem d183_39 : decode (mB 183) 39 = .ok (.iload_n 2, 1) := by decide +kernel
theorem x183_39 {d : Nat} {l0 l1 : Option Value} {st : List Value} {x : Int32} {h : Hp} : ex (d) 183 39 [l0, l1, some (.int x)] st h = ex d 183 40 [l0, l1, some (.int x)] (.int x :: st) h := (ex_of d183_39 (d) [l0, l1, some (.int x)] st h).trans (rfl)
theorem d183_40 : decode (mB 183) 40 = .ok (.invokevirtual 203, 3) := by decide +kernel
theorem x183_40 {d : Nat} {L : Lc} {a : Nat} {v0 : Int32} {v1 : Int32} {h : Hp} (ht : (h.2.1 a).1 = 11) : ex (d + 1) 183 40 L (.int v1 :: .int v0 :: .ref a :: []) h = bnd (ex d 179 0 [some (.ref a), some (.int v0), some (.int v1), none, none, none, none] [] h) (fun v h' => ex (d + 1) 183 43 L (v.toList ++ []) h') := (ex_of d183_40 (d + 1) L (.int v1 :: .int v0 :: .ref a :: []) h).trans (fin_vi (mi := 183) i11_203 ht rfl rfl (by simp [cat1_i, cat1_r]) (by simp) (Nat.le_of_ble_eq_true rfl))
theorem d183_43 : decode (mB 183) 43 = .ok (.iconst 1, 1) := by decide +kernel
theorem x183_43 {d : Nat} {L : Lc} {st : List Value} {h : Hp} : ex (d) 183 43 L st h = ex d 183 44 L (.int (nI 1) :: st) h := (ex_of d183_43 (d) L st h).trans (rfl)
theorem d183_44 : decode (mB 183) 44 = .ok (.if_icmp .eq 12, 3) := by decide +kernel
theorem x183_44 {d : Nat} {L : Lc} {st : List Value} {x y : Int32} {h : Hp} : ex (d) 183 44 L (.int y :: .int x :: st) h = if x = y then ex d 183 56 L st h else ex d 183 47 L st h := (ex_of d183_44 (d) L (.int y :: .int x :: st) h).trans (fin_brq (off := 12) (tgt := 56) rfl (by decide))
theorem d183_47 : decode (mB 183) 47 = .ok (.aload_n 0, 1) := by decide +kernel
theorem x183_47 {d : Nat} {l1 l2 : Option Value} {st : List Value} {a : Nat} {h : Hp} : ex (d) 183 47 [some (.ref a), l1, l2] st h = ex d 183 48 [some (.ref a), l1, l2] (.ref a :: st) h := (ex_of d183_47 (d) [some (.ref a), l1, l2] st h).trans (rfl)
theorem d183_48 : decode (mB 183) 48 = .ok (.bipush 12, 2) := by decide +kernel
theorem x183_48 {d : Nat} {L : Lc} {st : List Value} {h : Hp} : ex (d) 183 48 L st h = ex d 183 50 L (.int (nI 12) :: st) h := (ex_of d183_48 (d) L st h).trans (rfl)
theorem d183_50 : decode (mB 183) 50 = .ok (.invokevirtual 109, 3) := by decide +kernel
theorem x183_50 {d : Nat} {L : Lc} {a : Nat} {v0 : Int32} {h : Hp} (ht : (h.2.1 a).1 = 11) : ex (d + 1) 183 50 L (.int v0 :: .ref a :: []) h = bnd (ex d 135 0 [some (.ref a), some (.int v0)] [] h) (fun v h' => ex (d + 1) 183 53 L (v.toList ++ []) h') := (ex_of d183_50 (d + 1) L (.int v0 :: .ref a :: []) h).trans (fin_vi (mi := 183) i11_109 ht rfl rfl (by simp [cat1_i, cat1_r]) (by simp) (Nat.le_of_ble_eq_true rfl))
theorem d183_53 : decode (mB 183) 53 = .ok (.goto 13, 3) := by decide +kernel
theorem x183_53 {d : Nat} {L : Lc} {st : List Value} {h : Hp} : ex (d) 183 53 L st h = ex d 183 66 L st h := (ex_of d183_53 (d) L st h).trans (rfl)
theorem d183_56 : decode (mB 183) 56 = .ok (.aload_n 0, 1) := by decide +kernel
theorem x183_56 {d : Nat} {l1 l2 : Option Value} {st : List Value} {a : Nat} {h : Hp} : ex (d) 183 56 [some (.ref a), l1, l2] st h = ex d 183 57 [some (.ref a), l1, l2] (.ref a :: st) h := (ex_of d183_56 (d) [some (.ref a), l1, l2] st h).trans (rfl)
theorem d183_57 : decode (mB 183) 57 = .ok (.aload_n 0, 1) := by decide +kernel
theorem x183_57 {d : Nat} {l1 l2 : Option Value} {st : List Value} {a : Nat} {h : Hp} : ex (d) 183 57 [some (.ref a), l1, l2] st h = ex d 183 58 [some (.ref a), l1, l2] (.ref a :: st) h := (ex_of d183_57 (d) [some (.ref a), l1, l2] st h).trans (rfl)
theorem d183_58 : decode (mB 183) 58 = .ok (.iload_n 1, 1) := by decide +kernel
theorem x183_58 {d : Nat} {l0 l2 : Option Value} {st : List Value} {x : Int32} {h : Hp} : ex (d) 183 58 [l0, some (.int x), l2] st h = ex d 183 59 [l0, some (.int x), l2] (.int x :: st) h := (ex_of d183_58 (d) [l0, some (.int x), l2] st h).trans (rfl)
theorem d183_59 : decode (mB 183) 59 = .ok (.iload_n 2, 1) := by decide +kernel
theorem x183_59 {d : Nat} {l0 l1 : Option Value} {st : List Value} {x : Int32} {h : Hp} : ex (d) 183 59 [l0, l1, some (.int x)] st h = ex d 183 60 [l0, l1, some (.int x)] (.int x :: st) h := (ex_of d183_59 (d) [l0, l1, some (.int x)] st h).trans (rfl)
theorem d183_60 : decode (mB 183) 60 = .ok (.invokevirtual 206, 3) := by decide +kernel
theorem x183_60 {d : Nat} {L : Lc} {s0 : Value} {a : Nat} {v0 : Int32} {v1 : Int32} {h : Hp} (ht : (h.2.1 a).1 = 11) : ex (d + 1) 183 60 L (.int v1 :: .int v0 :: .ref a :: [s0]) h = bnd (ex d 180 0 [some (.ref a), some (.int v0), some (.int v1), none, none, none] [] h) (fun v h' => ex (d + 1) 183 63 L (v.toList ++ [s0]) h') := (ex_of d183_60 (d + 1) L (.int v1 :: .int v0 :: .ref a :: [s0]) h).trans (fin_vi (mi := 183) i11_206 ht rfl rfl (by simp [cat1_i, cat1_r]) (by simp) (Nat.le_of_ble_eq_true rfl))
theorem d183_63 : decode (mB 183) 63 = .ok (.invokevirtual 113, 3) := by decide +kernel
theorem x183_63 {d : Nat} {L : Lc} {a : Nat} {v0 : Int32} {h : Hp} (ht : (h.2.1 a).1 = 11) : ex (d + 1) 183 63 L (.int v0 :: .ref a :: []) h = bnd (ex d 134 0 [some (.ref a), some (.int v0)] [] h) (fun v h' => ex (d + 1) 183 66 L (v.toList ++ []) h') := (ex_of d183_63 (d + 1) L (.int v0 :: .ref a :: []) h).trans (fin_vi (mi := 183) i11_113 ht rfl rfl (by simp [cat1_i, cat1_r]) (by simp) (Nat.le_of_ble_eq_true rfl))
theorem d183_66 : decode (mB 183) 66 = .ok (.ireturn, 1) := by decide +kernel
theorem x183_66 {d : Nat} {L : Lc} {x : Int32} {h : Hp} : ex (d) 183 66 L [.int x] h = some (some (.int x), h) := (ex_of d183_66 (d) L [.int x] h).trans (rfl)
theorem d184_0 : decode (mB 184) 0 = .ok (.aload_n 0, 1) := by decide +kernel
theorem x184_0 {d : Nat} {l1 : Option Value} {st : List Value} {a : Nat} {h : Hp} : ex (d) 184 0 [some (.ref a), l1] st h = ex d 184 1 [some (.ref a), l1] (.ref a :: st) h := (ex_of d184_0 (d) [some (.ref a), l1] st h).trans (rfl)
theorem d184_1 : decode (mB 184) 1 = .ok (.iload_n 1, 1) := by decide +kernel
theorem x184_1 {d : Nat} {l0 : Option Value} {st : List Value} {x : Int32} {h : Hp} : ex (d) 184 1 [l0, some (.int x)] st h = ex d 184 2 [l0, some (.int x)] (.int x :: st) h := (ex_of d184_1 (d) [l0, some (.int x)] st h).trans (rfl)
theorem d184_2 : decode (mB 184) 2 = .ok (.invokevirtual 105, 3) := by decide +kernel
theorem x184_2 {d : Nat} {L : Lc} {a : Nat} {v0 : Int32} {h : Hp} (ht : (h.2.1 a).1 = 11) : ex (d + 1) 184 2 L (.int v0 :: .ref a :: []) h = bnd (ex d 136 0 [some (.ref a), some (.int v0)] [] h) (fun v h' => ex (d + 1) 184 5 L (v.toList ++ []) h') := (ex_of d184_2 (d + 1) L (.int v0 :: .ref a :: []) h).trans (fin_vi (mi := 184) i11_105 ht rfl rfl (by simp [cat1_i, cat1_r]) (by simp) (Nat.le_of_ble_eq_true rfl))
theorem d184_5 : decode (mB 184) 5 = .ok (.ifCond .ne 12, 3) := by decide +kernel
theorem x184_5 {d : Nat} {L : Lc} {st : List Value} {x : Int32} {h : Hp} : ex (d) 184 5 L (.int x :: st) h = if ¬ x = 0 then ex d 184 17 L st h else ex d 184 8 L st h := (ex_of d184_5 (d) L (.int x :: st) h).trans (fin_brq (off := 12) (tgt := 17) rfl (by decide))
theorem d184_8 : decode (mB 184) 8 = .ok (.aload_n 0, 1) := by decide +kernel
theorem x184_8 {d : Nat} {l1 : Option Value} {st : List Value} {a : Nat} {h : Hp} : ex (d) 184 8 [some (.ref a), l1] st h = ex d 184 9 [some (.ref a), l1] (.ref a :: st) h := (ex_of d184_8 (d) [some (.ref a), l1] st h).trans (rfl)
theorem d184_9 : decode (mB 184) 9 = .ok (.bipush 10, 2) := by decide +kernel
theorem x184_9 {d : Nat} {L : Lc} {st : List Value} {h : Hp} : ex (d) 184 9 L st h = ex d 184 11 L (.int (nI 10) :: st) h := (ex_of d184_9 (d) L st h).trans (rfl)
theorem d184_11 : decode (mB 184) 11 = .ok (.invokevirtual 109, 3) := by decide +kernel
theorem x184_11 {d : Nat} {L : Lc} {a : Nat} {v0 : Int32} {h : Hp} (ht : (h.2.1 a).1 = 11) : ex (d + 1) 184 11 L (.int v0 :: .ref a :: []) h = bnd (ex d 135 0 [some (.ref a), some (.int v0)] [] h) (fun v h' => ex (d + 1) 184 14 L (v.toList ++ []) h') := (ex_of d184_11 (d + 1) L (.int v0 :: .ref a :: []) h).trans (fin_vi (mi := 184) i11_109 ht rfl rfl (by simp [cat1_i, cat1_r]) (by simp) (Nat.le_of_ble_eq_true rfl))
theorem d184_14 : decode (mB 184) 14 = .ok (.goto 28, 3) := by decide +kernel
theorem x184_14 {d : Nat} {L : Lc} {st : List Value} {h : Hp} : ex (d) 184 14 L st h = ex d 184 42 L st h := (ex_of d184_14 (d) L st h).trans (rfl)
theorem d184_17 : decode (mB 184) 17 = .ok (.aload_n 0, 1) := by decide +kernel
theorem x184_17 {d : Nat} {l1 : Option Value} {st : List Value} {a : Nat} {h : Hp} : ex (d) 184 17 [some (.ref a), l1] st h = ex d 184 18 [some (.ref a), l1] (.ref a :: st) h := (ex_of d184_17 (d) [some (.ref a), l1] st h).trans (rfl)
theorem d184_18 : decode (mB 184) 18 = .ok (.iload_n 1, 1) := by decide +kernel
theorem x184_18 {d : Nat} {l0 : Option Value} {st : List Value} {x : Int32} {h : Hp} : ex (d) 184 18 [l0, some (.int x)] st h = ex d 184 19 [l0, some (.int x)] (.int x :: st) h := (ex_of d184_18 (d) [l0, some (.int x)] st h).trans (rfl)
theorem d184_19 : decode (mB 184) 19 = .ok (.invokevirtual 212, 3) := by decide +kernel
theorem x184_19 {d : Nat} {L : Lc} {a : Nat} {v0 : Int32} {h : Hp} (ht : (h.2.1 a).1 = 11) : ex (d + 1) 184 19 L (.int v0 :: .ref a :: []) h = bnd (ex d 139 0 [some (.ref a), some (.int v0)] [] h) (fun v h' => ex (d + 1) 184 22 L (v.toList ++ []) h') := (ex_of d184_19 (d + 1) L (.int v0 :: .ref a :: []) h).trans (fin_vi (mi := 184) i11_212 ht rfl rfl (by simp [cat1_i, cat1_r]) (by simp) (Nat.le_of_ble_eq_true rfl))
theorem d184_22 : decode (mB 184) 22 = .ok (.ifCond .ne 11, 3) := by decide +kernel
theorem x184_22 {d : Nat} {L : Lc} {st : List Value} {x : Int32} {h : Hp} : ex (d) 184 22 L (.int x :: st) h = if ¬ x = 0 then ex d 184 33 L st h else ex d 184 25 L st h := (ex_of d184_22 (d) L (.int x :: st) h).trans (fin_brq (off := 11) (tgt := 33) rfl (by decide))
theorem d184_25 : decode (mB 184) 25 = .ok (.aload_n 0, 1) := by decide +kernel
theorem x184_25 {d : Nat} {l1 : Option Value} {st : List Value} {a : Nat} {h : Hp} : ex (d) 184 25 [some (.ref a), l1] st h = ex d 184 26 [some (.ref a), l1] (.ref a :: st) h := (ex_of d184_25 (d) [some (.ref a), l1] st h).trans (rfl)
theorem d184_26 : decode (mB 184) 26 = .ok (.iconst 4, 1) := by decide +kernel
theorem x184_26 {d : Nat} {L : Lc} {st : List Value} {h : Hp} : ex (d) 184 26 L st h = ex d 184 27 L (.int (nI 4) :: st) h := (ex_of d184_26 (d) L st h).trans (rfl)
theorem d184_27 : decode (mB 184) 27 = .ok (.invokevirtual 109, 3) := by decide +kernel
theorem x184_27 {d : Nat} {L : Lc} {a : Nat} {v0 : Int32} {h : Hp} (ht : (h.2.1 a).1 = 11) : ex (d + 1) 184 27 L (.int v0 :: .ref a :: []) h = bnd (ex d 135 0 [some (.ref a), some (.int v0)] [] h) (fun v h' => ex (d + 1) 184 30 L (v.toList ++ []) h') := (ex_of d184_27 (d + 1) L (.int v0 :: .ref a :: []) h).trans (fin_vi (mi := 184) i11_109 ht rfl rfl (by simp [cat1_i, cat1_r]) (by simp) (Nat.le_of_ble_eq_true rfl))
theorem d184_30 : decode (mB 184) 30 = .ok (.goto 12, 3) := by decide +kernel
theorem x184_30 {d : Nat} {L : Lc} {st : List Value} {h : Hp} : ex (d) 184 30 L st h = ex d 184 42 L st h := (ex_of d184_30 (d) L st h).trans (rfl)
theorem d184_33 : decode (mB 184) 33 = .ok (.aload_n 0, 1) := by decide +kernel
theorem x184_33 {d : Nat} {l1 : Option Value} {st : List Value} {a : Nat} {h : Hp} : ex (d) 184 33 [some (.ref a), l1] st h = ex d 184 34 [some (.ref a), l1] (.ref a :: st) h := (ex_of d184_33 (d) [some (.ref a), l1] st h).trans (rfl)
theorem d184_34 : decode (mB 184) 34 = .ok (.aload_n 0, 1) := by decide +kernel
theorem x184_34 {d : Nat} {l1 : Option Value} {st : List Value} {a : Nat} {h : Hp} : ex (d) 184 34 [some (.ref a), l1] st h = ex d 184 35 [some (.ref a), l1] (.ref a :: st) h := (ex_of d184_34 (d) [some (.ref a), l1] st h).trans (rfl)
theorem d184_35 : decode (mB 184) 35 = .ok (.iload_n 1, 1) := by decide +kernel
theorem x184_35 {d : Nat} {l0 : Option Value} {st : List Value} {x : Int32} {h : Hp} : ex (d) 184 35 [l0, some (.int x)] st h = ex d 184 36 [l0, some (.int x)] (.int x :: st) h := (ex_of d184_35 (d) [l0, some (.int x)] st h).trans (rfl)
theorem d184_36 : decode (mB 184) 36 = .ok (.invokevirtual 209, 3) := by decide +kernel
theorem x184_36 {d : Nat} {L : Lc} {s0 : Value} {a : Nat} {v0 : Int32} {h : Hp} (ht : (h.2.1 a).1 = 11) : ex (d + 1) 184 36 L (.int v0 :: .ref a :: [s0]) h = bnd (ex d 181 0 [some (.ref a), some (.int v0), none, none] [] h) (fun v h' => ex (d + 1) 184 39 L (v.toList ++ [s0]) h') := (ex_of d184_36 (d + 1) L (.int v0 :: .ref a :: [s0]) h).trans (fin_vi (mi := 184) i11_209 ht rfl rfl (by simp [cat1_i, cat1_r]) (by simp) (Nat.le_of_ble_eq_true rfl))
theorem d184_39 : decode (mB 184) 39 = .ok (.invokevirtual 113, 3) := by decide +kernel
theorem x184_39 {d : Nat} {L : Lc} {a : Nat} {v0 : Int32} {h : Hp} (ht : (h.2.1 a).1 = 11) : ex (d + 1) 184 39 L (.int v0 :: .ref a :: []) h = bnd (ex d 134 0 [some (.ref a), some (.int v0)] [] h) (fun v h' => ex (d + 1) 184 42 L (v.toList ++ []) h') := (ex_of d184_39 (d + 1) L (.int v0 :: .ref a :: []) h).trans (fin_vi (mi := 184) i11_113 ht rfl rfl (by simp [cat1_i, cat1_r]) (by simp) (Nat.le_of_ble_eq_true rfl))
theorem d184_42 : decode (mB 184) 42 = .ok (.ireturn, 1) := by decide +kernel
theorem x184_42 {d : Nat} {L : Lc} {x : Int32} {h : Hp} : ex (d) 184 42 L [.int x] h = some (some (.int x), h) := (ex_of d184_42 (d) L [.int x] h).trans (rfl)
theorem d185_0 : decode (mB 185) 0 = .ok (.iload_n 0, 1) := by decide +kernel
theorem x185_0 {d : Nat} {st : List Value} {x : Int32} {h : Hp} : ex (d) 185 0 [some (.int x)] st h = ex d 185 1 [some (.int x)] (.int x :: st) h := (ex_of d185_0 (d) [some (.int x)] st h).trans (rfl)
theorem d185_1 : decode (mB 185) 1 = .ok (.ifCond .ne 7, 3) := by decide +kernel
theorem x185_1 {d : Nat} {L : Lc} {st : List Value} {x : Int32} {h : Hp} : ex (d) 185 1 L (.int x :: st) h = if ¬ x = 0 then ex d 185 8 L st h else ex d 185 4 L st h := (ex_of d185_1 (d) L (.int x :: st) h).trans (fin_brq (off := 7) (tgt := 8) rfl (by decide))
theorem d185_4 : decode (mB 185) 4 = .ok (.iconst 2, 1) := by decide +kernel
theorem x185_4 {d : Nat} {L : Lc} {st : List Value} {h : Hp} : ex (d) 185 4 L st h = ex d 185 5 L (.int (nI 2) :: st) h := (ex_of d185_4 (d) L st h).trans (rfl)
theorem d185_5 : decode (mB 185) 5 = .ok (.goto 23, 3) := by decide +kernel
theorem x185_5 {d : Nat} {L : Lc} {st : List Value} {h : Hp} : ex (d) 185 5 L st h = ex d 185 28 L st h := (ex_of d185_5 (d) L st h).trans (rfl)
theorem d185_8 : decode (mB 185) 8 = .ok (.iload_n 0, 1) := by decide +kernel
theorem x185_8 {d : Nat} {st : List Value} {x : Int32} {h : Hp} : ex (d) 185 8 [some (.int x)] st h = ex d 185 9 [some (.int x)] (.int x :: st) h := (ex_of d185_8 (d) [some (.int x)] st h).trans (rfl)
theorem d185_9 : decode (mB 185) 9 = .ok (.iconst 1, 1) := by decide +kernel
theorem x185_9 {d : Nat} {L : Lc} {st : List Value} {h : Hp} : ex (d) 185 9 L st h = ex d 185 10 L (.int (nI 1) :: st) h := (ex_of d185_9 (d) L st h).trans (rfl)
theorem d185_10 : decode (mB 185) 10 = .ok (.if_icmp .ne 7, 3) := by decide +kernel
theorem x185_10 {d : Nat} {L : Lc} {st : List Value} {x y : Int32} {h : Hp} : ex (d) 185 10 L (.int y :: .int x :: st) h = if ¬ x = y then ex d 185 17 L st h else ex d 185 13 L st h := (ex_of d185_10 (d) L (.int y :: .int x :: st) h).trans (fin_brq (off := 7) (tgt := 17) rfl (by decide))
theorem d185_13 : decode (mB 185) 13 = .ok (.iconst 5, 1) := by decide +kernel
theorem x185_13 {d : Nat} {L : Lc} {st : List Value} {h : Hp} : ex (d) 185 13 L st h = ex d 185 14 L (.int (nI 5) :: st) h := (ex_of d185_13 (d) L st h).trans (rfl)
theorem d185_14 : decode (mB 185) 14 = .ok (.goto 14, 3) := by decide +kernel
theorem x185_14 {d : Nat} {L : Lc} {st : List Value} {h : Hp} : ex (d) 185 14 L st h = ex d 185 28 L st h := (ex_of d185_14 (d) L st h).trans (rfl)
theorem d185_17 : decode (mB 185) 17 = .ok (.iload_n 0, 1) := by decide +kernel
theorem x185_17 {d : Nat} {st : List Value} {x : Int32} {h : Hp} : ex (d) 185 17 [some (.int x)] st h = ex d 185 18 [some (.int x)] (.int x :: st) h := (ex_of d185_17 (d) [some (.int x)] st h).trans (rfl)
theorem d185_18 : decode (mB 185) 18 = .ok (.iconst 2, 1) := by decide +kernel
theorem x185_18 {d : Nat} {L : Lc} {st : List Value} {h : Hp} : ex (d) 185 18 L st h = ex d 185 19 L (.int (nI 2) :: st) h := (ex_of d185_18 (d) L st h).trans (rfl)
theorem d185_19 : decode (mB 185) 19 = .ok (.if_icmp .ne 8, 3) := by decide +kernel
theorem x185_19 {d : Nat} {L : Lc} {st : List Value} {x y : Int32} {h : Hp} : ex (d) 185 19 L (.int y :: .int x :: st) h = if ¬ x = y then ex d 185 27 L st h else ex d 185 22 L st h := (ex_of d185_19 (d) L (.int y :: .int x :: st) h).trans (fin_brq (off := 8) (tgt := 27) rfl (by decide))
theorem d185_22 : decode (mB 185) 22 = .ok (.bipush 6, 2) := by decide +kernel
theorem x185_22 {d : Nat} {L : Lc} {st : List Value} {h : Hp} : ex (d) 185 22 L st h = ex d 185 24 L (.int (nI 6) :: st) h := (ex_of d185_22 (d) L st h).trans (rfl)
theorem d185_24 : decode (mB 185) 24 = .ok (.goto 4, 3) := by decide +kernel
theorem x185_24 {d : Nat} {L : Lc} {st : List Value} {h : Hp} : ex (d) 185 24 L st h = ex d 185 28 L st h := (ex_of d185_24 (d) L st h).trans (rfl)
theorem d185_27 : decode (mB 185) 27 = .ok (.iconst 0, 1) := by decide +kernel
theorem x185_27 {d : Nat} {L : Lc} {st : List Value} {h : Hp} : ex (d) 185 27 L st h = ex d 185 28 L (.int (nI 0) :: st) h := (ex_of d185_27 (d) L st h).trans (rfl)
theorem d185_28 : decode (mB 185) 28 = .ok (.ireturn, 1) := by decide +kernel
theorem x185_28 {d : Nat} {L : Lc} {x : Int32} {h : Hp} : ex (d) 185 28 L [.int x] h = some (some (.int x), h) := (ex_of d185_28 (d) L [.int x] h).trans (rfl)
theorem d186_0 : decode (mB 186) 0 = .ok (.aload_n 0, 1) := by decide +kernel
theorem x186_0 {d : Nat} {l1 l2 l3 l4 : Option Value} {st : List Value} {a : Nat} {h : Hp} : ex (d) 186 0 [some (.ref a), l1, l2, l3, l4] st h = ex d 186 1 [some (.ref a), l1, l2, l3, l4] (.ref a :: st) h := (ex_of d186_0 (d) [some (.ref a), l1, l2, l3, l4] st h).trans (rfl)
theorem d186_1 : decode (mB 186) 1 = .ok (.iload_n 1, 1) := by decide +kernel
theorem x186_1 {d : Nat} {l0 l2 l3 l4 : Option Value} {st : List Value} {x : Int32} {h : Hp} : ex (d) 186 1 [l0, some (.int x), l2, l3, l4] st h = ex d 186 2 [l0, some (.int x), l2, l3, l4] (.int x :: st) h := (ex_of d186_1 (d) [l0, some (.int x), l2, l3, l4] st h).trans (rfl)
theorem d186_2 : decode (mB 186) 2 = .ok (.invokevirtual 105, 3) := by decide +kernel
theorem x186_2 {d : Nat} {L : Lc} {a : Nat} {v0 : Int32} {h : Hp} (ht : (h.2.1 a).1 = 11) : ex (d + 1) 186 2 L (.int v0 :: .ref a :: []) h = bnd (ex d 136 0 [some (.ref a), some (.int v0)] [] h) (fun v h' => ex (d + 1) 186 5 L (v.toList ++ []) h') := (ex_of d186_2 (d + 1) L (.int v0 :: .ref a :: []) h).trans (fin_vi (mi := 186) i11_105 ht rfl rfl (by simp [cat1_i, cat1_r]) (by simp) (Nat.le_of_ble_eq_true rfl))
theorem d186_5 : decode (mB 186) 5 = .ok (.ifCond .ne 10, 3) := by decide +kernel
theorem x186_5 {d : Nat} {L : Lc} {st : List Value} {x : Int32} {h : Hp} : ex (d) 186 5 L (.int x :: st) h = if ¬ x = 0 then ex d 186 15 L st h else ex d 186 8 L st h := (ex_of d186_5 (d) L (.int x :: st) h).trans (fin_brq (off := 10) (tgt := 15) rfl (by decide))
theorem d186_8 : decode (mB 186) 8 = .ok (.aload_n 0, 1) := by decide +kernel
theorem x186_8 {d : Nat} {l1 l2 l3 l4 : Option Value} {st : List Value} {a : Nat} {h : Hp} : ex (d) 186 8 [some (.ref a), l1, l2, l3, l4] st h = ex d 186 9 [some (.ref a), l1, l2, l3, l4] (.ref a :: st) h := (ex_of d186_8 (d) [some (.ref a), l1, l2, l3, l4] st h).trans (rfl)
theorem d186_9 : decode (mB 186) 9 = .ok (.bipush 10, 2) := by decide +kernel
theorem x186_9 {d : Nat} {L : Lc} {st : List Value} {h : Hp} : ex (d) 186 9 L st h = ex d 186 11 L (.int (nI 10) :: st) h := (ex_of d186_9 (d) L st h).trans (rfl)
theorem d186_11 : decode (mB 186) 11 = .ok (.invokevirtual 109, 3) := by decide +kernel
theorem x186_11 {d : Nat} {L : Lc} {a : Nat} {v0 : Int32} {h : Hp} (ht : (h.2.1 a).1 = 11) : ex (d + 1) 186 11 L (.int v0 :: .ref a :: []) h = bnd (ex d 135 0 [some (.ref a), some (.int v0)] [] h) (fun v h' => ex (d + 1) 186 14 L (v.toList ++ []) h') := (ex_of d186_11 (d + 1) L (.int v0 :: .ref a :: []) h).trans (fin_vi (mi := 186) i11_109 ht rfl rfl (by simp [cat1_i, cat1_r]) (by simp) (Nat.le_of_ble_eq_true rfl))
theorem d186_14 : decode (mB 186) 14 = .ok (.ireturn, 1) := by decide +kernel
theorem x186_14 {d : Nat} {L : Lc} {x : Int32} {h : Hp} : ex (d) 186 14 L [.int x] h = some (some (.int x), h) := (ex_of d186_14 (d) L [.int x] h).trans (rfl)
theorem d186_15 : decode (mB 186) 15 = .ok (.aload_n 0, 1) := by decide +kernel
theorem x186_15 {d : Nat} {l1 l2 l3 l4 : Option Value} {st : List Value} {a : Nat} {h : Hp} : ex (d) 186 15 [some (.ref a), l1, l2, l3, l4] st h = ex d 186 16 [some (.ref a), l1, l2, l3, l4] (.ref a :: st) h := (ex_of d186_15 (d) [some (.ref a), l1, l2, l3, l4] st h).trans (rfl)
theorem d186_16 : decode (mB 186) 16 = .ok (.iload_n 1, 1) := by decide +kernel
theorem x186_16 {d : Nat} {l0 l2 l3 l4 : Option Value} {st : List Value} {x : Int32} {h : Hp} : ex (d) 186 16 [l0, some (.int x), l2, l3, l4] st h = ex d 186 17 [l0, some (.int x), l2, l3, l4] (.int x :: st) h := (ex_of d186_16 (d) [l0, some (.int x), l2, l3, l4] st h).trans (rfl)
theorem d186_17 : decode (mB 186) 17 = .ok (.invokevirtual 212, 3) := by decide +kernel
theorem x186_17 {d : Nat} {L : Lc} {a : Nat} {v0 : Int32} {h : Hp} (ht : (h.2.1 a).1 = 11) : ex (d + 1) 186 17 L (.int v0 :: .ref a :: []) h = bnd (ex d 139 0 [some (.ref a), some (.int v0)] [] h) (fun v h' => ex (d + 1) 186 20 L (v.toList ++ []) h') := (ex_of d186_17 (d + 1) L (.int v0 :: .ref a :: []) h).trans (fin_vi (mi := 186) i11_212 ht rfl rfl (by simp [cat1_i, cat1_r]) (by simp) (Nat.le_of_ble_eq_true rfl))
theorem d186_20 : decode (mB 186) 20 = .ok (.ifCond .eq 13, 3) := by decide +kernel
theorem x186_20 {d : Nat} {L : Lc} {st : List Value} {x : Int32} {h : Hp} : ex (d) 186 20 L (.int x :: st) h = if x = 0 then ex d 186 33 L st h else ex d 186 23 L st h := (ex_of d186_20 (d) L (.int x :: st) h).trans (fin_brq (off := 13) (tgt := 33) rfl (by decide))
theorem d186_23 : decode (mB 186) 23 = .ok (.aload_n 0, 1) := by decide +kernel
theorem x186_23 {d : Nat} {l1 l2 l3 l4 : Option Value} {st : List Value} {a : Nat} {h : Hp} : ex (d) 186 23 [some (.ref a), l1, l2, l3, l4] st h = ex d 186 24 [some (.ref a), l1, l2, l3, l4] (.ref a :: st) h := (ex_of d186_23 (d) [some (.ref a), l1, l2, l3, l4] st h).trans (rfl)
theorem d186_24 : decode (mB 186) 24 = .ok (.getfield 9, 3) := by decide +kernel
theorem x186_24 {d : Nat} {L : Lc} {st : List Value} {a : Nat} {h : Hp} (ht : (h.2.1 a).1 = 11) : ex (d) 186 24 L (.ref a :: st) h = ex d 186 27 L (h.1 a 2 :: st) h := (ex_of d186_24 (d) L (.ref a :: st) h).trans (fin_get (mi := 186) f11_9 (tg1 ht rfl))
theorem d186_27 : decode (mB 186) 27 = .ok (.iload_n 1, 1) := by decide +kernel
theorem x186_27 {d : Nat} {l0 l2 l3 l4 : Option Value} {st : List Value} {x : Int32} {h : Hp} : ex (d) 186 27 [l0, some (.int x), l2, l3, l4] st h = ex d 186 28 [l0, some (.int x), l2, l3, l4] (.int x :: st) h := (ex_of d186_27 (d) [l0, some (.int x), l2, l3, l4] st h).trans (rfl)
theorem d186_28 : decode (mB 186) 28 = .ok (.iaload, 1) := by decide +kernel
theorem x186_28 {d : Nat} {L : Lc} {st : List Value} {a j : Nat} {h : Hp} (ht : (h.2.1 a).1 = 20) (hj : j < (h.2.1 a).2) (hb : j < 2147483648) : ex (d) 186 28 L (.int (nI j) :: .ref a :: st) h = ex d 186 29 L (h.1 a j :: st) h := (ex_of d186_28 (d) L (.int (nI j) :: .ref a :: st) h).trans (fin_iaload (Or.inl ht) hj hb)
theorem d186_29 : decode (mB 186) 29 = .ok (.iconst 3, 1) := by decide +kernel
theorem x186_29 {d : Nat} {L : Lc} {st : List Value} {h : Hp} : ex (d) 186 29 L st h = ex d 186 30 L (.int (nI 3) :: st) h := (ex_of d186_29 (d) L st h).trans (rfl)
theorem d186_30 : decode (mB 186) 30 = .ok (.if_icmp .ne 9, 3) := by decide +kernel
theorem x186_30 {d : Nat} {L : Lc} {st : List Value} {x y : Int32} {h : Hp} : ex (d) 186 30 L (.int y :: .int x :: st) h = if ¬ x = y then ex d 186 39 L st h else ex d 186 33 L st h := (ex_of d186_30 (d) L (.int y :: .int x :: st) h).trans (fin_brq (off := 9) (tgt := 39) rfl (by decide))
theorem d186_33 : decode (mB 186) 33 = .ok (.aload_n 0, 1) := by decide +kernel
theorem x186_33 {d : Nat} {l1 l2 l3 l4 : Option Value} {st : List Value} {a : Nat} {h : Hp} : ex (d) 186 33 [some (.ref a), l1, l2, l3, l4] st h = ex d 186 34 [some (.ref a), l1, l2, l3, l4] (.ref a :: st) h := (ex_of d186_33 (d) [some (.ref a), l1, l2, l3, l4] st h).trans (rfl)
theorem d186_34 : decode (mB 186) 34 = .ok (.iconst 4, 1) := by decide +kernel
theorem x186_34 {d : Nat} {L : Lc} {st : List Value} {h : Hp} : ex (d) 186 34 L st h = ex d 186 35 L (.int (nI 4) :: st) h := (ex_of d186_34 (d) L st h).trans (rfl)
theorem d186_35 : decode (mB 186) 35 = .ok (.invokevirtual 109, 3) := by decide +kernel
theorem x186_35 {d : Nat} {L : Lc} {a : Nat} {v0 : Int32} {h : Hp} (ht : (h.2.1 a).1 = 11) : ex (d + 1) 186 35 L (.int v0 :: .ref a :: []) h = bnd (ex d 135 0 [some (.ref a), some (.int v0)] [] h) (fun v h' => ex (d + 1) 186 38 L (v.toList ++ []) h') := (ex_of d186_35 (d + 1) L (.int v0 :: .ref a :: []) h).trans (fin_vi (mi := 186) i11_109 ht rfl rfl (by simp [cat1_i, cat1_r]) (by simp) (Nat.le_of_ble_eq_true rfl))
theorem d186_38 : decode (mB 186) 38 = .ok (.ireturn, 1) := by decide +kernel
theorem x186_38 {d : Nat} {L : Lc} {x : Int32} {h : Hp} : ex (d) 186 38 L [.int x] h = some (some (.int x), h) := (ex_of d186_38 (d) L [.int x] h).trans (rfl)
theorem d186_39 : decode (mB 186) 39 = .ok (.aload_n 0, 1) := by decide +kernel
theorem x186_39 {d : Nat} {l1 l2 l3 l4 : Option Value} {st : List Value} {a : Nat} {h : Hp} : ex (d) 186 39 [some (.ref a), l1, l2, l3, l4] st h = ex d 186 40 [some (.ref a), l1, l2, l3, l4] (.ref a :: st) h := (ex_of d186_39 (d) [some (.ref a), l1, l2, l3, l4] st h).trans (rfl)
theorem d186_40 : decode (mB 186) 40 = .ok (.getfield 9, 3) := by decide +kernel
theorem x186_40 {d : Nat} {L : Lc} {st : List Value} {a : Nat} {h : Hp} (ht : (h.2.1 a).1 = 11) : ex (d) 186 40 L (.ref a :: st) h = ex d 186 43 L (h.1 a 2 :: st) h := (ex_of d186_40 (d) L (.ref a :: st) h).trans (fin_get (mi := 186) f11_9 (tg1 ht rfl))
theorem d186_43 : decode (mB 186) 43 = .ok (.iload_n 1, 1) := by decide +kernel
theorem x186_43 {d : Nat} {l0 l2 l3 l4 : Option Value} {st : List Value} {x : Int32} {h : Hp} : ex (d) 186 43 [l0, some (.int x), l2, l3, l4] st h = ex d 186 44 [l0, some (.int x), l2, l3, l4] (.int x :: st) h := (ex_of d186_43 (d) [l0, some (.int x), l2, l3, l4] st h).trans (rfl)
theorem d186_44 : decode (mB 186) 44 = .ok (.iaload, 1) := by decide +kernel
theorem x186_44 {d : Nat} {L : Lc} {st : List Value} {a j : Nat} {h : Hp} (ht : (h.2.1 a).1 = 20) (hj : j < (h.2.1 a).2) (hb : j < 2147483648) : ex (d) 186 44 L (.int (nI j) :: .ref a :: st) h = ex d 186 45 L (h.1 a j :: st) h := (ex_of d186_44 (d) L (.int (nI j) :: .ref a :: st) h).trans (fin_iaload (Or.inl ht) hj hb)
theorem d186_45 : decode (mB 186) 45 = .ok (.iconst 4, 1) := by decide +kernel
theorem x186_45 {d : Nat} {L : Lc} {st : List Value} {h : Hp} : ex (d) 186 45 L st h = ex d 186 46 L (.int (nI 4) :: st) h := (ex_of d186_45 (d) L st h).trans (rfl)
theorem d186_46 : decode (mB 186) 46 = .ok (.if_icmp .eq 17, 3) := by decide +kernel
theorem x186_46 {d : Nat} {L : Lc} {st : List Value} {x y : Int32} {h : Hp} : ex (d) 186 46 L (.int y :: .int x :: st) h = if x = y then ex d 186 63 L st h else ex d 186 49 L st h := (ex_of d186_46 (d) L (.int y :: .int x :: st) h).trans (fin_brq (off := 17) (tgt := 63) rfl (by decide))
theorem d186_49 : decode (mB 186) 49 = .ok (.aload_n 0, 1) := by decide +kernel
theorem x186_49 {d : Nat} {l1 l2 l3 l4 : Option Value} {st : List Value} {a : Nat} {h : Hp} : ex (d) 186 49 [some (.ref a), l1, l2, l3, l4] st h = ex d 186 50 [some (.ref a), l1, l2, l3, l4] (.ref a :: st) h := (ex_of d186_49 (d) [some (.ref a), l1, l2, l3, l4] st h).trans (rfl)
theorem d186_50 : decode (mB 186) 50 = .ok (.aload_n 0, 1) := by decide +kernel
theorem x186_50 {d : Nat} {l1 l2 l3 l4 : Option Value} {st : List Value} {a : Nat} {h : Hp} : ex (d) 186 50 [some (.ref a), l1, l2, l3, l4] st h = ex d 186 51 [some (.ref a), l1, l2, l3, l4] (.ref a :: st) h := (ex_of d186_50 (d) [some (.ref a), l1, l2, l3, l4] st h).trans (rfl)
theorem d186_51 : decode (mB 186) 51 = .ok (.getfield 9, 3) := by decide +kernel
theorem x186_51 {d : Nat} {L : Lc} {st : List Value} {a : Nat} {h : Hp} (ht : (h.2.1 a).1 = 11) : ex (d) 186 51 L (.ref a :: st) h = ex d 186 54 L (h.1 a 2 :: st) h := (ex_of d186_51 (d) L (.ref a :: st) h).trans (fin_get (mi := 186) f11_9 (tg1 ht rfl))
theorem d186_54 : decode (mB 186) 54 = .ok (.iload_n 1, 1) := by decide +kernel
theorem x186_54 {d : Nat} {l0 l2 l3 l4 : Option Value} {st : List Value} {x : Int32} {h : Hp} : ex (d) 186 54 [l0, some (.int x), l2, l3, l4] st h = ex d 186 55 [l0, some (.int x), l2, l3, l4] (.int x :: st) h := (ex_of d186_54 (d) [l0, some (.int x), l2, l3, l4] st h).trans (rfl)
theorem d186_55 : decode (mB 186) 55 = .ok (.iaload, 1) := by decide +kernel
theorem x186_55 {d : Nat} {L : Lc} {st : List Value} {a j : Nat} {h : Hp} (ht : (h.2.1 a).1 = 20) (hj : j < (h.2.1 a).2) (hb : j < 2147483648) : ex (d) 186 55 L (.int (nI j) :: .ref a :: st) h = ex d 186 56 L (h.1 a j :: st) h := (ex_of d186_55 (d) L (.int (nI j) :: .ref a :: st) h).trans (fin_iaload (Or.inl ht) hj hb)
theorem d186_56 : decode (mB 186) 56 = .ok (.invokestatic 215, 3) := by decide +kernel
theorem x186_56 {d : Nat} {L : Lc} {s0 : Value}  {v0 : Int32} {h : Hp} : ex (d + 1) 186 56 L (.int v0 :: [s0]) h = bnd (ex d 185 0 [some (.int v0)] [] h) (fun v h' => ex (d + 1) 186 59 L (v.toList ++ [s0]) h') := (ex_of d186_56 (d + 1) L (.int v0 :: [s0]) h).trans (fin_st (mi := 186) i11_215 (Or.inl rfl) (by simp) (by simp [cat1_i, cat1_r]) (by simp) (Nat.le_of_ble_eq_true rfl))
theorem d186_59 : decode (mB 186) 59 = .ok (.invokevirtual 113, 3) := by decide +kernel
theorem x186_59 {d : Nat} {L : Lc} {a : Nat} {v0 : Int32} {h : Hp} (ht : (h.2.1 a).1 = 11) : ex (d + 1) 186 59 L (.int v0 :: .ref a :: []) h = bnd (ex d 134 0 [some (.ref a), some (.int v0)] [] h) (fun v h' => ex (d + 1) 186 62 L (v.toList ++ []) h') := (ex_of d186_59 (d + 1) L (.int v0 :: .ref a :: []) h).trans (fin_vi (mi := 186) i11_113 ht rfl rfl (by simp [cat1_i, cat1_r]) (by simp) (Nat.le_of_ble_eq_true rfl))
theorem d186_62 : decode (mB 186) 62 = .ok (.ireturn, 1) := by decide +kernel
theorem x186_62 {d : Nat} {L : Lc} {x : Int32} {h : Hp} : ex (d) 186 62 L [.int x] h = some (some (.int x), h) := (ex_of d186_62 (d) L [.int x] h).trans (rfl)
theorem d186_63 : decode (mB 186) 63 = .ok (.iconst 0, 1) := by decide +kernel
theorem x186_63 {d : Nat} {L : Lc} {st : List Value} {h : Hp} : ex (d) 186 63 L st h = ex d 186 64 L (.int (nI 0) :: st) h := (ex_of d186_63 (d) L st h).trans (rfl)
theorem d186_64 : decode (mB 186) 64 = .ok (.istore_n 2, 1) := by decide +kernel
theorem x186_64 {d : Nat} {l0 l1 l2 l3 l4 : Option Value} {st : List Value} {x : Int32} {h : Hp} : ex (d) 186 64 [l0, l1, l2, l3, l4] (.int x :: st) h = ex d 186 65 [l0, clr l1, some (.int x), l3, l4] st h := (ex_of d186_64 (d) [l0, l1, l2, l3, l4] (.int x :: st) h).trans (rfl)
theorem d186_65 : decode (mB 186) 65 = .ok (.iconst 0, 1) := by decide +kernel
theorem x186_65 {d : Nat} {L : Lc} {st : List Value} {h : Hp} : ex (d) 186 65 L st h = ex d 186 66 L (.int (nI 0) :: st) h := (ex_of d186_65 (d) L st h).trans (rfl)
theorem d186_66 : decode (mB 186) 66 = .ok (.istore_n 3, 1) := by decide +kernel
theorem x186_66 {d : Nat} {l0 l1 l2 l3 l4 : Option Value} {st : List Value} {x : Int32} {h : Hp} : ex (d) 186 66 [l0, l1, l2, l3, l4] (.int x :: st) h = ex d 186 67 [l0, l1, clr l2, some (.int x), l4] st h := (ex_of d186_66 (d) [l0, l1, l2, l3, l4] (.int x :: st) h).trans (rfl)
theorem d186_67 : decode (mB 186) 67 = .ok (.iload_n 3, 1) := by decide +kernel
theorem x186_67 {d : Nat} {l0 l1 l2 l4 : Option Value} {st : List Value} {x : Int32} {h : Hp} : ex (d) 186 67 [l0, l1, l2, some (.int x), l4] st h = ex d 186 68 [l0, l1, l2, some (.int x), l4] (.int x :: st) h := (ex_of d186_67 (d) [l0, l1, l2, some (.int x), l4] st h).trans (rfl)
theorem d186_68 : decode (mB 186) 68 = .ok (.bipush 6, 2) := by decide +kernel
theorem x186_68 {d : Nat} {L : Lc} {st : List Value} {h : Hp} : ex (d) 186 68 L st h = ex d 186 70 L (.int (nI 6) :: st) h := (ex_of d186_68 (d) L st h).trans (rfl)
theorem d186_70 : decode (mB 186) 70 = .ok (.if_icmp .ge 51, 3) := by decide +kernel
theorem x186_70 {d : Nat} {L : Lc} {st : List Value} {x y : Int32} {h : Hp} : ex (d) 186 70 L (.int y :: .int x :: st) h = if y ≤ x then ex d 186 121 L st h else ex d 186 73 L st h := (ex_of d186_70 (d) L (.int y :: .int x :: st) h).trans (fin_brq (off := 51) (tgt := 121) rfl (by decide))
theorem d186_73 : decode (mB 186) 73 = .ok (.aload_n 0, 1) := by decide +kernel
theorem x186_73 {d : Nat} {l1 l2 l3 l4 : Option Value} {st : List Value} {a : Nat} {h : Hp} : ex (d) 186 73 [some (.ref a), l1, l2, l3, l4] st h = ex d 186 74 [some (.ref a), l1, l2, l3, l4] (.ref a :: st) h := (ex_of d186_73 (d) [some (.ref a), l1, l2, l3, l4] st h).trans (rfl)
theorem d186_74 : decode (mB 186) 74 = .ok (.iload_n 1, 1) := by decide +kernel
theorem x186_74 {d : Nat} {l0 l2 l3 l4 : Option Value} {st : List Value} {x : Int32} {h : Hp} : ex (d) 186 74 [l0, some (.int x), l2, l3, l4] st h = ex d 186 75 [l0, some (.int x), l2, l3, l4] (.int x :: st) h := (ex_of d186_74 (d) [l0, some (.int x), l2, l3, l4] st h).trans (rfl)
theorem d186_75 : decode (mB 186) 75 = .ok (.iload_n 3, 1) := by decide +kernel
theorem x186_75 {d : Nat} {l0 l1 l2 l4 : Option Value} {st : List Value} {x : Int32} {h : Hp} : ex (d) 186 75 [l0, l1, l2, some (.int x), l4] st h = ex d 186 76 [l0, l1, l2, some (.int x), l4] (.int x :: st) h := (ex_of d186_75 (d) [l0, l1, l2, some (.int x), l4] st h).trans (rfl)
theorem d186_76 : decode (mB 186) 76 = .ok (.invokevirtual 135, 3) := by decide +kernel
theorem x186_76 {d : Nat} {L : Lc} {a : Nat} {v0 : Int32} {v1 : Int32} {h : Hp} (ht : (h.2.1 a).1 = 11) : ex (d + 1) 186 76 L (.int v1 :: .int v0 :: .ref a :: []) h = bnd (ex d 154 0 [some (.ref a), some (.int v0), some (.int v1)] [] h) (fun v h' => ex (d + 1) 186 79 L (v.toList ++ []) h') := (ex_of d186_76 (d + 1) L (.int v1 :: .int v0 :: .ref a :: []) h).trans (fin_vi (mi := 186) i11_135 ht rfl rfl (by simp [cat1_i, cat1_r]) (by simp) (Nat.le_of_ble_eq_true rfl))
theorem d186_79 : decode (mB 186) 79 = .ok (.istore 4, 2) := by decide +kernel
theorem x186_79 {d : Nat} {l0 l1 l2 l3 l4 : Option Value} {st : List Value} {x : Int32} {h : Hp} : ex (d) 186 79 [l0, l1, l2, l3, l4] (.int x :: st) h = ex d 186 81 [l0, l1, l2, clr l3, some (.int x)] st h := (ex_of d186_79 (d) [l0, l1, l2, l3, l4] (.int x :: st) h).trans (rfl)
theorem d186_81 : decode (mB 186) 81 = .ok (.iload 4, 2) := by decide +kernel
theorem x186_81 {d : Nat} {l0 l1 l2 l3 : Option Value} {st : List Value} {x : Int32} {h : Hp} : ex (d) 186 81 [l0, l1, l2, l3, some (.int x)] st h = ex d 186 83 [l0, l1, l2, l3, some (.int x)] (.int x :: st) h := (ex_of d186_81 (d) [l0, l1, l2, l3, some (.int x)] st h).trans (rfl)
theorem d186_83 : decode (mB 186) 83 = .ok (.ifCond .lt 30, 3) := by decide +kernel
theorem x186_83 {d : Nat} {L : Lc} {st : List Value} {x : Int32} {h : Hp} : ex (d) 186 83 L (.int x :: st) h = if x < 0 then ex d 186 113 L st h else ex d 186 86 L st h := (ex_of d186_83 (d) L (.int x :: st) h).trans (fin_brq (off := 30) (tgt := 113) rfl (by decide))
theorem d186_86 : decode (mB 186) 86 = .ok (.aload_n 0, 1) := by decide +kernel
theorem x186_86 {d : Nat} {l1 l2 l3 l4 : Option Value} {st : List Value} {a : Nat} {h : Hp} : ex (d) 186 86 [some (.ref a), l1, l2, l3, l4] st h = ex d 186 87 [some (.ref a), l1, l2, l3, l4] (.ref a :: st) h := (ex_of d186_86 (d) [some (.ref a), l1, l2, l3, l4] st h).trans (rfl)
theorem d186_87 : decode (mB 186) 87 = .ok (.getfield 9, 3) := by decide +kernel
theorem x186_87 {d : Nat} {L : Lc} {st : List Value} {a : Nat} {h : Hp} (ht : (h.2.1 a).1 = 11) : ex (d) 186 87 L (.ref a :: st) h = ex d 186 90 L (h.1 a 2 :: st) h := (ex_of d186_87 (d) L (.ref a :: st) h).trans (fin_get (mi := 186) f11_9 (tg1 ht rfl))
theorem d186_90 : decode (mB 186) 90 = .ok (.iload 4, 2) := by decide +kernel
theorem x186_90 {d : Nat} {l0 l1 l2 l3 : Option Value} {st : List Value} {x : Int32} {h : Hp} : ex (d) 186 90 [l0, l1, l2, l3, some (.int x)] st h = ex d 186 92 [l0, l1, l2, l3, some (.int x)] (.int x :: st) h := (ex_of d186_90 (d) [l0, l1, l2, l3, some (.int x)] st h).trans (rfl)
theorem d186_92 : decode (mB 186) 92 = .ok (.iaload, 1) := by decide +kernel
theorem x186_92 {d : Nat} {L : Lc} {st : List Value} {a j : Nat} {h : Hp} (ht : (h.2.1 a).1 = 20) (hj : j < (h.2.1 a).2) (hb : j < 2147483648) : ex (d) 186 92 L (.int (nI j) :: .ref a :: st) h = ex d 186 93 L (h.1 a j :: st) h := (ex_of d186_92 (d) L (.int (nI j) :: .ref a :: st) h).trans (fin_iaload (Or.inl ht) hj hb)
theorem d186_93 : decode (mB 186) 93 = .ok (.invokestatic 215, 3) := by decide +kernel
theorem x186_93 {d : Nat} {L : Lc}  {v0 : Int32} {h : Hp} : ex (d + 1) 186 93 L (.int v0 :: []) h = bnd (ex d 185 0 [some (.int v0)] [] h) (fun v h' => ex (d + 1) 186 96 L (v.toList ++ []) h') := (ex_of d186_93 (d + 1) L (.int v0 :: []) h).trans (fin_st (mi := 186) i11_215 (Or.inl rfl) (by simp) (by simp [cat1_i, cat1_r]) (by simp) (Nat.le_of_ble_eq_true rfl))
theorem d186_96 : decode (mB 186) 96 = .ok (.iload_n 2, 1) := by decide +kernel
theorem x186_96 {d : Nat} {l0 l1 l3 l4 : Option Value} {st : List Value} {x : Int32} {h : Hp} : ex (d) 186 96 [l0, l1, some (.int x), l3, l4] st h = ex d 186 97 [l0, l1, some (.int x), l3, l4] (.int x :: st) h := (ex_of d186_96 (d) [l0, l1, some (.int x), l3, l4] st h).trans (rfl)
theorem d186_97 : decode (mB 186) 97 = .ok (.if_icmp .le 16, 3) := by decide +kernel
theorem x186_97 {d : Nat} {L : Lc} {st : List Value} {x y : Int32} {h : Hp} : ex (d) 186 97 L (.int y :: .int x :: st) h = if x ≤ y then ex d 186 113 L st h else ex d 186 100 L st h := (ex_of d186_97 (d) L (.int y :: .int x :: st) h).trans (fin_brq (off := 16) (tgt := 113) rfl (by decide))
theorem d186_100 : decode (mB 186) 100 = .ok (.aload_n 0, 1) := by decide +kernel
theorem x186_100 {d : Nat} {l1 l2 l3 l4 : Option Value} {st : List Value} {a : Nat} {h : Hp} : ex (d) 186 100 [some (.ref a), l1, l2, l3, l4] st h = ex d 186 101 [some (.ref a), l1, l2, l3, l4] (.ref a :: st) h := (ex_of d186_100 (d) [some (.ref a), l1, l2, l3, l4] st h).trans (rfl)
theorem d186_101 : decode (mB 186) 101 = .ok (.getfield 9, 3) := by decide +kernel
theorem x186_101 {d : Nat} {L : Lc} {st : List Value} {a : Nat} {h : Hp} (ht : (h.2.1 a).1 = 11) : ex (d) 186 101 L (.ref a :: st) h = ex d 186 104 L (h.1 a 2 :: st) h := (ex_of d186_101 (d) L (.ref a :: st) h).trans (fin_get (mi := 186) f11_9 (tg1 ht rfl))
theorem d186_104 : decode (mB 186) 104 = .ok (.iload 4, 2) := by decide +kernel
theorem x186_104 {d : Nat} {l0 l1 l2 l3 : Option Value} {st : List Value} {x : Int32} {h : Hp} : ex (d) 186 104 [l0, l1, l2, l3, some (.int x)] st h = ex d 186 106 [l0, l1, l2, l3, some (.int x)] (.int x :: st) h := (ex_of d186_104 (d) [l0, l1, l2, l3, some (.int x)] st h).trans (rfl)
theorem d186_106 : decode (mB 186) 106 = .ok (.iaload, 1) := by decide +kernel
theorem x186_106 {d : Nat} {L : Lc} {st : List Value} {a j : Nat} {h : Hp} (ht : (h.2.1 a).1 = 20) (hj : j < (h.2.1 a).2) (hb : j < 2147483648) : ex (d) 186 106 L (.int (nI j) :: .ref a :: st) h = ex d 186 107 L (h.1 a j :: st) h := (ex_of d186_106 (d) L (.int (nI j) :: .ref a :: st) h).trans (fin_iaload (Or.inl ht) hj hb)
theorem d186_107 : decode (mB 186) 107 = .ok (.invokestatic 215, 3) := by decide +kernel
theorem x186_107 {d : Nat} {L : Lc}  {v0 : Int32} {h : Hp} : ex (d + 1) 186 107 L (.int v0 :: []) h = bnd (ex d 185 0 [some (.int v0)] [] h) (fun v h' => ex (d + 1) 186 110 L (v.toList ++ []) h') := (ex_of d186_107 (d + 1) L (.int v0 :: []) h).trans (fin_st (mi := 186) i11_215 (Or.inl rfl) (by simp) (by simp [cat1_i, cat1_r]) (by simp) (Nat.le_of_ble_eq_true rfl))
theorem d186_110 : decode (mB 186) 110 = .ok (.goto 4, 3) := by decide +kernel
theorem x186_110 {d : Nat} {L : Lc} {st : List Value} {h : Hp} : ex (d) 186 110 L st h = ex d 186 114 L st h := (ex_of d186_110 (d) L st h).trans (rfl)
theorem d186_113 : decode (mB 186) 113 = .ok (.iload_n 2, 1) := by decide +kernel
theorem x186_113 {d : Nat} {l0 l1 l3 l4 : Option Value} {st : List Value} {x : Int32} {h : Hp} : ex (d) 186 113 [l0, l1, some (.int x), l3, l4] st h = ex d 186 114 [l0, l1, some (.int x), l3, l4] (.int x :: st) h := (ex_of d186_113 (d) [l0, l1, some (.int x), l3, l4] st h).trans (rfl)
theorem d186_114 : decode (mB 186) 114 = .ok (.istore_n 2, 1) := by decide +kernel
theorem x186_114 {d : Nat} {l0 l1 l2 l3 l4 : Option Value} {st : List Value} {x : Int32} {h : Hp} : ex (d) 186 114 [l0, l1, l2, l3, l4] (.int x :: st) h = ex d 186 115 [l0, clr l1, some (.int x), l3, l4] st h := (ex_of d186_114 (d) [l0, l1, l2, l3, l4] (.int x :: st) h).trans (rfl)
theorem d186_115 : decode (mB 186) 115 = .ok (.iinc 3 1, 3) := by decide +kernel
theorem x186_115 {d : Nat} {l0 l1 l2 l4 : Option Value} {st : List Value} {x : Int32} {h : Hp} : ex (d) 186 115 [l0, l1, l2, some (.int x), l4] st h = ex d 186 118 [l0, l1, clr l2, some (.int (x + (nI 1))), l4] st h := (ex_of d186_115 (d) [l0, l1, l2, some (.int x), l4] st h).trans (rfl)
theorem d186_118 : decode (mB 186) 118 = .ok (.goto (-51), 3) := by decide +kernel
theorem x186_118 {d : Nat} {L : Lc} {st : List Value} {h : Hp} : ex (d) 186 118 L st h = ex d 186 67 L st h := (ex_of d186_118 (d) L st h).trans (rfl)
theorem d186_121 : decode (mB 186) 121 = .ok (.aload_n 0, 1) := by decide +kernel
theorem x186_121 {d : Nat} {l1 l2 l3 l4 : Option Value} {st : List Value} {a : Nat} {h : Hp} : ex (d) 186 121 [some (.ref a), l1, l2, l3, l4] st h = ex d 186 122 [some (.ref a), l1, l2, l3, l4] (.ref a :: st) h := (ex_of d186_121 (d) [some (.ref a), l1, l2, l3, l4] st h).trans (rfl)
theorem d186_122 : decode (mB 186) 122 = .ok (.iload_n 2, 1) := by decide +kernel
theorem x186_122 {d : Nat} {l0 l1 l3 l4 : Option Value} {st : List Value} {x : Int32} {h : Hp} : ex (d) 186 122 [l0, l1, some (.int x), l3, l4] st h = ex d 186 123 [l0, l1, some (.int x), l3, l4] (.int x :: st) h := (ex_of d186_122 (d) [l0, l1, some (.int x), l3, l4] st h).trans (rfl)
theorem d186_123 : decode (mB 186) 123 = .ok (.iconst 1, 1) := by decide +kernel
theorem x186_123 {d : Nat} {L : Lc} {st : List Value} {h : Hp} : ex (d) 186 123 L st h = ex d 186 124 L (.int (nI 1) :: st) h := (ex_of d186_123 (d) L st h).trans (rfl)
theorem d186_124 : decode (mB 186) 124 = .ok (.iadd, 1) := by decide +kernel
theorem x186_124 {d : Nat} {L : Lc} {st : List Value} {x y : Int32} {h : Hp} : ex (d) 186 124 L (.int y :: .int x :: st) h = ex d 186 125 L (.int (x + y) :: st) h := (ex_of d186_124 (d) L (.int y :: .int x :: st) h).trans (rfl)
theorem d186_125 : decode (mB 186) 125 = .ok (.invokevirtual 113, 3) := by decide +kernel
theorem x186_125 {d : Nat} {L : Lc} {a : Nat} {v0 : Int32} {h : Hp} (ht : (h.2.1 a).1 = 11) : ex (d + 1) 186 125 L (.int v0 :: .ref a :: []) h = bnd (ex d 134 0 [some (.ref a), some (.int v0)] [] h) (fun v h' => ex (d + 1) 186 128 L (v.toList ++ []) h') := (ex_of d186_125 (d + 1) L (.int v0 :: .ref a :: []) h).trans (fin_vi (mi := 186) i11_113 ht rfl rfl (by simp [cat1_i, cat1_r]) (by simp) (Nat.le_of_ble_eq_true rfl))
theorem d186_128 : decode (mB 186) 128 = .ok (.ireturn, 1) := by decide +kernel
theorem x186_128 {d : Nat} {L : Lc} {x : Int32} {h : Hp} : ex (d) 186 128 L [.int x] h = some (some (.int x), h) := (ex_of d186_128 (d) L [.int x] h).trans (rfl)
theorem d187_0 : decode (mB 187) 0 = .ok (.aload_n 0, 1) := by decide +kernel
theorem x187_0 {d : Nat} {l1 l2 l3 : Option Value} {st : List Value} {a : Nat} {h : Hp} : ex (d) 187 0 [some (.ref a), l1, l2, l3] st h = ex d 187 1 [some (.ref a), l1, l2, l3] (.ref a :: st) h := (ex_of d187_0 (d) [some (.ref a), l1, l2, l3] st h).trans (rfl)
theorem d187_1 : decode (mB 187) 1 = .ok (.iload_n 1, 1) := by decide +kernel
theorem x187_1 {d : Nat} {l0 l2 l3 : Option Value} {st : List Value} {x : Int32} {h : Hp} : ex (d) 187 1 [l0, some (.int x), l2, l3] st h = ex d 187 2 [l0, some (.int x), l2, l3] (.int x :: st) h := (ex_of d187_1 (d) [l0, some (.int x), l2, l3] st h).trans (rfl)
theorem d187_2 : decode (mB 187) 2 = .ok (.invokevirtual 191, 3) := by decide +kernel
theorem x187_2 {d : Nat} {L : Lc} {a : Nat} {v0 : Int32} {h : Hp} (ht : (h.2.1 a).1 = 11) : ex (d + 1) 187 2 L (.int v0 :: .ref a :: []) h = bnd (ex d 173 0 [some (.ref a), some (.int v0)] [] h) (fun v h' => ex (d + 1) 187 5 L (v.toList ++ []) h') := (ex_of d187_2 (d + 1) L (.int v0 :: .ref a :: []) h).trans (fin_vi (mi := 187) i11_191 ht rfl rfl (by simp [cat1_i, cat1_r]) (by simp) (Nat.le_of_ble_eq_true rfl))
theorem d187_5 : decode (mB 187) 5 = .ok (.ifCond .ne 10, 3) := by decide +kernel
theorem x187_5 {d : Nat} {L : Lc} {st : List Value} {x : Int32} {h : Hp} : ex (d) 187 5 L (.int x :: st) h = if ¬ x = 0 then ex d 187 15 L st h else ex d 187 8 L st h := (ex_of d187_5 (d) L (.int x :: st) h).trans (fin_brq (off := 10) (tgt := 15) rfl (by decide))
theorem d187_8 : decode (mB 187) 8 = .ok (.aload_n 0, 1) := by decide +kernel
theorem x187_8 {d : Nat} {l1 l2 l3 : Option Value} {st : List Value} {a : Nat} {h : Hp} : ex (d) 187 8 [some (.ref a), l1, l2, l3] st h = ex d 187 9 [some (.ref a), l1, l2, l3] (.ref a :: st) h := (ex_of d187_8 (d) [some (.ref a), l1, l2, l3] st h).trans (rfl)
theorem d187_9 : decode (mB 187) 9 = .ok (.bipush 10, 2) := by decide +kernel
theorem x187_9 {d : Nat} {L : Lc} {st : List Value} {h : Hp} : ex (d) 187 9 L st h = ex d 187 11 L (.int (nI 10) :: st) h := (ex_of d187_9 (d) L st h).trans (rfl)
theorem d187_11 : decode (mB 187) 11 = .ok (.invokevirtual 109, 3) := by decide +kernel
theorem x187_11 {d : Nat} {L : Lc} {a : Nat} {v0 : Int32} {h : Hp} (ht : (h.2.1 a).1 = 11) : ex (d + 1) 187 11 L (.int v0 :: .ref a :: []) h = bnd (ex d 135 0 [some (.ref a), some (.int v0)] [] h) (fun v h' => ex (d + 1) 187 14 L (v.toList ++ []) h') := (ex_of d187_11 (d + 1) L (.int v0 :: .ref a :: []) h).trans (fin_vi (mi := 187) i11_109 ht rfl rfl (by simp [cat1_i, cat1_r]) (by simp) (Nat.le_of_ble_eq_true rfl))
theorem d187_14 : decode (mB 187) 14 = .ok (.ireturn, 1) := by decide +kernel
theorem x187_14 {d : Nat} {L : Lc} {x : Int32} {h : Hp} : ex (d) 187 14 L [.int x] h = some (some (.int x), h) := (ex_of d187_14 (d) L [.int x] h).trans (rfl)
theorem d187_15 : decode (mB 187) 15 = .ok (.iload_n 2, 1) := by decide +kernel
theorem x187_15 {d : Nat} {l0 l1 l3 : Option Value} {st : List Value} {x : Int32} {h : Hp} : ex (d) 187 15 [l0, l1, some (.int x), l3] st h = ex d 187 16 [l0, l1, some (.int x), l3] (.int x :: st) h := (ex_of d187_15 (d) [l0, l1, some (.int x), l3] st h).trans (rfl)
theorem d187_16 : decode (mB 187) 16 = .ok (.iconst 0, 1) := by decide +kernel
theorem x187_16 {d : Nat} {L : Lc} {st : List Value} {h : Hp} : ex (d) 187 16 L st h = ex d 187 17 L (.int (nI 0) :: st) h := (ex_of d187_16 (d) L st h).trans (rfl)
theorem d187_17 : decode (mB 187) 17 = .ok (.bipush 9, 2) := by decide +kernel
theorem x187_17 {d : Nat} {L : Lc} {st : List Value} {h : Hp} : ex (d) 187 17 L st h = ex d 187 19 L (.int (nI 9) :: st) h := (ex_of d187_17 (d) L st h).trans (rfl)
theorem d187_19 : decode (mB 187) 19 = .ok (.invokestatic 101, 3) := by decide +kernel
theorem x187_19 {d : Nat} {L : Lc}  {v0 : Int32} {v1 : Int32} {v2 : Int32} {h : Hp} : ex (d + 1) 187 19 L (.int v2 :: .int v1 :: .int v0 :: []) h = bnd (ex d 137 0 [some (.int v0), some (.int v1), some (.int v2)] [] h) (fun v h' => ex (d + 1) 187 22 L (v.toList ++ []) h') := (ex_of d187_19 (d + 1) L (.int v2 :: .int v1 :: .int v0 :: []) h).trans (fin_st (mi := 187) i11_101 (Or.inl rfl) (by simp) (by simp [cat1_i, cat1_r]) (by simp) (Nat.le_of_ble_eq_true rfl))
theorem d187_22 : decode (mB 187) 22 = .ok (.ifCond .eq 12, 3) := by decide +kernel
theorem x187_22 {d : Nat} {L : Lc} {st : List Value} {x : Int32} {h : Hp} : ex (d) 187 22 L (.int x :: st) h = if x = 0 then ex d 187 34 L st h else ex d 187 25 L st h := (ex_of d187_22 (d) L (.int x :: st) h).trans (fin_brq (off := 12) (tgt := 34) rfl (by decide))
theorem d187_25 : decode (mB 187) 25 = .ok (.aload_n 0, 1) := by decide +kernel
theorem x187_25 {d : Nat} {l1 l2 l3 : Option Value} {st : List Value} {a : Nat} {h : Hp} : ex (d) 187 25 [some (.ref a), l1, l2, l3] st h = ex d 187 26 [some (.ref a), l1, l2, l3] (.ref a :: st) h := (ex_of d187_25 (d) [some (.ref a), l1, l2, l3] st h).trans (rfl)
theorem d187_26 : decode (mB 187) 26 = .ok (.getfield 218, 3) := by decide +kernel
theorem x187_26 {d : Nat} {L : Lc} {st : List Value} {a : Nat} {h : Hp} (ht : (h.2.1 a).1 = 11) : ex (d) 187 26 L (.ref a :: st) h = ex d 187 29 L (h.1 a 21 :: st) h := (ex_of d187_26 (d) L (.ref a :: st) h).trans (fin_get (mi := 187) f11_218 (tg1 ht rfl))
theorem d187_29 : decode (mB 187) 29 = .ok (.bipush 7, 2) := by decide +kernel
theorem x187_29 {d : Nat} {L : Lc} {st : List Value} {h : Hp} : ex (d) 187 29 L st h = ex d 187 31 L (.int (nI 7) :: st) h := (ex_of d187_29 (d) L st h).trans (rfl)
theorem d187_31 : decode (mB 187) 31 = .ok (.if_icmp .ne 10, 3) := by decide +kernel
theorem x187_31 {d : Nat} {L : Lc} {st : List Value} {x y : Int32} {h : Hp} : ex (d) 187 31 L (.int y :: .int x :: st) h = if ¬ x = y then ex d 187 41 L st h else ex d 187 34 L st h := (ex_of d187_31 (d) L (.int y :: .int x :: st) h).trans (fin_brq (off := 10) (tgt := 41) rfl (by decide))
theorem d187_34 : decode (mB 187) 34 = .ok (.aload_n 0, 1) := by decide +kernel
theorem x187_34 {d : Nat} {l1 l2 l3 : Option Value} {st : List Value} {a : Nat} {h : Hp} : ex (d) 187 34 [some (.ref a), l1, l2, l3] st h = ex d 187 35 [some (.ref a), l1, l2, l3] (.ref a :: st) h := (ex_of d187_34 (d) [some (.ref a), l1, l2, l3] st h).trans (rfl)
theorem d187_35 : decode (mB 187) 35 = .ok (.bipush 6, 2) := by decide +kernel
theorem x187_35 {d : Nat} {L : Lc} {st : List Value} {h : Hp} : ex (d) 187 35 L st h = ex d 187 37 L (.int (nI 6) :: st) h := (ex_of d187_35 (d) L st h).trans (rfl)
theorem d187_37 : decode (mB 187) 37 = .ok (.invokevirtual 109, 3) := by decide +kernel
theorem x187_37 {d : Nat} {L : Lc} {a : Nat} {v0 : Int32} {h : Hp} (ht : (h.2.1 a).1 = 11) : ex (d + 1) 187 37 L (.int v0 :: .ref a :: []) h = bnd (ex d 135 0 [some (.ref a), some (.int v0)] [] h) (fun v h' => ex (d + 1) 187 40 L (v.toList ++ []) h') := (ex_of d187_37 (d + 1) L (.int v0 :: .ref a :: []) h).trans (fin_vi (mi := 187) i11_109 ht rfl rfl (by simp [cat1_i, cat1_r]) (by simp) (Nat.le_of_ble_eq_true rfl))
theorem d187_40 : decode (mB 187) 40 = .ok (.ireturn, 1) := by decide +kernel
theorem x187_40 {d : Nat} {L : Lc} {x : Int32} {h : Hp} : ex (d) 187 40 L [.int x] h = some (some (.int x), h) := (ex_of d187_40 (d) L [.int x] h).trans (rfl)
theorem d187_41 : decode (mB 187) 41 = .ok (.iconst 0, 1) := by decide +kernel
theorem x187_41 {d : Nat} {L : Lc} {st : List Value} {h : Hp} : ex (d) 187 41 L st h = ex d 187 42 L (.int (nI 0) :: st) h := (ex_of d187_41 (d) L st h).trans (rfl)
theorem d187_42 : decode (mB 187) 42 = .ok (.istore_n 3, 1) := by decide +kernel
theorem x187_42 {d : Nat} {l0 l1 l2 l3 : Option Value} {st : List Value} {x : Int32} {h : Hp} : ex (d) 187 42 [l0, l1, l2, l3] (.int x :: st) h = ex d 187 43 [l0, l1, clr l2, some (.int x)] st h := (ex_of d187_42 (d) [l0, l1, l2, l3] (.int x :: st) h).trans (rfl)
theorem d187_43 : decode (mB 187) 43 = .ok (.iload_n 3, 1) := by decide +kernel
theorem x187_43 {d : Nat} {l0 l1 l2 : Option Value} {st : List Value} {x : Int32} {h : Hp} : ex (d) 187 43 [l0, l1, l2, some (.int x)] st h = ex d 187 44 [l0, l1, l2, some (.int x)] (.int x :: st) h := (ex_of d187_43 (d) [l0, l1, l2, some (.int x)] st h).trans (rfl)
theorem d187_44 : decode (mB 187) 44 = .ok (.aload_n 0, 1) := by decide +kernel
theorem x187_44 {d : Nat} {l1 l2 l3 : Option Value} {st : List Value} {a : Nat} {h : Hp} : ex (d) 187 44 [some (.ref a), l1, l2, l3] st h = ex d 187 45 [some (.ref a), l1, l2, l3] (.ref a :: st) h := (ex_of d187_44 (d) [some (.ref a), l1, l2, l3] st h).trans (rfl)
theorem d187_45 : decode (mB 187) 45 = .ok (.getfield 218, 3) := by decide +kernel
theorem x187_45 {d : Nat} {L : Lc} {st : List Value} {a : Nat} {h : Hp} (ht : (h.2.1 a).1 = 11) : ex (d) 187 45 L (.ref a :: st) h = ex d 187 48 L (h.1 a 21 :: st) h := (ex_of d187_45 (d) L (.ref a :: st) h).trans (fin_get (mi := 187) f11_218 (tg1 ht rfl))
theorem d187_48 : decode (mB 187) 48 = .ok (.if_icmp .ge 35, 3) := by decide +kernel
theorem x187_48 {d : Nat} {L : Lc} {st : List Value} {x y : Int32} {h : Hp} : ex (d) 187 48 L (.int y :: .int x :: st) h = if y ≤ x then ex d 187 83 L st h else ex d 187 51 L st h := (ex_of d187_48 (d) L (.int y :: .int x :: st) h).trans (fin_brq (off := 35) (tgt := 83) rfl (by decide))
theorem d187_51 : decode (mB 187) 51 = .ok (.aload_n 0, 1) := by decide +kernel
theorem x187_51 {d : Nat} {l1 l2 l3 : Option Value} {st : List Value} {a : Nat} {h : Hp} : ex (d) 187 51 [some (.ref a), l1, l2, l3] st h = ex d 187 52 [some (.ref a), l1, l2, l3] (.ref a :: st) h := (ex_of d187_51 (d) [some (.ref a), l1, l2, l3] st h).trans (rfl)
theorem d187_52 : decode (mB 187) 52 = .ok (.getfield 49, 3) := by decide +kernel
theorem x187_52 {d : Nat} {L : Lc} {st : List Value} {a : Nat} {h : Hp} (ht : (h.2.1 a).1 = 11) : ex (d) 187 52 L (.ref a :: st) h = ex d 187 55 L (h.1 a 22 :: st) h := (ex_of d187_52 (d) L (.ref a :: st) h).trans (fin_get (mi := 187) f11_49 (tg1 ht rfl))
theorem d187_55 : decode (mB 187) 55 = .ok (.iload_n 3, 1) := by decide +kernel
theorem x187_55 {d : Nat} {l0 l1 l2 : Option Value} {st : List Value} {x : Int32} {h : Hp} : ex (d) 187 55 [l0, l1, l2, some (.int x)] st h = ex d 187 56 [l0, l1, l2, some (.int x)] (.int x :: st) h := (ex_of d187_55 (d) [l0, l1, l2, some (.int x)] st h).trans (rfl)
theorem d187_56 : decode (mB 187) 56 = .ok (.iaload, 1) := by decide +kernel
theorem x187_56 {d : Nat} {L : Lc} {st : List Value} {a j : Nat} {h : Hp} (ht : (h.2.1 a).1 = 20) (hj : j < (h.2.1 a).2) (hb : j < 2147483648) : ex (d) 187 56 L (.int (nI j) :: .ref a :: st) h = ex d 187 57 L (h.1 a j :: st) h := (ex_of d187_56 (d) L (.int (nI j) :: .ref a :: st) h).trans (fin_iaload (Or.inl ht) hj hb)
theorem d187_57 : decode (mB 187) 57 = .ok (.iload_n 1, 1) := by decide +kernel
theorem x187_57 {d : Nat} {l0 l2 l3 : Option Value} {st : List Value} {x : Int32} {h : Hp} : ex (d) 187 57 [l0, some (.int x), l2, l3] st h = ex d 187 58 [l0, some (.int x), l2, l3] (.int x :: st) h := (ex_of d187_57 (d) [l0, some (.int x), l2, l3] st h).trans (rfl)
theorem d187_58 : decode (mB 187) 58 = .ok (.if_icmp .ne 19, 3) := by decide +kernel
theorem x187_58 {d : Nat} {L : Lc} {st : List Value} {x y : Int32} {h : Hp} : ex (d) 187 58 L (.int y :: .int x :: st) h = if ¬ x = y then ex d 187 77 L st h else ex d 187 61 L st h := (ex_of d187_58 (d) L (.int y :: .int x :: st) h).trans (fin_brq (off := 19) (tgt := 77) rfl (by decide))
theorem d187_61 : decode (mB 187) 61 = .ok (.aload_n 0, 1) := by decide +kernel
theorem x187_61 {d : Nat} {l1 l2 l3 : Option Value} {st : List Value} {a : Nat} {h : Hp} : ex (d) 187 61 [some (.ref a), l1, l2, l3] st h = ex d 187 62 [some (.ref a), l1, l2, l3] (.ref a :: st) h := (ex_of d187_61 (d) [some (.ref a), l1, l2, l3] st h).trans (rfl)
theorem d187_62 : decode (mB 187) 62 = .ok (.getfield 52, 3) := by decide +kernel
theorem x187_62 {d : Nat} {L : Lc} {st : List Value} {a : Nat} {h : Hp} (ht : (h.2.1 a).1 = 11) : ex (d) 187 62 L (.ref a :: st) h = ex d 187 65 L (h.1 a 23 :: st) h := (ex_of d187_62 (d) L (.ref a :: st) h).trans (fin_get (mi := 187) f11_52 (tg1 ht rfl))
theorem d187_65 : decode (mB 187) 65 = .ok (.iload_n 3, 1) := by decide +kernel
theorem x187_65 {d : Nat} {l0 l1 l2 : Option Value} {st : List Value} {x : Int32} {h : Hp} : ex (d) 187 65 [l0, l1, l2, some (.int x)] st h = ex d 187 66 [l0, l1, l2, some (.int x)] (.int x :: st) h := (ex_of d187_65 (d) [l0, l1, l2, some (.int x)] st h).trans (rfl)
theorem d187_66 : decode (mB 187) 66 = .ok (.iaload, 1) := by decide +kernel
theorem x187_66 {d : Nat} {L : Lc} {st : List Value} {a j : Nat} {h : Hp} (ht : (h.2.1 a).1 = 20) (hj : j < (h.2.1 a).2) (hb : j < 2147483648) : ex (d) 187 66 L (.int (nI j) :: .ref a :: st) h = ex d 187 67 L (h.1 a j :: st) h := (ex_of d187_66 (d) L (.int (nI j) :: .ref a :: st) h).trans (fin_iaload (Or.inl ht) hj hb)
theorem d187_67 : decode (mB 187) 67 = .ok (.iload_n 2, 1) := by decide +kernel
theorem x187_67 {d : Nat} {l0 l1 l3 : Option Value} {st : List Value} {x : Int32} {h : Hp} : ex (d) 187 67 [l0, l1, some (.int x), l3] st h = ex d 187 68 [l0, l1, some (.int x), l3] (.int x :: st) h := (ex_of d187_67 (d) [l0, l1, some (.int x), l3] st h).trans (rfl)
theorem d187_68 : decode (mB 187) 68 = .ok (.if_icmp .ne 9, 3) := by decide +kernel
theorem x187_68 {d : Nat} {L : Lc} {st : List Value} {x y : Int32} {h : Hp} : ex (d) 187 68 L (.int y :: .int x :: st) h = if ¬ x = y then ex d 187 77 L st h else ex d 187 71 L st h := (ex_of d187_68 (d) L (.int y :: .int x :: st) h).trans (fin_brq (off := 9) (tgt := 77) rfl (by decide))
theorem d187_71 : decode (mB 187) 71 = .ok (.aload_n 0, 1) := by decide +kernel
theorem x187_71 {d : Nat} {l1 l2 l3 : Option Value} {st : List Value} {a : Nat} {h : Hp} : ex (d) 187 71 [some (.ref a), l1, l2, l3] st h = ex d 187 72 [some (.ref a), l1, l2, l3] (.ref a :: st) h := (ex_of d187_71 (d) [some (.ref a), l1, l2, l3] st h).trans (rfl)
theorem d187_72 : decode (mB 187) 72 = .ok (.iconst 5, 1) := by decide +kernel
theorem x187_72 {d : Nat} {L : Lc} {st : List Value} {h : Hp} : ex (d) 187 72 L st h = ex d 187 73 L (.int (nI 5) :: st) h := (ex_of d187_72 (d) L st h).trans (rfl)
theorem d187_73 : decode (mB 187) 73 = .ok (.invokevirtual 109, 3) := by decide +kernel
theorem x187_73 {d : Nat} {L : Lc} {a : Nat} {v0 : Int32} {h : Hp} (ht : (h.2.1 a).1 = 11) : ex (d + 1) 187 73 L (.int v0 :: .ref a :: []) h = bnd (ex d 135 0 [some (.ref a), some (.int v0)] [] h) (fun v h' => ex (d + 1) 187 76 L (v.toList ++ []) h') := (ex_of d187_73 (d + 1) L (.int v0 :: .ref a :: []) h).trans (fin_vi (mi := 187) i11_109 ht rfl rfl (by simp [cat1_i, cat1_r]) (by simp) (Nat.le_of_ble_eq_true rfl))
theorem d187_76 : decode (mB 187) 76 = .ok (.ireturn, 1) := by decide +kernel
theorem x187_76 {d : Nat} {L : Lc} {x : Int32} {h : Hp} : ex (d) 187 76 L [.int x] h = some (some (.int x), h) := (ex_of d187_76 (d) L [.int x] h).trans (rfl)
theorem d187_77 : decode (mB 187) 77 = .ok (.iinc 3 1, 3) := by decide +kernel
theorem x187_77 {d : Nat} {l0 l1 l2 : Option Value} {st : List Value} {x : Int32} {h : Hp} : ex (d) 187 77 [l0, l1, l2, some (.int x)] st h = ex d 187 80 [l0, l1, clr l2, some (.int (x + (nI 1)))] st h := (ex_of d187_77 (d) [l0, l1, l2, some (.int x)] st h).trans (rfl)
theorem d187_80 : decode (mB 187) 80 = .ok (.goto (-37), 3) := by decide +kernel
theorem x187_80 {d : Nat} {L : Lc} {st : List Value} {h : Hp} : ex (d) 187 80 L st h = ex d 187 43 L st h := (ex_of d187_80 (d) L st h).trans (rfl)
theorem d187_83 : decode (mB 187) 83 = .ok (.aload_n 0, 1) := by decide +kernel
theorem x187_83 {d : Nat} {l1 l2 l3 : Option Value} {st : List Value} {a : Nat} {h : Hp} : ex (d) 187 83 [some (.ref a), l1, l2, l3] st h = ex d 187 84 [some (.ref a), l1, l2, l3] (.ref a :: st) h := (ex_of d187_83 (d) [some (.ref a), l1, l2, l3] st h).trans (rfl)
theorem d187_84 : decode (mB 187) 84 = .ok (.getfield 49, 3) := by decide +kernel
theorem x187_84 {d : Nat} {L : Lc} {st : List Value} {a : Nat} {h : Hp} (ht : (h.2.1 a).1 = 11) : ex (d) 187 84 L (.ref a :: st) h = ex d 187 87 L (h.1 a 22 :: st) h := (ex_of d187_84 (d) L (.ref a :: st) h).trans (fin_get (mi := 187) f11_49 (tg1 ht rfl))
theorem d187_87 : decode (mB 187) 87 = .ok (.aload_n 0, 1) := by decide +kernel
theorem x187_87 {d : Nat} {l1 l2 l3 : Option Value} {st : List Value} {a : Nat} {h : Hp} : ex (d) 187 87 [some (.ref a), l1, l2, l3] st h = ex d 187 88 [some (.ref a), l1, l2, l3] (.ref a :: st) h := (ex_of d187_87 (d) [some (.ref a), l1, l2, l3] st h).trans (rfl)
theorem d187_88 : decode (mB 187) 88 = .ok (.getfield 218, 3) := by decide +kernel
theorem x187_88 {d : Nat} {L : Lc} {st : List Value} {a : Nat} {h : Hp} (ht : (h.2.1 a).1 = 11) : ex (d) 187 88 L (.ref a :: st) h = ex d 187 91 L (h.1 a 21 :: st) h := (ex_of d187_88 (d) L (.ref a :: st) h).trans (fin_get (mi := 187) f11_218 (tg1 ht rfl))
theorem d187_91 : decode (mB 187) 91 = .ok (.iload_n 1, 1) := by decide +kernel
theorem x187_91 {d : Nat} {l0 l2 l3 : Option Value} {st : List Value} {x : Int32} {h : Hp} : ex (d) 187 91 [l0, some (.int x), l2, l3] st h = ex d 187 92 [l0, some (.int x), l2, l3] (.int x :: st) h := (ex_of d187_91 (d) [l0, some (.int x), l2, l3] st h).trans (rfl)
theorem d187_92 : decode (mB 187) 92 = .ok (.iastore, 1) := by decide +kernel
theorem x187_92 {d : Nat} {L : Lc} {st : List Value} {a j : Nat} {x : Int32} {h : Hp} (ht : (h.2.1 a).1 = 20) (hj : j < (h.2.1 a).2) (hb : j < 2147483648) : ex (d) 187 92 L (.int x :: .int (nI j) :: .ref a :: st) h = ex d 187 93 L st (mup h.1 a j (.int x), h.2) := (ex_of d187_92 (d) L (.int x :: .int (nI j) :: .ref a :: st) h).trans (fin_iastore ht hj hb)
theorem d187_93 : decode (mB 187) 93 = .ok (.aload_n 0, 1) := by decide +kernel
theorem x187_93 {d : Nat} {l1 l2 l3 : Option Value} {st : List Value} {a : Nat} {h : Hp} : ex (d) 187 93 [some (.ref a), l1, l2, l3] st h = ex d 187 94 [some (.ref a), l1, l2, l3] (.ref a :: st) h := (ex_of d187_93 (d) [some (.ref a), l1, l2, l3] st h).trans (rfl)
theorem d187_94 : decode (mB 187) 94 = .ok (.getfield 52, 3) := by decide +kernel
theorem x187_94 {d : Nat} {L : Lc} {st : List Value} {a : Nat} {h : Hp} (ht : (h.2.1 a).1 = 11) : ex (d) 187 94 L (.ref a :: st) h = ex d 187 97 L (h.1 a 23 :: st) h := (ex_of d187_94 (d) L (.ref a :: st) h).trans (fin_get (mi := 187) f11_52 (tg1 ht rfl))
theorem d187_97 : decode (mB 187) 97 = .ok (.aload_n 0, 1) := by decide +kernel
theorem x187_97 {d : Nat} {l1 l2 l3 : Option Value} {st : List Value} {a : Nat} {h : Hp} : ex (d) 187 97 [some (.ref a), l1, l2, l3] st h = ex d 187 98 [some (.ref a), l1, l2, l3] (.ref a :: st) h := (ex_of d187_97 (d) [some (.ref a), l1, l2, l3] st h).trans (rfl)
theorem d187_98 : decode (mB 187) 98 = .ok (.getfield 218, 3) := by decide +kernel
theorem x187_98 {d : Nat} {L : Lc} {st : List Value} {a : Nat} {h : Hp} (ht : (h.2.1 a).1 = 11) : ex (d) 187 98 L (.ref a :: st) h = ex d 187 101 L (h.1 a 21 :: st) h := (ex_of d187_98 (d) L (.ref a :: st) h).trans (fin_get (mi := 187) f11_218 (tg1 ht rfl))
theorem d187_101 : decode (mB 187) 101 = .ok (.iload_n 2, 1) := by decide +kernel
theorem x187_101 {d : Nat} {l0 l1 l3 : Option Value} {st : List Value} {x : Int32} {h : Hp} : ex (d) 187 101 [l0, l1, some (.int x), l3] st h = ex d 187 102 [l0, l1, some (.int x), l3] (.int x :: st) h := (ex_of d187_101 (d) [l0, l1, some (.int x), l3] st h).trans (rfl)
theorem d187_102 : decode (mB 187) 102 = .ok (.iastore, 1) := by decide +kernel
theorem x187_102 {d : Nat} {L : Lc} {st : List Value} {a j : Nat} {x : Int32} {h : Hp} (ht : (h.2.1 a).1 = 20) (hj : j < (h.2.1 a).2) (hb : j < 2147483648) : ex (d) 187 102 L (.int x :: .int (nI j) :: .ref a :: st) h = ex d 187 103 L st (mup h.1 a j (.int x), h.2) := (ex_of d187_102 (d) L (.int x :: .int (nI j) :: .ref a :: st) h).trans (fin_iastore ht hj hb)
theorem d187_103 : decode (mB 187) 103 = .ok (.aload_n 0, 1) := by decide +kernel
theorem x187_103 {d : Nat} {l1 l2 l3 : Option Value} {st : List Value} {a : Nat} {h : Hp} : ex (d) 187 103 [some (.ref a), l1, l2, l3] st h = ex d 187 104 [some (.ref a), l1, l2, l3] (.ref a :: st) h := (ex_of d187_103 (d) [some (.ref a), l1, l2, l3] st h).trans (rfl)
theorem d187_104 : decode (mB 187) 104 = .ok (.dup, 1) := by decide +kernel
theorem x187_104 {d : Nat} {L : Lc} {st : List Value} {a : Nat} {h : Hp} : ex (d) 187 104 L (.ref a :: st) h = ex d 187 105 L (.ref a :: .ref a :: st) h := (ex_of d187_104 (d) L (.ref a :: st) h).trans (rfl)
theorem x187_104i {d : Nat} {L : Lc} {st : List Value} {x : Int32} {h : Hp} : ex (d) 187 104 L (.int x :: st) h = ex d 187 105 L (.int x :: .int x :: st) h := (ex_of d187_104 (d) L (.int x :: st) h).trans (rfl)
theorem d187_105 : decode (mB 187) 105 = .ok (.getfield 218, 3) := by decide +kernel
theorem x187_105 {d : Nat} {L : Lc} {st : List Value} {a : Nat} {h : Hp} (ht : (h.2.1 a).1 = 11) : ex (d) 187 105 L (.ref a :: st) h = ex d 187 108 L (h.1 a 21 :: st) h := (ex_of d187_105 (d) L (.ref a :: st) h).trans (fin_get (mi := 187) f11_218 (tg1 ht rfl))
theorem d187_108 : decode (mB 187) 108 = .ok (.iconst 1, 1) := by decide +kernel
theorem x187_108 {d : Nat} {L : Lc} {st : List Value} {h : Hp} : ex (d) 187 108 L st h = ex d 187 109 L (.int (nI 1) :: st) h := (ex_of d187_108 (d) L st h).trans (rfl)
theorem d187_109 : decode (mB 187) 109 = .ok (.iadd, 1) := by decide +kernel
theorem x187_109 {d : Nat} {L : Lc} {st : List Value} {x y : Int32} {h : Hp} : ex (d) 187 109 L (.int y :: .int x :: st) h = ex d 187 110 L (.int (x + y) :: st) h := (ex_of d187_109 (d) L (.int y :: .int x :: st) h).trans (rfl)
theorem d187_110 : decode (mB 187) 110 = .ok (.putfield 218, 3) := by decide +kernel
theorem x187_110 {d : Nat} {L : Lc} {st : List Value} {a : Nat} {x : Int32} {h : Hp} (ht : (h.2.1 a).1 = 11) : ex (d) 187 110 L (.int x :: .ref a :: st) h = ex d 187 113 L st (mup h.1 a 21 (.int x), h.2) := (ex_of d187_110 (d) L (.int x :: .ref a :: st) h).trans (fin_put (mi := 187) f11_218 ht rfl rfl (by decide +kernel))
theorem d187_113 : decode (mB 187) 113 = .ok (.aload_n 0, 1) := by decide +kernel
theorem x187_113 {d : Nat} {l1 l2 l3 : Option Value} {st : List Value} {a : Nat} {h : Hp} : ex (d) 187 113 [some (.ref a), l1, l2, l3] st h = ex d 187 114 [some (.ref a), l1, l2, l3] (.ref a :: st) h := (ex_of d187_113 (d) [some (.ref a), l1, l2, l3] st h).trans (rfl)
theorem d187_114 : decode (mB 187) 114 = .ok (.aload_n 0, 1) := by decide +kernel
theorem x187_114 {d : Nat} {l1 l2 l3 : Option Value} {st : List Value} {a : Nat} {h : Hp} : ex (d) 187 114 [some (.ref a), l1, l2, l3] st h = ex d 187 115 [some (.ref a), l1, l2, l3] (.ref a :: st) h := (ex_of d187_114 (d) [some (.ref a), l1, l2, l3] st h).trans (rfl)
theorem d187_115 : decode (mB 187) 115 = .ok (.getfield 218, 3) := by decide +kernel
theorem x187_115 {d : Nat} {L : Lc} {st : List Value} {a : Nat} {h : Hp} (ht : (h.2.1 a).1 = 11) : ex (d) 187 115 L (.ref a :: st) h = ex d 187 118 L (h.1 a 21 :: st) h := (ex_of d187_115 (d) L (.ref a :: st) h).trans (fin_get (mi := 187) f11_218 (tg1 ht rfl))
theorem d187_118 : decode (mB 187) 118 = .ok (.iconst 1, 1) := by decide +kernel
theorem x187_118 {d : Nat} {L : Lc} {st : List Value} {h : Hp} : ex (d) 187 118 L st h = ex d 187 119 L (.int (nI 1) :: st) h := (ex_of d187_118 (d) L st h).trans (rfl)
theorem d187_119 : decode (mB 187) 119 = .ok (.isub, 1) := by decide +kernel
theorem x187_119 {d : Nat} {L : Lc} {st : List Value} {x y : Int32} {h : Hp} : ex (d) 187 119 L (.int y :: .int x :: st) h = ex d 187 120 L (.int (x - y) :: st) h := (ex_of d187_119 (d) L (.int y :: .int x :: st) h).trans (rfl)
theorem d187_120 : decode (mB 187) 120 = .ok (.invokevirtual 113, 3) := by decide +kernel
theorem x187_120 {d : Nat} {L : Lc} {a : Nat} {v0 : Int32} {h : Hp} (ht : (h.2.1 a).1 = 11) : ex (d + 1) 187 120 L (.int v0 :: .ref a :: []) h = bnd (ex d 134 0 [some (.ref a), some (.int v0)] [] h) (fun v h' => ex (d + 1) 187 123 L (v.toList ++ []) h') := (ex_of d187_120 (d + 1) L (.int v0 :: .ref a :: []) h).trans (fin_vi (mi := 187) i11_113 ht rfl rfl (by simp [cat1_i, cat1_r]) (by simp) (Nat.le_of_ble_eq_true rfl))
theorem d187_123 : decode (mB 187) 123 = .ok (.ireturn, 1) := by decide +kernel
theorem x187_123 {d : Nat} {L : Lc} {x : Int32} {h : Hp} : ex (d) 187 123 L [.int x] h = some (some (.int x), h) := (ex_of d187_123 (d) L [.int x] h).trans (rfl)
theorem d188_0 : decode (mB 188) 0 = .ok (.aload_n 0, 1) := by decide +kernel
theorem x188_0 {d : Nat} {l1 : Option Value} {st : List Value} {a : Nat} {h : Hp} : ex (d) 188 0 [some (.ref a), l1] st h = ex d 188 1 [some (.ref a), l1] (.ref a :: st) h := (ex_of d188_0 (d) [some (.ref a), l1] st h).trans (rfl)
theorem d188_1 : decode (mB 188) 1 = .ok (.getfield 218, 3) := by decide +kernel
theorem x188_1 {d : Nat} {L : Lc} {st : List Value} {a : Nat} {h : Hp} (ht : (h.2.1 a).1 = 11) : ex (d) 188 1 L (.ref a :: st) h = ex d 188 4 L (h.1 a 21 :: st) h := (ex_of d188_1 (d) L (.ref a :: st) h).trans (fin_get (mi := 188) f11_218 (tg1 ht rfl))
theorem d188_4 : decode (mB 188) 4 = .ok (.istore_n 1, 1) := by decide +kernel
theorem x188_4 {d : Nat} {l0 l1 : Option Value} {st : List Value} {x : Int32} {h : Hp} : ex (d) 188 4 [l0, l1] (.int x :: st) h = ex d 188 5 [clr l0, some (.int x)] st h := (ex_of d188_4 (d) [l0, l1] (.int x :: st) h).trans (rfl)
theorem d188_5 : decode (mB 188) 5 = .ok (.aload_n 0, 1) := by decide +kernel
theorem x188_5 {d : Nat} {l1 : Option Value} {st : List Value} {a : Nat} {h : Hp} : ex (d) 188 5 [some (.ref a), l1] st h = ex d 188 6 [some (.ref a), l1] (.ref a :: st) h := (ex_of d188_5 (d) [some (.ref a), l1] st h).trans (rfl)
theorem d188_6 : decode (mB 188) 6 = .ok (.iconst 0, 1) := by decide +kernel
theorem x188_6 {d : Nat} {L : Lc} {st : List Value} {h : Hp} : ex (d) 188 6 L st h = ex d 188 7 L (.int (nI 0) :: st) h := (ex_of d188_6 (d) L st h).trans (rfl)
theorem d188_7 : decode (mB 188) 7 = .ok (.putfield 218, 3) := by decide +kernel
theorem x188_7 {d : Nat} {L : Lc} {st : List Value} {a : Nat} {x : Int32} {h : Hp} (ht : (h.2.1 a).1 = 11) : ex (d) 188 7 L (.int x :: .ref a :: st) h = ex d 188 10 L st (mup h.1 a 21 (.int x), h.2) := (ex_of d188_7 (d) L (.int x :: .ref a :: st) h).trans (fin_put (mi := 188) f11_218 ht rfl rfl (by decide +kernel))
theorem d188_10 : decode (mB 188) 10 = .ok (.iload_n 1, 1) := by decide +kernel
theorem x188_10 {d : Nat} {l0 : Option Value} {st : List Value} {x : Int32} {h : Hp} : ex (d) 188 10 [l0, some (.int x)] st h = ex d 188 11 [l0, some (.int x)] (.int x :: st) h := (ex_of d188_10 (d) [l0, some (.int x)] st h).trans (rfl)
theorem d188_11 : decode (mB 188) 11 = .ok (.ireturn, 1) := by decide +kernel
theorem x188_11 {d : Nat} {L : Lc} {x : Int32} {h : Hp} : ex (d) 188 11 L [.int x] h = some (some (.int x), h) := (ex_of d188_11 (d) L [.int x] h).trans (rfl)
theorem d189_0 : decode (mB 189) 0 = .ok (.iload_n 1, 1) := by decide +kernel
theorem x189_0 {d : Nat} {l0 l2 l3 : Option Value} {st : List Value} {x : Int32} {h : Hp} : ex (d) 189 0 [l0, some (.int x), l2, l3] st h = ex d 189 1 [l0, some (.int x), l2, l3] (.int x :: st) h := (ex_of d189_0 (d) [l0, some (.int x), l2, l3] st h).trans (rfl)
theorem d189_1 : decode (mB 189) 1 = .ok (.iconst 0, 1) := by decide +kernel
theorem x189_1 {d : Nat} {L : Lc} {st : List Value} {h : Hp} : ex (d) 189 1 L st h = ex d 189 2 L (.int (nI 0) :: st) h := (ex_of d189_1 (d) L st h).trans (rfl)
theorem d189_2 : decode (mB 189) 2 = .ok (.bipush 9, 2) := by decide +kernel
theorem x189_2 {d : Nat} {L : Lc} {st : List Value} {h : Hp} : ex (d) 189 2 L st h = ex d 189 4 L (.int (nI 9) :: st) h := (ex_of d189_2 (d) L st h).trans (rfl)
theorem d189_4 : decode (mB 189) 4 = .ok (.invokestatic 101, 3) := by decide +kernel
theorem x189_4 {d : Nat} {L : Lc}  {v0 : Int32} {v1 : Int32} {v2 : Int32} {h : Hp} : ex (d + 1) 189 4 L (.int v2 :: .int v1 :: .int v0 :: []) h = bnd (ex d 137 0 [some (.int v0), some (.int v1), some (.int v2)] [] h) (fun v h' => ex (d + 1) 189 7 L (v.toList ++ []) h') := (ex_of d189_4 (d + 1) L (.int v2 :: .int v1 :: .int v0 :: []) h).trans (fin_st (mi := 189) i11_101 (Or.inl rfl) (by simp) (by simp [cat1_i, cat1_r]) (by simp) (Nat.le_of_ble_eq_true rfl))
theorem d189_7 : decode (mB 189) 7 = .ok (.ifCond .eq 13, 3) := by decide +kernel
theorem x189_7 {d : Nat} {L : Lc} {st : List Value} {x : Int32} {h : Hp} : ex (d) 189 7 L (.int x :: st) h = if x = 0 then ex d 189 20 L st h else ex d 189 10 L st h := (ex_of d189_7 (d) L (.int x :: st) h).trans (fin_brq (off := 13) (tgt := 20) rfl (by decide))
theorem d189_10 : decode (mB 189) 10 = .ok (.iload_n 2, 1) := by decide +kernel
theorem x189_10 {d : Nat} {l0 l1 l3 : Option Value} {st : List Value} {x : Int32} {h : Hp} : ex (d) 189 10 [l0, l1, some (.int x), l3] st h = ex d 189 11 [l0, l1, some (.int x), l3] (.int x :: st) h := (ex_of d189_10 (d) [l0, l1, some (.int x), l3] st h).trans (rfl)
theorem d189_11 : decode (mB 189) 11 = .ok (.iconst 0, 1) := by decide +kernel
theorem x189_11 {d : Nat} {L : Lc} {st : List Value} {h : Hp} : ex (d) 189 11 L st h = ex d 189 12 L (.int (nI 0) :: st) h := (ex_of d189_11 (d) L st h).trans (rfl)
theorem d189_12 : decode (mB 189) 12 = .ok (.bipush 90, 2) := by decide +kernel
theorem x189_12 {d : Nat} {L : Lc} {st : List Value} {h : Hp} : ex (d) 189 12 L st h = ex d 189 14 L (.int (nI 90) :: st) h := (ex_of d189_12 (d) L st h).trans (rfl)
theorem d189_14 : decode (mB 189) 14 = .ok (.invokestatic 101, 3) := by decide +kernel
theorem x189_14 {d : Nat} {L : Lc}  {v0 : Int32} {v1 : Int32} {v2 : Int32} {h : Hp} : ex (d + 1) 189 14 L (.int v2 :: .int v1 :: .int v0 :: []) h = bnd (ex d 137 0 [some (.int v0), some (.int v1), some (.int v2)] [] h) (fun v h' => ex (d + 1) 189 17 L (v.toList ++ []) h') := (ex_of d189_14 (d + 1) L (.int v2 :: .int v1 :: .int v0 :: []) h).trans (fin_st (mi := 189) i11_101 (Or.inl rfl) (by simp) (by simp [cat1_i, cat1_r]) (by simp) (Nat.le_of_ble_eq_true rfl))
theorem d189_17 : decode (mB 189) 17 = .ok (.ifCond .ne 10, 3) := by decide +kernel
theorem x189_17 {d : Nat} {L : Lc} {st : List Value} {x : Int32} {h : Hp} : ex (d) 189 17 L (.int x :: st) h = if ¬ x = 0 then ex d 189 27 L st h else ex d 189 20 L st h := (ex_of d189_17 (d) L (.int x :: st) h).trans (fin_brq (off := 10) (tgt := 27) rfl (by decide))
theorem d189_20 : decode (mB 189) 20 = .ok (.aload_n 0, 1) := by decide +kernel
theorem x189_20 {d : Nat} {l1 l2 l3 : Option Value} {st : List Value} {a : Nat} {h : Hp} : ex (d) 189 20 [some (.ref a), l1, l2, l3] st h = ex d 189 21 [some (.ref a), l1, l2, l3] (.ref a :: st) h := (ex_of d189_20 (d) [some (.ref a), l1, l2, l3] st h).trans (rfl)
theorem d189_21 : decode (mB 189) 21 = .ok (.bipush 6, 2) := by decide +kernel
theorem x189_21 {d : Nat} {L : Lc} {st : List Value} {h : Hp} : ex (d) 189 21 L st h = ex d 189 23 L (.int (nI 6) :: st) h := (ex_of d189_21 (d) L st h).trans (rfl)
theorem d189_23 : decode (mB 189) 23 = .ok (.invokevirtual 109, 3) := by decide +kernel
theorem x189_23 {d : Nat} {L : Lc} {a : Nat} {v0 : Int32} {h : Hp} (ht : (h.2.1 a).1 = 11) : ex (d + 1) 189 23 L (.int v0 :: .ref a :: []) h = bnd (ex d 135 0 [some (.ref a), some (.int v0)] [] h) (fun v h' => ex (d + 1) 189 26 L (v.toList ++ []) h') := (ex_of d189_23 (d + 1) L (.int v0 :: .ref a :: []) h).trans (fin_vi (mi := 189) i11_109 ht rfl rfl (by simp [cat1_i, cat1_r]) (by simp) (Nat.le_of_ble_eq_true rfl))
theorem d189_26 : decode (mB 189) 26 = .ok (.ireturn, 1) := by decide +kernel
theorem x189_26 {d : Nat} {L : Lc} {x : Int32} {h : Hp} : ex (d) 189 26 L [.int x] h = some (some (.int x), h) := (ex_of d189_26 (d) L [.int x] h).trans (rfl)
theorem d189_27 : decode (mB 189) 27 = .ok (.aload_n 0, 1) := by decide +kernel
theorem x189_27 {d : Nat} {l1 l2 l3 : Option Value} {st : List Value} {a : Nat} {h : Hp} : ex (d) 189 27 [some (.ref a), l1, l2, l3] st h = ex d 189 28 [some (.ref a), l1, l2, l3] (.ref a :: st) h := (ex_of d189_27 (d) [some (.ref a), l1, l2, l3] st h).trans (rfl)
theorem d189_28 : decode (mB 189) 28 = .ok (.getfield 55, 3) := by decide +kernel
theorem x189_28 {d : Nat} {L : Lc} {st : List Value} {a : Nat} {h : Hp} (ht : (h.2.1 a).1 = 11) : ex (d) 189 28 L (.ref a :: st) h = ex d 189 31 L (h.1 a 24 :: st) h := (ex_of d189_28 (d) L (.ref a :: st) h).trans (fin_get (mi := 189) f11_55 (tg1 ht rfl))
theorem d189_31 : decode (mB 189) 31 = .ok (.iload_n 1, 1) := by decide +kernel
theorem x189_31 {d : Nat} {l0 l2 l3 : Option Value} {st : List Value} {x : Int32} {h : Hp} : ex (d) 189 31 [l0, some (.int x), l2, l3] st h = ex d 189 32 [l0, some (.int x), l2, l3] (.int x :: st) h := (ex_of d189_31 (d) [l0, some (.int x), l2, l3] st h).trans (rfl)
theorem d189_32 : decode (mB 189) 32 = .ok (.iaload, 1) := by decide +kernel
theorem x189_32 {d : Nat} {L : Lc} {st : List Value} {a j : Nat} {h : Hp} (ht : (h.2.1 a).1 = 20) (hj : j < (h.2.1 a).2) (hb : j < 2147483648) : ex (d) 189 32 L (.int (nI j) :: .ref a :: st) h = ex d 189 33 L (h.1 a j :: st) h := (ex_of d189_32 (d) L (.int (nI j) :: .ref a :: st) h).trans (fin_iaload (Or.inl ht) hj hb)
theorem d189_33 : decode (mB 189) 33 = .ok (.istore_n 3, 1) := by decide +kernel
theorem x189_33 {d : Nat} {l0 l1 l2 l3 : Option Value} {st : List Value} {x : Int32} {h : Hp} : ex (d) 189 33 [l0, l1, l2, l3] (.int x :: st) h = ex d 189 34 [l0, l1, clr l2, some (.int x)] st h := (ex_of d189_33 (d) [l0, l1, l2, l3] (.int x :: st) h).trans (rfl)
theorem d189_34 : decode (mB 189) 34 = .ok (.aload_n 0, 1) := by decide +kernel
theorem x189_34 {d : Nat} {l1 l2 l3 : Option Value} {st : List Value} {a : Nat} {h : Hp} : ex (d) 189 34 [some (.ref a), l1, l2, l3] st h = ex d 189 35 [some (.ref a), l1, l2, l3] (.ref a :: st) h := (ex_of d189_34 (d) [some (.ref a), l1, l2, l3] st h).trans (rfl)
theorem d189_35 : decode (mB 189) 35 = .ok (.getfield 55, 3) := by decide +kernel
theorem x189_35 {d : Nat} {L : Lc} {st : List Value} {a : Nat} {h : Hp} (ht : (h.2.1 a).1 = 11) : ex (d) 189 35 L (.ref a :: st) h = ex d 189 38 L (h.1 a 24 :: st) h := (ex_of d189_35 (d) L (.ref a :: st) h).trans (fin_get (mi := 189) f11_55 (tg1 ht rfl))
theorem d189_38 : decode (mB 189) 38 = .ok (.iload_n 1, 1) := by decide +kernel
theorem x189_38 {d : Nat} {l0 l2 l3 : Option Value} {st : List Value} {x : Int32} {h : Hp} : ex (d) 189 38 [l0, some (.int x), l2, l3] st h = ex d 189 39 [l0, some (.int x), l2, l3] (.int x :: st) h := (ex_of d189_38 (d) [l0, some (.int x), l2, l3] st h).trans (rfl)
theorem d189_39 : decode (mB 189) 39 = .ok (.iload_n 2, 1) := by decide +kernel
theorem x189_39 {d : Nat} {l0 l1 l3 : Option Value} {st : List Value} {x : Int32} {h : Hp} : ex (d) 189 39 [l0, l1, some (.int x), l3] st h = ex d 189 40 [l0, l1, some (.int x), l3] (.int x :: st) h := (ex_of d189_39 (d) [l0, l1, some (.int x), l3] st h).trans (rfl)
theorem d189_40 : decode (mB 189) 40 = .ok (.iastore, 1) := by decide +kernel
theorem x189_40 {d : Nat} {L : Lc} {st : List Value} {a j : Nat} {x : Int32} {h : Hp} (ht : (h.2.1 a).1 = 20) (hj : j < (h.2.1 a).2) (hb : j < 2147483648) : ex (d) 189 40 L (.int x :: .int (nI j) :: .ref a :: st) h = ex d 189 41 L st (mup h.1 a j (.int x), h.2) := (ex_of d189_40 (d) L (.int x :: .int (nI j) :: .ref a :: st) h).trans (fin_iastore ht hj hb)
theorem d189_41 : decode (mB 189) 41 = .ok (.aload_n 0, 1) := by decide +kernel
theorem x189_41 {d : Nat} {l1 l2 l3 : Option Value} {st : List Value} {a : Nat} {h : Hp} : ex (d) 189 41 [some (.ref a), l1, l2, l3] st h = ex d 189 42 [some (.ref a), l1, l2, l3] (.ref a :: st) h := (ex_of d189_41 (d) [some (.ref a), l1, l2, l3] st h).trans (rfl)
theorem d189_42 : decode (mB 189) 42 = .ok (.iload_n 3, 1) := by decide +kernel
theorem x189_42 {d : Nat} {l0 l1 l2 : Option Value} {st : List Value} {x : Int32} {h : Hp} : ex (d) 189 42 [l0, l1, l2, some (.int x)] st h = ex d 189 43 [l0, l1, l2, some (.int x)] (.int x :: st) h := (ex_of d189_42 (d) [l0, l1, l2, some (.int x)] st h).trans (rfl)
theorem d189_43 : decode (mB 189) 43 = .ok (.invokevirtual 113, 3) := by decide +kernel
theorem x189_43 {d : Nat} {L : Lc} {a : Nat} {v0 : Int32} {h : Hp} (ht : (h.2.1 a).1 = 11) : ex (d + 1) 189 43 L (.int v0 :: .ref a :: []) h = bnd (ex d 134 0 [some (.ref a), some (.int v0)] [] h) (fun v h' => ex (d + 1) 189 46 L (v.toList ++ []) h') := (ex_of d189_43 (d + 1) L (.int v0 :: .ref a :: []) h).trans (fin_vi (mi := 189) i11_113 ht rfl rfl (by simp [cat1_i, cat1_r]) (by simp) (Nat.le_of_ble_eq_true rfl))
theorem d189_46 : decode (mB 189) 46 = .ok (.ireturn, 1) := by decide +kernel
theorem x189_46 {d : Nat} {L : Lc} {x : Int32} {h : Hp} : ex (d) 189 46 L [.int x] h = some (some (.int x), h) := (ex_of d189_46 (d) L [.int x] h).trans (rfl)
theorem d190_0 : decode (mB 190) 0 = .ok (.aload_n 0, 1) := by decide +kernel
theorem x190_0 {d : Nat} {l1 l2 : Option Value} {st : List Value} {a : Nat} {h : Hp} : ex (d) 190 0 [some (.ref a), l1, l2] st h = ex d 190 1 [some (.ref a), l1, l2] (.ref a :: st) h := (ex_of d190_0 (d) [some (.ref a), l1, l2] st h).trans (rfl)
theorem d190_1 : decode (mB 190) 1 = .ok (.dup, 1) := by decide +kernel
theorem x190_1 {d : Nat} {L : Lc} {st : List Value} {a : Nat} {h : Hp} : ex (d) 190 1 L (.ref a :: st) h = ex d 190 2 L (.ref a :: .ref a :: st) h := (ex_of d190_1 (d) L (.ref a :: st) h).trans (rfl)
theorem x190_1i {d : Nat} {L : Lc} {st : List Value} {x : Int32} {h : Hp} : ex (d) 190 1 L (.int x :: st) h = ex d 190 2 L (.int x :: .int x :: st) h := (ex_of d190_1 (d) L (.int x :: st) h).trans (rfl)
theorem d190_2 : decode (mB 190) 2 = .ok (.getfield 126, 3) := by decide +kernel
theorem x190_2 {d : Nat} {L : Lc} {st : List Value} {a : Nat} {h : Hp} (ht : (h.2.1 a).1 = 11) : ex (d) 190 2 L (.ref a :: st) h = ex d 190 5 L (h.1 a 14 :: st) h := (ex_of d190_2 (d) L (.ref a :: st) h).trans (fin_get (mi := 190) f11_126 (tg1 ht rfl))
theorem d190_5 : decode (mB 190) 5 = .ok (.iconst 1, 1) := by decide +kernel
theorem x190_5 {d : Nat} {L : Lc} {st : List Value} {h : Hp} : ex (d) 190 5 L st h = ex d 190 6 L (.int (nI 1) :: st) h := (ex_of d190_5 (d) L st h).trans (rfl)
theorem d190_6 : decode (mB 190) 6 = .ok (.iadd, 1) := by decide +kernel
theorem x190_6 {d : Nat} {L : Lc} {st : List Value} {x y : Int32} {h : Hp} : ex (d) 190 6 L (.int y :: .int x :: st) h = ex d 190 7 L (.int (x + y) :: st) h := (ex_of d190_6 (d) L (.int y :: .int x :: st) h).trans (rfl)
theorem d190_7 : decode (mB 190) 7 = .ok (.putfield 126, 3) := by decide +kernel
theorem x190_7 {d : Nat} {L : Lc} {st : List Value} {a : Nat} {x : Int32} {h : Hp} (ht : (h.2.1 a).1 = 11) : ex (d) 190 7 L (.int x :: .ref a :: st) h = ex d 190 10 L st (mup h.1 a 14 (.int x), h.2) := (ex_of d190_7 (d) L (.int x :: .ref a :: st) h).trans (fin_put (mi := 190) f11_126 ht rfl rfl (by decide +kernel))
theorem d190_10 : decode (mB 190) 10 = .ok (.aload_n 0, 1) := by decide +kernel
theorem x190_10 {d : Nat} {l1 l2 : Option Value} {st : List Value} {a : Nat} {h : Hp} : ex (d) 190 10 [some (.ref a), l1, l2] st h = ex d 190 11 [some (.ref a), l1, l2] (.ref a :: st) h := (ex_of d190_10 (d) [some (.ref a), l1, l2] st h).trans (rfl)
theorem d190_11 : decode (mB 190) 11 = .ok (.dup, 1) := by decide +kernel
theorem x190_11 {d : Nat} {L : Lc} {st : List Value} {a : Nat} {h : Hp} : ex (d) 190 11 L (.ref a :: st) h = ex d 190 12 L (.ref a :: .ref a :: st) h := (ex_of d190_11 (d) L (.ref a :: st) h).trans (rfl)
theorem x190_11i {d : Nat} {L : Lc} {st : List Value} {x : Int32} {h : Hp} : ex (d) 190 11 L (.int x :: st) h = ex d 190 12 L (.int x :: .int x :: st) h := (ex_of d190_11 (d) L (.int x :: st) h).trans (rfl)
theorem d190_12 : decode (mB 190) 12 = .ok (.getfield 129, 3) := by decide +kernel
theorem x190_12 {d : Nat} {L : Lc} {st : List Value} {a : Nat} {h : Hp} (ht : (h.2.1 a).1 = 11) : ex (d) 190 12 L (.ref a :: st) h = ex d 190 15 L (h.1 a 15 :: st) h := (ex_of d190_12 (d) L (.ref a :: st) h).trans (fin_get (mi := 190) f11_129 (tg1 ht rfl))
theorem d190_15 : decode (mB 190) 15 = .ok (.aload_n 0, 1) := by decide +kernel
theorem x190_15 {d : Nat} {l1 l2 : Option Value} {st : List Value} {a : Nat} {h : Hp} : ex (d) 190 15 [some (.ref a), l1, l2] st h = ex d 190 16 [some (.ref a), l1, l2] (.ref a :: st) h := (ex_of d190_15 (d) [some (.ref a), l1, l2] st h).trans (rfl)
theorem d190_16 : decode (mB 190) 16 = .ok (.getfield 98, 3) := by decide +kernel
theorem x190_16 {d : Nat} {L : Lc} {st : List Value} {a : Nat} {h : Hp} (ht : (h.2.1 a).1 = 11) : ex (d) 190 16 L (.ref a :: st) h = ex d 190 19 L (h.1 a 8 :: st) h := (ex_of d190_16 (d) L (.ref a :: st) h).trans (fin_get (mi := 190) f11_98 (tg1 ht rfl))
theorem d190_19 : decode (mB 190) 19 = .ok (.iadd, 1) := by decide +kernel
theorem x190_19 {d : Nat} {L : Lc} {st : List Value} {x y : Int32} {h : Hp} : ex (d) 190 19 L (.int y :: .int x :: st) h = ex d 190 20 L (.int (x + y) :: st) h := (ex_of d190_19 (d) L (.int y :: .int x :: st) h).trans (rfl)
theorem d190_20 : decode (mB 190) 20 = .ok (.putfield 129, 3) := by decide +kernel
theorem x190_20 {d : Nat} {L : Lc} {st : List Value} {a : Nat} {x : Int32} {h : Hp} (ht : (h.2.1 a).1 = 11) : ex (d) 190 20 L (.int x :: .ref a :: st) h = ex d 190 23 L st (mup h.1 a 15 (.int x), h.2) := (ex_of d190_20 (d) L (.int x :: .ref a :: st) h).trans (fin_put (mi := 190) f11_129 ht rfl rfl (by decide +kernel))
theorem d190_23 : decode (mB 190) 23 = .ok (.aload_n 0, 1) := by decide +kernel
theorem x190_23 {d : Nat} {l1 l2 : Option Value} {st : List Value} {a : Nat} {h : Hp} : ex (d) 190 23 [some (.ref a), l1, l2] st h = ex d 190 24 [some (.ref a), l1, l2] (.ref a :: st) h := (ex_of d190_23 (d) [some (.ref a), l1, l2] st h).trans (rfl)
theorem d190_24 : decode (mB 190) 24 = .ok (.iconst 0, 1) := by decide +kernel
theorem x190_24 {d : Nat} {L : Lc} {st : List Value} {h : Hp} : ex (d) 190 24 L st h = ex d 190 25 L (.int (nI 0) :: st) h := (ex_of d190_24 (d) L st h).trans (rfl)
theorem d190_25 : decode (mB 190) 25 = .ok (.putfield 221, 3) := by decide +kernel
theorem x190_25 {d : Nat} {L : Lc} {st : List Value} {a : Nat} {x : Int32} {h : Hp} (ht : (h.2.1 a).1 = 11) : ex (d) 190 25 L (.int x :: .ref a :: st) h = ex d 190 28 L st (mup h.1 a 25 (.int x), h.2) := (ex_of d190_25 (d) L (.int x :: .ref a :: st) h).trans (fin_put (mi := 190) f11_221 ht rfl rfl (by decide +kernel))
theorem d190_28 : decode (mB 190) 28 = .ok (.iconst 0, 1) := by decide +kernel
theorem x190_28 {d : Nat} {L : Lc} {st : List Value} {h : Hp} : ex (d) 190 28 L st h = ex d 190 29 L (.int (nI 0) :: st) h := (ex_of d190_28 (d) L st h).trans (rfl)
theorem d190_29 : decode (mB 190) 29 = .ok (.istore_n 1, 1) := by decide +kernel
theorem x190_29 {d : Nat} {l0 l1 l2 : Option Value} {st : List Value} {x : Int32} {h : Hp} : ex (d) 190 29 [l0, l1, l2] (.int x :: st) h = ex d 190 30 [clr l0, some (.int x), l2] st h := (ex_of d190_29 (d) [l0, l1, l2] (.int x :: st) h).trans (rfl)
theorem d190_30 : decode (mB 190) 30 = .ok (.iload_n 1, 1) := by decide +kernel
theorem x190_30 {d : Nat} {l0 l2 : Option Value} {st : List Value} {x : Int32} {h : Hp} : ex (d) 190 30 [l0, some (.int x), l2] st h = ex d 190 31 [l0, some (.int x), l2] (.int x :: st) h := (ex_of d190_30 (d) [l0, some (.int x), l2] st h).trans (rfl)
theorem d190_31 : decode (mB 190) 31 = .ok (.aload_n 0, 1) := by decide +kernel
theorem x190_31 {d : Nat} {l1 l2 : Option Value} {st : List Value} {a : Nat} {h : Hp} : ex (d) 190 31 [some (.ref a), l1, l2] st h = ex d 190 32 [some (.ref a), l1, l2] (.ref a :: st) h := (ex_of d190_31 (d) [some (.ref a), l1, l2] st h).trans (rfl)
theorem d190_32 : decode (mB 190) 32 = .ok (.getfield 95, 3) := by decide +kernel
theorem x190_32 {d : Nat} {L : Lc} {st : List Value} {a : Nat} {h : Hp} (ht : (h.2.1 a).1 = 11) : ex (d) 190 32 L (.ref a :: st) h = ex d 190 35 L (h.1 a 1 :: st) h := (ex_of d190_32 (d) L (.ref a :: st) h).trans (fin_get (mi := 190) f11_95 (tg1 ht rfl))
theorem d190_35 : decode (mB 190) 35 = .ok (.if_icmp .ge 71, 3) := by decide +kernel
theorem x190_35 {d : Nat} {L : Lc} {st : List Value} {x y : Int32} {h : Hp} : ex (d) 190 35 L (.int y :: .int x :: st) h = if y ≤ x then ex d 190 106 L st h else ex d 190 38 L st h := (ex_of d190_35 (d) L (.int y :: .int x :: st) h).trans (fin_brq (off := 71) (tgt := 106) rfl (by decide))
theorem d190_38 : decode (mB 190) 38 = .ok (.aload_n 0, 1) := by decide +kernel
theorem x190_38 {d : Nat} {l1 l2 : Option Value} {st : List Value} {a : Nat} {h : Hp} : ex (d) 190 38 [some (.ref a), l1, l2] st h = ex d 190 39 [some (.ref a), l1, l2] (.ref a :: st) h := (ex_of d190_38 (d) [some (.ref a), l1, l2] st h).trans (rfl)
theorem d190_39 : decode (mB 190) 39 = .ok (.getfield 221, 3) := by decide +kernel
theorem x190_39 {d : Nat} {L : Lc} {st : List Value} {a : Nat} {h : Hp} (ht : (h.2.1 a).1 = 11) : ex (d) 190 39 L (.ref a :: st) h = ex d 190 42 L (h.1 a 25 :: st) h := (ex_of d190_39 (d) L (.ref a :: st) h).trans (fin_get (mi := 190) f11_221 (tg1 ht rfl))
theorem d190_42 : decode (mB 190) 42 = .ok (.bipush 8, 2) := by decide +kernel
theorem x190_42 {d : Nat} {L : Lc} {st : List Value} {h : Hp} : ex (d) 190 42 L st h = ex d 190 44 L (.int (nI 8) :: st) h := (ex_of d190_42 (d) L st h).trans (rfl)
theorem d190_44 : decode (mB 190) 44 = .ok (.if_icmp .ge 62, 3) := by decide +kernel
theorem x190_44 {d : Nat} {L : Lc} {st : List Value} {x y : Int32} {h : Hp} : ex (d) 190 44 L (.int y :: .int x :: st) h = if y ≤ x then ex d 190 106 L st h else ex d 190 47 L st h := (ex_of d190_44 (d) L (.int y :: .int x :: st) h).trans (fin_brq (off := 62) (tgt := 106) rfl (by decide))
theorem d190_47 : decode (mB 190) 47 = .ok (.aload_n 0, 1) := by decide +kernel
theorem x190_47 {d : Nat} {l1 l2 : Option Value} {st : List Value} {a : Nat} {h : Hp} : ex (d) 190 47 [some (.ref a), l1, l2] st h = ex d 190 48 [some (.ref a), l1, l2] (.ref a :: st) h := (ex_of d190_47 (d) [some (.ref a), l1, l2] st h).trans (rfl)
theorem d190_48 : decode (mB 190) 48 = .ok (.iload_n 1, 1) := by decide +kernel
theorem x190_48 {d : Nat} {l0 l2 : Option Value} {st : List Value} {x : Int32} {h : Hp} : ex (d) 190 48 [l0, some (.int x), l2] st h = ex d 190 49 [l0, some (.int x), l2] (.int x :: st) h := (ex_of d190_48 (d) [l0, some (.int x), l2] st h).trans (rfl)
theorem d190_49 : decode (mB 190) 49 = .ok (.invokevirtual 212, 3) := by decide +kernel
theorem x190_49 {d : Nat} {L : Lc} {a : Nat} {v0 : Int32} {h : Hp} (ht : (h.2.1 a).1 = 11) : ex (d + 1) 190 49 L (.int v0 :: .ref a :: []) h = bnd (ex d 139 0 [some (.ref a), some (.int v0)] [] h) (fun v h' => ex (d + 1) 190 52 L (v.toList ++ []) h') := (ex_of d190_49 (d + 1) L (.int v0 :: .ref a :: []) h).trans (fin_vi (mi := 190) i11_212 ht rfl rfl (by simp [cat1_i, cat1_r]) (by simp) (Nat.le_of_ble_eq_true rfl))
theorem d190_52 : decode (mB 190) 52 = .ok (.ifCond .eq 48, 3) := by decide +kernel
theorem x190_52 {d : Nat} {L : Lc} {st : List Value} {x : Int32} {h : Hp} : ex (d) 190 52 L (.int x :: st) h = if x = 0 then ex d 190 100 L st h else ex d 190 55 L st h := (ex_of d190_52 (d) L (.int x :: st) h).trans (fin_brq (off := 48) (tgt := 100) rfl (by decide))
theorem d190_55 : decode (mB 190) 55 = .ok (.aload_n 0, 1) := by decide +kernel
theorem x190_55 {d : Nat} {l1 l2 : Option Value} {st : List Value} {a : Nat} {h : Hp} : ex (d) 190 55 [some (.ref a), l1, l2] st h = ex d 190 56 [some (.ref a), l1, l2] (.ref a :: st) h := (ex_of d190_55 (d) [some (.ref a), l1, l2] st h).trans (rfl)
theorem d190_56 : decode (mB 190) 56 = .ok (.getfield 13, 3) := by decide +kernel
theorem x190_56 {d : Nat} {L : Lc} {st : List Value} {a : Nat} {h : Hp} (ht : (h.2.1 a).1 = 11) : ex (d) 190 56 L (.ref a :: st) h = ex d 190 59 L (h.1 a 3 :: st) h := (ex_of d190_56 (d) L (.ref a :: st) h).trans (fin_get (mi := 190) f11_13 (tg1 ht rfl))
theorem d190_59 : decode (mB 190) 59 = .ok (.iload_n 1, 1) := by decide +kernel
theorem x190_59 {d : Nat} {l0 l2 : Option Value} {st : List Value} {x : Int32} {h : Hp} : ex (d) 190 59 [l0, some (.int x), l2] st h = ex d 190 60 [l0, some (.int x), l2] (.int x :: st) h := (ex_of d190_59 (d) [l0, some (.int x), l2] st h).trans (rfl)
theorem d190_60 : decode (mB 190) 60 = .ok (.iaload, 1) := by decide +kernel
theorem x190_60 {d : Nat} {L : Lc} {st : List Value} {a j : Nat} {h : Hp} (ht : (h.2.1 a).1 = 20) (hj : j < (h.2.1 a).2) (hb : j < 2147483648) : ex (d) 190 60 L (.int (nI j) :: .ref a :: st) h = ex d 190 61 L (h.1 a j :: st) h := (ex_of d190_60 (d) L (.int (nI j) :: .ref a :: st) h).trans (fin_iaload (Or.inl ht) hj hb)
theorem d190_61 : decode (mB 190) 61 = .ok (.iconst 1, 1) := by decide +kernel
theorem x190_61 {d : Nat} {L : Lc} {st : List Value} {h : Hp} : ex (d) 190 61 L st h = ex d 190 62 L (.int (nI 1) :: st) h := (ex_of d190_61 (d) L st h).trans (rfl)
theorem d190_62 : decode (mB 190) 62 = .ok (.if_icmp .ne 38, 3) := by decide +kernel
theorem x190_62 {d : Nat} {L : Lc} {st : List Value} {x y : Int32} {h : Hp} : ex (d) 190 62 L (.int y :: .int x :: st) h = if ¬ x = y then ex d 190 100 L st h else ex d 190 65 L st h := (ex_of d190_62 (d) L (.int y :: .int x :: st) h).trans (fin_brq (off := 38) (tgt := 100) rfl (by decide))
theorem d190_65 : decode (mB 190) 65 = .ok (.aload_n 0, 1) := by decide +kernel
theorem x190_65 {d : Nat} {l1 l2 : Option Value} {st : List Value} {a : Nat} {h : Hp} : ex (d) 190 65 [some (.ref a), l1, l2] st h = ex d 190 66 [some (.ref a), l1, l2] (.ref a :: st) h := (ex_of d190_65 (d) [some (.ref a), l1, l2] st h).trans (rfl)
theorem d190_66 : decode (mB 190) 66 = .ok (.getfield 16, 3) := by decide +kernel
theorem x190_66 {d : Nat} {L : Lc} {st : List Value} {a : Nat} {h : Hp} (ht : (h.2.1 a).1 = 11) : ex (d) 190 66 L (.ref a :: st) h = ex d 190 69 L (h.1 a 4 :: st) h := (ex_of d190_66 (d) L (.ref a :: st) h).trans (fin_get (mi := 190) f11_16 (tg1 ht rfl))
theorem d190_69 : decode (mB 190) 69 = .ok (.iload_n 1, 1) := by decide +kernel
theorem x190_69 {d : Nat} {l0 l2 : Option Value} {st : List Value} {x : Int32} {h : Hp} : ex (d) 190 69 [l0, some (.int x), l2] st h = ex d 190 70 [l0, some (.int x), l2] (.int x :: st) h := (ex_of d190_69 (d) [l0, some (.int x), l2] st h).trans (rfl)
theorem d190_70 : decode (mB 190) 70 = .ok (.iaload, 1) := by decide +kernel
theorem x190_70 {d : Nat} {L : Lc} {st : List Value} {a j : Nat} {h : Hp} (ht : (h.2.1 a).1 = 20) (hj : j < (h.2.1 a).2) (hb : j < 2147483648) : ex (d) 190 70 L (.int (nI j) :: .ref a :: st) h = ex d 190 71 L (h.1 a j :: st) h := (ex_of d190_70 (d) L (.int (nI j) :: .ref a :: st) h).trans (fin_iaload (Or.inl ht) hj hb)
theorem d190_71 : decode (mB 190) 71 = .ok (.sipush 1000, 3) := by decide +kernel
theorem x190_71 {d : Nat} {L : Lc} {st : List Value} {h : Hp} : ex (d) 190 71 L st h = ex d 190 74 L (.int (nI 1000) :: st) h := (ex_of d190_71 (d) L st h).trans (rfl)
theorem d190_74 : decode (mB 190) 74 = .ok (.if_icmp .lt 6, 3) := by decide +kernel
theorem x190_74 {d : Nat} {L : Lc} {st : List Value} {x y : Int32} {h : Hp} : ex (d) 190 74 L (.int y :: .int x :: st) h = if x < y then ex d 190 80 L st h else ex d 190 77 L st h := (ex_of d190_74 (d) L (.int y :: .int x :: st) h).trans (fin_brq (off := 6) (tgt := 80) rfl (by decide))
theorem d190_77 : decode (mB 190) 77 = .ok (.goto 23, 3) := by decide +kernel
theorem x190_77 {d : Nat} {L : Lc} {st : List Value} {h : Hp} : ex (d) 190 77 L st h = ex d 190 100 L st h := (ex_of d190_77 (d) L st h).trans (rfl)
theorem d190_80 : decode (mB 190) 80 = .ok (.aload_n 0, 1) := by decide +kernel
theorem x190_80 {d : Nat} {l1 l2 : Option Value} {st : List Value} {a : Nat} {h : Hp} : ex (d) 190 80 [some (.ref a), l1, l2] st h = ex d 190 81 [some (.ref a), l1, l2] (.ref a :: st) h := (ex_of d190_80 (d) [some (.ref a), l1, l2] st h).trans (rfl)
theorem d190_81 : decode (mB 190) 81 = .ok (.getfield 58, 3) := by decide +kernel
theorem x190_81 {d : Nat} {L : Lc} {st : List Value} {a : Nat} {h : Hp} (ht : (h.2.1 a).1 = 11) : ex (d) 190 81 L (.ref a :: st) h = ex d 190 84 L (h.1 a 26 :: st) h := (ex_of d190_81 (d) L (.ref a :: st) h).trans (fin_get (mi := 190) f11_58 (tg1 ht rfl))
theorem d190_84 : decode (mB 190) 84 = .ok (.aload_n 0, 1) := by decide +kernel
theorem x190_84 {d : Nat} {l1 l2 : Option Value} {st : List Value} {a : Nat} {h : Hp} : ex (d) 190 84 [some (.ref a), l1, l2] st h = ex d 190 85 [some (.ref a), l1, l2] (.ref a :: st) h := (ex_of d190_84 (d) [some (.ref a), l1, l2] st h).trans (rfl)
theorem d190_85 : decode (mB 190) 85 = .ok (.getfield 221, 3) := by decide +kernel
theorem x190_85 {d : Nat} {L : Lc} {st : List Value} {a : Nat} {h : Hp} (ht : (h.2.1 a).1 = 11) : ex (d) 190 85 L (.ref a :: st) h = ex d 190 88 L (h.1 a 25 :: st) h := (ex_of d190_85 (d) L (.ref a :: st) h).trans (fin_get (mi := 190) f11_221 (tg1 ht rfl))
theorem d190_88 : decode (mB 190) 88 = .ok (.iload_n 1, 1) := by decide +kernel
theorem x190_88 {d : Nat} {l0 l2 : Option Value} {st : List Value} {x : Int32} {h : Hp} : ex (d) 190 88 [l0, some (.int x), l2] st h = ex d 190 89 [l0, some (.int x), l2] (.int x :: st) h := (ex_of d190_88 (d) [l0, some (.int x), l2] st h).trans (rfl)
theorem d190_89 : decode (mB 190) 89 = .ok (.iastore, 1) := by decide +kernel
theorem x190_89 {d : Nat} {L : Lc} {st : List Value} {a j : Nat} {x : Int32} {h : Hp} (ht : (h.2.1 a).1 = 20) (hj : j < (h.2.1 a).2) (hb : j < 2147483648) : ex (d) 190 89 L (.int x :: .int (nI j) :: .ref a :: st) h = ex d 190 90 L st (mup h.1 a j (.int x), h.2) := (ex_of d190_89 (d) L (.int x :: .int (nI j) :: .ref a :: st) h).trans (fin_iastore ht hj hb)
theorem d190_90 : decode (mB 190) 90 = .ok (.aload_n 0, 1) := by decide +kernel
theorem x190_90 {d : Nat} {l1 l2 : Option Value} {st : List Value} {a : Nat} {h : Hp} : ex (d) 190 90 [some (.ref a), l1, l2] st h = ex d 190 91 [some (.ref a), l1, l2] (.ref a :: st) h := (ex_of d190_90 (d) [some (.ref a), l1, l2] st h).trans (rfl)
theorem d190_91 : decode (mB 190) 91 = .ok (.dup, 1) := by decide +kernel
theorem x190_91 {d : Nat} {L : Lc} {st : List Value} {a : Nat} {h : Hp} : ex (d) 190 91 L (.ref a :: st) h = ex d 190 92 L (.ref a :: .ref a :: st) h := (ex_of d190_91 (d) L (.ref a :: st) h).trans (rfl)
theorem x190_91i {d : Nat} {L : Lc} {st : List Value} {x : Int32} {h : Hp} : ex (d) 190 91 L (.int x :: st) h = ex d 190 92 L (.int x :: .int x :: st) h := (ex_of d190_91 (d) L (.int x :: st) h).trans (rfl)
theorem d190_92 : decode (mB 190) 92 = .ok (.getfield 221, 3) := by decide +kernel
theorem x190_92 {d : Nat} {L : Lc} {st : List Value} {a : Nat} {h : Hp} (ht : (h.2.1 a).1 = 11) : ex (d) 190 92 L (.ref a :: st) h = ex d 190 95 L (h.1 a 25 :: st) h := (ex_of d190_92 (d) L (.ref a :: st) h).trans (fin_get (mi := 190) f11_221 (tg1 ht rfl))
theorem d190_95 : decode (mB 190) 95 = .ok (.iconst 1, 1) := by decide +kernel
theorem x190_95 {d : Nat} {L : Lc} {st : List Value} {h : Hp} : ex (d) 190 95 L st h = ex d 190 96 L (.int (nI 1) :: st) h := (ex_of d190_95 (d) L st h).trans (rfl)
theorem d190_96 : decode (mB 190) 96 = .ok (.iadd, 1) := by decide +kernel
theorem x190_96 {d : Nat} {L : Lc} {st : List Value} {x y : Int32} {h : Hp} : ex (d) 190 96 L (.int y :: .int x :: st) h = ex d 190 97 L (.int (x + y) :: st) h := (ex_of d190_96 (d) L (.int y :: .int x :: st) h).trans (rfl)
theorem d190_97 : decode (mB 190) 97 = .ok (.putfield 221, 3) := by decide +kernel
theorem x190_97 {d : Nat} {L : Lc} {st : List Value} {a : Nat} {x : Int32} {h : Hp} (ht : (h.2.1 a).1 = 11) : ex (d) 190 97 L (.int x :: .ref a :: st) h = ex d 190 100 L st (mup h.1 a 25 (.int x), h.2) := (ex_of d190_97 (d) L (.int x :: .ref a :: st) h).trans (fin_put (mi := 190) f11_221 ht rfl rfl (by decide +kernel))
theorem d190_100 : decode (mB 190) 100 = .ok (.iinc 1 1, 3) := by decide +kernel
theorem x190_100 {d : Nat} {l0 l2 : Option Value} {st : List Value} {x : Int32} {h : Hp} : ex (d) 190 100 [l0, some (.int x), l2] st h = ex d 190 103 [clr l0, some (.int (x + (nI 1))), l2] st h := (ex_of d190_100 (d) [l0, some (.int x), l2] st h).trans (rfl)
theorem d190_103 : decode (mB 190) 103 = .ok (.goto (-73), 3) := by decide +kernel
theorem x190_103 {d : Nat} {L : Lc} {st : List Value} {h : Hp} : ex (d) 190 103 L st h = ex d 190 30 L st h := (ex_of d190_103 (d) L st h).trans (rfl)
theorem d190_106 : decode (mB 190) 106 = .ok (.iconst 0, 1) := by decide +kernel
theorem x190_106 {d : Nat} {L : Lc} {st : List Value} {h : Hp} : ex (d) 190 106 L st h = ex d 190 107 L (.int (nI 0) :: st) h := (ex_of d190_106 (d) L st h).trans (rfl)
theorem d190_107 : decode (mB 190) 107 = .ok (.istore_n 1, 1) := by decide +kernel
theorem x190_107 {d : Nat} {l0 l1 l2 : Option Value} {st : List Value} {x : Int32} {h : Hp} : ex (d) 190 107 [l0, l1, l2] (.int x :: st) h = ex d 190 108 [clr l0, some (.int x), l2] st h := (ex_of d190_107 (d) [l0, l1, l2] (.int x :: st) h).trans (rfl)
theorem d190_108 : decode (mB 190) 108 = .ok (.iload_n 1, 1) := by decide +kernel
theorem x190_108 {d : Nat} {l0 l2 : Option Value} {st : List Value} {x : Int32} {h : Hp} : ex (d) 190 108 [l0, some (.int x), l2] st h = ex d 190 109 [l0, some (.int x), l2] (.int x :: st) h := (ex_of d190_108 (d) [l0, some (.int x), l2] st h).trans (rfl)
theorem d190_109 : decode (mB 190) 109 = .ok (.aload_n 0, 1) := by decide +kernel
theorem x190_109 {d : Nat} {l1 l2 : Option Value} {st : List Value} {a : Nat} {h : Hp} : ex (d) 190 109 [some (.ref a), l1, l2] st h = ex d 190 110 [some (.ref a), l1, l2] (.ref a :: st) h := (ex_of d190_109 (d) [some (.ref a), l1, l2] st h).trans (rfl)
theorem d190_110 : decode (mB 190) 110 = .ok (.getfield 218, 3) := by decide +kernel
theorem x190_110 {d : Nat} {L : Lc} {st : List Value} {a : Nat} {h : Hp} (ht : (h.2.1 a).1 = 11) : ex (d) 190 110 L (.ref a :: st) h = ex d 190 113 L (h.1 a 21 :: st) h := (ex_of d190_110 (d) L (.ref a :: st) h).trans (fin_get (mi := 190) f11_218 (tg1 ht rfl))
theorem d190_113 : decode (mB 190) 113 = .ok (.if_icmp .ge 84, 3) := by decide +kernel
theorem x190_113 {d : Nat} {L : Lc} {st : List Value} {x y : Int32} {h : Hp} : ex (d) 190 113 L (.int y :: .int x :: st) h = if y ≤ x then ex d 190 197 L st h else ex d 190 116 L st h := (ex_of d190_113 (d) L (.int y :: .int x :: st) h).trans (fin_brq (off := 84) (tgt := 197) rfl (by decide))
theorem d190_116 : decode (mB 190) 116 = .ok (.aload_n 0, 1) := by decide +kernel
theorem x190_116 {d : Nat} {l1 l2 : Option Value} {st : List Value} {a : Nat} {h : Hp} : ex (d) 190 116 [some (.ref a), l1, l2] st h = ex d 190 117 [some (.ref a), l1, l2] (.ref a :: st) h := (ex_of d190_116 (d) [some (.ref a), l1, l2] st h).trans (rfl)
theorem d190_117 : decode (mB 190) 117 = .ok (.getfield 64, 3) := by decide +kernel
theorem x190_117 {d : Nat} {L : Lc} {st : List Value} {a : Nat} {h : Hp} (ht : (h.2.1 a).1 = 11) : ex (d) 190 117 L (.ref a :: st) h = ex d 190 120 L (h.1 a 28 :: st) h := (ex_of d190_117 (d) L (.ref a :: st) h).trans (fin_get (mi := 190) f11_64 (tg1 ht rfl))
theorem d190_120 : decode (mB 190) 120 = .ok (.iload_n 1, 1) := by decide +kernel
theorem x190_120 {d : Nat} {l0 l2 : Option Value} {st : List Value} {x : Int32} {h : Hp} : ex (d) 190 120 [l0, some (.int x), l2] st h = ex d 190 121 [l0, some (.int x), l2] (.int x :: st) h := (ex_of d190_120 (d) [l0, some (.int x), l2] st h).trans (rfl)
theorem d190_121 : decode (mB 190) 121 = .ok (.iconst (-1), 1) := by decide +kernel
theorem x190_121 {d : Nat} {L : Lc} {st : List Value} {h : Hp} : ex (d) 190 121 L st h = ex d 190 122 L (.int (-1) :: st) h := (ex_of d190_121 (d) L st h).trans (rfl)
theorem d190_122 : decode (mB 190) 122 = .ok (.iastore, 1) := by decide +kernel
theorem x190_122 {d : Nat} {L : Lc} {st : List Value} {a j : Nat} {x : Int32} {h : Hp} (ht : (h.2.1 a).1 = 20) (hj : j < (h.2.1 a).2) (hb : j < 2147483648) : ex (d) 190 122 L (.int x :: .int (nI j) :: .ref a :: st) h = ex d 190 123 L st (mup h.1 a j (.int x), h.2) := (ex_of d190_122 (d) L (.int x :: .int (nI j) :: .ref a :: st) h).trans (fin_iastore ht hj hb)
theorem d190_123 : decode (mB 190) 123 = .ok (.iconst 0, 1) := by decide +kernel
theorem x190_123 {d : Nat} {L : Lc} {st : List Value} {h : Hp} : ex (d) 190 123 L st h = ex d 190 124 L (.int (nI 0) :: st) h := (ex_of d190_123 (d) L st h).trans (rfl)
theorem d190_124 : decode (mB 190) 124 = .ok (.istore_n 2, 1) := by decide +kernel
theorem x190_124 {d : Nat} {l0 l1 l2 : Option Value} {st : List Value} {x : Int32} {h : Hp} : ex (d) 190 124 [l0, l1, l2] (.int x :: st) h = ex d 190 125 [l0, clr l1, some (.int x)] st h := (ex_of d190_124 (d) [l0, l1, l2] (.int x :: st) h).trans (rfl)
theorem d190_125 : decode (mB 190) 125 = .ok (.iload_n 2, 1) := by decide +kernel
theorem x190_125 {d : Nat} {l0 l1 : Option Value} {st : List Value} {x : Int32} {h : Hp} : ex (d) 190 125 [l0, l1, some (.int x)] st h = ex d 190 126 [l0, l1, some (.int x)] (.int x :: st) h := (ex_of d190_125 (d) [l0, l1, some (.int x)] st h).trans (rfl)
theorem d190_126 : decode (mB 190) 126 = .ok (.aload_n 0, 1) := by decide +kernel
theorem x190_126 {d : Nat} {l1 l2 : Option Value} {st : List Value} {a : Nat} {h : Hp} : ex (d) 190 126 [some (.ref a), l1, l2] st h = ex d 190 127 [some (.ref a), l1, l2] (.ref a :: st) h := (ex_of d190_126 (d) [some (.ref a), l1, l2] st h).trans (rfl)
theorem d190_127 : decode (mB 190) 127 = .ok (.getfield 221, 3) := by decide +kernel
theorem x190_127 {d : Nat} {L : Lc} {st : List Value} {a : Nat} {h : Hp} (ht : (h.2.1 a).1 = 11) : ex (d) 190 127 L (.ref a :: st) h = ex d 190 130 L (h.1 a 25 :: st) h := (ex_of d190_127 (d) L (.ref a :: st) h).trans (fin_get (mi := 190) f11_221 (tg1 ht rfl))
theorem d190_130 : decode (mB 190) 130 = .ok (.if_icmp .ge 61, 3) := by decide +kernel
theorem x190_130 {d : Nat} {L : Lc} {st : List Value} {x y : Int32} {h : Hp} : ex (d) 190 130 L (.int y :: .int x :: st) h = if y ≤ x then ex d 190 191 L st h else ex d 190 133 L st h := (ex_of d190_130 (d) L (.int y :: .int x :: st) h).trans (fin_brq (off := 61) (tgt := 191) rfl (by decide))
theorem d190_133 : decode (mB 190) 133 = .ok (.aload_n 0, 1) := by decide +kernel
theorem x190_133 {d : Nat} {l1 l2 : Option Value} {st : List Value} {a : Nat} {h : Hp} : ex (d) 190 133 [some (.ref a), l1, l2] st h = ex d 190 134 [some (.ref a), l1, l2] (.ref a :: st) h := (ex_of d190_133 (d) [some (.ref a), l1, l2] st h).trans (rfl)
theorem d190_134 : decode (mB 190) 134 = .ok (.getfield 61, 3) := by decide +kernel
theorem x190_134 {d : Nat} {L : Lc} {st : List Value} {a : Nat} {h : Hp} (ht : (h.2.1 a).1 = 11) : ex (d) 190 134 L (.ref a :: st) h = ex d 190 137 L (h.1 a 27 :: st) h := (ex_of d190_134 (d) L (.ref a :: st) h).trans (fin_get (mi := 190) f11_61 (tg1 ht rfl))
theorem d190_137 : decode (mB 190) 137 = .ok (.bipush 8, 2) := by decide +kernel
theorem x190_137 {d : Nat} {L : Lc} {st : List Value} {h : Hp} : ex (d) 190 137 L st h = ex d 190 139 L (.int (nI 8) :: st) h := (ex_of d190_137 (d) L st h).trans (rfl)
theorem d190_139 : decode (mB 190) 139 = .ok (.iload_n 1, 1) := by decide +kernel
theorem x190_139 {d : Nat} {l0 l2 : Option Value} {st : List Value} {x : Int32} {h : Hp} : ex (d) 190 139 [l0, some (.int x), l2] st h = ex d 190 140 [l0, some (.int x), l2] (.int x :: st) h := (ex_of d190_139 (d) [l0, some (.int x), l2] st h).trans (rfl)
theorem d190_140 : decode (mB 190) 140 = .ok (.imul, 1) := by decide +kernel
theorem x190_140 {d : Nat} {L : Lc} {st : List Value} {x y : Int32} {h : Hp} : ex (d) 190 140 L (.int y :: .int x :: st) h = ex d 190 141 L (.int (x * y) :: st) h := (ex_of d190_140 (d) L (.int y :: .int x :: st) h).trans (rfl)
theorem d190_141 : decode (mB 190) 141 = .ok (.iload_n 2, 1) := by decide +kernel
theorem x190_141 {d : Nat} {l0 l1 : Option Value} {st : List Value} {x : Int32} {h : Hp} : ex (d) 190 141 [l0, l1, some (.int x)] st h = ex d 190 142 [l0, l1, some (.int x)] (.int x :: st) h := (ex_of d190_141 (d) [l0, l1, some (.int x)] st h).trans (rfl)
theorem d190_142 : decode (mB 190) 142 = .ok (.iadd, 1) := by decide +kernel
theorem x190_142 {d : Nat} {L : Lc} {st : List Value} {x y : Int32} {h : Hp} : ex (d) 190 142 L (.int y :: .int x :: st) h = ex d 190 143 L (.int (x + y) :: st) h := (ex_of d190_142 (d) L (.int y :: .int x :: st) h).trans (rfl)
theorem d190_143 : decode (mB 190) 143 = .ok (.aload_n 0, 1) := by decide +kernel
theorem x190_143 {d : Nat} {l1 l2 : Option Value} {st : List Value} {a : Nat} {h : Hp} : ex (d) 190 143 [some (.ref a), l1, l2] st h = ex d 190 144 [some (.ref a), l1, l2] (.ref a :: st) h := (ex_of d190_143 (d) [some (.ref a), l1, l2] st h).trans (rfl)
theorem d190_144 : decode (mB 190) 144 = .ok (.aload_n 0, 1) := by decide +kernel
theorem x190_144 {d : Nat} {l1 l2 : Option Value} {st : List Value} {a : Nat} {h : Hp} : ex (d) 190 144 [some (.ref a), l1, l2] st h = ex d 190 145 [some (.ref a), l1, l2] (.ref a :: st) h := (ex_of d190_144 (d) [some (.ref a), l1, l2] st h).trans (rfl)
theorem d190_145 : decode (mB 190) 145 = .ok (.getfield 49, 3) := by decide +kernel
theorem x190_145 {d : Nat} {L : Lc} {st : List Value} {a : Nat} {h : Hp} (ht : (h.2.1 a).1 = 11) : ex (d) 190 145 L (.ref a :: st) h = ex d 190 148 L (h.1 a 22 :: st) h := (ex_of d190_145 (d) L (.ref a :: st) h).trans (fin_get (mi := 190) f11_49 (tg1 ht rfl))
theorem d190_148 : decode (mB 190) 148 = .ok (.iload_n 1, 1) := by decide +kernel
theorem x190_148 {d : Nat} {l0 l2 : Option Value} {st : List Value} {x : Int32} {h : Hp} : ex (d) 190 148 [l0, some (.int x), l2] st h = ex d 190 149 [l0, some (.int x), l2] (.int x :: st) h := (ex_of d190_148 (d) [l0, some (.int x), l2] st h).trans (rfl)
theorem d190_149 : decode (mB 190) 149 = .ok (.iaload, 1) := by decide +kernel
theorem x190_149 {d : Nat} {L : Lc} {st : List Value} {a j : Nat} {h : Hp} (ht : (h.2.1 a).1 = 20) (hj : j < (h.2.1 a).2) (hb : j < 2147483648) : ex (d) 190 149 L (.int (nI j) :: .ref a :: st) h = ex d 190 150 L (h.1 a j :: st) h := (ex_of d190_149 (d) L (.int (nI j) :: .ref a :: st) h).trans (fin_iaload (Or.inl ht) hj hb)
theorem d190_150 : decode (mB 190) 150 = .ok (.aload_n 0, 1) := by decide +kernel
theorem x190_150 {d : Nat} {l1 l2 : Option Value} {st : List Value} {a : Nat} {h : Hp} : ex (d) 190 150 [some (.ref a), l1, l2] st h = ex d 190 151 [some (.ref a), l1, l2] (.ref a :: st) h := (ex_of d190_150 (d) [some (.ref a), l1, l2] st h).trans (rfl)
theorem d190_151 : decode (mB 190) 151 = .ok (.getfield 58, 3) := by decide +kernel
theorem x190_151 {d : Nat} {L : Lc} {st : List Value} {a : Nat} {h : Hp} (ht : (h.2.1 a).1 = 11) : ex (d) 190 151 L (.ref a :: st) h = ex d 190 154 L (h.1 a 26 :: st) h := (ex_of d190_151 (d) L (.ref a :: st) h).trans (fin_get (mi := 190) f11_58 (tg1 ht rfl))
theorem d190_154 : decode (mB 190) 154 = .ok (.iload_n 2, 1) := by decide +kernel
theorem x190_154 {d : Nat} {l0 l1 : Option Value} {st : List Value} {x : Int32} {h : Hp} : ex (d) 190 154 [l0, l1, some (.int x)] st h = ex d 190 155 [l0, l1, some (.int x)] (.int x :: st) h := (ex_of d190_154 (d) [l0, l1, some (.int x)] st h).trans (rfl)
theorem d190_155 : decode (mB 190) 155 = .ok (.iaload, 1) := by decide +kernel
theorem x190_155 {d : Nat} {L : Lc} {st : List Value} {a j : Nat} {h : Hp} (ht : (h.2.1 a).1 = 20) (hj : j < (h.2.1 a).2) (hb : j < 2147483648) : ex (d) 190 155 L (.int (nI j) :: .ref a :: st) h = ex d 190 156 L (h.1 a j :: st) h := (ex_of d190_155 (d) L (.int (nI j) :: .ref a :: st) h).trans (fin_iaload (Or.inl ht) hj hb)
theorem d190_156 : decode (mB 190) 156 = .ok (.invokevirtual 203, 3) := by decide +kernel
theorem x190_156 {d : Nat} {L : Lc} {s0 s1 : Value} {a : Nat} {v0 : Int32} {v1 : Int32} {h : Hp} (ht : (h.2.1 a).1 = 11) : ex (d + 1) 190 156 L (.int v1 :: .int v0 :: .ref a :: [s0, s1]) h = bnd (ex d 179 0 [some (.ref a), some (.int v0), some (.int v1), none, none, none, none] [] h) (fun v h' => ex (d + 1) 190 159 L (v.toList ++ [s0, s1]) h') := (ex_of d190_156 (d + 1) L (.int v1 :: .int v0 :: .ref a :: [s0, s1]) h).trans (fin_vi (mi := 190) i11_203 ht rfl rfl (by simp [cat1_i, cat1_r]) (by simp) (Nat.le_of_ble_eq_true rfl))
theorem d190_159 : decode (mB 190) 159 = .ok (.iconst 1, 1) := by decide +kernel
theorem x190_159 {d : Nat} {L : Lc} {st : List Value} {h : Hp} : ex (d) 190 159 L st h = ex d 190 160 L (.int (nI 1) :: st) h := (ex_of d190_159 (d) L st h).trans (rfl)
theorem d190_160 : decode (mB 190) 160 = .ok (.if_icmp .ne 22, 3) := by decide +kernel
theorem x190_160 {d : Nat} {L : Lc} {st : List Value} {x y : Int32} {h : Hp} : ex (d) 190 160 L (.int y :: .int x :: st) h = if ¬ x = y then ex d 190 182 L st h else ex d 190 163 L st h := (ex_of d190_160 (d) L (.int y :: .int x :: st) h).trans (fin_brq (off := 22) (tgt := 182) rfl (by decide))
theorem d190_163 : decode (mB 190) 163 = .ok (.aload_n 0, 1) := by decide +kernel
theorem x190_163 {d : Nat} {l1 l2 : Option Value} {st : List Value} {a : Nat} {h : Hp} : ex (d) 190 163 [some (.ref a), l1, l2] st h = ex d 190 164 [some (.ref a), l1, l2] (.ref a :: st) h := (ex_of d190_163 (d) [some (.ref a), l1, l2] st h).trans (rfl)
theorem d190_164 : decode (mB 190) 164 = .ok (.aload_n 0, 1) := by decide +kernel
theorem x190_164 {d : Nat} {l1 l2 : Option Value} {st : List Value} {a : Nat} {h : Hp} : ex (d) 190 164 [some (.ref a), l1, l2] st h = ex d 190 165 [some (.ref a), l1, l2] (.ref a :: st) h := (ex_of d190_164 (d) [some (.ref a), l1, l2] st h).trans (rfl)
theorem d190_165 : decode (mB 190) 165 = .ok (.getfield 49, 3) := by decide +kernel
theorem x190_165 {d : Nat} {L : Lc} {st : List Value} {a : Nat} {h : Hp} (ht : (h.2.1 a).1 = 11) : ex (d) 190 165 L (.ref a :: st) h = ex d 190 168 L (h.1 a 22 :: st) h := (ex_of d190_165 (d) L (.ref a :: st) h).trans (fin_get (mi := 190) f11_49 (tg1 ht rfl))
theorem d190_168 : decode (mB 190) 168 = .ok (.iload_n 1, 1) := by decide +kernel
theorem x190_168 {d : Nat} {l0 l2 : Option Value} {st : List Value} {x : Int32} {h : Hp} : ex (d) 190 168 [l0, some (.int x), l2] st h = ex d 190 169 [l0, some (.int x), l2] (.int x :: st) h := (ex_of d190_168 (d) [l0, some (.int x), l2] st h).trans (rfl)
theorem d190_169 : decode (mB 190) 169 = .ok (.iaload, 1) := by decide +kernel
theorem x190_169 {d : Nat} {L : Lc} {st : List Value} {a j : Nat} {h : Hp} (ht : (h.2.1 a).1 = 20) (hj : j < (h.2.1 a).2) (hb : j < 2147483648) : ex (d) 190 169 L (.int (nI j) :: .ref a :: st) h = ex d 190 170 L (h.1 a j :: st) h := (ex_of d190_169 (d) L (.int (nI j) :: .ref a :: st) h).trans (fin_iaload (Or.inl ht) hj hb)
theorem d190_170 : decode (mB 190) 170 = .ok (.aload_n 0, 1) := by decide +kernel
theorem x190_170 {d : Nat} {l1 l2 : Option Value} {st : List Value} {a : Nat} {h : Hp} : ex (d) 190 170 [some (.ref a), l1, l2] st h = ex d 190 171 [some (.ref a), l1, l2] (.ref a :: st) h := (ex_of d190_170 (d) [some (.ref a), l1, l2] st h).trans (rfl)
theorem d190_171 : decode (mB 190) 171 = .ok (.getfield 58, 3) := by decide +kernel
theorem x190_171 {d : Nat} {L : Lc} {st : List Value} {a : Nat} {h : Hp} (ht : (h.2.1 a).1 = 11) : ex (d) 190 171 L (.ref a :: st) h = ex d 190 174 L (h.1 a 26 :: st) h := (ex_of d190_171 (d) L (.ref a :: st) h).trans (fin_get (mi := 190) f11_58 (tg1 ht rfl))
theorem d190_174 : decode (mB 190) 174 = .ok (.iload_n 2, 1) := by decide +kernel
theorem x190_174 {d : Nat} {l0 l1 : Option Value} {st : List Value} {x : Int32} {h : Hp} : ex (d) 190 174 [l0, l1, some (.int x)] st h = ex d 190 175 [l0, l1, some (.int x)] (.int x :: st) h := (ex_of d190_174 (d) [l0, l1, some (.int x)] st h).trans (rfl)
theorem d190_175 : decode (mB 190) 175 = .ok (.iaload, 1) := by decide +kernel
theorem x190_175 {d : Nat} {L : Lc} {st : List Value} {a j : Nat} {h : Hp} (ht : (h.2.1 a).1 = 20) (hj : j < (h.2.1 a).2) (hb : j < 2147483648) : ex (d) 190 175 L (.int (nI j) :: .ref a :: st) h = ex d 190 176 L (h.1 a j :: st) h := (ex_of d190_175 (d) L (.int (nI j) :: .ref a :: st) h).trans (fin_iaload (Or.inl ht) hj hb)
theorem d190_176 : decode (mB 190) 176 = .ok (.invokevirtual 206, 3) := by decide +kernel
theorem x190_176 {d : Nat} {L : Lc} {s0 s1 : Value} {a : Nat} {v0 : Int32} {v1 : Int32} {h : Hp} (ht : (h.2.1 a).1 = 11) : ex (d + 1) 190 176 L (.int v1 :: .int v0 :: .ref a :: [s0, s1]) h = bnd (ex d 180 0 [some (.ref a), some (.int v0), some (.int v1), none, none, none] [] h) (fun v h' => ex (d + 1) 190 179 L (v.toList ++ [s0, s1]) h') := (ex_of d190_176 (d + 1) L (.int v1 :: .int v0 :: .ref a :: [s0, s1]) h).trans (fin_vi (mi := 190) i11_206 ht rfl rfl (by simp [cat1_i, cat1_r]) (by simp) (Nat.le_of_ble_eq_true rfl))
theorem d190_179 : decode (mB 190) 179 = .ok (.goto 5, 3) := by decide +kernel
theorem x190_179 {d : Nat} {L : Lc} {st : List Value} {h : Hp} : ex (d) 190 179 L st h = ex d 190 184 L st h := (ex_of d190_179 (d) L st h).trans (rfl)
theorem d190_182 : decode (mB 190) 182 = .ok (.ldc 224, 2) := by decide +kernel
theorem x190_182 {d : Nat} {L : Lc} {st : List Value} {h : Hp} : ex (d) 190 182 L st h = ex d 190 184 L (.int (nI 100000000) :: st) h := (ex_of d190_182 (d) L st h).trans (fin_ldc (mi := 190) c11_224)
theorem d190_184 : decode (mB 190) 184 = .ok (.iastore, 1) := by decide +kernel
theorem x190_184 {d : Nat} {L : Lc} {st : List Value} {a j : Nat} {x : Int32} {h : Hp} (ht : (h.2.1 a).1 = 20) (hj : j < (h.2.1 a).2) (hb : j < 2147483648) : ex (d) 190 184 L (.int x :: .int (nI j) :: .ref a :: st) h = ex d 190 185 L st (mup h.1 a j (.int x), h.2) := (ex_of d190_184 (d) L (.int x :: .int (nI j) :: .ref a :: st) h).trans (fin_iastore ht hj hb)
theorem d190_185 : decode (mB 190) 185 = .ok (.iinc 2 1, 3) := by decide +kernel
theorem x190_185 {d : Nat} {l0 l1 : Option Value} {st : List Value} {x : Int32} {h : Hp} : ex (d) 190 185 [l0, l1, some (.int x)] st h = ex d 190 188 [l0, clr l1, some (.int (x + (nI 1)))] st h := (ex_of d190_185 (d) [l0, l1, some (.int x)] st h).trans (rfl)
theorem d190_188 : decode (mB 190) 188 = .ok (.goto (-63), 3) := by decide +kernel
theorem x190_188 {d : Nat} {L : Lc} {st : List Value} {h : Hp} : ex (d) 190 188 L st h = ex d 190 125 L st h := (ex_of d190_188 (d) L st h).trans (rfl)
theorem d190_191 : decode (mB 190) 191 = .ok (.iinc 1 1, 3) := by decide +kernel
theorem x190_191 {d : Nat} {l0 l2 : Option Value} {st : List Value} {x : Int32} {h : Hp} : ex (d) 190 191 [l0, some (.int x), l2] st h = ex d 190 194 [clr l0, some (.int (x + (nI 1))), l2] st h := (ex_of d190_191 (d) [l0, some (.int x), l2] st h).trans (rfl)
theorem d190_194 : decode (mB 190) 194 = .ok (.goto (-86), 3) := by decide +kernel
theorem x190_194 {d : Nat} {L : Lc} {st : List Value} {h : Hp} : ex (d) 190 194 L st h = ex d 190 108 L st h := (ex_of d190_194 (d) L st h).trans (rfl)
theorem d190_197 : decode (mB 190) 197 = .ok (.return_, 1) := by decide +kernel
theorem x190_197 {d : Nat} {L : Lc}  {h : Hp} : ex (d) 190 197 L [] h = some (none, h) := (ex_of d190_197 (d) L [] h).trans (rfl)
theorem d191_0 : decode (mB 191) 0 = .ok (.aload_n 0, 1) := by decide +kernel
theorem x191_0 {d : Nat} {l1 l2 l3 l4 l5 l6 l7 l8 : Option Value} {st : List Value} {a : Nat} {h : Hp} : ex (d) 191 0 [some (.ref a), l1, l2, l3, l4, l5, l6, l7, l8] st h = ex d 191 1 [some (.ref a), l1, l2, l3, l4, l5, l6, l7, l8] (.ref a :: st) h := (ex_of d191_0 (d) [some (.ref a), l1, l2, l3, l4, l5, l6, l7, l8] st h).trans (rfl)
theorem d191_1 : decode (mB 191) 1 = .ok (.getfield 52, 3) := by decide +kernel
theorem x191_1 {d : Nat} {L : Lc} {st : List Value} {a : Nat} {h : Hp} (ht : (h.2.1 a).1 = 11) : ex (d) 191 1 L (.ref a :: st) h = ex d 191 4 L (h.1 a 23 :: st) h := (ex_of d191_1 (d) L (.ref a :: st) h).trans (fin_get (mi := 191) f11_52 (tg1 ht rfl))
theorem d191_4 : decode (mB 191) 4 = .ok (.iload_n 1, 1) := by decide +kernel
theorem x191_4 {d : Nat} {l0 l2 l3 l4 l5 l6 l7 l8 : Option Value} {st : List Value} {x : Int32} {h : Hp} : ex (d) 191 4 [l0, some (.int x), l2, l3, l4, l5, l6, l7, l8] st h = ex d 191 5 [l0, some (.int x), l2, l3, l4, l5, l6, l7, l8] (.int x :: st) h := (ex_of d191_4 (d) [l0, some (.int x), l2, l3, l4, l5, l6, l7, l8] st h).trans (rfl)
theorem d191_5 : decode (mB 191) 5 = .ok (.iaload, 1) := by decide +kernel
theorem x191_5 {d : Nat} {L : Lc} {st : List Value} {a j : Nat} {h : Hp} (ht : (h.2.1 a).1 = 20) (hj : j < (h.2.1 a).2) (hb : j < 2147483648) : ex (d) 191 5 L (.int (nI j) :: .ref a :: st) h = ex d 191 6 L (h.1 a j :: st) h := (ex_of d191_5 (d) L (.int (nI j) :: .ref a :: st) h).trans (fin_iaload (Or.inl ht) hj hb)
theorem d191_6 : decode (mB 191) 6 = .ok (.aload_n 0, 1) := by decide +kernel
theorem x191_6 {d : Nat} {l1 l2 l3 l4 l5 l6 l7 l8 : Option Value} {st : List Value} {a : Nat} {h : Hp} : ex (d) 191 6 [some (.ref a), l1, l2, l3, l4, l5, l6, l7, l8] st h = ex d 191 7 [some (.ref a), l1, l2, l3, l4, l5, l6, l7, l8] (.ref a :: st) h := (ex_of d191_6 (d) [some (.ref a), l1, l2, l3, l4, l5, l6, l7, l8] st h).trans (rfl)
theorem d191_7 : decode (mB 191) 7 = .ok (.getfield 52, 3) := by decide +kernel
theorem x191_7 {d : Nat} {L : Lc} {st : List Value} {a : Nat} {h : Hp} (ht : (h.2.1 a).1 = 11) : ex (d) 191 7 L (.ref a :: st) h = ex d 191 10 L (h.1 a 23 :: st) h := (ex_of d191_7 (d) L (.ref a :: st) h).trans (fin_get (mi := 191) f11_52 (tg1 ht rfl))
theorem d191_10 : decode (mB 191) 10 = .ok (.iload_n 3, 1) := by decide +kernel
theorem x191_10 {d : Nat} {l0 l1 l2 l4 l5 l6 l7 l8 : Option Value} {st : List Value} {x : Int32} {h : Hp} : ex (d) 191 10 [l0, l1, l2, some (.int x), l4, l5, l6, l7, l8] st h = ex d 191 11 [l0, l1, l2, some (.int x), l4, l5, l6, l7, l8] (.int x :: st) h := (ex_of d191_10 (d) [l0, l1, l2, some (.int x), l4, l5, l6, l7, l8] st h).trans (rfl)
theorem d191_11 : decode (mB 191) 11 = .ok (.iaload, 1) := by decide +kernel
theorem x191_11 {d : Nat} {L : Lc} {st : List Value} {a j : Nat} {h : Hp} (ht : (h.2.1 a).1 = 20) (hj : j < (h.2.1 a).2) (hb : j < 2147483648) : ex (d) 191 11 L (.int (nI j) :: .ref a :: st) h = ex d 191 12 L (h.1 a j :: st) h := (ex_of d191_11 (d) L (.int (nI j) :: .ref a :: st) h).trans (fin_iaload (Or.inl ht) hj hb)
theorem d191_12 : decode (mB 191) 12 = .ok (.if_icmp .ne 15, 3) := by decide +kernel
theorem x191_12 {d : Nat} {L : Lc} {st : List Value} {x y : Int32} {h : Hp} : ex (d) 191 12 L (.int y :: .int x :: st) h = if ¬ x = y then ex d 191 27 L st h else ex d 191 15 L st h := (ex_of d191_12 (d) L (.int y :: .int x :: st) h).trans (fin_brq (off := 15) (tgt := 27) rfl (by decide))
theorem d191_15 : decode (mB 191) 15 = .ok (.iload_n 2, 1) := by decide +kernel
theorem x191_15 {d : Nat} {l0 l1 l3 l4 l5 l6 l7 l8 : Option Value} {st : List Value} {x : Int32} {h : Hp} : ex (d) 191 15 [l0, l1, some (.int x), l3, l4, l5, l6, l7, l8] st h = ex d 191 16 [l0, l1, some (.int x), l3, l4, l5, l6, l7, l8] (.int x :: st) h := (ex_of d191_15 (d) [l0, l1, some (.int x), l3, l4, l5, l6, l7, l8] st h).trans (rfl)
theorem d191_16 : decode (mB 191) 16 = .ok (.iload 4, 2) := by decide +kernel
theorem x191_16 {d : Nat} {l0 l1 l2 l3 l5 l6 l7 l8 : Option Value} {st : List Value} {x : Int32} {h : Hp} : ex (d) 191 16 [l0, l1, l2, l3, some (.int x), l5, l6, l7, l8] st h = ex d 191 18 [l0, l1, l2, l3, some (.int x), l5, l6, l7, l8] (.int x :: st) h := (ex_of d191_16 (d) [l0, l1, l2, l3, some (.int x), l5, l6, l7, l8] st h).trans (rfl)
theorem d191_18 : decode (mB 191) 18 = .ok (.if_icmp .eq 7, 3) := by decide +kernel
theorem x191_18 {d : Nat} {L : Lc} {st : List Value} {x y : Int32} {h : Hp} : ex (d) 191 18 L (.int y :: .int x :: st) h = if x = y then ex d 191 25 L st h else ex d 191 21 L st h := (ex_of d191_18 (d) L (.int y :: .int x :: st) h).trans (fin_brq (off := 7) (tgt := 25) rfl (by decide))
theorem d191_21 : decode (mB 191) 21 = .ok (.iconst 1, 1) := by decide +kernel
theorem x191_21 {d : Nat} {L : Lc} {st : List Value} {h : Hp} : ex (d) 191 21 L st h = ex d 191 22 L (.int (nI 1) :: st) h := (ex_of d191_21 (d) L st h).trans (rfl)
theorem d191_22 : decode (mB 191) 22 = .ok (.goto 4, 3) := by decide +kernel
theorem x191_22 {d : Nat} {L : Lc} {st : List Value} {h : Hp} : ex (d) 191 22 L st h = ex d 191 26 L st h := (ex_of d191_22 (d) L st h).trans (rfl)
theorem d191_25 : decode (mB 191) 25 = .ok (.iconst 0, 1) := by decide +kernel
theorem x191_25 {d : Nat} {L : Lc} {st : List Value} {h : Hp} : ex (d) 191 25 L st h = ex d 191 26 L (.int (nI 0) :: st) h := (ex_of d191_25 (d) L st h).trans (rfl)
theorem d191_26 : decode (mB 191) 26 = .ok (.ireturn, 1) := by decide +kernel
theorem x191_26 {d : Nat} {L : Lc} {x : Int32} {h : Hp} (hx : x = 0 ∨ x = 1) : ex (d) 191 26 L [.int x] h = some (some (.int x), h) := (ex_of d191_26 (d) L [.int x] h).trans (fin_retb rfl hx)
theorem d191_27 : decode (mB 191) 27 = .ok (.aload_n 0, 1) := by decide +kernel
theorem x191_27 {d : Nat} {l1 l2 l3 l4 l5 l6 l7 l8 : Option Value} {st : List Value} {a : Nat} {h : Hp} : ex (d) 191 27 [some (.ref a), l1, l2, l3, l4, l5, l6, l7, l8] st h = ex d 191 28 [some (.ref a), l1, l2, l3, l4, l5, l6, l7, l8] (.ref a :: st) h := (ex_of d191_27 (d) [some (.ref a), l1, l2, l3, l4, l5, l6, l7, l8] st h).trans (rfl)
theorem d191_28 : decode (mB 191) 28 = .ok (.getfield 49, 3) := by decide +kernel
theorem x191_28 {d : Nat} {L : Lc} {st : List Value} {a : Nat} {h : Hp} (ht : (h.2.1 a).1 = 11) : ex (d) 191 28 L (.ref a :: st) h = ex d 191 31 L (h.1 a 22 :: st) h := (ex_of d191_28 (d) L (.ref a :: st) h).trans (fin_get (mi := 191) f11_49 (tg1 ht rfl))
theorem d191_31 : decode (mB 191) 31 = .ok (.iload_n 1, 1) := by decide +kernel
theorem x191_31 {d : Nat} {l0 l2 l3 l4 l5 l6 l7 l8 : Option Value} {st : List Value} {x : Int32} {h : Hp} : ex (d) 191 31 [l0, some (.int x), l2, l3, l4, l5, l6, l7, l8] st h = ex d 191 32 [l0, some (.int x), l2, l3, l4, l5, l6, l7, l8] (.int x :: st) h := (ex_of d191_31 (d) [l0, some (.int x), l2, l3, l4, l5, l6, l7, l8] st h).trans (rfl)
theorem d191_32 : decode (mB 191) 32 = .ok (.iaload, 1) := by decide +kernel
theorem x191_32 {d : Nat} {L : Lc} {st : List Value} {a j : Nat} {h : Hp} (ht : (h.2.1 a).1 = 20) (hj : j < (h.2.1 a).2) (hb : j < 2147483648) : ex (d) 191 32 L (.int (nI j) :: .ref a :: st) h = ex d 191 33 L (h.1 a j :: st) h := (ex_of d191_32 (d) L (.int (nI j) :: .ref a :: st) h).trans (fin_iaload (Or.inl ht) hj hb)
theorem d191_33 : decode (mB 191) 33 = .ok (.aload_n 0, 1) := by decide +kernel
theorem x191_33 {d : Nat} {l1 l2 l3 l4 l5 l6 l7 l8 : Option Value} {st : List Value} {a : Nat} {h : Hp} : ex (d) 191 33 [some (.ref a), l1, l2, l3, l4, l5, l6, l7, l8] st h = ex d 191 34 [some (.ref a), l1, l2, l3, l4, l5, l6, l7, l8] (.ref a :: st) h := (ex_of d191_33 (d) [some (.ref a), l1, l2, l3, l4, l5, l6, l7, l8] st h).trans (rfl)
theorem d191_34 : decode (mB 191) 34 = .ok (.getfield 49, 3) := by decide +kernel
theorem x191_34 {d : Nat} {L : Lc} {st : List Value} {a : Nat} {h : Hp} (ht : (h.2.1 a).1 = 11) : ex (d) 191 34 L (.ref a :: st) h = ex d 191 37 L (h.1 a 22 :: st) h := (ex_of d191_34 (d) L (.ref a :: st) h).trans (fin_get (mi := 191) f11_49 (tg1 ht rfl))
theorem d191_37 : decode (mB 191) 37 = .ok (.iload_n 3, 1) := by decide +kernel
theorem x191_37 {d : Nat} {l0 l1 l2 l4 l5 l6 l7 l8 : Option Value} {st : List Value} {x : Int32} {h : Hp} : ex (d) 191 37 [l0, l1, l2, some (.int x), l4, l5, l6, l7, l8] st h = ex d 191 38 [l0, l1, l2, some (.int x), l4, l5, l6, l7, l8] (.int x :: st) h := (ex_of d191_37 (d) [l0, l1, l2, some (.int x), l4, l5, l6, l7, l8] st h).trans (rfl)
theorem d191_38 : decode (mB 191) 38 = .ok (.iaload, 1) := by decide +kernel
theorem x191_38 {d : Nat} {L : Lc} {st : List Value} {a j : Nat} {h : Hp} (ht : (h.2.1 a).1 = 20) (hj : j < (h.2.1 a).2) (hb : j < 2147483648) : ex (d) 191 38 L (.int (nI j) :: .ref a :: st) h = ex d 191 39 L (h.1 a j :: st) h := (ex_of d191_38 (d) L (.int (nI j) :: .ref a :: st) h).trans (fin_iaload (Or.inl ht) hj hb)
theorem d191_39 : decode (mB 191) 39 = .ok (.if_icmp .ne 9, 3) := by decide +kernel
theorem x191_39 {d : Nat} {L : Lc} {st : List Value} {x y : Int32} {h : Hp} : ex (d) 191 39 L (.int y :: .int x :: st) h = if ¬ x = y then ex d 191 48 L st h else ex d 191 42 L st h := (ex_of d191_39 (d) L (.int y :: .int x :: st) h).trans (fin_brq (off := 9) (tgt := 48) rfl (by decide))
theorem d191_42 : decode (mB 191) 42 = .ok (.iload_n 2, 1) := by decide +kernel
theorem x191_42 {d : Nat} {l0 l1 l3 l4 l5 l6 l7 l8 : Option Value} {st : List Value} {x : Int32} {h : Hp} : ex (d) 191 42 [l0, l1, some (.int x), l3, l4, l5, l6, l7, l8] st h = ex d 191 43 [l0, l1, some (.int x), l3, l4, l5, l6, l7, l8] (.int x :: st) h := (ex_of d191_42 (d) [l0, l1, some (.int x), l3, l4, l5, l6, l7, l8] st h).trans (rfl)
theorem d191_43 : decode (mB 191) 43 = .ok (.iload 4, 2) := by decide +kernel
theorem x191_43 {d : Nat} {l0 l1 l2 l3 l5 l6 l7 l8 : Option Value} {st : List Value} {x : Int32} {h : Hp} : ex (d) 191 43 [l0, l1, l2, l3, some (.int x), l5, l6, l7, l8] st h = ex d 191 45 [l0, l1, l2, l3, some (.int x), l5, l6, l7, l8] (.int x :: st) h := (ex_of d191_43 (d) [l0, l1, l2, l3, some (.int x), l5, l6, l7, l8] st h).trans (rfl)
theorem d191_45 : decode (mB 191) 45 = .ok (.if_icmp .ne 5, 3) := by decide +kernel
theorem x191_45 {d : Nat} {L : Lc} {st : List Value} {x y : Int32} {h : Hp} : ex (d) 191 45 L (.int y :: .int x :: st) h = if ¬ x = y then ex d 191 50 L st h else ex d 191 48 L st h := (ex_of d191_45 (d) L (.int y :: .int x :: st) h).trans (fin_brq (off := 5) (tgt := 50) rfl (by decide))
theorem d191_48 : decode (mB 191) 48 = .ok (.iconst 1, 1) := by decide +kernel
theorem x191_48 {d : Nat} {L : Lc} {st : List Value} {h : Hp} : ex (d) 191 48 L st h = ex d 191 49 L (.int (nI 1) :: st) h := (ex_of d191_48 (d) L st h).trans (rfl)
theorem d191_49 : decode (mB 191) 49 = .ok (.ireturn, 1) := by decide +kernel
theorem x191_49 {d : Nat} {L : Lc} {x : Int32} {h : Hp} (hx : x = 0 ∨ x = 1) : ex (d) 191 49 L [.int x] h = some (some (.int x), h) := (ex_of d191_49 (d) L [.int x] h).trans (fin_retb rfl hx)
theorem d191_50 : decode (mB 191) 50 = .ok (.aload_n 0, 1) := by decide +kernel
theorem x191_50 {d : Nat} {l1 l2 l3 l4 l5 l6 l7 l8 : Option Value} {st : List Value} {a : Nat} {h : Hp} : ex (d) 191 50 [some (.ref a), l1, l2, l3, l4, l5, l6, l7, l8] st h = ex d 191 51 [some (.ref a), l1, l2, l3, l4, l5, l6, l7, l8] (.ref a :: st) h := (ex_of d191_50 (d) [some (.ref a), l1, l2, l3, l4, l5, l6, l7, l8] st h).trans (rfl)
theorem d191_51 : decode (mB 191) 51 = .ok (.getfield 52, 3) := by decide +kernel
theorem x191_51 {d : Nat} {L : Lc} {st : List Value} {a : Nat} {h : Hp} (ht : (h.2.1 a).1 = 11) : ex (d) 191 51 L (.ref a :: st) h = ex d 191 54 L (h.1 a 23 :: st) h := (ex_of d191_51 (d) L (.ref a :: st) h).trans (fin_get (mi := 191) f11_52 (tg1 ht rfl))
theorem d191_54 : decode (mB 191) 54 = .ok (.iload_n 1, 1) := by decide +kernel
theorem x191_54 {d : Nat} {l0 l2 l3 l4 l5 l6 l7 l8 : Option Value} {st : List Value} {x : Int32} {h : Hp} : ex (d) 191 54 [l0, some (.int x), l2, l3, l4, l5, l6, l7, l8] st h = ex d 191 55 [l0, some (.int x), l2, l3, l4, l5, l6, l7, l8] (.int x :: st) h := (ex_of d191_54 (d) [l0, some (.int x), l2, l3, l4, l5, l6, l7, l8] st h).trans (rfl)
theorem d191_55 : decode (mB 191) 55 = .ok (.iaload, 1) := by decide +kernel
theorem x191_55 {d : Nat} {L : Lc} {st : List Value} {a j : Nat} {h : Hp} (ht : (h.2.1 a).1 = 20) (hj : j < (h.2.1 a).2) (hb : j < 2147483648) : ex (d) 191 55 L (.int (nI j) :: .ref a :: st) h = ex d 191 56 L (h.1 a j :: st) h := (ex_of d191_55 (d) L (.int (nI j) :: .ref a :: st) h).trans (fin_iaload (Or.inl ht) hj hb)
theorem d191_56 : decode (mB 191) 56 = .ok (.aload_n 0, 1) := by decide +kernel
theorem x191_56 {d : Nat} {l1 l2 l3 l4 l5 l6 l7 l8 : Option Value} {st : List Value} {a : Nat} {h : Hp} : ex (d) 191 56 [some (.ref a), l1, l2, l3, l4, l5, l6, l7, l8] st h = ex d 191 57 [some (.ref a), l1, l2, l3, l4, l5, l6, l7, l8] (.ref a :: st) h := (ex_of d191_56 (d) [some (.ref a), l1, l2, l3, l4, l5, l6, l7, l8] st h).trans (rfl)
theorem d191_57 : decode (mB 191) 57 = .ok (.getfield 52, 3) := by decide +kernel
theorem x191_57 {d : Nat} {L : Lc} {st : List Value} {a : Nat} {h : Hp} (ht : (h.2.1 a).1 = 11) : ex (d) 191 57 L (.ref a :: st) h = ex d 191 60 L (h.1 a 23 :: st) h := (ex_of d191_57 (d) L (.ref a :: st) h).trans (fin_get (mi := 191) f11_52 (tg1 ht rfl))
theorem d191_60 : decode (mB 191) 60 = .ok (.iload_n 3, 1) := by decide +kernel
theorem x191_60 {d : Nat} {l0 l1 l2 l4 l5 l6 l7 l8 : Option Value} {st : List Value} {x : Int32} {h : Hp} : ex (d) 191 60 [l0, l1, l2, some (.int x), l4, l5, l6, l7, l8] st h = ex d 191 61 [l0, l1, l2, some (.int x), l4, l5, l6, l7, l8] (.int x :: st) h := (ex_of d191_60 (d) [l0, l1, l2, some (.int x), l4, l5, l6, l7, l8] st h).trans (rfl)
theorem d191_61 : decode (mB 191) 61 = .ok (.iaload, 1) := by decide +kernel
theorem x191_61 {d : Nat} {L : Lc} {st : List Value} {a j : Nat} {h : Hp} (ht : (h.2.1 a).1 = 20) (hj : j < (h.2.1 a).2) (hb : j < 2147483648) : ex (d) 191 61 L (.int (nI j) :: .ref a :: st) h = ex d 191 62 L (h.1 a j :: st) h := (ex_of d191_61 (d) L (.int (nI j) :: .ref a :: st) h).trans (fin_iaload (Or.inl ht) hj hb)
theorem d191_62 : decode (mB 191) 62 = .ok (.if_icmp .ge 7, 3) := by decide +kernel
theorem x191_62 {d : Nat} {L : Lc} {st : List Value} {x y : Int32} {h : Hp} : ex (d) 191 62 L (.int y :: .int x :: st) h = if y ≤ x then ex d 191 69 L st h else ex d 191 65 L st h := (ex_of d191_62 (d) L (.int y :: .int x :: st) h).trans (fin_brq (off := 7) (tgt := 69) rfl (by decide))
theorem d191_65 : decode (mB 191) 65 = .ok (.iload_n 1, 1) := by decide +kernel
theorem x191_65 {d : Nat} {l0 l2 l3 l4 l5 l6 l7 l8 : Option Value} {st : List Value} {x : Int32} {h : Hp} : ex (d) 191 65 [l0, some (.int x), l2, l3, l4, l5, l6, l7, l8] st h = ex d 191 66 [l0, some (.int x), l2, l3, l4, l5, l6, l7, l8] (.int x :: st) h := (ex_of d191_65 (d) [l0, some (.int x), l2, l3, l4, l5, l6, l7, l8] st h).trans (rfl)
theorem d191_66 : decode (mB 191) 66 = .ok (.goto 4, 3) := by decide +kernel
theorem x191_66 {d : Nat} {L : Lc} {st : List Value} {h : Hp} : ex (d) 191 66 L st h = ex d 191 70 L st h := (ex_of d191_66 (d) L st h).trans (rfl)
theorem d191_69 : decode (mB 191) 69 = .ok (.iload_n 3, 1) := by decide +kernel
theorem x191_69 {d : Nat} {l0 l1 l2 l4 l5 l6 l7 l8 : Option Value} {st : List Value} {x : Int32} {h : Hp} : ex (d) 191 69 [l0, l1, l2, some (.int x), l4, l5, l6, l7, l8] st h = ex d 191 70 [l0, l1, l2, some (.int x), l4, l5, l6, l7, l8] (.int x :: st) h := (ex_of d191_69 (d) [l0, l1, l2, some (.int x), l4, l5, l6, l7, l8] st h).trans (rfl)
theorem d191_70 : decode (mB 191) 70 = .ok (.istore 5, 2) := by decide +kernel
theorem x191_70 {d : Nat} {l0 l1 l2 l3 l4 l5 l6 l7 l8 : Option Value} {st : List Value} {x : Int32} {h : Hp} : ex (d) 191 70 [l0, l1, l2, l3, l4, l5, l6, l7, l8] (.int x :: st) h = ex d 191 72 [l0, l1, l2, l3, clr l4, some (.int x), l6, l7, l8] st h := (ex_of d191_70 (d) [l0, l1, l2, l3, l4, l5, l6, l7, l8] (.int x :: st) h).trans (rfl)
theorem d191_72 : decode (mB 191) 72 = .ok (.iload 5, 2) := by decide +kernel
theorem x191_72 {d : Nat} {l0 l1 l2 l3 l4 l6 l7 l8 : Option Value} {st : List Value} {x : Int32} {h : Hp} : ex (d) 191 72 [l0, l1, l2, l3, l4, some (.int x), l6, l7, l8] st h = ex d 191 74 [l0, l1, l2, l3, l4, some (.int x), l6, l7, l8] (.int x :: st) h := (ex_of d191_72 (d) [l0, l1, l2, l3, l4, some (.int x), l6, l7, l8] st h).trans (rfl)
theorem d191_74 : decode (mB 191) 74 = .ok (.iload_n 1, 1) := by decide +kernel
theorem x191_74 {d : Nat} {l0 l2 l3 l4 l5 l6 l7 l8 : Option Value} {st : List Value} {x : Int32} {h : Hp} : ex (d) 191 74 [l0, some (.int x), l2, l3, l4, l5, l6, l7, l8] st h = ex d 191 75 [l0, some (.int x), l2, l3, l4, l5, l6, l7, l8] (.int x :: st) h := (ex_of d191_74 (d) [l0, some (.int x), l2, l3, l4, l5, l6, l7, l8] st h).trans (rfl)
theorem d191_75 : decode (mB 191) 75 = .ok (.if_icmp .ne 7, 3) := by decide +kernel
theorem x191_75 {d : Nat} {L : Lc} {st : List Value} {x y : Int32} {h : Hp} : ex (d) 191 75 L (.int y :: .int x :: st) h = if ¬ x = y then ex d 191 82 L st h else ex d 191 78 L st h := (ex_of d191_75 (d) L (.int y :: .int x :: st) h).trans (fin_brq (off := 7) (tgt := 82) rfl (by decide))
theorem d191_78 : decode (mB 191) 78 = .ok (.iload_n 3, 1) := by decide +kernel
theorem x191_78 {d : Nat} {l0 l1 l2 l4 l5 l6 l7 l8 : Option Value} {st : List Value} {x : Int32} {h : Hp} : ex (d) 191 78 [l0, l1, l2, some (.int x), l4, l5, l6, l7, l8] st h = ex d 191 79 [l0, l1, l2, some (.int x), l4, l5, l6, l7, l8] (.int x :: st) h := (ex_of d191_78 (d) [l0, l1, l2, some (.int x), l4, l5, l6, l7, l8] st h).trans (rfl)
theorem d191_79 : decode (mB 191) 79 = .ok (.goto 4, 3) := by decide +kernel
theorem x191_79 {d : Nat} {L : Lc} {st : List Value} {h : Hp} : ex (d) 191 79 L st h = ex d 191 83 L st h := (ex_of d191_79 (d) L st h).trans (rfl)
theorem d191_82 : decode (mB 191) 82 = .ok (.iload_n 1, 1) := by decide +kernel
theorem x191_82 {d : Nat} {l0 l2 l3 l4 l5 l6 l7 l8 : Option Value} {st : List Value} {x : Int32} {h : Hp} : ex (d) 191 82 [l0, some (.int x), l2, l3, l4, l5, l6, l7, l8] st h = ex d 191 83 [l0, some (.int x), l2, l3, l4, l5, l6, l7, l8] (.int x :: st) h := (ex_of d191_82 (d) [l0, some (.int x), l2, l3, l4, l5, l6, l7, l8] st h).trans (rfl)
theorem d191_83 : decode (mB 191) 83 = .ok (.istore 6, 2) := by decide +kernel
theorem x191_83 {d : Nat} {l0 l1 l2 l3 l4 l5 l6 l7 l8 : Option Value} {st : List Value} {x : Int32} {h : Hp} : ex (d) 191 83 [l0, l1, l2, l3, l4, l5, l6, l7, l8] (.int x :: st) h = ex d 191 85 [l0, l1, l2, l3, l4, clr l5, some (.int x), l7, l8] st h := (ex_of d191_83 (d) [l0, l1, l2, l3, l4, l5, l6, l7, l8] (.int x :: st) h).trans (rfl)
theorem d191_85 : decode (mB 191) 85 = .ok (.iconst 0, 1) := by decide +kernel
theorem x191_85 {d : Nat} {L : Lc} {st : List Value} {h : Hp} : ex (d) 191 85 L st h = ex d 191 86 L (.int (nI 0) :: st) h := (ex_of d191_85 (d) L st h).trans (rfl)
theorem d191_86 : decode (mB 191) 86 = .ok (.istore 7, 2) := by decide +kernel
theorem x191_86 {d : Nat} {l0 l1 l2 l3 l4 l5 l6 l7 l8 : Option Value} {st : List Value} {x : Int32} {h : Hp} : ex (d) 191 86 [l0, l1, l2, l3, l4, l5, l6, l7, l8] (.int x :: st) h = ex d 191 88 [l0, l1, l2, l3, l4, l5, clr l6, some (.int x), l8] st h := (ex_of d191_86 (d) [l0, l1, l2, l3, l4, l5, l6, l7, l8] (.int x :: st) h).trans (rfl)
theorem d191_88 : decode (mB 191) 88 = .ok (.aload_n 0, 1) := by decide +kernel
theorem x191_88 {d : Nat} {l1 l2 l3 l4 l5 l6 l7 l8 : Option Value} {st : List Value} {a : Nat} {h : Hp} : ex (d) 191 88 [some (.ref a), l1, l2, l3, l4, l5, l6, l7, l8] st h = ex d 191 89 [some (.ref a), l1, l2, l3, l4, l5, l6, l7, l8] (.ref a :: st) h := (ex_of d191_88 (d) [some (.ref a), l1, l2, l3, l4, l5, l6, l7, l8] st h).trans (rfl)
theorem d191_89 : decode (mB 191) 89 = .ok (.getfield 52, 3) := by decide +kernel
theorem x191_89 {d : Nat} {L : Lc} {st : List Value} {a : Nat} {h : Hp} (ht : (h.2.1 a).1 = 11) : ex (d) 191 89 L (.ref a :: st) h = ex d 191 92 L (h.1 a 23 :: st) h := (ex_of d191_89 (d) L (.ref a :: st) h).trans (fin_get (mi := 191) f11_52 (tg1 ht rfl))
theorem d191_92 : decode (mB 191) 92 = .ok (.iload 5, 2) := by decide +kernel
theorem x191_92 {d : Nat} {l0 l1 l2 l3 l4 l6 l7 l8 : Option Value} {st : List Value} {x : Int32} {h : Hp} : ex (d) 191 92 [l0, l1, l2, l3, l4, some (.int x), l6, l7, l8] st h = ex d 191 94 [l0, l1, l2, l3, l4, some (.int x), l6, l7, l8] (.int x :: st) h := (ex_of d191_92 (d) [l0, l1, l2, l3, l4, some (.int x), l6, l7, l8] st h).trans (rfl)
theorem d191_94 : decode (mB 191) 94 = .ok (.iaload, 1) := by decide +kernel
theorem x191_94 {d : Nat} {L : Lc} {st : List Value} {a j : Nat} {h : Hp} (ht : (h.2.1 a).1 = 20) (hj : j < (h.2.1 a).2) (hb : j < 2147483648) : ex (d) 191 94 L (.int (nI j) :: .ref a :: st) h = ex d 191 95 L (h.1 a j :: st) h := (ex_of d191_94 (d) L (.int (nI j) :: .ref a :: st) h).trans (fin_iaload (Or.inl ht) hj hb)
theorem d191_95 : decode (mB 191) 95 = .ok (.iconst 1, 1) := by decide +kernel
theorem x191_95 {d : Nat} {L : Lc} {st : List Value} {h : Hp} : ex (d) 191 95 L st h = ex d 191 96 L (.int (nI 1) :: st) h := (ex_of d191_95 (d) L st h).trans (rfl)
theorem d191_96 : decode (mB 191) 96 = .ok (.iadd, 1) := by decide +kernel
theorem x191_96 {d : Nat} {L : Lc} {st : List Value} {x y : Int32} {h : Hp} : ex (d) 191 96 L (.int y :: .int x :: st) h = ex d 191 97 L (.int (x + y) :: st) h := (ex_of d191_96 (d) L (.int y :: .int x :: st) h).trans (rfl)
theorem d191_97 : decode (mB 191) 97 = .ok (.istore 8, 2) := by decide +kernel
theorem x191_97 {d : Nat} {l0 l1 l2 l3 l4 l5 l6 l7 l8 : Option Value} {st : List Value} {x : Int32} {h : Hp} : ex (d) 191 97 [l0, l1, l2, l3, l4, l5, l6, l7, l8] (.int x :: st) h = ex d 191 99 [l0, l1, l2, l3, l4, l5, l6, clr l7, some (.int x)] st h := (ex_of d191_97 (d) [l0, l1, l2, l3, l4, l5, l6, l7, l8] (.int x :: st) h).trans (rfl)
theorem d191_99 : decode (mB 191) 99 = .ok (.iload 8, 2) := by decide +kernel
theorem x191_99 {d : Nat} {l0 l1 l2 l3 l4 l5 l6 l7 : Option Value} {st : List Value} {x : Int32} {h : Hp} : ex (d) 191 99 [l0, l1, l2, l3, l4, l5, l6, l7, some (.int x)] st h = ex d 191 101 [l0, l1, l2, l3, l4, l5, l6, l7, some (.int x)] (.int x :: st) h := (ex_of d191_99 (d) [l0, l1, l2, l3, l4, l5, l6, l7, some (.int x)] st h).trans (rfl)
theorem d191_101 : decode (mB 191) 101 = .ok (.aload_n 0, 1) := by decide +kernel
theorem x191_101 {d : Nat} {l1 l2 l3 l4 l5 l6 l7 l8 : Option Value} {st : List Value} {a : Nat} {h : Hp} : ex (d) 191 101 [some (.ref a), l1, l2, l3, l4, l5, l6, l7, l8] st h = ex d 191 102 [some (.ref a), l1, l2, l3, l4, l5, l6, l7, l8] (.ref a :: st) h := (ex_of d191_101 (d) [some (.ref a), l1, l2, l3, l4, l5, l6, l7, l8] st h).trans (rfl)
theorem d191_102 : decode (mB 191) 102 = .ok (.getfield 52, 3) := by decide +kernel
theorem x191_102 {d : Nat} {L : Lc} {st : List Value} {a : Nat} {h : Hp} (ht : (h.2.1 a).1 = 11) : ex (d) 191 102 L (.ref a :: st) h = ex d 191 105 L (h.1 a 23 :: st) h := (ex_of d191_102 (d) L (.ref a :: st) h).trans (fin_get (mi := 191) f11_52 (tg1 ht rfl))
theorem d191_105 : decode (mB 191) 105 = .ok (.iload 6, 2) := by decide +kernel
theorem x191_105 {d : Nat} {l0 l1 l2 l3 l4 l5 l7 l8 : Option Value} {st : List Value} {x : Int32} {h : Hp} : ex (d) 191 105 [l0, l1, l2, l3, l4, l5, some (.int x), l7, l8] st h = ex d 191 107 [l0, l1, l2, l3, l4, l5, some (.int x), l7, l8] (.int x :: st) h := (ex_of d191_105 (d) [l0, l1, l2, l3, l4, l5, some (.int x), l7, l8] st h).trans (rfl)
theorem d191_107 : decode (mB 191) 107 = .ok (.iaload, 1) := by decide +kernel
theorem x191_107 {d : Nat} {L : Lc} {st : List Value} {a j : Nat} {h : Hp} (ht : (h.2.1 a).1 = 20) (hj : j < (h.2.1 a).2) (hb : j < 2147483648) : ex (d) 191 107 L (.int (nI j) :: .ref a :: st) h = ex d 191 108 L (h.1 a j :: st) h := (ex_of d191_107 (d) L (.int (nI j) :: .ref a :: st) h).trans (fin_iaload (Or.inl ht) hj hb)
theorem d191_108 : decode (mB 191) 108 = .ok (.if_icmp .ge 21, 3) := by decide +kernel
theorem x191_108 {d : Nat} {L : Lc} {st : List Value} {x y : Int32} {h : Hp} : ex (d) 191 108 L (.int y :: .int x :: st) h = if y ≤ x then ex d 191 129 L st h else ex d 191 111 L st h := (ex_of d191_108 (d) L (.int y :: .int x :: st) h).trans (fin_brq (off := 21) (tgt := 129) rfl (by decide))
theorem d191_111 : decode (mB 191) 111 = .ok (.iload 7, 2) := by decide +kernel
theorem x191_111 {d : Nat} {l0 l1 l2 l3 l4 l5 l6 l8 : Option Value} {st : List Value} {x : Int32} {h : Hp} : ex (d) 191 111 [l0, l1, l2, l3, l4, l5, l6, some (.int x), l8] st h = ex d 191 113 [l0, l1, l2, l3, l4, l5, l6, some (.int x), l8] (.int x :: st) h := (ex_of d191_111 (d) [l0, l1, l2, l3, l4, l5, l6, some (.int x), l8] st h).trans (rfl)
theorem d191_113 : decode (mB 191) 113 = .ok (.aload_n 0, 1) := by decide +kernel
theorem x191_113 {d : Nat} {l1 l2 l3 l4 l5 l6 l7 l8 : Option Value} {st : List Value} {a : Nat} {h : Hp} : ex (d) 191 113 [some (.ref a), l1, l2, l3, l4, l5, l6, l7, l8] st h = ex d 191 114 [some (.ref a), l1, l2, l3, l4, l5, l6, l7, l8] (.ref a :: st) h := (ex_of d191_113 (d) [some (.ref a), l1, l2, l3, l4, l5, l6, l7, l8] st h).trans (rfl)
theorem d191_114 : decode (mB 191) 114 = .ok (.getfield 55, 3) := by decide +kernel
theorem x191_114 {d : Nat} {L : Lc} {st : List Value} {a : Nat} {h : Hp} (ht : (h.2.1 a).1 = 11) : ex (d) 191 114 L (.ref a :: st) h = ex d 191 117 L (h.1 a 24 :: st) h := (ex_of d191_114 (d) L (.ref a :: st) h).trans (fin_get (mi := 191) f11_55 (tg1 ht rfl))
theorem d191_117 : decode (mB 191) 117 = .ok (.iload 8, 2) := by decide +kernel
theorem x191_117 {d : Nat} {l0 l1 l2 l3 l4 l5 l6 l7 : Option Value} {st : List Value} {x : Int32} {h : Hp} : ex (d) 191 117 [l0, l1, l2, l3, l4, l5, l6, l7, some (.int x)] st h = ex d 191 119 [l0, l1, l2, l3, l4, l5, l6, l7, some (.int x)] (.int x :: st) h := (ex_of d191_117 (d) [l0, l1, l2, l3, l4, l5, l6, l7, some (.int x)] st h).trans (rfl)
theorem d191_119 : decode (mB 191) 119 = .ok (.iaload, 1) := by decide +kernel
theorem x191_119 {d : Nat} {L : Lc} {st : List Value} {a j : Nat} {h : Hp} (ht : (h.2.1 a).1 = 20) (hj : j < (h.2.1 a).2) (hb : j < 2147483648) : ex (d) 191 119 L (.int (nI j) :: .ref a :: st) h = ex d 191 120 L (h.1 a j :: st) h := (ex_of d191_119 (d) L (.int (nI j) :: .ref a :: st) h).trans (fin_iaload (Or.inl ht) hj hb)
theorem d191_120 : decode (mB 191) 120 = .ok (.iadd, 1) := by decide +kernel
theorem x191_120 {d : Nat} {L : Lc} {st : List Value} {x y : Int32} {h : Hp} : ex (d) 191 120 L (.int y :: .int x :: st) h = ex d 191 121 L (.int (x + y) :: st) h := (ex_of d191_120 (d) L (.int y :: .int x :: st) h).trans (rfl)
theorem d191_121 : decode (mB 191) 121 = .ok (.istore 7, 2) := by decide +kernel
theorem x191_121 {d : Nat} {l0 l1 l2 l3 l4 l5 l6 l7 l8 : Option Value} {st : List Value} {x : Int32} {h : Hp} : ex (d) 191 121 [l0, l1, l2, l3, l4, l5, l6, l7, l8] (.int x :: st) h = ex d 191 123 [l0, l1, l2, l3, l4, l5, clr l6, some (.int x), l8] st h := (ex_of d191_121 (d) [l0, l1, l2, l3, l4, l5, l6, l7, l8] (.int x :: st) h).trans (rfl)
theorem d191_123 : decode (mB 191) 123 = .ok (.iinc 8 1, 3) := by decide +kernel
theorem x191_123 {d : Nat} {l0 l1 l2 l3 l4 l5 l6 l7 : Option Value} {st : List Value} {x : Int32} {h : Hp} : ex (d) 191 123 [l0, l1, l2, l3, l4, l5, l6, l7, some (.int x)] st h = ex d 191 126 [l0, l1, l2, l3, l4, l5, l6, clr l7, some (.int (x + (nI 1)))] st h := (ex_of d191_123 (d) [l0, l1, l2, l3, l4, l5, l6, l7, some (.int x)] st h).trans (rfl)
theorem d191_126 : decode (mB 191) 126 = .ok (.goto (-27), 3) := by decide +kernel
theorem x191_126 {d : Nat} {L : Lc} {st : List Value} {h : Hp} : ex (d) 191 126 L st h = ex d 191 99 L st h := (ex_of d191_126 (d) L st h).trans (rfl)
theorem d191_129 : decode (mB 191) 129 = .ok (.iconst 0, 1) := by decide +kernel
theorem x191_129 {d : Nat} {L : Lc} {st : List Value} {h : Hp} : ex (d) 191 129 L st h = ex d 191 130 L (.int (nI 0) :: st) h := (ex_of d191_129 (d) L st h).trans (rfl)
theorem d191_130 : decode (mB 191) 130 = .ok (.istore 8, 2) := by decide +kernel
theorem x191_130 {d : Nat} {l0 l1 l2 l3 l4 l5 l6 l7 l8 : Option Value} {st : List Value} {x : Int32} {h : Hp} : ex (d) 191 130 [l0, l1, l2, l3, l4, l5, l6, l7, l8] (.int x :: st) h = ex d 191 132 [l0, l1, l2, l3, l4, l5, l6, clr l7, some (.int x)] st h := (ex_of d191_130 (d) [l0, l1, l2, l3, l4, l5, l6, l7, l8] (.int x :: st) h).trans (rfl)
theorem d191_132 : decode (mB 191) 132 = .ok (.iload 8, 2) := by decide +kernel
theorem x191_132 {d : Nat} {l0 l1 l2 l3 l4 l5 l6 l7 : Option Value} {st : List Value} {x : Int32} {h : Hp} : ex (d) 191 132 [l0, l1, l2, l3, l4, l5, l6, l7, some (.int x)] st h = ex d 191 134 [l0, l1, l2, l3, l4, l5, l6, l7, some (.int x)] (.int x :: st) h := (ex_of d191_132 (d) [l0, l1, l2, l3, l4, l5, l6, l7, some (.int x)] st h).trans (rfl)
theorem d191_134 : decode (mB 191) 134 = .ok (.aload_n 0, 1) := by decide +kernel
theorem x191_134 {d : Nat} {l1 l2 l3 l4 l5 l6 l7 l8 : Option Value} {st : List Value} {a : Nat} {h : Hp} : ex (d) 191 134 [some (.ref a), l1, l2, l3, l4, l5, l6, l7, l8] st h = ex d 191 135 [some (.ref a), l1, l2, l3, l4, l5, l6, l7, l8] (.ref a :: st) h := (ex_of d191_134 (d) [some (.ref a), l1, l2, l3, l4, l5, l6, l7, l8] st h).trans (rfl)
theorem d191_135 : decode (mB 191) 135 = .ok (.getfield 218, 3) := by decide +kernel
theorem x191_135 {d : Nat} {L : Lc} {st : List Value} {a : Nat} {h : Hp} (ht : (h.2.1 a).1 = 11) : ex (d) 191 135 L (.ref a :: st) h = ex d 191 138 L (h.1 a 21 :: st) h := (ex_of d191_135 (d) L (.ref a :: st) h).trans (fin_get (mi := 191) f11_218 (tg1 ht rfl))
theorem d191_138 : decode (mB 191) 138 = .ok (.if_icmp .ge 61, 3) := by decide +kernel
theorem x191_138 {d : Nat} {L : Lc} {st : List Value} {x y : Int32} {h : Hp} : ex (d) 191 138 L (.int y :: .int x :: st) h = if y ≤ x then ex d 191 199 L st h else ex d 191 141 L st h := (ex_of d191_138 (d) L (.int y :: .int x :: st) h).trans (fin_brq (off := 61) (tgt := 199) rfl (by decide))
theorem d191_141 : decode (mB 191) 141 = .ok (.aload_n 0, 1) := by decide +kernel
theorem x191_141 {d : Nat} {l1 l2 l3 l4 l5 l6 l7 l8 : Option Value} {st : List Value} {a : Nat} {h : Hp} : ex (d) 191 141 [some (.ref a), l1, l2, l3, l4, l5, l6, l7, l8] st h = ex d 191 142 [some (.ref a), l1, l2, l3, l4, l5, l6, l7, l8] (.ref a :: st) h := (ex_of d191_141 (d) [some (.ref a), l1, l2, l3, l4, l5, l6, l7, l8] st h).trans (rfl)
theorem d191_142 : decode (mB 191) 142 = .ok (.getfield 49, 3) := by decide +kernel
theorem x191_142 {d : Nat} {L : Lc} {st : List Value} {a : Nat} {h : Hp} (ht : (h.2.1 a).1 = 11) : ex (d) 191 142 L (.ref a :: st) h = ex d 191 145 L (h.1 a 22 :: st) h := (ex_of d191_142 (d) L (.ref a :: st) h).trans (fin_get (mi := 191) f11_49 (tg1 ht rfl))
theorem d191_145 : decode (mB 191) 145 = .ok (.iload 8, 2) := by decide +kernel
theorem x191_145 {d : Nat} {l0 l1 l2 l3 l4 l5 l6 l7 : Option Value} {st : List Value} {x : Int32} {h : Hp} : ex (d) 191 145 [l0, l1, l2, l3, l4, l5, l6, l7, some (.int x)] st h = ex d 191 147 [l0, l1, l2, l3, l4, l5, l6, l7, some (.int x)] (.int x :: st) h := (ex_of d191_145 (d) [l0, l1, l2, l3, l4, l5, l6, l7, some (.int x)] st h).trans (rfl)
theorem d191_147 : decode (mB 191) 147 = .ok (.iaload, 1) := by decide +kernel
theorem x191_147 {d : Nat} {L : Lc} {st : List Value} {a j : Nat} {h : Hp} (ht : (h.2.1 a).1 = 20) (hj : j < (h.2.1 a).2) (hb : j < 2147483648) : ex (d) 191 147 L (.int (nI j) :: .ref a :: st) h = ex d 191 148 L (h.1 a j :: st) h := (ex_of d191_147 (d) L (.int (nI j) :: .ref a :: st) h).trans (fin_iaload (Or.inl ht) hj hb)
theorem d191_148 : decode (mB 191) 148 = .ok (.aload_n 0, 1) := by decide +kernel
theorem x191_148 {d : Nat} {l1 l2 l3 l4 l5 l6 l7 l8 : Option Value} {st : List Value} {a : Nat} {h : Hp} : ex (d) 191 148 [some (.ref a), l1, l2, l3, l4, l5, l6, l7, l8] st h = ex d 191 149 [some (.ref a), l1, l2, l3, l4, l5, l6, l7, l8] (.ref a :: st) h := (ex_of d191_148 (d) [some (.ref a), l1, l2, l3, l4, l5, l6, l7, l8] st h).trans (rfl)
theorem d191_149 : decode (mB 191) 149 = .ok (.getfield 49, 3) := by decide +kernel
theorem x191_149 {d : Nat} {L : Lc} {st : List Value} {a : Nat} {h : Hp} (ht : (h.2.1 a).1 = 11) : ex (d) 191 149 L (.ref a :: st) h = ex d 191 152 L (h.1 a 22 :: st) h := (ex_of d191_149 (d) L (.ref a :: st) h).trans (fin_get (mi := 191) f11_49 (tg1 ht rfl))
theorem d191_152 : decode (mB 191) 152 = .ok (.iload_n 1, 1) := by decide +kernel
theorem x191_152 {d : Nat} {l0 l2 l3 l4 l5 l6 l7 l8 : Option Value} {st : List Value} {x : Int32} {h : Hp} : ex (d) 191 152 [l0, some (.int x), l2, l3, l4, l5, l6, l7, l8] st h = ex d 191 153 [l0, some (.int x), l2, l3, l4, l5, l6, l7, l8] (.int x :: st) h := (ex_of d191_152 (d) [l0, some (.int x), l2, l3, l4, l5, l6, l7, l8] st h).trans (rfl)
theorem d191_153 : decode (mB 191) 153 = .ok (.iaload, 1) := by decide +kernel
theorem x191_153 {d : Nat} {L : Lc} {st : List Value} {a j : Nat} {h : Hp} (ht : (h.2.1 a).1 = 20) (hj : j < (h.2.1 a).2) (hb : j < 2147483648) : ex (d) 191 153 L (.int (nI j) :: .ref a :: st) h = ex d 191 154 L (h.1 a j :: st) h := (ex_of d191_153 (d) L (.int (nI j) :: .ref a :: st) h).trans (fin_iaload (Or.inl ht) hj hb)
theorem d191_154 : decode (mB 191) 154 = .ok (.if_icmp .ne 39, 3) := by decide +kernel
theorem x191_154 {d : Nat} {L : Lc} {st : List Value} {x y : Int32} {h : Hp} : ex (d) 191 154 L (.int y :: .int x :: st) h = if ¬ x = y then ex d 191 193 L st h else ex d 191 157 L st h := (ex_of d191_154 (d) L (.int y :: .int x :: st) h).trans (fin_brq (off := 39) (tgt := 193) rfl (by decide))
theorem d191_157 : decode (mB 191) 157 = .ok (.aload_n 0, 1) := by decide +kernel
theorem x191_157 {d : Nat} {l1 l2 l3 l4 l5 l6 l7 l8 : Option Value} {st : List Value} {a : Nat} {h : Hp} : ex (d) 191 157 [some (.ref a), l1, l2, l3, l4, l5, l6, l7, l8] st h = ex d 191 158 [some (.ref a), l1, l2, l3, l4, l5, l6, l7, l8] (.ref a :: st) h := (ex_of d191_157 (d) [some (.ref a), l1, l2, l3, l4, l5, l6, l7, l8] st h).trans (rfl)
theorem d191_158 : decode (mB 191) 158 = .ok (.getfield 52, 3) := by decide +kernel
theorem x191_158 {d : Nat} {L : Lc} {st : List Value} {a : Nat} {h : Hp} (ht : (h.2.1 a).1 = 11) : ex (d) 191 158 L (.ref a :: st) h = ex d 191 161 L (h.1 a 23 :: st) h := (ex_of d191_158 (d) L (.ref a :: st) h).trans (fin_get (mi := 191) f11_52 (tg1 ht rfl))
theorem d191_161 : decode (mB 191) 161 = .ok (.iload 8, 2) := by decide +kernel
theorem x191_161 {d : Nat} {l0 l1 l2 l3 l4 l5 l6 l7 : Option Value} {st : List Value} {x : Int32} {h : Hp} : ex (d) 191 161 [l0, l1, l2, l3, l4, l5, l6, l7, some (.int x)] st h = ex d 191 163 [l0, l1, l2, l3, l4, l5, l6, l7, some (.int x)] (.int x :: st) h := (ex_of d191_161 (d) [l0, l1, l2, l3, l4, l5, l6, l7, some (.int x)] st h).trans (rfl)
theorem d191_163 : decode (mB 191) 163 = .ok (.iaload, 1) := by decide +kernel
theorem x191_163 {d : Nat} {L : Lc} {st : List Value} {a j : Nat} {h : Hp} (ht : (h.2.1 a).1 = 20) (hj : j < (h.2.1 a).2) (hb : j < 2147483648) : ex (d) 191 163 L (.int (nI j) :: .ref a :: st) h = ex d 191 164 L (h.1 a j :: st) h := (ex_of d191_163 (d) L (.int (nI j) :: .ref a :: st) h).trans (fin_iaload (Or.inl ht) hj hb)
theorem d191_164 : decode (mB 191) 164 = .ok (.aload_n 0, 1) := by decide +kernel
theorem x191_164 {d : Nat} {l1 l2 l3 l4 l5 l6 l7 l8 : Option Value} {st : List Value} {a : Nat} {h : Hp} : ex (d) 191 164 [some (.ref a), l1, l2, l3, l4, l5, l6, l7, l8] st h = ex d 191 165 [some (.ref a), l1, l2, l3, l4, l5, l6, l7, l8] (.ref a :: st) h := (ex_of d191_164 (d) [some (.ref a), l1, l2, l3, l4, l5, l6, l7, l8] st h).trans (rfl)
theorem d191_165 : decode (mB 191) 165 = .ok (.getfield 52, 3) := by decide +kernel
theorem x191_165 {d : Nat} {L : Lc} {st : List Value} {a : Nat} {h : Hp} (ht : (h.2.1 a).1 = 11) : ex (d) 191 165 L (.ref a :: st) h = ex d 191 168 L (h.1 a 23 :: st) h := (ex_of d191_165 (d) L (.ref a :: st) h).trans (fin_get (mi := 191) f11_52 (tg1 ht rfl))
theorem d191_168 : decode (mB 191) 168 = .ok (.iload 5, 2) := by decide +kernel
theorem x191_168 {d : Nat} {l0 l1 l2 l3 l4 l6 l7 l8 : Option Value} {st : List Value} {x : Int32} {h : Hp} : ex (d) 191 168 [l0, l1, l2, l3, l4, some (.int x), l6, l7, l8] st h = ex d 191 170 [l0, l1, l2, l3, l4, some (.int x), l6, l7, l8] (.int x :: st) h := (ex_of d191_168 (d) [l0, l1, l2, l3, l4, some (.int x), l6, l7, l8] st h).trans (rfl)
theorem d191_170 : decode (mB 191) 170 = .ok (.iaload, 1) := by decide +kernel
theorem x191_170 {d : Nat} {L : Lc} {st : List Value} {a j : Nat} {h : Hp} (ht : (h.2.1 a).1 = 20) (hj : j < (h.2.1 a).2) (hb : j < 2147483648) : ex (d) 191 170 L (.int (nI j) :: .ref a :: st) h = ex d 191 171 L (h.1 a j :: st) h := (ex_of d191_170 (d) L (.int (nI j) :: .ref a :: st) h).trans (fin_iaload (Or.inl ht) hj hb)
theorem d191_171 : decode (mB 191) 171 = .ok (.if_icmp .le 22, 3) := by decide +kernel
theorem x191_171 {d : Nat} {L : Lc} {st : List Value} {x y : Int32} {h : Hp} : ex (d) 191 171 L (.int y :: .int x :: st) h = if x ≤ y then ex d 191 193 L st h else ex d 191 174 L st h := (ex_of d191_171 (d) L (.int y :: .int x :: st) h).trans (fin_brq (off := 22) (tgt := 193) rfl (by decide))
theorem d191_174 : decode (mB 191) 174 = .ok (.aload_n 0, 1) := by decide +kernel
theorem x191_174 {d : Nat} {l1 l2 l3 l4 l5 l6 l7 l8 : Option Value} {st : List Value} {a : Nat} {h : Hp} : ex (d) 191 174 [some (.ref a), l1, l2, l3, l4, l5, l6, l7, l8] st h = ex d 191 175 [some (.ref a), l1, l2, l3, l4, l5, l6, l7, l8] (.ref a :: st) h := (ex_of d191_174 (d) [some (.ref a), l1, l2, l3, l4, l5, l6, l7, l8] st h).trans (rfl)
theorem d191_175 : decode (mB 191) 175 = .ok (.getfield 52, 3) := by decide +kernel
theorem x191_175 {d : Nat} {L : Lc} {st : List Value} {a : Nat} {h : Hp} (ht : (h.2.1 a).1 = 11) : ex (d) 191 175 L (.ref a :: st) h = ex d 191 178 L (h.1 a 23 :: st) h := (ex_of d191_175 (d) L (.ref a :: st) h).trans (fin_get (mi := 191) f11_52 (tg1 ht rfl))
theorem d191_178 : decode (mB 191) 178 = .ok (.iload 8, 2) := by decide +kernel
theorem x191_178 {d : Nat} {l0 l1 l2 l3 l4 l5 l6 l7 : Option Value} {st : List Value} {x : Int32} {h : Hp} : ex (d) 191 178 [l0, l1, l2, l3, l4, l5, l6, l7, some (.int x)] st h = ex d 191 180 [l0, l1, l2, l3, l4, l5, l6, l7, some (.int x)] (.int x :: st) h := (ex_of d191_178 (d) [l0, l1, l2, l3, l4, l5, l6, l7, some (.int x)] st h).trans (rfl)
theorem d191_180 : decode (mB 191) 180 = .ok (.iaload, 1) := by decide +kernel
theorem x191_180 {d : Nat} {L : Lc} {st : List Value} {a j : Nat} {h : Hp} (ht : (h.2.1 a).1 = 20) (hj : j < (h.2.1 a).2) (hb : j < 2147483648) : ex (d) 191 180 L (.int (nI j) :: .ref a :: st) h = ex d 191 181 L (h.1 a j :: st) h := (ex_of d191_180 (d) L (.int (nI j) :: .ref a :: st) h).trans (fin_iaload (Or.inl ht) hj hb)
theorem d191_181 : decode (mB 191) 181 = .ok (.aload_n 0, 1) := by decide +kernel
theorem x191_181 {d : Nat} {l1 l2 l3 l4 l5 l6 l7 l8 : Option Value} {st : List Value} {a : Nat} {h : Hp} : ex (d) 191 181 [some (.ref a), l1, l2, l3, l4, l5, l6, l7, l8] st h = ex d 191 182 [some (.ref a), l1, l2, l3, l4, l5, l6, l7, l8] (.ref a :: st) h := (ex_of d191_181 (d) [some (.ref a), l1, l2, l3, l4, l5, l6, l7, l8] st h).trans (rfl)
theorem d191_182 : decode (mB 191) 182 = .ok (.getfield 52, 3) := by decide +kernel
theorem x191_182 {d : Nat} {L : Lc} {st : List Value} {a : Nat} {h : Hp} (ht : (h.2.1 a).1 = 11) : ex (d) 191 182 L (.ref a :: st) h = ex d 191 185 L (h.1 a 23 :: st) h := (ex_of d191_182 (d) L (.ref a :: st) h).trans (fin_get (mi := 191) f11_52 (tg1 ht rfl))
theorem d191_185 : decode (mB 191) 185 = .ok (.iload 6, 2) := by decide +kernel
theorem x191_185 {d : Nat} {l0 l1 l2 l3 l4 l5 l7 l8 : Option Value} {st : List Value} {x : Int32} {h : Hp} : ex (d) 191 185 [l0, l1, l2, l3, l4, l5, some (.int x), l7, l8] st h = ex d 191 187 [l0, l1, l2, l3, l4, l5, some (.int x), l7, l8] (.int x :: st) h := (ex_of d191_185 (d) [l0, l1, l2, l3, l4, l5, some (.int x), l7, l8] st h).trans (rfl)
theorem d191_187 : decode (mB 191) 187 = .ok (.iaload, 1) := by decide +kernel
theorem x191_187 {d : Nat} {L : Lc} {st : List Value} {a j : Nat} {h : Hp} (ht : (h.2.1 a).1 = 20) (hj : j < (h.2.1 a).2) (hb : j < 2147483648) : ex (d) 191 187 L (.int (nI j) :: .ref a :: st) h = ex d 191 188 L (h.1 a j :: st) h := (ex_of d191_187 (d) L (.int (nI j) :: .ref a :: st) h).trans (fin_iaload (Or.inl ht) hj hb)
theorem d191_188 : decode (mB 191) 188 = .ok (.if_icmp .ge 5, 3) := by decide +kernel
theorem x191_188 {d : Nat} {L : Lc} {st : List Value} {x y : Int32} {h : Hp} : ex (d) 191 188 L (.int y :: .int x :: st) h = if y ≤ x then ex d 191 193 L st h else ex d 191 191 L st h := (ex_of d191_188 (d) L (.int y :: .int x :: st) h).trans (fin_brq (off := 5) (tgt := 193) rfl (by decide))
theorem d191_191 : decode (mB 191) 191 = .ok (.iconst 1, 1) := by decide +kernel
theorem x191_191 {d : Nat} {L : Lc} {st : List Value} {h : Hp} : ex (d) 191 191 L st h = ex d 191 192 L (.int (nI 1) :: st) h := (ex_of d191_191 (d) L st h).trans (rfl)
theorem d191_192 : decode (mB 191) 192 = .ok (.ireturn, 1) := by decide +kernel
theorem x191_192 {d : Nat} {L : Lc} {x : Int32} {h : Hp} (hx : x = 0 ∨ x = 1) : ex (d) 191 192 L [.int x] h = some (some (.int x), h) := (ex_of d191_192 (d) L [.int x] h).trans (fin_retb rfl hx)
theorem d191_193 : decode (mB 191) 193 = .ok (.iinc 8 1, 3) := by decide +kernel
theorem x191_193 {d : Nat} {l0 l1 l2 l3 l4 l5 l6 l7 : Option Value} {st : List Value} {x : Int32} {h : Hp} : ex (d) 191 193 [l0, l1, l2, l3, l4, l5, l6, l7, some (.int x)] st h = ex d 191 196 [l0, l1, l2, l3, l4, l5, l6, clr l7, some (.int (x + (nI 1)))] st h := (ex_of d191_193 (d) [l0, l1, l2, l3, l4, l5, l6, l7, some (.int x)] st h).trans (rfl)
theorem d191_196 : decode (mB 191) 196 = .ok (.goto (-64), 3) := by decide +kernel
theorem x191_196 {d : Nat} {L : Lc} {st : List Value} {h : Hp} : ex (d) 191 196 L st h = ex d 191 132 L st h := (ex_of d191_196 (d) L st h).trans (rfl)
theorem d191_199 : decode (mB 191) 199 = .ok (.iload 7, 2) := by decide +kernel
theorem x191_199 {d : Nat} {l0 l1 l2 l3 l4 l5 l6 l8 : Option Value} {st : List Value} {x : Int32} {h : Hp} : ex (d) 191 199 [l0, l1, l2, l3, l4, l5, l6, some (.int x), l8] st h = ex d 191 201 [l0, l1, l2, l3, l4, l5, l6, some (.int x), l8] (.int x :: st) h := (ex_of d191_199 (d) [l0, l1, l2, l3, l4, l5, l6, some (.int x), l8] st h).trans (rfl)
theorem d191_201 : decode (mB 191) 201 = .ok (.aload_n 0, 1) := by decide +kernel
theorem x191_201 {d : Nat} {l1 l2 l3 l4 l5 l6 l7 l8 : Option Value} {st : List Value} {a : Nat} {h : Hp} : ex (d) 191 201 [some (.ref a), l1, l2, l3, l4, l5, l6, l7, l8] st h = ex d 191 202 [some (.ref a), l1, l2, l3, l4, l5, l6, l7, l8] (.ref a :: st) h := (ex_of d191_201 (d) [some (.ref a), l1, l2, l3, l4, l5, l6, l7, l8] st h).trans (rfl)
theorem d191_202 : decode (mB 191) 202 = .ok (.aload_n 0, 1) := by decide +kernel
theorem x191_202 {d : Nat} {l1 l2 l3 l4 l5 l6 l7 l8 : Option Value} {st : List Value} {a : Nat} {h : Hp} : ex (d) 191 202 [some (.ref a), l1, l2, l3, l4, l5, l6, l7, l8] st h = ex d 191 203 [some (.ref a), l1, l2, l3, l4, l5, l6, l7, l8] (.ref a :: st) h := (ex_of d191_202 (d) [some (.ref a), l1, l2, l3, l4, l5, l6, l7, l8] st h).trans (rfl)
theorem d191_203 : decode (mB 191) 203 = .ok (.getfield 58, 3) := by decide +kernel
theorem x191_203 {d : Nat} {L : Lc} {st : List Value} {a : Nat} {h : Hp} (ht : (h.2.1 a).1 = 11) : ex (d) 191 203 L (.ref a :: st) h = ex d 191 206 L (h.1 a 26 :: st) h := (ex_of d191_203 (d) L (.ref a :: st) h).trans (fin_get (mi := 191) f11_58 (tg1 ht rfl))
theorem d191_206 : decode (mB 191) 206 = .ok (.iload 6, 2) := by decide +kernel
theorem x191_206 {d : Nat} {l0 l1 l2 l3 l4 l5 l7 l8 : Option Value} {st : List Value} {x : Int32} {h : Hp} : ex (d) 191 206 [l0, l1, l2, l3, l4, l5, some (.int x), l7, l8] st h = ex d 191 208 [l0, l1, l2, l3, l4, l5, some (.int x), l7, l8] (.int x :: st) h := (ex_of d191_206 (d) [l0, l1, l2, l3, l4, l5, some (.int x), l7, l8] st h).trans (rfl)
theorem d191_208 : decode (mB 191) 208 = .ok (.iload_n 1, 1) := by decide +kernel
theorem x191_208 {d : Nat} {l0 l2 l3 l4 l5 l6 l7 l8 : Option Value} {st : List Value} {x : Int32} {h : Hp} : ex (d) 191 208 [l0, some (.int x), l2, l3, l4, l5, l6, l7, l8] st h = ex d 191 209 [l0, some (.int x), l2, l3, l4, l5, l6, l7, l8] (.int x :: st) h := (ex_of d191_208 (d) [l0, some (.int x), l2, l3, l4, l5, l6, l7, l8] st h).trans (rfl)
theorem d191_209 : decode (mB 191) 209 = .ok (.if_icmp .ne 7, 3) := by decide +kernel
theorem x191_209 {d : Nat} {L : Lc} {st : List Value} {x y : Int32} {h : Hp} : ex (d) 191 209 L (.int y :: .int x :: st) h = if ¬ x = y then ex d 191 216 L st h else ex d 191 212 L st h := (ex_of d191_209 (d) L (.int y :: .int x :: st) h).trans (fin_brq (off := 7) (tgt := 216) rfl (by decide))
theorem d191_212 : decode (mB 191) 212 = .ok (.iload_n 2, 1) := by decide +kernel
theorem x191_212 {d : Nat} {l0 l1 l3 l4 l5 l6 l7 l8 : Option Value} {st : List Value} {x : Int32} {h : Hp} : ex (d) 191 212 [l0, l1, some (.int x), l3, l4, l5, l6, l7, l8] st h = ex d 191 213 [l0, l1, some (.int x), l3, l4, l5, l6, l7, l8] (.int x :: st) h := (ex_of d191_212 (d) [l0, l1, some (.int x), l3, l4, l5, l6, l7, l8] st h).trans (rfl)
theorem d191_213 : decode (mB 191) 213 = .ok (.goto 5, 3) := by decide +kernel
theorem x191_213 {d : Nat} {L : Lc} {st : List Value} {h : Hp} : ex (d) 191 213 L st h = ex d 191 218 L st h := (ex_of d191_213 (d) L st h).trans (rfl)
theorem d191_216 : decode (mB 191) 216 = .ok (.iload 4, 2) := by decide +kernel
theorem x191_216 {d : Nat} {l0 l1 l2 l3 l5 l6 l7 l8 : Option Value} {st : List Value} {x : Int32} {h : Hp} : ex (d) 191 216 [l0, l1, l2, l3, some (.int x), l5, l6, l7, l8] st h = ex d 191 218 [l0, l1, l2, l3, some (.int x), l5, l6, l7, l8] (.int x :: st) h := (ex_of d191_216 (d) [l0, l1, l2, l3, some (.int x), l5, l6, l7, l8] st h).trans (rfl)
theorem d191_218 : decode (mB 191) 218 = .ok (.iaload, 1) := by decide +kernel
theorem x191_218 {d : Nat} {L : Lc} {st : List Value} {a j : Nat} {h : Hp} (ht : (h.2.1 a).1 = 20) (hj : j < (h.2.1 a).2) (hb : j < 2147483648) : ex (d) 191 218 L (.int (nI j) :: .ref a :: st) h = ex d 191 219 L (h.1 a j :: st) h := (ex_of d191_218 (d) L (.int (nI j) :: .ref a :: st) h).trans (fin_iaload (Or.inl ht) hj hb)
theorem d191_219 : decode (mB 191) 219 = .ok (.invokevirtual 209, 3) := by decide +kernel
theorem x191_219 {d : Nat} {L : Lc} {s0 : Value} {a : Nat} {v0 : Int32} {h : Hp} (ht : (h.2.1 a).1 = 11) : ex (d + 1) 191 219 L (.int v0 :: .ref a :: [s0]) h = bnd (ex d 181 0 [some (.ref a), some (.int v0), none, none] [] h) (fun v h' => ex (d + 1) 191 222 L (v.toList ++ [s0]) h') := (ex_of d191_219 (d + 1) L (.int v0 :: .ref a :: [s0]) h).trans (fin_vi (mi := 191) i11_209 ht rfl rfl (by simp [cat1_i, cat1_r]) (by simp) (Nat.le_of_ble_eq_true rfl))
theorem d191_222 : decode (mB 191) 222 = .ok (.if_icmp .lt 7, 3) := by decide +kernel
theorem x191_222 {d : Nat} {L : Lc} {st : List Value} {x y : Int32} {h : Hp} : ex (d) 191 222 L (.int y :: .int x :: st) h = if x < y then ex d 191 229 L st h else ex d 191 225 L st h := (ex_of d191_222 (d) L (.int y :: .int x :: st) h).trans (fin_brq (off := 7) (tgt := 229) rfl (by decide))
theorem d191_225 : decode (mB 191) 225 = .ok (.iconst 1, 1) := by decide +kernel
theorem x191_225 {d : Nat} {L : Lc} {st : List Value} {h : Hp} : ex (d) 191 225 L st h = ex d 191 226 L (.int (nI 1) :: st) h := (ex_of d191_225 (d) L st h).trans (rfl)
theorem d191_226 : decode (mB 191) 226 = .ok (.goto 4, 3) := by decide +kernel
theorem x191_226 {d : Nat} {L : Lc} {st : List Value} {h : Hp} : ex (d) 191 226 L st h = ex d 191 230 L st h := (ex_of d191_226 (d) L st h).trans (rfl)
theorem d191_229 : decode (mB 191) 229 = .ok (.iconst 0, 1) := by decide +kernel
theorem x191_229 {d : Nat} {L : Lc} {st : List Value} {h : Hp} : ex (d) 191 229 L st h = ex d 191 230 L (.int (nI 0) :: st) h := (ex_of d191_229 (d) L st h).trans (rfl)
theorem d191_230 : decode (mB 191) 230 = .ok (.ireturn, 1) := by decide +kernel
theorem x191_230 {d : Nat} {L : Lc} {x : Int32} {h : Hp} (hx : x = 0 ∨ x = 1) : ex (d) 191 230 L [.int x] h = some (some (.int x), h) := (ex_of d191_230 (d) L [.int x] h).trans (fin_retb rfl hx)
