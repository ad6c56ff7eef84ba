/-! ===== the reference is made ===== -/
def pmM (o : Nat) (m : Mm) (i : Nat) : Mm := fun a j => if a = o then (if aF j ≠ 0 ∧ aF j ≤ i then .ref (o + aF j) else dfv (pty 11 j)) else if o < a ∧ a ≤ o + i then .int 0 else m a j
def psS (o : Nat) (s : Nat → Nat × Nat) (i : Nat) : Nat → Nat × Nat := fun a => if a = o then (11, 42) else if o < a ∧ a ≤ o + i then (20, lA (a - o)) else s a
theorem psS_o {o i : Nat} {s : Nat → Nat × Nat} : psS o s i o = (11, 42) := if_pos rfl
theorem aF_fA : ∀ c, c < 28 → 0 < c → ∀ j, j < 42 → (aF j = c ↔ j = fA c) := by decide +kernel
theorem aF_big {j : Nat} (h : ¬ j < 42) : aF j = 0 := by
  unfold aF
  rw [List.getD_eq_getElem?_getD, List.getElem?_eq_none (by simp; omega)]
  rfl
theorem fA_lt : ∀ c, c < 28 → fA c < 42 := by decide +kernel
theorem pm_s {o i : Nat} {m : Mm} (hi : i < 27) : mup (mnw (pmM o m i) (o + (i + 1)) (fun _ => .int 0)) o (fA (i + 1)) (.ref (o + (i + 1))) = pmM o m (i + 1) := by
  funext a j
  unfold mup
  by_cases ha : a = o
  · subst ha
    have hne : ¬ a = a + (i + 1) := by omega
    rw [mnw_ne hne]
    unfold pmM
    rw [if_pos rfl, if_pos rfl]
    by_cases hj : j = fA (i + 1)
    · rw [if_pos ⟨rfl, hj⟩]
      have hl := fA_lt (i + 1) (by omega)
      have e : aF j = i + 1 := (aF_fA (i + 1) (by omega) (by omega) j (by omega)).mpr hj
      rw [e, if_pos (by omega)]
    · rw [if_neg (fun y => hj y.2)]
      have e : ¬ aF j = i + 1 := by
        by_cases hj2 : j < 42
        · exact fun y => hj ((aF_fA (i + 1) (by omega) (by omega) j hj2).mp y)
        · rw [aF_big hj2]; omega
      by_cases w : aF j ≠ 0 ∧ aF j ≤ i
      · rw [if_pos w, if_pos (by omega)]
      · rw [if_neg w, if_neg (by omega)]
  · rw [if_neg (fun y => ha y.1)]
    by_cases hb : a = o + (i + 1)
    · rw [hb, mnw_at]
      unfold pmM
      rw [if_neg (by omega), if_pos (by omega)]
    · rw [mnw_ne hb]
      unfold pmM
      rw [if_neg ha, if_neg ha]
      by_cases w : o < a ∧ a ≤ o + i
      · rw [if_pos w, if_pos (by omega)]
      · rw [if_neg w, if_neg (by omega)]
theorem ps_s {o i : Nat} {s : Nat → Nat × Nat} : mnw (psS o s i) (o + (i + 1)) (20, lA (i + 1)) = psS o s (i + 1) := by
  funext a
  by_cases hb : a = o + (i + 1)
  · rw [hb, mnw_at]
    unfold psS
    rw [if_neg (by omega), if_pos (by omega), Nat.add_sub_cancel_left]
  · rw [mnw_ne hb]
    unfold psS
    by_cases ha : a = o
    · rw [if_pos ha, if_pos ha]
    · rw [if_neg ha, if_neg ha]
      by_cases w : o < a ∧ a ≤ o + i
      · rw [if_pos w, if_pos (by omega)]
      · rw [if_neg w, if_neg (by omega)]
theorem pm_0 {o : Nat} {m : Mm} : mnw m o (fun j => dfv (pty 11 j)) = pmM o m 0 := by
  funext a j
  by_cases ha : a = o
  · subst ha
    rw [mnw_at]
    unfold pmM
    rw [if_pos rfl, if_neg (by omega)]
  · rw [mnw_ne ha]
    unfold pmM
    rw [if_neg ha, if_neg (by omega)]
theorem ps_0 {o : Nat} {s : Nat → Nat × Nat} : mnw s o (11, 42) = psS o s 0 := by
  funext a
  by_cases ha : a = o
  · subst ha
    rw [mnw_at]
    exact psS_o.symm
  · rw [mnw_ne ha]
    unfold psS
    rw [if_neg ha, if_neg (by omega)]
section DG
variable {d o k : Nat} {m : Mm} {s : Nat → Nat × Nat}
theorem i133_0 : ex d 133 4 [some (.ref o)] [] (pmM o m 0, psS o s 0, o + (0 + 1), k) = ex d 133 13 [some (.ref o)] [] (pmM o m (0 + 1), psS o s (0 + 1), o + (0 + 1 + 1), k + 200) := by
  have l : 200 ≤ 10000 := by decide
  have e : fA (0 + 1) = 2 := rfl
  have f : lA (0 + 1) = 200 := rfl
  have P := pm_s (o := o) (i := 0) (m := m) (by omega)
  have Q := ps_s (o := o) (i := 0) (s := s)
  rw [e] at P
  rw [f] at Q
  have ne : ¬ o = o + (0 + 1) := by omega
  conv => lhs; simp only [x133_4, x133_5, x133_8, x133_10, x133_10n, x133_10q, bnd_some, Option.toList_some, Option.toList_none, List.cons_append, List.nil_append, List.singleton_append, clr_i, clr_r, clr_n, clr_0, clr_q, clr_l, isR_r, isR_n, isR_q, cat1_i, cat1_r, b0, b1, if_true, if_false, not_true, not_false_eq_true, reduceCtorEq, ite_self, and_true, true_and, and_false, false_and, or_true, true_or, or_false, false_or, l, psS_o, mnw_ne ne, P, Q]
theorem i133_1 : ex d 133 13 [some (.ref o)] [] (pmM o m 1, psS o s 1, o + (1 + 1), k) = ex d 133 22 [some (.ref o)] [] (pmM o m (1 + 1), psS o s (1 + 1), o + (1 + 1 + 1), k + 200) := by
  have l : 200 ≤ 10000 := by decide
  have e : fA (1 + 1) = 3 := rfl
  have f : lA (1 + 1) = 200 := rfl
  have P := pm_s (o := o) (i := 1) (m := m) (by omega)
  have Q := ps_s (o := o) (i := 1) (s := s)
  rw [e] at P
  rw [f] at Q
  have ne : ¬ o = o + (1 + 1) := by omega
  conv => lhs; simp only [x133_13, x133_14, x133_17, x133_19, x133_19n, x133_19q, bnd_some, Option.toList_some, Option.toList_none, List.cons_append, List.nil_append, List.singleton_append, clr_i, clr_r, clr_n, clr_0, clr_q, clr_l, isR_r, isR_n, isR_q, cat1_i, cat1_r, b0, b1, if_true, if_false, not_true, not_false_eq_true, reduceCtorEq, ite_self, and_true, true_and, and_false, false_and, or_true, true_or, or_false, false_or, l, psS_o, mnw_ne ne, P, Q]
theorem i133_2 : ex d 133 22 [some (.ref o)] [] (pmM o m 2, psS o s 2, o + (2 + 1), k) = ex d 133 31 [some (.ref o)] [] (pmM o m (2 + 1), psS o s (2 + 1), o + (2 + 1 + 1), k + 200) := by
  have l : 200 ≤ 10000 := by decide
  have e : fA (2 + 1) = 4 := rfl
  have f : lA (2 + 1) = 200 := rfl
  have P := pm_s (o := o) (i := 2) (m := m) (by omega)
  have Q := ps_s (o := o) (i := 2) (s := s)
  rw [e] at P
  rw [f] at Q
  have ne : ¬ o = o + (2 + 1) := by omega
  conv => lhs; simp only [x133_22, x133_23, x133_26, x133_28, x133_28n, x133_28q, bnd_some, Option.toList_some, Option.toList_none, List.cons_append, List.nil_append, List.singleton_append, clr_i, clr_r, clr_n, clr_0, clr_q, clr_l, isR_r, isR_n, isR_q, cat1_i, cat1_r, b0, b1, if_true, if_false, not_true, not_false_eq_true, reduceCtorEq, ite_self, and_true, true_and, and_false, false_and, or_true, true_or, or_false, false_or, l, psS_o, mnw_ne ne, P, Q]
theorem i133_3 : ex d 133 31 [some (.ref o)] [] (pmM o m 3, psS o s 3, o + (3 + 1), k) = ex d 133 40 [some (.ref o)] [] (pmM o m (3 + 1), psS o s (3 + 1), o + (3 + 1 + 1), k + 200) := by
  have l : 200 ≤ 10000 := by decide
  have e : fA (3 + 1) = 5 := rfl
  have f : lA (3 + 1) = 200 := rfl
  have P := pm_s (o := o) (i := 3) (m := m) (by omega)
  have Q := ps_s (o := o) (i := 3) (s := s)
  rw [e] at P
  rw [f] at Q
  have ne : ¬ o = o + (3 + 1) := by omega
  conv => lhs; simp only [x133_31, x133_32, x133_35, x133_37, x133_37n, x133_37q, bnd_some, Option.toList_some, Option.toList_none, List.cons_append, List.nil_append, List.singleton_append, clr_i, clr_r, clr_n, clr_0, clr_q, clr_l, isR_r, isR_n, isR_q, cat1_i, cat1_r, b0, b1, if_true, if_false, not_true, not_false_eq_true, reduceCtorEq, ite_self, and_true, true_and, and_false, false_and, or_true, true_or, or_false, false_or, l, psS_o, mnw_ne ne, P, Q]
theorem i133_4 : ex d 133 40 [some (.ref o)] [] (pmM o m 4, psS o s 4, o + (4 + 1), k) = ex d 133 49 [some (.ref o)] [] (pmM o m (4 + 1), psS o s (4 + 1), o + (4 + 1 + 1), k + 212) := by
  have l : 212 ≤ 10000 := by decide
  have e : fA (4 + 1) = 6 := rfl
  have f : lA (4 + 1) = 212 := rfl
  have P := pm_s (o := o) (i := 4) (m := m) (by omega)
  have Q := ps_s (o := o) (i := 4) (s := s)
  rw [e] at P
  rw [f] at Q
  have ne : ¬ o = o + (4 + 1) := by omega
  conv => lhs; simp only [x133_40, x133_41, x133_44, x133_46, x133_46n, x133_46q, bnd_some, Option.toList_some, Option.toList_none, List.cons_append, List.nil_append, List.singleton_append, clr_i, clr_r, clr_n, clr_0, clr_q, clr_l, isR_r, isR_n, isR_q, cat1_i, cat1_r, b0, b1, if_true, if_false, not_true, not_false_eq_true, reduceCtorEq, ite_self, and_true, true_and, and_false, false_and, or_true, true_or, or_false, false_or, l, psS_o, mnw_ne ne, P, Q]
theorem i133_5 : ex d 133 49 [some (.ref o)] [] (pmM o m 5, psS o s 5, o + (5 + 1), k) = ex d 133 58 [some (.ref o)] [] (pmM o m (5 + 1), psS o s (5 + 1), o + (5 + 1 + 1), k + 8480) := by
  have l : 8480 ≤ 10000 := by decide
  have e : fA (5 + 1) = 7 := rfl
  have f : lA (5 + 1) = 8480 := rfl
  have P := pm_s (o := o) (i := 5) (m := m) (by omega)
  have Q := ps_s (o := o) (i := 5) (s := s)
  rw [e] at P
  rw [f] at Q
  have ne : ¬ o = o + (5 + 1) := by omega
  conv => lhs; simp only [x133_49, x133_50, x133_53, x133_55, x133_55n, x133_55q, bnd_some, Option.toList_some, Option.toList_none, List.cons_append, List.nil_append, List.singleton_append, clr_i, clr_r, clr_n, clr_0, clr_q, clr_l, isR_r, isR_n, isR_q, cat1_i, cat1_r, b0, b1, if_true, if_false, not_true, not_false_eq_true, reduceCtorEq, ite_self, and_true, true_and, and_false, false_and, or_true, true_or, or_false, false_or, l, psS_o, mnw_ne ne, P, Q]
theorem i133_6 : ex d 133 58 [some (.ref o)] [] (pmM o m 6, psS o s 6, o + (6 + 1), k) = ex d 133 67 [some (.ref o)] [] (pmM o m (6 + 1), psS o s (6 + 1), o + (6 + 1 + 1), k + 1200) := by
  have l : 1200 ≤ 10000 := by decide
  have e : fA (6 + 1) = 9 := rfl
  have f : lA (6 + 1) = 1200 := rfl
  have P := pm_s (o := o) (i := 6) (m := m) (by omega)
  have Q := ps_s (o := o) (i := 6) (s := s)
  rw [e] at P
  rw [f] at Q
  have ne : ¬ o = o + (6 + 1) := by omega
  conv => lhs; simp only [x133_58, x133_59, x133_62, x133_64, x133_64n, x133_64q, bnd_some, Option.toList_some, Option.toList_none, List.cons_append, List.nil_append, List.singleton_append, clr_i, clr_r, clr_n, clr_0, clr_q, clr_l, isR_r, isR_n, isR_q, cat1_i, cat1_r, b0, b1, if_true, if_false, not_true, not_false_eq_true, reduceCtorEq, ite_self, and_true, true_and, and_false, false_and, or_true, true_or, or_false, false_or, l, psS_o, mnw_ne ne, P, Q]
theorem i133_7 : ex d 133 67 [some (.ref o)] [] (pmM o m 7, psS o s 7, o + (7 + 1), k) = ex d 133 76 [some (.ref o)] [] (pmM o m (7 + 1), psS o s (7 + 1), o + (7 + 1 + 1), k + 1200) := by
  have l : 1200 ≤ 10000 := by decide
  have e : fA (7 + 1) = 10 := rfl
  have f : lA (7 + 1) = 1200 := rfl
  have P := pm_s (o := o) (i := 7) (m := m) (by omega)
  have Q := ps_s (o := o) (i := 7) (s := s)
  rw [e] at P
  rw [f] at Q
  have ne : ¬ o = o + (7 + 1) := by omega
  conv => lhs; simp only [x133_67, x133_68, x133_71, x133_73, x133_73n, x133_73q, bnd_some, Option.toList_some, Option.toList_none, List.cons_append, List.nil_append, List.singleton_append, clr_i, clr_r, clr_n, clr_0, clr_q, clr_l, isR_r, isR_n, isR_q, cat1_i, cat1_r, b0, b1, if_true, if_false, not_true, not_false_eq_true, reduceCtorEq, ite_self, and_true, true_and, and_false, false_and, or_true, true_or, or_false, false_or, l, psS_o, mnw_ne ne, P, Q]
theorem i133_8 : ex d 133 76 [some (.ref o)] [] (pmM o m 8, psS o s 8, o + (8 + 1), k) = ex d 133 85 [some (.ref o)] [] (pmM o m (8 + 1), psS o s (8 + 1), o + (8 + 1 + 1), k + 1200) := by
  have l : 1200 ≤ 10000 := by decide
  have e : fA (8 + 1) = 11 := rfl
  have f : lA (8 + 1) = 1200 := rfl
  have P := pm_s (o := o) (i := 8) (m := m) (by omega)
  have Q := ps_s (o := o) (i := 8) (s := s)
  rw [e] at P
  rw [f] at Q
  have ne : ¬ o = o + (8 + 1) := by omega
  conv => lhs; simp only [x133_76, x133_77, x133_80, x133_82, x133_82n, x133_82q, bnd_some, Option.toList_some, Option.toList_none, List.cons_append, List.nil_append, List.singleton_append, clr_i, clr_r, clr_n, clr_0, clr_q, clr_l, isR_r, isR_n, isR_q, cat1_i, cat1_r, b0, b1, if_true, if_false, not_true, not_false_eq_true, reduceCtorEq, ite_self, and_true, true_and, and_false, false_and, or_true, true_or, or_false, false_or, l, psS_o, mnw_ne ne, P, Q]
theorem i133_9 : ex d 133 85 [some (.ref o)] [] (pmM o m 9, psS o s 9, o + (9 + 1), k) = ex d 133 94 [some (.ref o)] [] (pmM o m (9 + 1), psS o s (9 + 1), o + (9 + 1 + 1), k + 8000) := by
  have l : 8000 ≤ 10000 := by decide
  have e : fA (9 + 1) = 12 := rfl
  have f : lA (9 + 1) = 8000 := rfl
  have P := pm_s (o := o) (i := 9) (m := m) (by omega)
  have Q := ps_s (o := o) (i := 9) (s := s)
  rw [e] at P
  rw [f] at Q
  have ne : ¬ o = o + (9 + 1) := by omega
  conv => lhs; simp only [x133_85, x133_86, x133_89, x133_91, x133_91n, x133_91q, bnd_some, Option.toList_some, Option.toList_none, List.cons_append, List.nil_append, List.singleton_append, clr_i, clr_r, clr_n, clr_0, clr_q, clr_l, isR_r, isR_n, isR_q, cat1_i, cat1_r, b0, b1, if_true, if_false, not_true, not_false_eq_true, reduceCtorEq, ite_self, and_true, true_and, and_false, false_and, or_true, true_or, or_false, false_or, l, psS_o, mnw_ne ne, P, Q]
theorem i133_10 : ex d 133 94 [some (.ref o)] [] (pmM o m 10, psS o s 10, o + (10 + 1), k) = ex d 133 103 [some (.ref o)] [] (pmM o m (10 + 1), psS o s (10 + 1), o + (10 + 1 + 1), k + 200) := by
  have l : 200 ≤ 10000 := by decide
  have e : fA (10 + 1) = 13 := rfl
  have f : lA (10 + 1) = 200 := rfl
  have P := pm_s (o := o) (i := 10) (m := m) (by omega)
  have Q := ps_s (o := o) (i := 10) (s := s)
  rw [e] at P
  rw [f] at Q
  have ne : ¬ o = o + (10 + 1) := by omega
  conv => lhs; simp only [x133_94, x133_95, x133_98, x133_100, x133_100n, x133_100q, bnd_some, Option.toList_some, Option.toList_none, List.cons_append, List.nil_append, List.singleton_append, clr_i, clr_r, clr_n, clr_0, clr_q, clr_l, isR_r, isR_n, isR_q, cat1_i, cat1_r, b0, b1, if_true, if_false, not_true, not_false_eq_true, reduceCtorEq, ite_self, and_true, true_and, and_false, false_and, or_true, true_or, or_false, false_or, l, psS_o, mnw_ne ne, P, Q]
theorem i133_11 : ex d 133 103 [some (.ref o)] [] (pmM o m 11, psS o s 11, o + (11 + 1), k) = ex d 133 111 [some (.ref o)] [] (pmM o m (11 + 1), psS o s (11 + 1), o + (11 + 1 + 1), k + 60) := by
  have l : 60 ≤ 10000 := by decide
  have e : fA (11 + 1) = 16 := rfl
  have f : lA (11 + 1) = 60 := rfl
  have P := pm_s (o := o) (i := 11) (m := m) (by omega)
  have Q := ps_s (o := o) (i := 11) (s := s)
  rw [e] at P
  rw [f] at Q
  have ne : ¬ o = o + (11 + 1) := by omega
  conv => lhs; simp only [x133_103, x133_104, x133_106, x133_108, x133_108n, x133_108q, bnd_some, Option.toList_some, Option.toList_none, List.cons_append, List.nil_append, List.singleton_append, clr_i, clr_r, clr_n, clr_0, clr_q, clr_l, isR_r, isR_n, isR_q, cat1_i, cat1_r, b0, b1, if_true, if_false, not_true, not_false_eq_true, reduceCtorEq, ite_self, and_true, true_and, and_false, false_and, or_true, true_or, or_false, false_or, l, psS_o, mnw_ne ne, P, Q]
theorem i133_12 : ex d 133 111 [some (.ref o)] [] (pmM o m 12, psS o s 12, o + (12 + 1), k) = ex d 133 120 [some (.ref o)] [] (pmM o m (12 + 1), psS o s (12 + 1), o + (12 + 1 + 1), k + 240) := by
  have l : 240 ≤ 10000 := by decide
  have e : fA (12 + 1) = 20 := rfl
  have f : lA (12 + 1) = 240 := rfl
  have P := pm_s (o := o) (i := 12) (m := m) (by omega)
  have Q := ps_s (o := o) (i := 12) (s := s)
  rw [e] at P
  rw [f] at Q
  have ne : ¬ o = o + (12 + 1) := by omega
  conv => lhs; simp only [x133_111, x133_112, x133_115, x133_117, x133_117n, x133_117q, bnd_some, Option.toList_some, Option.toList_none, List.cons_append, List.nil_append, List.singleton_append, clr_i, clr_r, clr_n, clr_0, clr_q, clr_l, isR_r, isR_n, isR_q, cat1_i, cat1_r, b0, b1, if_true, if_false, not_true, not_false_eq_true, reduceCtorEq, ite_self, and_true, true_and, and_false, false_and, or_true, true_or, or_false, false_or, l, psS_o, mnw_ne ne, P, Q]
theorem i133_13 : ex d 133 120 [some (.ref o)] [] (pmM o m 13, psS o s 13, o + (13 + 1), k) = ex d 133 128 [some (.ref o)] [] (pmM o m (13 + 1), psS o s (13 + 1), o + (13 + 1 + 1), k + 7) := by
  have l : 7 ≤ 10000 := by decide
  have e : fA (13 + 1) = 22 := rfl
  have f : lA (13 + 1) = 7 := rfl
  have P := pm_s (o := o) (i := 13) (m := m) (by omega)
  have Q := ps_s (o := o) (i := 13) (s := s)
  rw [e] at P
  rw [f] at Q
  have ne : ¬ o = o + (13 + 1) := by omega
  conv => lhs; simp only [x133_120, x133_121, x133_123, x133_125, x133_125n, x133_125q, bnd_some, Option.toList_some, Option.toList_none, List.cons_append, List.nil_append, List.singleton_append, clr_i, clr_r, clr_n, clr_0, clr_q, clr_l, isR_r, isR_n, isR_q, cat1_i, cat1_r, b0, b1, if_true, if_false, not_true, not_false_eq_true, reduceCtorEq, ite_self, and_true, true_and, and_false, false_and, or_true, true_or, or_false, false_or, l, psS_o, mnw_ne ne, P, Q]
theorem i133_14 : ex d 133 128 [some (.ref o)] [] (pmM o m 14, psS o s 14, o + (14 + 1), k) = ex d 133 136 [some (.ref o)] [] (pmM o m (14 + 1), psS o s (14 + 1), o + (14 + 1 + 1), k + 7) := by
  have l : 7 ≤ 10000 := by decide
  have e : fA (14 + 1) = 23 := rfl
  have f : lA (14 + 1) = 7 := rfl
  have P := pm_s (o := o) (i := 14) (m := m) (by omega)
  have Q := ps_s (o := o) (i := 14) (s := s)
  rw [e] at P
  rw [f] at Q
  have ne : ¬ o = o + (14 + 1) := by omega
  conv => lhs; simp only [x133_128, x133_129, x133_131, x133_133, x133_133n, x133_133q, bnd_some, Option.toList_some, Option.toList_none, List.cons_append, List.nil_append, List.singleton_append, clr_i, clr_r, clr_n, clr_0, clr_q, clr_l, isR_r, isR_n, isR_q, cat1_i, cat1_r, b0, b1, if_true, if_false, not_true, not_false_eq_true, reduceCtorEq, ite_self, and_true, true_and, and_false, false_and, or_true, true_or, or_false, false_or, l, psS_o, mnw_ne ne, P, Q]
theorem i133_15 : ex d 133 136 [some (.ref o)] [] (pmM o m 15, psS o s 15, o + (15 + 1), k) = ex d 133 144 [some (.ref o)] [] (pmM o m (15 + 1), psS o s (15 + 1), o + (15 + 1 + 1), k + 10) := by
  have l : 10 ≤ 10000 := by decide
  have e : fA (15 + 1) = 24 := rfl
  have f : lA (15 + 1) = 10 := rfl
  have P := pm_s (o := o) (i := 15) (m := m) (by omega)
  have Q := ps_s (o := o) (i := 15) (s := s)
  rw [e] at P
  rw [f] at Q
  have ne : ¬ o = o + (15 + 1) := by omega
  conv => lhs; simp only [x133_136, x133_137, x133_139, x133_141, x133_141n, x133_141q, bnd_some, Option.toList_some, Option.toList_none, List.cons_append, List.nil_append, List.singleton_append, clr_i, clr_r, clr_n, clr_0, clr_q, clr_l, isR_r, isR_n, isR_q, cat1_i, cat1_r, b0, b1, if_true, if_false, not_true, not_false_eq_true, reduceCtorEq, ite_self, and_true, true_and, and_false, false_and, or_true, true_or, or_false, false_or, l, psS_o, mnw_ne ne, P, Q]
theorem i133_16 : ex d 133 144 [some (.ref o)] [] (pmM o m 16, psS o s 16, o + (16 + 1), k) = ex d 133 152 [some (.ref o)] [] (pmM o m (16 + 1), psS o s (16 + 1), o + (16 + 1 + 1), k + 8) := by
  have l : 8 ≤ 10000 := by decide
  have e : fA (16 + 1) = 26 := rfl
  have f : lA (16 + 1) = 8 := rfl
  have P := pm_s (o := o) (i := 16) (m := m) (by omega)
  have Q := ps_s (o := o) (i := 16) (s := s)
  rw [e] at P
  rw [f] at Q
  have ne : ¬ o = o + (16 + 1) := by omega
  conv => lhs; simp only [x133_144, x133_145, x133_147, x133_149, x133_149n, x133_149q, bnd_some, Option.toList_some, Option.toList_none, List.cons_append, List.nil_append, List.singleton_append, clr_i, clr_r, clr_n, clr_0, clr_q, clr_l, isR_r, isR_n, isR_q, cat1_i, cat1_r, b0, b1, if_true, if_false, not_true, not_false_eq_true, reduceCtorEq, ite_self, and_true, true_and, and_false, false_and, or_true, true_or, or_false, false_or, l, psS_o, mnw_ne ne, P, Q]
theorem i133_17 : ex d 133 152 [some (.ref o)] [] (pmM o m 17, psS o s 17, o + (17 + 1), k) = ex d 133 160 [some (.ref o)] [] (pmM o m (17 + 1), psS o s (17 + 1), o + (17 + 1 + 1), k + 56) := by
  have l : 56 ≤ 10000 := by decide
  have e : fA (17 + 1) = 27 := rfl
  have f : lA (17 + 1) = 56 := rfl
  have P := pm_s (o := o) (i := 17) (m := m) (by omega)
  have Q := ps_s (o := o) (i := 17) (s := s)
  rw [e] at P
  rw [f] at Q
  have ne : ¬ o = o + (17 + 1) := by omega
  conv => lhs; simp only [x133_152, x133_153, x133_155, x133_157, x133_157n, x133_157q, bnd_some, Option.toList_some, Option.toList_none, List.cons_append, List.nil_append, List.singleton_append, clr_i, clr_r, clr_n, clr_0, clr_q, clr_l, isR_r, isR_n, isR_q, cat1_i, cat1_r, b0, b1, if_true, if_false, not_true, not_false_eq_true, reduceCtorEq, ite_self, and_true, true_and, and_false, false_and, or_true, true_or, or_false, false_or, l, psS_o, mnw_ne ne, P, Q]
theorem i133_18 : ex d 133 160 [some (.ref o)] [] (pmM o m 18, psS o s 18, o + (18 + 1), k) = ex d 133 168 [some (.ref o)] [] (pmM o m (18 + 1), psS o s (18 + 1), o + (18 + 1 + 1), k + 7) := by
  have l : 7 ≤ 10000 := by decide
  have e : fA (18 + 1) = 28 := rfl
  have f : lA (18 + 1) = 7 := rfl
  have P := pm_s (o := o) (i := 18) (m := m) (by omega)
  have Q := ps_s (o := o) (i := 18) (s := s)
  rw [e] at P
  rw [f] at Q
  have ne : ¬ o = o + (18 + 1) := by omega
  conv => lhs; simp only [x133_160, x133_161, x133_163, x133_165, x133_165n, x133_165q, bnd_some, Option.toList_some, Option.toList_none, List.cons_append, List.nil_append, List.singleton_append, clr_i, clr_r, clr_n, clr_0, clr_q, clr_l, isR_r, isR_n, isR_q, cat1_i, cat1_r, b0, b1, if_true, if_false, not_true, not_false_eq_true, reduceCtorEq, ite_self, and_true, true_and, and_false, false_and, or_true, true_or, or_false, false_or, l, psS_o, mnw_ne ne, P, Q]
theorem i133_19 : ex d 133 168 [some (.ref o)] [] (pmM o m 19, psS o s 19, o + (19 + 1), k) = ex d 133 176 [some (.ref o)] [] (pmM o m (19 + 1), psS o s (19 + 1), o + (19 + 1 + 1), k + 7) := by
  have l : 7 ≤ 10000 := by decide
  have e : fA (19 + 1) = 29 := rfl
  have f : lA (19 + 1) = 7 := rfl
  have P := pm_s (o := o) (i := 19) (m := m) (by omega)
  have Q := ps_s (o := o) (i := 19) (s := s)
  rw [e] at P
  rw [f] at Q
  have ne : ¬ o = o + (19 + 1) := by omega
  conv => lhs; simp only [x133_168, x133_169, x133_171, x133_173, x133_173n, x133_173q, bnd_some, Option.toList_some, Option.toList_none, List.cons_append, List.nil_append, List.singleton_append, clr_i, clr_r, clr_n, clr_0, clr_q, clr_l, isR_r, isR_n, isR_q, cat1_i, cat1_r, b0, b1, if_true, if_false, not_true, not_false_eq_true, reduceCtorEq, ite_self, and_true, true_and, and_false, false_and, or_true, true_or, or_false, false_or, l, psS_o, mnw_ne ne, P, Q]
theorem i133_20 : ex d 133 176 [some (.ref o)] [] (pmM o m 20, psS o s 20, o + (20 + 1), k) = ex d 133 184 [some (.ref o)] [] (pmM o m (20 + 1), psS o s (20 + 1), o + (20 + 1 + 1), k + 8) := by
  have l : 8 ≤ 10000 := by decide
  have e : fA (20 + 1) = 31 := rfl
  have f : lA (20 + 1) = 8 := rfl
  have P := pm_s (o := o) (i := 20) (m := m) (by omega)
  have Q := ps_s (o := o) (i := 20) (s := s)
  rw [e] at P
  rw [f] at Q
  have ne : ¬ o = o + (20 + 1) := by omega
  conv => lhs; simp only [x133_176, x133_177, x133_179, x133_181, x133_181n, x133_181q, bnd_some, Option.toList_some, Option.toList_none, List.cons_append, List.nil_append, List.singleton_append, clr_i, clr_r, clr_n, clr_0, clr_q, clr_l, isR_r, isR_n, isR_q, cat1_i, cat1_r, b0, b1, if_true, if_false, not_true, not_false_eq_true, reduceCtorEq, ite_self, and_true, true_and, and_false, false_and, or_true, true_or, or_false, false_or, l, psS_o, mnw_ne ne, P, Q]
theorem i133_21 : ex d 133 184 [some (.ref o)] [] (pmM o m 21, psS o s 21, o + (21 + 1), k) = ex d 133 192 [some (.ref o)] [] (pmM o m (21 + 1), psS o s (21 + 1), o + (21 + 1 + 1), k + 7) := by
  have l : 7 ≤ 10000 := by decide
  have e : fA (21 + 1) = 33 := rfl
  have f : lA (21 + 1) = 7 := rfl
  have P := pm_s (o := o) (i := 21) (m := m) (by omega)
  have Q := ps_s (o := o) (i := 21) (s := s)
  rw [e] at P
  rw [f] at Q
  have ne : ¬ o = o + (21 + 1) := by omega
  conv => lhs; simp only [x133_184, x133_185, x133_187, x133_189, x133_189n, x133_189q, bnd_some, Option.toList_some, Option.toList_none, List.cons_append, List.nil_append, List.singleton_append, clr_i, clr_r, clr_n, clr_0, clr_q, clr_l, isR_r, isR_n, isR_q, cat1_i, cat1_r, b0, b1, if_true, if_false, not_true, not_false_eq_true, reduceCtorEq, ite_self, and_true, true_and, and_false, false_and, or_true, true_or, or_false, false_or, l, psS_o, mnw_ne ne, P, Q]
theorem i133_22 : ex d 133 192 [some (.ref o)] [] (pmM o m 22, psS o s 22, o + (22 + 1), k) = ex d 133 201 [some (.ref o)] [] (pmM o m (22 + 1), psS o s (22 + 1), o + (22 + 1 + 1), k + 300) := by
  have l : 300 ≤ 10000 := by decide
  have e : fA (22 + 1) = 36 := rfl
  have f : lA (22 + 1) = 300 := rfl
  have P := pm_s (o := o) (i := 22) (m := m) (by omega)
  have Q := ps_s (o := o) (i := 22) (s := s)
  rw [e] at P
  rw [f] at Q
  have ne : ¬ o = o + (22 + 1) := by omega
  conv => lhs; simp only [x133_192, x133_193, x133_196, x133_198, x133_198n, x133_198q, bnd_some, Option.toList_some, Option.toList_none, List.cons_append, List.nil_append, List.singleton_append, clr_i, clr_r, clr_n, clr_0, clr_q, clr_l, isR_r, isR_n, isR_q, cat1_i, cat1_r, b0, b1, if_true, if_false, not_true, not_false_eq_true, reduceCtorEq, ite_self, and_true, true_and, and_false, false_and, or_true, true_or, or_false, false_or, l, psS_o, mnw_ne ne, P, Q]
theorem i133_23 : ex d 133 201 [some (.ref o)] [] (pmM o m 23, psS o s 23, o + (23 + 1), k) = ex d 133 210 [some (.ref o)] [] (pmM o m (23 + 1), psS o s (23 + 1), o + (23 + 1 + 1), k + 300) := by
  have l : 300 ≤ 10000 := by decide
  have e : fA (23 + 1) = 37 := rfl
  have f : lA (23 + 1) = 300 := rfl
  have P := pm_s (o := o) (i := 23) (m := m) (by omega)
  have Q := ps_s (o := o) (i := 23) (s := s)
  rw [e] at P
  rw [f] at Q
  have ne : ¬ o = o + (23 + 1) := by omega
  conv => lhs; simp only [x133_201, x133_202, x133_205, x133_207, x133_207n, x133_207q, bnd_some, Option.toList_some, Option.toList_none, List.cons_append, List.nil_append, List.singleton_append, clr_i, clr_r, clr_n, clr_0, clr_q, clr_l, isR_r, isR_n, isR_q, cat1_i, cat1_r, b0, b1, if_true, if_false, not_true, not_false_eq_true, reduceCtorEq, ite_self, and_true, true_and, and_false, false_and, or_true, true_or, or_false, false_or, l, psS_o, mnw_ne ne, P, Q]
theorem i133_24 : ex d 133 210 [some (.ref o)] [] (pmM o m 24, psS o s 24, o + (24 + 1), k) = ex d 133 219 [some (.ref o)] [] (pmM o m (24 + 1), psS o s (24 + 1), o + (24 + 1 + 1), k + 300) := by
  have l : 300 ≤ 10000 := by decide
  have e : fA (24 + 1) = 38 := rfl
  have f : lA (24 + 1) = 300 := rfl
  have P := pm_s (o := o) (i := 24) (m := m) (by omega)
  have Q := ps_s (o := o) (i := 24) (s := s)
  rw [e] at P
  rw [f] at Q
  have ne : ¬ o = o + (24 + 1) := by omega
  conv => lhs; simp only [x133_210, x133_211, x133_214, x133_216, x133_216n, x133_216q, bnd_some, Option.toList_some, Option.toList_none, List.cons_append, List.nil_append, List.singleton_append, clr_i, clr_r, clr_n, clr_0, clr_q, clr_l, isR_r, isR_n, isR_q, cat1_i, cat1_r, b0, b1, if_true, if_false, not_true, not_false_eq_true, reduceCtorEq, ite_self, and_true, true_and, and_false, false_and, or_true, true_or, or_false, false_or, l, psS_o, mnw_ne ne, P, Q]
theorem i133_25 : ex d 133 219 [some (.ref o)] [] (pmM o m 25, psS o s 25, o + (25 + 1), k) = ex d 133 228 [some (.ref o)] [] (pmM o m (25 + 1), psS o s (25 + 1), o + (25 + 1 + 1), k + 201) := by
  have l : 201 ≤ 10000 := by decide
  have e : fA (25 + 1) = 39 := rfl
  have f : lA (25 + 1) = 201 := rfl
  have P := pm_s (o := o) (i := 25) (m := m) (by omega)
  have Q := ps_s (o := o) (i := 25) (s := s)
  rw [e] at P
  rw [f] at Q
  have ne : ¬ o = o + (25 + 1) := by omega
  conv => lhs; simp only [x133_219, x133_220, x133_223, x133_225, x133_225n, x133_225q, bnd_some, Option.toList_some, Option.toList_none, List.cons_append, List.nil_append, List.singleton_append, clr_i, clr_r, clr_n, clr_0, clr_q, clr_l, isR_r, isR_n, isR_q, cat1_i, cat1_r, b0, b1, if_true, if_false, not_true, not_false_eq_true, reduceCtorEq, ite_self, and_true, true_and, and_false, false_and, or_true, true_or, or_false, false_or, l, psS_o, mnw_ne ne, P, Q]
theorem i133_26 : ex d 133 228 [some (.ref o)] [] (pmM o m 26, psS o s 26, o + (26 + 1), k) = ex d 133 237 [some (.ref o)] [] (pmM o m (26 + 1), psS o s (26 + 1), o + (26 + 1 + 1), k + 201) := by
  have l : 201 ≤ 10000 := by decide
  have e : fA (26 + 1) = 40 := rfl
  have f : lA (26 + 1) = 201 := rfl
  have P := pm_s (o := o) (i := 26) (m := m) (by omega)
  have Q := ps_s (o := o) (i := 26) (s := s)
  rw [e] at P
  rw [f] at Q
  have ne : ¬ o = o + (26 + 1) := by omega
  conv => lhs; simp only [x133_228, x133_229, x133_232, x133_234, x133_234n, x133_234q, bnd_some, Option.toList_some, Option.toList_none, List.cons_append, List.nil_append, List.singleton_append, clr_i, clr_r, clr_n, clr_0, clr_q, clr_l, isR_r, isR_n, isR_q, cat1_i, cat1_r, b0, b1, if_true, if_false, not_true, not_false_eq_true, reduceCtorEq, ite_self, and_true, true_and, and_false, false_and, or_true, true_or, or_false, false_or, l, psS_o, mnw_ne ne, P, Q]
end DG
