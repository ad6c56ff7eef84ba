/-! ===== the reference: the least cost ===== -/
def lsF (fx : Nat → Int32) (pr : Nat → Nat → Nat) (r : Nat) : Nat → Nat
  | 0 => 100000000
  | c + 1 => if (fx r < 0 ∨ fx r = nI c) ∧ pr r c < lsF fx pr r c then pr r c else lsF fx pr r c
def atK (fx : Nat → Int32) (pr : Nat → Nat → Nat) (C nr : Nat) : Nat → Nat
  | 0 => 0
  | k + 1 => min 100000000 (atK fx pr C nr k + lsF fx pr (nr - (k + 1)) C)
def atF (fx : Nat → Int32) (pr : Nat → Nat → Nat) (C nr r : Nat) : Nat := atK fx pr C nr (nr - r)
theorem lsF_le {fx : Nat → Int32} {pr : Nat → Nat → Nat} {r : Nat} : ∀ k, lsF fx pr r k ≤ 100000000 := by
  intro k
  induction k with
  | zero => exact Nat.le_refl _
  | succ k ih =>
    unfold lsF
    split
    · omega
    · exact ih
theorem lsF_al {fx : Nat → Int32} {pr : Nat → Nat → Nat} {r c : Nat} (h : alB fx pr r c = true) : ∀ k, c < k → lsF fx pr r k ≤ pr r c := by
  unfold alB at h
  simp only [Bool.and_eq_true, Bool.or_eq_true, decide_eq_true_eq] at h
  intro k
  induction k with
  | zero => intro h; omega
  | succ k ih =>
    intro hc
    unfold lsF
    by_cases e : c = k
    · subst e
      split
      · exact Nat.le_refl _
      · rename_i hn
        have : ¬ pr r c < lsF fx pr r c := fun z => hn ⟨h.1, z⟩
        omega
    · have := ih (by omega)
      split
      · omega
      · exact this
theorem atK_le {fx : Nat → Int32} {pr : Nat → Nat → Nat} {C nr : Nat} : ∀ k, atK fx pr C nr k ≤ 100000000 := by
  intro k
  cases k with
  | zero => exact Nat.zero_le _
  | succ k => unfold atK; omega
theorem atF_s {fx : Nat → Int32} {pr : Nat → Nat → Nat} {C nr r : Nat} (h : r < nr) : atF fx pr C nr r = min 100000000 (atF fx pr C nr (r + 1) + lsF fx pr r C) := by
  unfold atF
  have e : nr - r = (nr - (r + 1)) + 1 := by omega
  have e2 : nr - (nr - (r + 1) + 1) = r := by omega
  rw [e, atK, e2]
theorem mnC_low {f : Nat → Nat} {x : Nat} (hx : x ≤ 100000000) : ∀ C, (∀ c, c < C → x ≤ f c) → x ≤ mnC f C := by
  intro C
  induction C with
  | zero => intro _; exact hx
  | succ C ih =>
    intro h
    unfold mnC
    have := ih (fun c hc => h c (by omega))
    have := h C (by omega)
    omega
theorem at_low {fx : Nat → Int32} {pr : Nat → Nat → Nat} {C nr : Nat} {ag : Nat → Nat → Nat → Nat → Bool} : ∀ k r tr s, r + k = nr → min 100000000 (s + atF fx pr C nr r) ≤ srM C (alB fx pr) pr ag k r tr s := by
  intro k
  induction k with
  | zero =>
    intro r tr s h
    have e : r = nr := by omega
    subst e
    unfold atF srM
    rw [Nat.sub_self, atK]
    omega
  | succ k ih =>
    intro r tr s h
    unfold srM
    refine mnC_low (by omega) C (fun c hc => ?_)
    split
    · rename_i ha
      simp only [Bool.and_eq_true] at ha
      have h1 := ih (r + 1) (upN tr r c) (s + pr r c) (by omega)
      have h2 := lsF_al ha.1 C hc
      have h3 := atF_s (fx := fx) (pr := pr) (C := C) (nr := nr) (r := r) (by omega)
      omega
    · omega
def lcM (Z0 : St) (C nr : Nat) (pr : Nat → Nat → Nat) : Nat := min 100000000 (srM C (alB (Z0 28) pr) pr (agB Z0 nr) nr 0 (fun _ => 0) 0)
def SZ1 (Z0 Z : St) : Prop := ∀ f j, f ≠ 29 → f ≠ 30 → f ≠ 31 → Z f j = Z0 f j
def PY (Z0 : St) (T nr C : Nat) (pr : Nat → Nat → Nat) : Prop :=
  Wset Z0 T ∧ T ≤ 200 ∧ Z0 21 0 = nI nr ∧ nr ≤ 7 ∧ Z0 25 0 = nI C ∧ C ≤ 8 ∧ (∀ r, r < nr → ∃ i, i ≤ 9 ∧ Z0 23 r = nI i) ∧ (∀ c, c < C → ∃ y, y < T ∧ Z0 26 c = nI y) ∧ (∀ r c, r < nr → c < C → Z0 27 (8 * r + c) = nI (pr r c) ∧ (pr r c = 100000000 ∨ pr r c ≤ 1000000))
theorem nI_m1 {q : Nat} : nI (q + 1) + -1 = nI q := by
  have := nI_sub1 (R := q)
  rw [Int32.sub_eq_add_neg] at this
  exact this
theorem nI_s1 {q : Nat} : nI q - nI 1 = nI q + -1 := by rw [Int32.sub_eq_add_neg]; rfl
theorem nI_0m : nI 0 + -1 < 0 := by decide
section MV
variable {d o p pl n k : Nat} {Z0 : St} {m0 : Mm} {s0 : Nat → Nat × Nat} {T nr C : Nat} {pr : Nat → Nat → Nat}
theorem m193_c {Z : St} {r : Nat} (hp : Op o p) (hr : r < 7) (h25 : Z 25 0 = nI C) (hC : C ≤ 8) (h27 : ∀ c, c < C → Z 27 (8 * r + c) = nI (pr r c) ∧ pr r c ≤ 100000000) : ∀ w c, c + w = C → ex d 193 26 [some (.ref o), some (.int (nI r)), some (.int (nI (lsF (Z 28) pr r c))), some (.int (nI c))] [] (mM o p Z m0, sM o p pl s0, n, k) = ex d 193 86 [some (.ref o), some (.int (nI r)), some (.int (nI (lsF (Z 28) pr r C))), some (.int (nI C))] [] (mM o p Z m0, sM o p pl s0, n, k) := by
  intro w
  induction w with
  | zero =>
    intro c hc
    have e : c = C := by omega
    subst e
    have g1 : nI c ≤ nI c := nI_le (Nat.le_refl _) (by omega)
    conv => lhs; simp only [x193_26, x193_27, x193_28, x193_31, bnd_some, Option.toList_some, Option.toList_none, List.cons_append, List.nil_append, List.singleton_append, clr_i, clr_r, clr_n, clr_0, clr_q, clr_l, isR_r, isR_n, isR_q, cat1_i, cat1_r, b0, b1, if_true, if_false, not_true, not_false_eq_true, reduceCtorEq, ite_self, and_true, true_and, and_false, false_and, or_true, true_or, or_false, false_or, mf_0, wr_0, mf_1, wr_1, mf_2, rd_2 hp, sh_2 hp, wr_2 hp, mf_3, rd_3 hp, sh_3 hp, wr_3 hp, mf_4, rd_4 hp, sh_4 hp, wr_4 hp, mf_5, rd_5 hp, sh_5 hp, wr_5 hp, mf_6, rd_6 hp, sh_6 hp, wr_6 hp, mf_7, rd_7 hp, sh_7 hp, wr_7 hp, mf_8, wr_8, mf_9, rd_9 hp, sh_9 hp, wr_9 hp, mf_10, rd_10 hp, sh_10 hp, wr_10 hp, mf_11, rd_11 hp, sh_11 hp, wr_11 hp, mf_12, rd_12 hp, sh_12 hp, wr_12 hp, mf_13, rd_13 hp, sh_13 hp, wr_13 hp, mf_14, wr_14, mf_15, wr_15, mf_16, mf_17, wr_17, mf_18, wr_18, mf_19, wr_19, mf_20, rd_20 hp, sh_20 hp, wr_20 hp, mf_21, wr_21, mf_22, rd_22 hp, sh_22 hp, wr_22 hp, mf_23, rd_23 hp, sh_23 hp, wr_23 hp, mf_24, rd_24 hp, sh_24 hp, wr_24 hp, mf_25, wr_25, mf_26, rd_26 hp, sh_26 hp, wr_26 hp, mf_27, rd_27 hp, sh_27 hp, wr_27 hp, mf_28, rd_28 hp, sh_28 hp, wr_28 hp, mf_29, rd_29 hp, sh_29 hp, wr_29 hp, mf_30, wr_30, mf_31, rd_31 hp, sh_31 hp, wr_31 hp, mf_32, wr_32, mf_33, rd_33 hp, sh_33 hp, wr_33 hp, mf_34, wr_34, mf_35, wr_35, mf_36, rd_36 hp, sh_36 hp, wr_36 hp, mf_37, rd_37 hp, sh_37 hp, wr_37 hp, mf_38, rd_38 hp, sh_38 hp, wr_38 hp, mf_39, rd_39 hp, sh_39 hp, wr_39 hp, mf_40, rd_40 hp, sh_40 hp, wr_40 hp, mf_41, wr_41, mM_p hp, sM_p hp, wM_p hp, sM_o, h25, g1]
  | succ w ih =>
    intro c hc
    have I := ih (c + 1) (by omega)
    have g1 : ¬ nI C ≤ nI c := nI_ge (by omega) (by omega)
    have rb : r < 2147483648 := by omega
    have g2 : 8 * r + c < 56 := by omega
    have g3 : 8 * r + c < 2147483648 := by omega
    obtain ⟨y27, y27b⟩ := h27 c (by omega)
    have hl := lsF_le (fx := Z 28) (pr := pr) (r := r) c
    have hplt : (nI (lsF (Z 28) pr r c) ≤ nI (pr r c)) ↔ ¬ pr r c < lsF (Z 28) pr r c := by rw [nI_leI (by omega) (by omega)]; omega
    rw [← I]
    by_cases hfx : Z 28 r < 0 ∨ Z 28 r = nI c
    · have hto : ∀ l2, ex d 193 26 [some (.ref o), some (.int (nI r)), l2, some (.int (nI c))] [] (mM o p Z m0, sM o p pl s0, n, k) = ex d 193 53 [some (.ref o), some (.int (nI r)), l2, some (.int (nI c))] [] (mM o p Z m0, sM o p pl s0, n, k) := by
        intro l2
        by_cases q1 : Z 28 r < 0
        · conv => lhs; simp only [x193_26, x193_27, x193_28, x193_31, x193_34, x193_35, x193_38, x193_39, x193_40, bnd_some, Option.toList_some, Option.toList_none, List.cons_append, List.nil_append, List.singleton_append, clr_i, clr_r, clr_n, clr_0, clr_q, clr_l, isR_r, isR_n, isR_q, cat1_i, cat1_r, b0, b1, if_true, if_false, not_true, not_false_eq_true, reduceCtorEq, ite_self, and_true, true_and, and_false, false_and, or_true, true_or, or_false, false_or, mf_0, wr_0, mf_1, wr_1, mf_2, rd_2 hp, sh_2 hp, wr_2 hp, mf_3, rd_3 hp, sh_3 hp, wr_3 hp, mf_4, rd_4 hp, sh_4 hp, wr_4 hp, mf_5, rd_5 hp, sh_5 hp, wr_5 hp, mf_6, rd_6 hp, sh_6 hp, wr_6 hp, mf_7, rd_7 hp, sh_7 hp, wr_7 hp, mf_8, wr_8, mf_9, rd_9 hp, sh_9 hp, wr_9 hp, mf_10, rd_10 hp, sh_10 hp, wr_10 hp, mf_11, rd_11 hp, sh_11 hp, wr_11 hp, mf_12, rd_12 hp, sh_12 hp, wr_12 hp, mf_13, rd_13 hp, sh_13 hp, wr_13 hp, mf_14, wr_14, mf_15, wr_15, mf_16, mf_17, wr_17, mf_18, wr_18, mf_19, wr_19, mf_20, rd_20 hp, sh_20 hp, wr_20 hp, mf_21, wr_21, mf_22, rd_22 hp, sh_22 hp, wr_22 hp, mf_23, rd_23 hp, sh_23 hp, wr_23 hp, mf_24, rd_24 hp, sh_24 hp, wr_24 hp, mf_25, wr_25, mf_26, rd_26 hp, sh_26 hp, wr_26 hp, mf_27, rd_27 hp, sh_27 hp, wr_27 hp, mf_28, rd_28 hp, sh_28 hp, wr_28 hp, mf_29, rd_29 hp, sh_29 hp, wr_29 hp, mf_30, wr_30, mf_31, rd_31 hp, sh_31 hp, wr_31 hp, mf_32, wr_32, mf_33, rd_33 hp, sh_33 hp, wr_33 hp, mf_34, wr_34, mf_35, wr_35, mf_36, rd_36 hp, sh_36 hp, wr_36 hp, mf_37, rd_37 hp, sh_37 hp, wr_37 hp, mf_38, rd_38 hp, sh_38 hp, wr_38 hp, mf_39, rd_39 hp, sh_39 hp, wr_39 hp, mf_40, rd_40 hp, sh_40 hp, wr_40 hp, mf_41, wr_41, mM_p hp, sM_p hp, wM_p hp, sM_o, h25, g1, hr, rb, q1]
        · have q2 : Z 28 r = nI c := hfx.resolve_left q1
          rw [q2] at q1
          conv => lhs; simp only [x193_26, x193_27, x193_28, x193_31, x193_34, x193_35, x193_38, x193_39, x193_40, x193_43, x193_44, x193_47, x193_48, x193_49, x193_50, bnd_some, Option.toList_some, Option.toList_none, List.cons_append, List.nil_append, List.singleton_append, clr_i, clr_r, clr_n, clr_0, clr_q, clr_l, isR_r, isR_n, isR_q, cat1_i, cat1_r, b0, b1, if_true, if_false, not_true, not_false_eq_true, reduceCtorEq, ite_self, and_true, true_and, and_false, false_and, or_true, true_or, or_false, false_or, mf_0, wr_0, mf_1, wr_1, mf_2, rd_2 hp, sh_2 hp, wr_2 hp, mf_3, rd_3 hp, sh_3 hp, wr_3 hp, mf_4, rd_4 hp, sh_4 hp, wr_4 hp, mf_5, rd_5 hp, sh_5 hp, wr_5 hp, mf_6, rd_6 hp, sh_6 hp, wr_6 hp, mf_7, rd_7 hp, sh_7 hp, wr_7 hp, mf_8, wr_8, mf_9, rd_9 hp, sh_9 hp, wr_9 hp, mf_10, rd_10 hp, sh_10 hp, wr_10 hp, mf_11, rd_11 hp, sh_11 hp, wr_11 hp, mf_12, rd_12 hp, sh_12 hp, wr_12 hp, mf_13, rd_13 hp, sh_13 hp, wr_13 hp, mf_14, wr_14, mf_15, wr_15, mf_16, mf_17, wr_17, mf_18, wr_18, mf_19, wr_19, mf_20, rd_20 hp, sh_20 hp, wr_20 hp, mf_21, wr_21, mf_22, rd_22 hp, sh_22 hp, wr_22 hp, mf_23, rd_23 hp, sh_23 hp, wr_23 hp, mf_24, rd_24 hp, sh_24 hp, wr_24 hp, mf_25, wr_25, mf_26, rd_26 hp, sh_26 hp, wr_26 hp, mf_27, rd_27 hp, sh_27 hp, wr_27 hp, mf_28, rd_28 hp, sh_28 hp, wr_28 hp, mf_29, rd_29 hp, sh_29 hp, wr_29 hp, mf_30, wr_30, mf_31, rd_31 hp, sh_31 hp, wr_31 hp, mf_32, wr_32, mf_33, rd_33 hp, sh_33 hp, wr_33 hp, mf_34, wr_34, mf_35, wr_35, mf_36, rd_36 hp, sh_36 hp, wr_36 hp, mf_37, rd_37 hp, sh_37 hp, wr_37 hp, mf_38, rd_38 hp, sh_38 hp, wr_38 hp, mf_39, rd_39 hp, sh_39 hp, wr_39 hp, mf_40, rd_40 hp, sh_40 hp, wr_40 hp, mf_41, wr_41, mM_p hp, sM_p hp, wM_p hp, sM_o, h25, g1, hr, rb, q2, q1]
      rw [hto]
      by_cases h2 : pr r c < lsF (Z 28) pr r c
      · have e : lsF (Z 28) pr r (c + 1) = pr r c := by rw [lsF, if_pos ⟨hfx, h2⟩]
        rw [e]
        conv => lhs; simp only [x193_53, x193_54, x193_57, x193_59, x193_60, x193_61, x193_62, x193_63, x193_64, x193_65, x193_68, x193_69, x193_72, x193_74, x193_75, x193_76, x193_77, x193_78, x193_79, bnd_some, Option.toList_some, Option.toList_none, List.cons_append, List.nil_append, List.singleton_append, clr_i, clr_r, clr_n, clr_0, clr_q, clr_l, isR_r, isR_n, isR_q, cat1_i, cat1_r, b0, b1, if_true, if_false, not_true, not_false_eq_true, reduceCtorEq, ite_self, and_true, true_and, and_false, false_and, or_true, true_or, or_false, false_or, mf_0, wr_0, mf_1, wr_1, mf_2, rd_2 hp, sh_2 hp, wr_2 hp, mf_3, rd_3 hp, sh_3 hp, wr_3 hp, mf_4, rd_4 hp, sh_4 hp, wr_4 hp, mf_5, rd_5 hp, sh_5 hp, wr_5 hp, mf_6, rd_6 hp, sh_6 hp, wr_6 hp, mf_7, rd_7 hp, sh_7 hp, wr_7 hp, mf_8, wr_8, mf_9, rd_9 hp, sh_9 hp, wr_9 hp, mf_10, rd_10 hp, sh_10 hp, wr_10 hp, mf_11, rd_11 hp, sh_11 hp, wr_11 hp, mf_12, rd_12 hp, sh_12 hp, wr_12 hp, mf_13, rd_13 hp, sh_13 hp, wr_13 hp, mf_14, wr_14, mf_15, wr_15, mf_16, mf_17, wr_17, mf_18, wr_18, mf_19, wr_19, mf_20, rd_20 hp, sh_20 hp, wr_20 hp, mf_21, wr_21, mf_22, rd_22 hp, sh_22 hp, wr_22 hp, mf_23, rd_23 hp, sh_23 hp, wr_23 hp, mf_24, rd_24 hp, sh_24 hp, wr_24 hp, mf_25, wr_25, mf_26, rd_26 hp, sh_26 hp, wr_26 hp, mf_27, rd_27 hp, sh_27 hp, wr_27 hp, mf_28, rd_28 hp, sh_28 hp, wr_28 hp, mf_29, rd_29 hp, sh_29 hp, wr_29 hp, mf_30, wr_30, mf_31, rd_31 hp, sh_31 hp, wr_31 hp, mf_32, wr_32, mf_33, rd_33 hp, sh_33 hp, wr_33 hp, mf_34, wr_34, mf_35, wr_35, mf_36, rd_36 hp, sh_36 hp, wr_36 hp, mf_37, rd_37 hp, sh_37 hp, wr_37 hp, mf_38, rd_38 hp, sh_38 hp, wr_38 hp, mf_39, rd_39 hp, sh_39 hp, wr_39 hp, mf_40, rd_40 hp, sh_40 hp, wr_40 hp, mf_41, wr_41, mM_p hp, sM_p hp, wM_p hp, sM_o, pk_mul, nI_add, g2, g3, y27, hplt, h2]
        conv => lhs; simp only [x193_80, x193_83, bnd_some, Option.toList_some, Option.toList_none, List.cons_append, List.nil_append, List.singleton_append, clr_i, clr_r, clr_n, clr_0, clr_q, clr_l, isR_r, isR_n, isR_q, cat1_i, cat1_r, b0, b1, if_true, if_false, not_true, not_false_eq_true, reduceCtorEq, ite_self, and_true, true_and, and_false, false_and, or_true, true_or, or_false, false_or, nI_add]
      · have e : lsF (Z 28) pr r (c + 1) = lsF (Z 28) pr r c := by rw [lsF, if_neg (fun z => h2 z.2)]
        rw [e]
        conv => lhs; simp only [x193_53, x193_54, x193_57, x193_59, x193_60, x193_61, x193_62, x193_63, x193_64, x193_65, bnd_some, Option.toList_some, Option.toList_none, List.cons_append, List.nil_append, List.singleton_append, clr_i, clr_r, clr_n, clr_0, clr_q, clr_l, isR_r, isR_n, isR_q, cat1_i, cat1_r, b0, b1, if_true, if_false, not_true, not_false_eq_true, reduceCtorEq, ite_self, and_true, true_and, and_false, false_and, or_true, true_or, or_false, false_or, mf_0, wr_0, mf_1, wr_1, mf_2, rd_2 hp, sh_2 hp, wr_2 hp, mf_3, rd_3 hp, sh_3 hp, wr_3 hp, mf_4, rd_4 hp, sh_4 hp, wr_4 hp, mf_5, rd_5 hp, sh_5 hp, wr_5 hp, mf_6, rd_6 hp, sh_6 hp, wr_6 hp, mf_7, rd_7 hp, sh_7 hp, wr_7 hp, mf_8, wr_8, mf_9, rd_9 hp, sh_9 hp, wr_9 hp, mf_10, rd_10 hp, sh_10 hp, wr_10 hp, mf_11, rd_11 hp, sh_11 hp, wr_11 hp, mf_12, rd_12 hp, sh_12 hp, wr_12 hp, mf_13, rd_13 hp, sh_13 hp, wr_13 hp, mf_14, wr_14, mf_15, wr_15, mf_16, mf_17, wr_17, mf_18, wr_18, mf_19, wr_19, mf_20, rd_20 hp, sh_20 hp, wr_20 hp, mf_21, wr_21, mf_22, rd_22 hp, sh_22 hp, wr_22 hp, mf_23, rd_23 hp, sh_23 hp, wr_23 hp, mf_24, rd_24 hp, sh_24 hp, wr_24 hp, mf_25, wr_25, mf_26, rd_26 hp, sh_26 hp, wr_26 hp, mf_27, rd_27 hp, sh_27 hp, wr_27 hp, mf_28, rd_28 hp, sh_28 hp, wr_28 hp, mf_29, rd_29 hp, sh_29 hp, wr_29 hp, mf_30, wr_30, mf_31, rd_31 hp, sh_31 hp, wr_31 hp, mf_32, wr_32, mf_33, rd_33 hp, sh_33 hp, wr_33 hp, mf_34, wr_34, mf_35, wr_35, mf_36, rd_36 hp, sh_36 hp, wr_36 hp, mf_37, rd_37 hp, sh_37 hp, wr_37 hp, mf_38, rd_38 hp, sh_38 hp, wr_38 hp, mf_39, rd_39 hp, sh_39 hp, wr_39 hp, mf_40, rd_40 hp, sh_40 hp, wr_40 hp, mf_41, wr_41, mM_p hp, sM_p hp, wM_p hp, sM_o, pk_mul, nI_add, g2, g3, y27, hplt, h2]
        conv => lhs; simp only [x193_80, x193_83, bnd_some, Option.toList_some, Option.toList_none, List.cons_append, List.nil_append, List.singleton_append, clr_i, clr_r, clr_n, clr_0, clr_q, clr_l, isR_r, isR_n, isR_q, cat1_i, cat1_r, b0, b1, if_true, if_false, not_true, not_false_eq_true, reduceCtorEq, ite_self, and_true, true_and, and_false, false_and, or_true, true_or, or_false, false_or, nI_add]
    · have q1 : ¬ Z 28 r < 0 := fun z => hfx (Or.inl z)
      have q2 : ¬ Z 28 r = nI c := fun z => hfx (Or.inr z)
      have e : lsF (Z 28) pr r (c + 1) = lsF (Z 28) pr r c := by rw [lsF, if_neg (fun z => hfx z.1)]
      rw [e]
      conv => lhs; simp only [x193_26, x193_27, x193_28, x193_31, x193_34, x193_35, x193_38, x193_39, x193_40, x193_43, x193_44, x193_47, x193_48, x193_49, x193_50, bnd_some, Option.toList_some, Option.toList_none, List.cons_append, List.nil_append, List.singleton_append, clr_i, clr_r, clr_n, clr_0, clr_q, clr_l, isR_r, isR_n, isR_q, cat1_i, cat1_r, b0, b1, if_true, if_false, not_true, not_false_eq_true, reduceCtorEq, ite_self, and_true, true_and, and_false, false_and, or_true, true_or, or_false, false_or, mf_0, wr_0, mf_1, wr_1, mf_2, rd_2 hp, sh_2 hp, wr_2 hp, mf_3, rd_3 hp, sh_3 hp, wr_3 hp, mf_4, rd_4 hp, sh_4 hp, wr_4 hp, mf_5, rd_5 hp, sh_5 hp, wr_5 hp, mf_6, rd_6 hp, sh_6 hp, wr_6 hp, mf_7, rd_7 hp, sh_7 hp, wr_7 hp, mf_8, wr_8, mf_9, rd_9 hp, sh_9 hp, wr_9 hp, mf_10, rd_10 hp, sh_10 hp, wr_10 hp, mf_11, rd_11 hp, sh_11 hp, wr_11 hp, mf_12, rd_12 hp, sh_12 hp, wr_12 hp, mf_13, rd_13 hp, sh_13 hp, wr_13 hp, mf_14, wr_14, mf_15, wr_15, mf_16, mf_17, wr_17, mf_18, wr_18, mf_19, wr_19, mf_20, rd_20 hp, sh_20 hp, wr_20 hp, mf_21, wr_21, mf_22, rd_22 hp, sh_22 hp, wr_22 hp, mf_23, rd_23 hp, sh_23 hp, wr_23 hp, mf_24, rd_24 hp, sh_24 hp, wr_24 hp, mf_25, wr_25, mf_26, rd_26 hp, sh_26 hp, wr_26 hp, mf_27, rd_27 hp, sh_27 hp, wr_27 hp, mf_28, rd_28 hp, sh_28 hp, wr_28 hp, mf_29, rd_29 hp, sh_29 hp, wr_29 hp, mf_30, wr_30, mf_31, rd_31 hp, sh_31 hp, wr_31 hp, mf_32, wr_32, mf_33, rd_33 hp, sh_33 hp, wr_33 hp, mf_34, wr_34, mf_35, wr_35, mf_36, rd_36 hp, sh_36 hp, wr_36 hp, mf_37, rd_37 hp, sh_37 hp, wr_37 hp, mf_38, rd_38 hp, sh_38 hp, wr_38 hp, mf_39, rd_39 hp, sh_39 hp, wr_39 hp, mf_40, rd_40 hp, sh_40 hp, wr_40 hp, mf_41, wr_41, mM_p hp, sM_p hp, wM_p hp, sM_o, h25, g1, hr, rb, q2, q1]
      conv => lhs; simp only [x193_80, x193_83, bnd_some, Option.toList_some, Option.toList_none, List.cons_append, List.nil_append, List.singleton_append, clr_i, clr_r, clr_n, clr_0, clr_q, clr_l, isR_r, isR_n, isR_q, cat1_i, cat1_r, b0, b1, if_true, if_false, not_true, not_false_eq_true, reduceCtorEq, ite_self, and_true, true_and, and_false, false_and, or_true, true_or, or_false, false_or, nI_add]
theorem m193_r (hp : Op o p) (py : PY Z0 T nr C pr) : ∀ q Z l2 l3, q ≤ nr → SZ1 Z0 Z → (∀ x, q ≤ x → x ≤ nr → Z 31 x = nI (atF (Z0 28) pr C nr x)) → ∃ Z' l2' l3', ex d 193 17 [some (.ref o), some (.int (nI q + -1)), l2, l3] [] (mM o p Z m0, sM o p pl s0, n, k) = ex d 193 128 [some (.ref o), some (.int (nI 0 + -1)), l2', l3'] [] (mM o p Z' m0, sM o p pl s0, n, k) ∧ SZ1 Z0 Z' ∧ (∀ x, x ≤ nr → Z' 31 x = nI (atF (Z0 28) pr C nr x)) := by
  obtain ⟨ws, hT, hn, hn7, h25, hC, h23, h26, h27⟩ := py
  intro q
  induction q with
  | zero =>
    intro Z l2 l3 hq sz h31
    exact ⟨Z, l2, l3, by conv => lhs; simp only [x193_17, x193_18, bnd_some, Option.toList_some, Option.toList_none, List.cons_append, List.nil_append, List.singleton_append, clr_i, clr_r, clr_n, clr_0, clr_q, clr_l, isR_r, isR_n, isR_q, cat1_i, cat1_r, b0, b1, if_true, if_false, not_true, not_false_eq_true, reduceCtorEq, ite_self, and_true, true_and, and_false, false_and, or_true, true_or, or_false, false_or, nI_0m], sz, fun x hx => h31 x (Nat.zero_le _) hx⟩
  | succ q ih =>
    intro Z l2 l3 hq sz h31
    have z25 : Z 25 0 = nI C := by rw [sz 25 0 (by decide) (by decide) (by decide)]; exact h25
    have z28 : Z 28 = Z0 28 := by funext j; exact sz 28 j (by decide) (by decide) (by decide)
    have hs := atF_s (fx := Z0 28) (pr := pr) (C := C) (nr := nr) (r := q) (by omega)
    have z31 := h31 (q + 1) (Nat.le_refl _) hq
    have q8 : q + 1 < 8 := by omega
    have q8' : q < 8 := by omega
    have qb : q + 1 < 2147483648 := by omega
    have qb' : q < 2147483648 := by omega
    have g0 : ¬ nI q < 0 := nI_pos (by omega)
    have hl := lsF_le (fx := Z0 28) (pr := pr) (r := q) C
    have ha : atF (Z0 28) pr C nr (q + 1) ≤ 100000000 := atK_le _
    have hle : (nI (atF (Z0 28) pr C nr (q + 1) + lsF (Z0 28) pr q C) ≤ nI 100000000) ↔ atF (Z0 28) pr C nr (q + 1) + lsF (Z0 28) pr q C ≤ 100000000 := nI_leI (by omega) (by omega)
    have L := m193_c (d := d) (o := o) (p := p) (pl := pl) (n := n) (k := k) (m0 := m0) (s0 := s0) (Z := Z) (r := q) (C := C) (pr := pr) hp (by omega) z25 hC (fun c hc => by
      rw [sz 27 _ (by decide) (by decide) (by decide)]
      exact ⟨(h27 q c (by omega) hc).1, by have := (h27 q c (by omega) hc).2; omega⟩) C 0 (by omega)
    rw [z28] at L
    obtain ⟨Z', l2', l3', i1, i2, i3⟩ := ih (sup Z 31 q (nI (atF (Z0 28) pr C nr q))) (some (.int (nI (lsF (Z0 28) pr q C)))) (some (.int (nI C))) (by omega) (fun f j a b c => by rw [sup_f c]; exact sz f j a b c) (fun x h1 h2 => by
      by_cases e : x = q
      · subst e; exact sup_eq
      · rw [sup_j e]; exact h31 x (by omega) h2)
    refine ⟨Z', l2', l3', ?_, i2, i3⟩
    rw [← i1, nI_m1]
    conv => lhs; simp only [x193_17, x193_18, x193_21, x193_23, x193_24, x193_25, bnd_some, Option.toList_some, Option.toList_none, List.cons_append, List.nil_append, List.singleton_append, clr_i, clr_r, clr_n, clr_0, clr_q, clr_l, isR_r, isR_n, isR_q, cat1_i, cat1_r, b0, b1, if_true, if_false, not_true, not_false_eq_true, reduceCtorEq, ite_self, and_true, true_and, and_false, false_and, or_true, true_or, or_false, false_or, g0]
    rw [lsF] at L
    rw [L]
    by_cases hb : atF (Z0 28) pr C nr (q + 1) + lsF (Z0 28) pr q C ≤ 100000000
    · have e : atF (Z0 28) pr C nr q = atF (Z0 28) pr C nr (q + 1) + lsF (Z0 28) pr q C := by omega
      rw [e]
      conv => lhs; simp only [x193_86, x193_87, x193_90, x193_91, x193_92, x193_95, x193_96, x193_97, x193_98, x193_99, x193_100, x193_101, x193_103, x193_106, x193_108, x193_111, x193_112, x193_115, x193_116, x193_117, x193_118, x193_119, x193_120, x193_121, x193_122, x193_125, bnd_some, Option.toList_some, Option.toList_none, List.cons_append, List.nil_append, List.singleton_append, clr_i, clr_r, clr_n, clr_0, clr_q, clr_l, isR_r, isR_n, isR_q, cat1_i, cat1_r, b0, b1, if_true, if_false, not_true, not_false_eq_true, reduceCtorEq, ite_self, and_true, true_and, and_false, false_and, or_true, true_or, or_false, false_or, mf_0, wr_0, mf_1, wr_1, mf_2, rd_2 hp, sh_2 hp, wr_2 hp, mf_3, rd_3 hp, sh_3 hp, wr_3 hp, mf_4, rd_4 hp, sh_4 hp, wr_4 hp, mf_5, rd_5 hp, sh_5 hp, wr_5 hp, mf_6, rd_6 hp, sh_6 hp, wr_6 hp, mf_7, rd_7 hp, sh_7 hp, wr_7 hp, mf_8, wr_8, mf_9, rd_9 hp, sh_9 hp, wr_9 hp, mf_10, rd_10 hp, sh_10 hp, wr_10 hp, mf_11, rd_11 hp, sh_11 hp, wr_11 hp, mf_12, rd_12 hp, sh_12 hp, wr_12 hp, mf_13, rd_13 hp, sh_13 hp, wr_13 hp, mf_14, wr_14, mf_15, wr_15, mf_16, mf_17, wr_17, mf_18, wr_18, mf_19, wr_19, mf_20, rd_20 hp, sh_20 hp, wr_20 hp, mf_21, wr_21, mf_22, rd_22 hp, sh_22 hp, wr_22 hp, mf_23, rd_23 hp, sh_23 hp, wr_23 hp, mf_24, rd_24 hp, sh_24 hp, wr_24 hp, mf_25, wr_25, mf_26, rd_26 hp, sh_26 hp, wr_26 hp, mf_27, rd_27 hp, sh_27 hp, wr_27 hp, mf_28, rd_28 hp, sh_28 hp, wr_28 hp, mf_29, rd_29 hp, sh_29 hp, wr_29 hp, mf_30, wr_30, mf_31, rd_31 hp, sh_31 hp, wr_31 hp, mf_32, wr_32, mf_33, rd_33 hp, sh_33 hp, wr_33 hp, mf_34, wr_34, mf_35, wr_35, mf_36, rd_36 hp, sh_36 hp, wr_36 hp, mf_37, rd_37 hp, sh_37 hp, wr_37 hp, mf_38, rd_38 hp, sh_38 hp, wr_38 hp, mf_39, rd_39 hp, sh_39 hp, wr_39 hp, mf_40, rd_40 hp, sh_40 hp, wr_40 hp, mf_41, wr_41, mM_p hp, sM_p hp, wM_p hp, sM_o, nI_add, q8, q8', qb, qb', z31, hle, hb]
    · have e : atF (Z0 28) pr C nr q = 100000000 := by omega
      rw [e]
      conv => lhs; simp only [x193_86, x193_87, x193_90, x193_91, x193_92, x193_95, x193_96, x193_97, x193_98, x193_99, x193_100, x193_101, x193_103, x193_106, x193_108, x193_111, x193_112, x193_115, x193_116, x193_117, x193_118, x193_119, x193_120, x193_121, x193_122, x193_125, bnd_some, Option.toList_some, Option.toList_none, List.cons_append, List.nil_append, List.singleton_append, clr_i, clr_r, clr_n, clr_0, clr_q, clr_l, isR_r, isR_n, isR_q, cat1_i, cat1_r, b0, b1, if_true, if_false, not_true, not_false_eq_true, reduceCtorEq, ite_self, and_true, true_and, and_false, false_and, or_true, true_or, or_false, false_or, mf_0, wr_0, mf_1, wr_1, mf_2, rd_2 hp, sh_2 hp, wr_2 hp, mf_3, rd_3 hp, sh_3 hp, wr_3 hp, mf_4, rd_4 hp, sh_4 hp, wr_4 hp, mf_5, rd_5 hp, sh_5 hp, wr_5 hp, mf_6, rd_6 hp, sh_6 hp, wr_6 hp, mf_7, rd_7 hp, sh_7 hp, wr_7 hp, mf_8, wr_8, mf_9, rd_9 hp, sh_9 hp, wr_9 hp, mf_10, rd_10 hp, sh_10 hp, wr_10 hp, mf_11, rd_11 hp, sh_11 hp, wr_11 hp, mf_12, rd_12 hp, sh_12 hp, wr_12 hp, mf_13, rd_13 hp, sh_13 hp, wr_13 hp, mf_14, wr_14, mf_15, wr_15, mf_16, mf_17, wr_17, mf_18, wr_18, mf_19, wr_19, mf_20, rd_20 hp, sh_20 hp, wr_20 hp, mf_21, wr_21, mf_22, rd_22 hp, sh_22 hp, wr_22 hp, mf_23, rd_23 hp, sh_23 hp, wr_23 hp, mf_24, rd_24 hp, sh_24 hp, wr_24 hp, mf_25, wr_25, mf_26, rd_26 hp, sh_26 hp, wr_26 hp, mf_27, rd_27 hp, sh_27 hp, wr_27 hp, mf_28, rd_28 hp, sh_28 hp, wr_28 hp, mf_29, rd_29 hp, sh_29 hp, wr_29 hp, mf_30, wr_30, mf_31, rd_31 hp, sh_31 hp, wr_31 hp, mf_32, wr_32, mf_33, rd_33 hp, sh_33 hp, wr_33 hp, mf_34, wr_34, mf_35, wr_35, mf_36, rd_36 hp, sh_36 hp, wr_36 hp, mf_37, rd_37 hp, sh_37 hp, wr_37 hp, mf_38, rd_38 hp, sh_38 hp, wr_38 hp, mf_39, rd_39 hp, sh_39 hp, wr_39 hp, mf_40, rd_40 hp, sh_40 hp, wr_40 hp, mf_41, wr_41, mM_p hp, sM_p hp, wM_p hp, sM_o, nI_add, q8, q8', qb, qb', z31, hle, hb]
theorem m193 (hp : Op o p) (py : PY Z0 T nr C pr) : ∃ Z', ex (d + 11) 193 0 [some (.ref o), none, none, none] [] (mM o p Z0 m0, sM o p pl s0, n, k) = some (some (.int (nI (lcM Z0 C nr pr))), (mM o p Z' m0, sM o p pl s0, n, k)) ∧ SZ1 Z0 Z' := by
  have py' := py
  obtain ⟨ws, hT, hn, hn7, h25, hC, h23, h26, h27⟩ := py'
  have n8 : nr < 8 := by omega
  have nb : nr < 2147483648 := by omega
  obtain ⟨Z1, l2, l3, i1, i2, i3⟩ := m193_r (d := d + 11) (o := o) (p := p) (pl := pl) (n := n) (k := k) (m0 := m0) (s0 := s0) hp py nr (sup Z0 31 nr (nI 0)) none none (Nat.le_refl _) (fun f j a b c => sup_f c) (fun x h1 h2 => by
    have e : x = nr := by omega
    subst e
    rw [sup_eq]
    unfold atF
    rw [Nat.sub_self]
    rfl)
  have e28 : Z1 28 = Z0 28 := by funext j; exact i2 28 j (by decide) (by decide) (by decide)
  have zz : ∀ f, f ≠ 29 → f ≠ 30 → f ≠ 31 → ∀ j, sup Z1 30 0 (nI 100000000) f j = Z0 f j := fun f a b c j => by rw [sup_f b]; exact i2 f j a b c
  have eag : agB (sup Z1 30 0 (nI 100000000)) nr = agB Z0 nr := by
    funext a b c e
    exact agB_eq (zz 2 (by decide) (by decide) (by decide)) (zz 7 (by decide) (by decide) (by decide)) (zz 22 (by decide) (by decide) (by decide)) (zz 23 (by decide) (by decide) (by decide)) (zz 24 (by decide) (by decide) (by decide)) (zz 26 (by decide) (by decide) (by decide)) _ _ _ _ _
  have e28' : sup Z1 30 0 (nI 100000000) 28 = Z0 28 := by funext j; exact zz 28 (by decide) (by decide) (by decide) j
  have pz : PZ (sup Z1 30 0 (nI 100000000)) T nr C pr (atF (Z0 28) pr C nr) := by
    refine ⟨Wset_eq (zz 2 (by decide) (by decide) (by decide)) (zz 7 (by decide) (by decide) (by decide)) ws, hT, ?_, hn7, ?_, hC, ?_, ?_, ?_, ?_⟩
    · rw [zz 21 (by decide) (by decide) (by decide)]; exact hn
    · rw [zz 25 (by decide) (by decide) (by decide)]; exact h25
    · intro r hr; rw [zz 23 (by decide) (by decide) (by decide)]; exact h23 r hr
    · intro c hc; rw [zz 26 (by decide) (by decide) (by decide)]; exact h26 c hc
    · intro r c hr hc; rw [zz 27 (by decide) (by decide) (by decide)]; exact h27 r c hr hc
    · intro r hr; rw [sup_f (by decide)]; exact ⟨i3 r hr, atK_le _⟩
  obtain ⟨Z2, j1, j2, j3, -⟩ := m192 (d := d + 7 - nr) (o := o) (p := p) (pl := pl) (n := n) (k := k) (m0 := m0) (s0 := s0) hp pz (by rw [e28']; exact at_low) (by unfold atF; rw [Nat.sub_self]; rfl) nr 0 (sup Z1 30 0 (nI 100000000)) (fun _ => 0) 0 100000000 (by omega) (fun _ _ _ _ => rfl) sup_eq (Nat.le_refl _) (by omega) (fun x hx => by omega)
  have ed : d + 7 - nr + 3 + nr = d + 10 := by omega
  rw [ed] at j1
  rw [e28', eag] at j3
  refine ⟨Z2, ?_, fun f j a b c => by rw [j2 f j a b]; exact zz f a b c j⟩
  conv => lhs; simp only [x193_0, x193_1, x193_4, x193_5, x193_8, x193_9, x193_10, x193_11, x193_14, x193_15, x193_16, bnd_some, Option.toList_some, Option.toList_none, List.cons_append, List.nil_append, List.singleton_append, clr_i, clr_r, clr_n, clr_0, clr_q, clr_l, isR_r, isR_n, isR_q, cat1_i, cat1_r, b0, b1, if_true, if_false, not_true, not_false_eq_true, reduceCtorEq, ite_self, and_true, true_and, and_false, false_and, or_true, true_or, or_false, false_or, mf_0, wr_0, mf_1, wr_1, mf_2, rd_2 hp, sh_2 hp, wr_2 hp, mf_3, rd_3 hp, sh_3 hp, wr_3 hp, mf_4, rd_4 hp, sh_4 hp, wr_4 hp, mf_5, rd_5 hp, sh_5 hp, wr_5 hp, mf_6, rd_6 hp, sh_6 hp, wr_6 hp, mf_7, rd_7 hp, sh_7 hp, wr_7 hp, mf_8, wr_8, mf_9, rd_9 hp, sh_9 hp, wr_9 hp, mf_10, rd_10 hp, sh_10 hp, wr_10 hp, mf_11, rd_11 hp, sh_11 hp, wr_11 hp, mf_12, rd_12 hp, sh_12 hp, wr_12 hp, mf_13, rd_13 hp, sh_13 hp, wr_13 hp, mf_14, wr_14, mf_15, wr_15, mf_16, mf_17, wr_17, mf_18, wr_18, mf_19, wr_19, mf_20, rd_20 hp, sh_20 hp, wr_20 hp, mf_21, wr_21, mf_22, rd_22 hp, sh_22 hp, wr_22 hp, mf_23, rd_23 hp, sh_23 hp, wr_23 hp, mf_24, rd_24 hp, sh_24 hp, wr_24 hp, mf_25, wr_25, mf_26, rd_26 hp, sh_26 hp, wr_26 hp, mf_27, rd_27 hp, sh_27 hp, wr_27 hp, mf_28, rd_28 hp, sh_28 hp, wr_28 hp, mf_29, rd_29 hp, sh_29 hp, wr_29 hp, mf_30, wr_30, mf_31, rd_31 hp, sh_31 hp, wr_31 hp, mf_32, wr_32, mf_33, rd_33 hp, sh_33 hp, wr_33 hp, mf_34, wr_34, mf_35, wr_35, mf_36, rd_36 hp, sh_36 hp, wr_36 hp, mf_37, rd_37 hp, sh_37 hp, wr_37 hp, mf_38, rd_38 hp, sh_38 hp, wr_38 hp, mf_39, rd_39 hp, sh_39 hp, wr_39 hp, mf_40, rd_40 hp, sh_40 hp, wr_40 hp, mf_41, wr_41, mM_p hp, sM_p hp, wM_p hp, sM_o, sup_eq, sup_f, not_false_eq_true, Nat.reduceEqDiff, hn, n8, nb, nI_s1]
  rw [i1]
  have j1' : ex (d + 10) 192 0 [some (.ref o), some (.int (nI 0)), some (.int (nI 0)), none, none, none] [] (mM o p (sup Z1 30 0 (nI 100000000)) m0, sM o p pl s0, n, k) = some (none, mM o p Z2 m0, sM o p pl s0, n, k) := j1
  simp only [x193_128, x193_129, x193_131, x193_134, x193_135, x193_136, x193_137, x193_140, x193_141, x193_144, bnd_some, Option.toList_some, Option.toList_none, List.cons_append, List.nil_append, List.singleton_append, clr_i, clr_r, clr_n, clr_0, clr_q, clr_l, isR_r, isR_n, isR_q, cat1_i, cat1_r, b0, b1, if_true, if_false, not_true, not_false_eq_true, reduceCtorEq, ite_self, and_true, true_and, and_false, false_and, or_true, true_or, or_false, false_or, mf_0, wr_0, mf_1, wr_1, mf_2, rd_2 hp, sh_2 hp, wr_2 hp, mf_3, rd_3 hp, sh_3 hp, wr_3 hp, mf_4, rd_4 hp, sh_4 hp, wr_4 hp, mf_5, rd_5 hp, sh_5 hp, wr_5 hp, mf_6, rd_6 hp, sh_6 hp, wr_6 hp, mf_7, rd_7 hp, sh_7 hp, wr_7 hp, mf_8, wr_8, mf_9, rd_9 hp, sh_9 hp, wr_9 hp, mf_10, rd_10 hp, sh_10 hp, wr_10 hp, mf_11, rd_11 hp, sh_11 hp, wr_11 hp, mf_12, rd_12 hp, sh_12 hp, wr_12 hp, mf_13, rd_13 hp, sh_13 hp, wr_13 hp, mf_14, wr_14, mf_15, wr_15, mf_16, mf_17, wr_17, mf_18, wr_18, mf_19, wr_19, mf_20, rd_20 hp, sh_20 hp, wr_20 hp, mf_21, wr_21, mf_22, rd_22 hp, sh_22 hp, wr_22 hp, mf_23, rd_23 hp, sh_23 hp, wr_23 hp, mf_24, rd_24 hp, sh_24 hp, wr_24 hp, mf_25, wr_25, mf_26, rd_26 hp, sh_26 hp, wr_26 hp, mf_27, rd_27 hp, sh_27 hp, wr_27 hp, mf_28, rd_28 hp, sh_28 hp, wr_28 hp, mf_29, rd_29 hp, sh_29 hp, wr_29 hp, mf_30, wr_30, mf_31, rd_31 hp, sh_31 hp, wr_31 hp, mf_32, wr_32, mf_33, rd_33 hp, sh_33 hp, wr_33 hp, mf_34, wr_34, mf_35, wr_35, mf_36, rd_36 hp, sh_36 hp, wr_36 hp, mf_37, rd_37 hp, sh_37 hp, wr_37 hp, mf_38, rd_38 hp, sh_38 hp, wr_38 hp, mf_39, rd_39 hp, sh_39 hp, wr_39 hp, mf_40, rd_40 hp, sh_40 hp, wr_40 hp, mf_41, wr_41, mM_p hp, sM_p hp, wM_p hp, sM_o, j1', j3]
  rfl
end MV
