/-! ===== the reference: the walk itself ===== -/
/-- what the walk has done: found, or one level up -/
def wkP (S Z : St) (D : Nat) (X : Option Rs) (Y : St → Option Value → Option Value → Option Value → Option Rs) (H : St → Hp) (r : Option Nat × Int32 × Int32) : Prop :=
  match r.1 with
  | some x => ∃ Z', X = some (some (.int (nI x)), H Z') ∧ Ag S Z' ∧ Z' 15 0 = r.2.1 ∧ Z' 41 0 = r.2.2
  | none => ∃ Z' l5 l6 l7, X = Y Z' l5 l6 l7 ∧ Ag S Z' ∧ Z' 15 0 = r.2.1 ∧ Z' 41 0 = r.2.2 ∧ ∀ i, i < D → Z' 39 i = Z 39 i ∧ Z' 40 i = Z 40 i
section MQ
variable {d o p pl n k : Nat} {S : St} {m0 : Mm} {s0 : Nat → Nat × Nat} {T R A : Nat}
noncomputable abbrev wkX (d o p pl n k : Nat) (m0 : Mm) (s0 : Nat → Nat × Nat) (l1 : Option Value) (a kd : Int32) (D : Nat) (Z : St) (l5 l6 l7 : Option Value) : Option Rs := ex (d + 3) 203 27 [some (.ref o), l1, some (.int a), some (.int kd), some (.int (nI D)), l5, l6, l7] [] (mM o p Z m0, sM o p pl s0, n, k)
theorem wk_row {l1 : Option Value} {a kd : Int32} {f r : Nat} {g : Nat → Int32 → Int32 → Option Nat × Int32 × Int32} (hp : Op o p) (ws : Wset S T) (hT : T ≤ 200) (ha : a < 0 ∨ ∃ i, i < 40 ∧ a = nI i) (hd : dep S T (f + 1) r)
    (hg : ∀ t, t < T → dep S T f t → ∀ D Z l c l5 l6 l7, D + f ≤ 200 → Ag S Z → Z 15 0 = l → Z 41 0 = c → Z 39 D = nI t → Z 40 D = nI 0 → wkP S Z D (wkX d o p pl n k m0 s0 l1 a kd (D + 1) Z l5 l6 l7) (wkX d o p pl n k m0 s0 l1 a kd D) (fun Z' => (mM o p Z' m0, sM o p pl s0, n, k)) (g t l c)) :
    ∀ q s D Z l c l5 l6 l7, s + q = sN S r → D + f < 200 → Ag S Z → Z 15 0 = l → Z 41 0 = c → Z 39 D = nI r → Z 40 D = nI s → wkP S Z D (wkX d o p pl n k m0 s0 l1 a kd (D + 1) Z l5 l6 l7) (wkX d o p pl n k m0 s0 l1 a kd D) (fun Z' => (mM o p Z' m0, sM o p pl s0, n, k)) (wkS g S (hitB S a kd) r q s l c) := by
  unfold dep at hd
  obtain ⟨hr, h6, h62, hs⟩ := hd
  have hrb : r < 2147483648 := by omega
  intro q
  induction q with
  | zero =>
    intro s D Z l c l5 l6 l7 hsq hD ag h15 h41 h39 h40
    have g6 : Z 6 r = nI (sN S r) := by rw [ag.1 6 r (by decide) (by decide) (by decide) (by decide)]; exact h6
    have hD0 : ¬ nI (D + 1) ≤ 0 := nI_ge (a := 0) (by omega) (by omega)
    have hDl : D < 201 := by omega
    have hDb : D < 2147483648 := by omega
    have hse : s = sN S r := by omega
    unfold wkS wkP
    refine ⟨Z, some (.int (nI r)), some (.int (nI s)), l7, ?_, ag, h15, h41, fun _ _ => ⟨rfl, rfl⟩⟩
    unfold wkX
    conv => lhs; simp only [x203_27, x203_29]
    rw [if_neg hD0]
    conv => lhs; simp only [x203_32, x203_33, x203_36, x203_38, x203_39, x203_40, x203_41, x203_43, x203_44, x203_47, x203_49, x203_50, x203_51, x203_52, x203_54, x203_56, x203_57, x203_60, x203_62, x203_63, bnd_some, Option.toList_some, Option.toList_none, List.cons_append, List.nil_append, List.singleton_append, clr_i, clr_r, clr_n, clr_0, clr_q, clr_l, isR_r, isR_n, isR_q, cat1_i, cat1_r, b0, b1, if_true, if_false, not_true, not_false_eq_true, reduceCtorEq, ite_self, and_true, true_and, and_false, false_and, or_true, true_or, or_false, false_or, mf_0, wr_0, mf_1, wr_1, mf_2, rd_2 hp, sh_2 hp, wr_2 hp, mf_3, rd_3 hp, sh_3 hp, wr_3 hp, mf_4, rd_4 hp, sh_4 hp, wr_4 hp, mf_5, rd_5 hp, sh_5 hp, wr_5 hp, mf_6, rd_6 hp, sh_6 hp, wr_6 hp, mf_7, rd_7 hp, sh_7 hp, wr_7 hp, mf_8, wr_8, mf_9, rd_9 hp, sh_9 hp, wr_9 hp, mf_10, rd_10 hp, sh_10 hp, wr_10 hp, mf_11, rd_11 hp, sh_11 hp, wr_11 hp, mf_12, rd_12 hp, sh_12 hp, wr_12 hp, mf_13, rd_13 hp, sh_13 hp, wr_13 hp, mf_14, wr_14, mf_15, wr_15, mf_16, mf_17, wr_17, mf_18, wr_18, mf_19, wr_19, mf_20, rd_20 hp, sh_20 hp, wr_20 hp, mf_21, wr_21, mf_22, rd_22 hp, sh_22 hp, wr_22 hp, mf_23, rd_23 hp, sh_23 hp, wr_23 hp, mf_24, rd_24 hp, sh_24 hp, wr_24 hp, mf_25, wr_25, mf_26, rd_26 hp, sh_26 hp, wr_26 hp, mf_27, rd_27 hp, sh_27 hp, wr_27 hp, mf_28, rd_28 hp, sh_28 hp, wr_28 hp, mf_29, rd_29 hp, sh_29 hp, wr_29 hp, mf_30, wr_30, mf_31, rd_31 hp, sh_31 hp, wr_31 hp, mf_32, wr_32, mf_33, rd_33 hp, sh_33 hp, wr_33 hp, mf_34, wr_34, mf_35, wr_35, mf_36, rd_36 hp, sh_36 hp, wr_36 hp, mf_37, rd_37 hp, sh_37 hp, wr_37 hp, mf_38, rd_38 hp, sh_38 hp, wr_38 hp, mf_39, rd_39 hp, sh_39 hp, wr_39 hp, mf_40, rd_40 hp, sh_40 hp, wr_40 hp, mf_41, wr_41, mM_p hp, sM_p hp, wM_p hp, sM_o, nI_sub1, hDl, hDb, h39, h40, hr, hrb, g6, hse]
    conv => lhs; simp only [x203_66, x203_69, bnd_some, Option.toList_some, Option.toList_none, List.cons_append, List.nil_append, List.singleton_append, clr_i, clr_r, clr_n, clr_0, clr_q, clr_l, isR_r, isR_n, isR_q, cat1_i, cat1_r, b0, b1, if_true, if_false, not_true, not_false_eq_true, reduceCtorEq, ite_self, and_true, true_and, and_false, false_and, or_true, true_or, or_false, false_or, pk_m1]
    rw [hse]
  | succ q ih =>
    intro s D Z l c l5 l6 l7 hsq hD ag h15 h41 h39 h40
    have g6 : Z 6 r = nI (sN S r) := by rw [ag.1 6 r (by decide) (by decide) (by decide) (by decide)]; exact h6
    have hD0 : ¬ nI (D + 1) ≤ 0 := nI_ge (a := 0) (by omega) (by omega)
    have hDl : D < 201 := by omega
    have hDb : D < 2147483648 := by omega
    have hsn : ¬ nI s = nI (sN S r) := by rw [nI_eq (by omega) (by omega)]; omega
    have hs40 : s < 40 := by omega
    have e1 : wkX d o p pl n k m0 s0 l1 a kd (D + 1) Z l5 l6 l7 = ex (d + 3) 203 95 [some (.ref o), l1, some (.int a), some (.int kd), some (.int (nI (D + 1))), some (.int (nI r)), some (.int (nI s)), some (.int (S 7 (40 * r + s)))] [] (mM o p (sup Z 40 D (nI (s + 1))) m0, sM o p pl s0, n, k) := by
      have g7 : Z 7 (40 * r + s) = S 7 (40 * r + s) := ag.1 7 _ (by decide) (by decide) (by decide) (by decide)
      unfold wkX
      rw [x203_27, x203_29, if_neg hD0]
      simp only [x203_32, x203_33, x203_36, x203_38, x203_39, x203_40, x203_41, x203_43, x203_44, x203_47, x203_49, x203_50, x203_51, x203_52, x203_54, x203_56, x203_57, x203_60, x203_62, x203_63, bnd_some, Option.toList_some, Option.toList_none, List.cons_append, List.nil_append, List.singleton_append, clr_i, clr_r, clr_n, clr_0, clr_q, clr_l, isR_r, isR_n, isR_q, cat1_i, cat1_r, b0, b1, if_true, if_false, not_true, not_false_eq_true, reduceCtorEq, ite_self, and_true, true_and, and_false, false_and, or_true, true_or, or_false, false_or, mf_0, wr_0, mf_1, wr_1, mf_2, rd_2 hp, sh_2 hp, wr_2 hp, mf_3, rd_3 hp, sh_3 hp, wr_3 hp, mf_4, rd_4 hp, sh_4 hp, wr_4 hp, mf_5, rd_5 hp, sh_5 hp, wr_5 hp, mf_6, rd_6 hp, sh_6 hp, wr_6 hp, mf_7, rd_7 hp, sh_7 hp, wr_7 hp, mf_8, wr_8, mf_9, rd_9 hp, sh_9 hp, wr_9 hp, mf_10, rd_10 hp, sh_10 hp, wr_10 hp, mf_11, rd_11 hp, sh_11 hp, wr_11 hp, mf_12, rd_12 hp, sh_12 hp, wr_12 hp, mf_13, rd_13 hp, sh_13 hp, wr_13 hp, mf_14, wr_14, mf_15, wr_15, mf_16, mf_17, wr_17, mf_18, wr_18, mf_19, wr_19, mf_20, rd_20 hp, sh_20 hp, wr_20 hp, mf_21, wr_21, mf_22, rd_22 hp, sh_22 hp, wr_22 hp, mf_23, rd_23 hp, sh_23 hp, wr_23 hp, mf_24, rd_24 hp, sh_24 hp, wr_24 hp, mf_25, wr_25, mf_26, rd_26 hp, sh_26 hp, wr_26 hp, mf_27, rd_27 hp, sh_27 hp, wr_27 hp, mf_28, rd_28 hp, sh_28 hp, wr_28 hp, mf_29, rd_29 hp, sh_29 hp, wr_29 hp, mf_30, wr_30, mf_31, rd_31 hp, sh_31 hp, wr_31 hp, mf_32, wr_32, mf_33, rd_33 hp, sh_33 hp, wr_33 hp, mf_34, wr_34, mf_35, wr_35, mf_36, rd_36 hp, sh_36 hp, wr_36 hp, mf_37, rd_37 hp, sh_37 hp, wr_37 hp, mf_38, rd_38 hp, sh_38 hp, wr_38 hp, mf_39, rd_39 hp, sh_39 hp, wr_39 hp, mf_40, rd_40 hp, sh_40 hp, wr_40 hp, mf_41, wr_41, mM_p hp, sM_p hp, wM_p hp, sM_o, nI_sub1, hDl, hDb, h39, h40, hr, hrb, g6, hsn]
      simp only [x203_72, x203_73, x203_76, x203_78, x203_79, x203_80, x203_81, x203_82, x203_83, x203_84, x203_85, x203_86, x203_88, x203_90, x203_93, bnd_some, Option.toList_some, Option.toList_none, List.cons_append, List.nil_append, List.singleton_append, clr_i, clr_r, clr_n, clr_0, clr_q, clr_l, isR_r, isR_n, isR_q, cat1_i, cat1_r, b0, b1, if_true, if_false, not_true, not_false_eq_true, reduceCtorEq, ite_self, and_true, true_and, and_false, false_and, or_true, true_or, or_false, false_or, mf_0, wr_0, mf_1, wr_1, mf_2, rd_2 hp, sh_2 hp, wr_2 hp, mf_3, rd_3 hp, sh_3 hp, wr_3 hp, mf_4, rd_4 hp, sh_4 hp, wr_4 hp, mf_5, rd_5 hp, sh_5 hp, wr_5 hp, mf_6, rd_6 hp, sh_6 hp, wr_6 hp, mf_7, rd_7 hp, sh_7 hp, wr_7 hp, mf_8, wr_8, mf_9, rd_9 hp, sh_9 hp, wr_9 hp, mf_10, rd_10 hp, sh_10 hp, wr_10 hp, mf_11, rd_11 hp, sh_11 hp, wr_11 hp, mf_12, rd_12 hp, sh_12 hp, wr_12 hp, mf_13, rd_13 hp, sh_13 hp, wr_13 hp, mf_14, wr_14, mf_15, wr_15, mf_16, mf_17, wr_17, mf_18, wr_18, mf_19, wr_19, mf_20, rd_20 hp, sh_20 hp, wr_20 hp, mf_21, wr_21, mf_22, rd_22 hp, sh_22 hp, wr_22 hp, mf_23, rd_23 hp, sh_23 hp, wr_23 hp, mf_24, rd_24 hp, sh_24 hp, wr_24 hp, mf_25, wr_25, mf_26, rd_26 hp, sh_26 hp, wr_26 hp, mf_27, rd_27 hp, sh_27 hp, wr_27 hp, mf_28, rd_28 hp, sh_28 hp, wr_28 hp, mf_29, rd_29 hp, sh_29 hp, wr_29 hp, mf_30, wr_30, mf_31, rd_31 hp, sh_31 hp, wr_31 hp, mf_32, wr_32, mf_33, rd_33 hp, sh_33 hp, wr_33 hp, mf_34, wr_34, mf_35, wr_35, mf_36, rd_36 hp, sh_36 hp, wr_36 hp, mf_37, rd_37 hp, sh_37 hp, wr_37 hp, mf_38, rd_38 hp, sh_38 hp, wr_38 hp, mf_39, rd_39 hp, sh_39 hp, wr_39 hp, mf_40, rd_40 hp, sh_40 hp, wr_40 hp, mf_41, wr_41, mM_p hp, sM_p hp, wM_p hp, sM_o, sup_eq, sup_f, not_false_eq_true, Nat.reduceEqDiff, nI_sub1, nI_add, hDl, hDb, h40, m154 hp hr hs40, g7]
    have ag1 : Ag S (sup Z 40 D (nI (s + 1))) := Ag_40 ag _ _
    rw [e1]
    unfold wkS
    rcases hs s (by omega) with h7 | ⟨t, ht, h7, hdt⟩
    · rw [thI_n h7]
      simp only
      have e2 : ex (d + 3) 203 95 [some (.ref o), l1, some (.int a), some (.int kd), some (.int (nI (D + 1))), some (.int (nI r)), some (.int (nI s)), some (.int (S 7 (40 * r + s)))] [] (mM o p (sup Z 40 D (nI (s + 1))) m0, sM o p pl s0, n, k) = wkX d o p pl n k m0 s0 l1 a kd (D + 1) (sup Z 40 D (nI (s + 1))) (some (.int (nI r))) (some (.int (nI s))) (some (.int (-1))) := by
        unfold wkX
        conv => lhs; simp only [x203_95, x203_97, x203_100, bnd_some, Option.toList_some, Option.toList_none, List.cons_append, List.nil_append, List.singleton_append, clr_i, clr_r, clr_n, clr_0, clr_q, clr_l, isR_r, isR_n, isR_q, cat1_i, cat1_r, b0, b1, if_true, if_false, not_true, not_false_eq_true, reduceCtorEq, ite_self, and_true, true_and, and_false, false_and, or_true, true_or, or_false, false_or, h7, neg1_lt]
      rw [e2]
      have I := ih (s + 1) D (sup Z 40 D (nI (s + 1))) l c (some (.int (nI r))) (some (.int (nI s))) (some (.int (-1))) (by omega) hD ag1 (by rw [sup_f (by decide)]; exact h15) (by rw [sup_f (by decide)]; exact h41) (by rw [sup_f (by decide)]; exact h39) sup_eq
      revert I
      generalize wkS g S (hitB S a kd) r q (s + 1) l c = res
      obtain ⟨r1, r2, r3⟩ := res
      unfold wkP
      cases r1 with
      | some x => exact id
      | none =>
        rintro ⟨Z', a5, a6, a7, i1, i2, i3, i4, i5⟩
        refine ⟨Z', a5, a6, a7, i1, i2, i3, i4, fun i hi => ?_⟩
        obtain ⟨j1, j2⟩ := i5 i hi
        rw [sup_f (by decide)] at j1
        rw [sup_j (by omega)] at j2
        exact ⟨j1, j2⟩
    · have ht2 : t < 200 := by omega
      have htb : t < 2147483648 := by omega
      rw [thI_s h7 htb]
      simp only
      have ht0 : (0 : Int32) ≤ nI t := nI_0le htb
      have z41 : sup Z 40 D (nI (s + 1)) 41 0 = c := by rw [sup_f (by decide)]; exact h41
      have e2 : ex (d + 3) 203 95 [some (.ref o), l1, some (.int a), some (.int kd), some (.int (nI (D + 1))), some (.int (nI r)), some (.int (nI s)), some (.int (S 7 (40 * r + s)))] [] (mM o p (sup Z 40 D (nI (s + 1))) m0, sM o p pl s0, n, k) = ex (d + 3) 203 113 [some (.ref o), l1, some (.int a), some (.int kd), some (.int (nI (D + 1))), some (.int (nI r)), some (.int (nI s)), some (.int (nI t))] [] (mM o p (sup (sup Z 40 D (nI (s + 1))) 41 0 (c + nI 1)) m0, sM o p pl s0, n, k) := by
        conv => lhs; simp only [x203_95, x203_97, x203_100, x203_103, x203_104, x203_104i, x203_105, x203_108, x203_109, x203_110, bnd_some, Option.toList_some, Option.toList_none, List.cons_append, List.nil_append, List.singleton_append, clr_i, clr_r, clr_n, clr_0, clr_q, clr_l, isR_r, isR_n, isR_q, cat1_i, cat1_r, b0, b1, if_true, if_false, not_true, not_false_eq_true, reduceCtorEq, ite_self, and_true, true_and, and_false, false_and, or_true, true_or, or_false, false_or, mf_0, wr_0, mf_1, wr_1, mf_2, rd_2 hp, sh_2 hp, wr_2 hp, mf_3, rd_3 hp, sh_3 hp, wr_3 hp, mf_4, rd_4 hp, sh_4 hp, wr_4 hp, mf_5, rd_5 hp, sh_5 hp, wr_5 hp, mf_6, rd_6 hp, sh_6 hp, wr_6 hp, mf_7, rd_7 hp, sh_7 hp, wr_7 hp, mf_8, wr_8, mf_9, rd_9 hp, sh_9 hp, wr_9 hp, mf_10, rd_10 hp, sh_10 hp, wr_10 hp, mf_11, rd_11 hp, sh_11 hp, wr_11 hp, mf_12, rd_12 hp, sh_12 hp, wr_12 hp, mf_13, rd_13 hp, sh_13 hp, wr_13 hp, mf_14, wr_14, mf_15, wr_15, mf_16, mf_17, wr_17, mf_18, wr_18, mf_19, wr_19, mf_20, rd_20 hp, sh_20 hp, wr_20 hp, mf_21, wr_21, mf_22, rd_22 hp, sh_22 hp, wr_22 hp, mf_23, rd_23 hp, sh_23 hp, wr_23 hp, mf_24, rd_24 hp, sh_24 hp, wr_24 hp, mf_25, wr_25, mf_26, rd_26 hp, sh_26 hp, wr_26 hp, mf_27, rd_27 hp, sh_27 hp, wr_27 hp, mf_28, rd_28 hp, sh_28 hp, wr_28 hp, mf_29, rd_29 hp, sh_29 hp, wr_29 hp, mf_30, wr_30, mf_31, rd_31 hp, sh_31 hp, wr_31 hp, mf_32, wr_32, mf_33, rd_33 hp, sh_33 hp, wr_33 hp, mf_34, wr_34, mf_35, wr_35, mf_36, rd_36 hp, sh_36 hp, wr_36 hp, mf_37, rd_37 hp, sh_37 hp, wr_37 hp, mf_38, rd_38 hp, sh_38 hp, wr_38 hp, mf_39, rd_39 hp, sh_39 hp, wr_39 hp, mf_40, rd_40 hp, sh_40 hp, wr_40 hp, mf_41, wr_41, mM_p hp, sM_p hp, wM_p hp, sM_o, h7, ht0, z41]
      have ag2 : Ag S (sup (sup Z 40 D (nI (s + 1))) 41 0 (c + nI 1)) := Ag_41 ag1 _ _
      rw [e2, m203_hit hp ag2 ws hT ht ha]
      by_cases hh : hitB S a kd t = true
      · rw [if_pos hh, if_pos hh]
        unfold wkP
        exact ⟨_, rfl, ag2, by rw [sup_f (by decide), sup_f (by decide)]; exact h15, sup_eq⟩
      · rw [if_neg hh, if_neg hh]
        have g2 : sup (sup Z 40 D (nI (s + 1))) 41 0 (c + nI 1) 2 t = S 2 t := ag2.1 2 t (by decide) (by decide) (by decide) (by decide)
        by_cases hb : S 2 t = nI 4 ∨ S 2 t = nI 5
        · rw [if_pos hb]
          have z15 : sup (sup Z 40 D (nI (s + 1))) 41 0 (c + nI 1) 15 0 = l := by rw [sup_f (by decide), sup_f (by decide)]; exact h15
          have hD1l : D + 1 < 201 := by omega
          have hD1b : D + 1 < 2147483648 := by omega
          have e3 : ex (d + 3) 203 158 [some (.ref o), l1, some (.int a), some (.int kd), some (.int (nI (D + 1))), some (.int (nI r)), some (.int (nI s)), some (.int (nI t))] [] (mM o p (sup (sup Z 40 D (nI (s + 1))) 41 0 (c + nI 1)) m0, sM o p pl s0, n, k) = wkX d o p pl n k m0 s0 l1 a kd (D + 1 + 1) (sup (sup (sup (sup (sup Z 40 D (nI (s + 1))) 41 0 (c + nI 1)) 15 0 (l + nI 1)) 39 (D + 1) (nI t)) 40 (D + 1) (nI 0)) (some (.int (nI r))) (some (.int (nI s))) (some (.int (nI t))) := by
            unfold wkX
            rcases hb with hb | hb
            · conv => lhs; simp only [x203_158, x203_159, x203_162, x203_164, x203_165, x203_166, x203_169, x203_170, x203_173, x203_175, x203_176, x203_177, bnd_some, Option.toList_some, Option.toList_none, List.cons_append, List.nil_append, List.singleton_append, clr_i, clr_r, clr_n, clr_0, clr_q, clr_l, isR_r, isR_n, isR_q, cat1_i, cat1_r, b0, b1, if_true, if_false, not_true, not_false_eq_true, reduceCtorEq, ite_self, and_true, true_and, and_false, false_and, or_true, true_or, or_false, false_or, mf_0, wr_0, mf_1, wr_1, mf_2, rd_2 hp, sh_2 hp, wr_2 hp, mf_3, rd_3 hp, sh_3 hp, wr_3 hp, mf_4, rd_4 hp, sh_4 hp, wr_4 hp, mf_5, rd_5 hp, sh_5 hp, wr_5 hp, mf_6, rd_6 hp, sh_6 hp, wr_6 hp, mf_7, rd_7 hp, sh_7 hp, wr_7 hp, mf_8, wr_8, mf_9, rd_9 hp, sh_9 hp, wr_9 hp, mf_10, rd_10 hp, sh_10 hp, wr_10 hp, mf_11, rd_11 hp, sh_11 hp, wr_11 hp, mf_12, rd_12 hp, sh_12 hp, wr_12 hp, mf_13, rd_13 hp, sh_13 hp, wr_13 hp, mf_14, wr_14, mf_15, wr_15, mf_16, mf_17, wr_17, mf_18, wr_18, mf_19, wr_19, mf_20, rd_20 hp, sh_20 hp, wr_20 hp, mf_21, wr_21, mf_22, rd_22 hp, sh_22 hp, wr_22 hp, mf_23, rd_23 hp, sh_23 hp, wr_23 hp, mf_24, rd_24 hp, sh_24 hp, wr_24 hp, mf_25, wr_25, mf_26, rd_26 hp, sh_26 hp, wr_26 hp, mf_27, rd_27 hp, sh_27 hp, wr_27 hp, mf_28, rd_28 hp, sh_28 hp, wr_28 hp, mf_29, rd_29 hp, sh_29 hp, wr_29 hp, mf_30, wr_30, mf_31, rd_31 hp, sh_31 hp, wr_31 hp, mf_32, wr_32, mf_33, rd_33 hp, sh_33 hp, wr_33 hp, mf_34, wr_34, mf_35, wr_35, mf_36, rd_36 hp, sh_36 hp, wr_36 hp, mf_37, rd_37 hp, sh_37 hp, wr_37 hp, mf_38, rd_38 hp, sh_38 hp, wr_38 hp, mf_39, rd_39 hp, sh_39 hp, wr_39 hp, mf_40, rd_40 hp, sh_40 hp, wr_40 hp, mf_41, wr_41, mM_p hp, sM_p hp, wM_p hp, sM_o, ht2, htb, g2, hb]
              conv => lhs; simp only [x203_183, x203_184, x203_184i, x203_185, x203_188, x203_189, x203_190, x203_193, x203_194, x203_197, x203_199, x203_201, x203_202, x203_203, x203_206, x203_208, x203_209, x203_210, x203_213, bnd_some, Option.toList_some, Option.toList_none, List.cons_append, List.nil_append, List.singleton_append, clr_i, clr_r, clr_n, clr_0, clr_q, clr_l, isR_r, isR_n, isR_q, cat1_i, cat1_r, b0, b1, if_true, if_false, not_true, not_false_eq_true, reduceCtorEq, ite_self, and_true, true_and, and_false, false_and, or_true, true_or, or_false, false_or, mf_0, wr_0, mf_1, wr_1, mf_2, rd_2 hp, sh_2 hp, wr_2 hp, mf_3, rd_3 hp, sh_3 hp, wr_3 hp, mf_4, rd_4 hp, sh_4 hp, wr_4 hp, mf_5, rd_5 hp, sh_5 hp, wr_5 hp, mf_6, rd_6 hp, sh_6 hp, wr_6 hp, mf_7, rd_7 hp, sh_7 hp, wr_7 hp, mf_8, wr_8, mf_9, rd_9 hp, sh_9 hp, wr_9 hp, mf_10, rd_10 hp, sh_10 hp, wr_10 hp, mf_11, rd_11 hp, sh_11 hp, wr_11 hp, mf_12, rd_12 hp, sh_12 hp, wr_12 hp, mf_13, rd_13 hp, sh_13 hp, wr_13 hp, mf_14, wr_14, mf_15, wr_15, mf_16, mf_17, wr_17, mf_18, wr_18, mf_19, wr_19, mf_20, rd_20 hp, sh_20 hp, wr_20 hp, mf_21, wr_21, mf_22, rd_22 hp, sh_22 hp, wr_22 hp, mf_23, rd_23 hp, sh_23 hp, wr_23 hp, mf_24, rd_24 hp, sh_24 hp, wr_24 hp, mf_25, wr_25, mf_26, rd_26 hp, sh_26 hp, wr_26 hp, mf_27, rd_27 hp, sh_27 hp, wr_27 hp, mf_28, rd_28 hp, sh_28 hp, wr_28 hp, mf_29, rd_29 hp, sh_29 hp, wr_29 hp, mf_30, wr_30, mf_31, rd_31 hp, sh_31 hp, wr_31 hp, mf_32, wr_32, mf_33, rd_33 hp, sh_33 hp, wr_33 hp, mf_34, wr_34, mf_35, wr_35, mf_36, rd_36 hp, sh_36 hp, wr_36 hp, mf_37, rd_37 hp, sh_37 hp, wr_37 hp, mf_38, rd_38 hp, sh_38 hp, wr_38 hp, mf_39, rd_39 hp, sh_39 hp, wr_39 hp, mf_40, rd_40 hp, sh_40 hp, wr_40 hp, mf_41, wr_41, mM_p hp, sM_p hp, wM_p hp, sM_o, z15, hD1l, hD1b, nI_add]
            · have e54 : ¬ nI 5 = nI 4 := by decide
              conv => lhs; simp only [x203_158, x203_159, x203_162, x203_164, x203_165, x203_166, x203_169, x203_170, x203_173, x203_175, x203_176, x203_177, bnd_some, Option.toList_some, Option.toList_none, List.cons_append, List.nil_append, List.singleton_append, clr_i, clr_r, clr_n, clr_0, clr_q, clr_l, isR_r, isR_n, isR_q, cat1_i, cat1_r, b0, b1, if_true, if_false, not_true, not_false_eq_true, reduceCtorEq, ite_self, and_true, true_and, and_false, false_and, or_true, true_or, or_false, false_or, mf_0, wr_0, mf_1, wr_1, mf_2, rd_2 hp, sh_2 hp, wr_2 hp, mf_3, rd_3 hp, sh_3 hp, wr_3 hp, mf_4, rd_4 hp, sh_4 hp, wr_4 hp, mf_5, rd_5 hp, sh_5 hp, wr_5 hp, mf_6, rd_6 hp, sh_6 hp, wr_6 hp, mf_7, rd_7 hp, sh_7 hp, wr_7 hp, mf_8, wr_8, mf_9, rd_9 hp, sh_9 hp, wr_9 hp, mf_10, rd_10 hp, sh_10 hp, wr_10 hp, mf_11, rd_11 hp, sh_11 hp, wr_11 hp, mf_12, rd_12 hp, sh_12 hp, wr_12 hp, mf_13, rd_13 hp, sh_13 hp, wr_13 hp, mf_14, wr_14, mf_15, wr_15, mf_16, mf_17, wr_17, mf_18, wr_18, mf_19, wr_19, mf_20, rd_20 hp, sh_20 hp, wr_20 hp, mf_21, wr_21, mf_22, rd_22 hp, sh_22 hp, wr_22 hp, mf_23, rd_23 hp, sh_23 hp, wr_23 hp, mf_24, rd_24 hp, sh_24 hp, wr_24 hp, mf_25, wr_25, mf_26, rd_26 hp, sh_26 hp, wr_26 hp, mf_27, rd_27 hp, sh_27 hp, wr_27 hp, mf_28, rd_28 hp, sh_28 hp, wr_28 hp, mf_29, rd_29 hp, sh_29 hp, wr_29 hp, mf_30, wr_30, mf_31, rd_31 hp, sh_31 hp, wr_31 hp, mf_32, wr_32, mf_33, rd_33 hp, sh_33 hp, wr_33 hp, mf_34, wr_34, mf_35, wr_35, mf_36, rd_36 hp, sh_36 hp, wr_36 hp, mf_37, rd_37 hp, sh_37 hp, wr_37 hp, mf_38, rd_38 hp, sh_38 hp, wr_38 hp, mf_39, rd_39 hp, sh_39 hp, wr_39 hp, mf_40, rd_40 hp, sh_40 hp, wr_40 hp, mf_41, wr_41, mM_p hp, sM_p hp, wM_p hp, sM_o, ht2, htb, g2, hb, e54]
              conv => lhs; simp only [x203_183, x203_184, x203_184i, x203_185, x203_188, x203_189, x203_190, x203_193, x203_194, x203_197, x203_199, x203_201, x203_202, x203_203, x203_206, x203_208, x203_209, x203_210, x203_213, bnd_some, Option.toList_some, Option.toList_none, List.cons_append, List.nil_append, List.singleton_append, clr_i, clr_r, clr_n, clr_0, clr_q, clr_l, isR_r, isR_n, isR_q, cat1_i, cat1_r, b0, b1, if_true, if_false, not_true, not_false_eq_true, reduceCtorEq, ite_self, and_true, true_and, and_false, false_and, or_true, true_or, or_false, false_or, mf_0, wr_0, mf_1, wr_1, mf_2, rd_2 hp, sh_2 hp, wr_2 hp, mf_3, rd_3 hp, sh_3 hp, wr_3 hp, mf_4, rd_4 hp, sh_4 hp, wr_4 hp, mf_5, rd_5 hp, sh_5 hp, wr_5 hp, mf_6, rd_6 hp, sh_6 hp, wr_6 hp, mf_7, rd_7 hp, sh_7 hp, wr_7 hp, mf_8, wr_8, mf_9, rd_9 hp, sh_9 hp, wr_9 hp, mf_10, rd_10 hp, sh_10 hp, wr_10 hp, mf_11, rd_11 hp, sh_11 hp, wr_11 hp, mf_12, rd_12 hp, sh_12 hp, wr_12 hp, mf_13, rd_13 hp, sh_13 hp, wr_13 hp, mf_14, wr_14, mf_15, wr_15, mf_16, mf_17, wr_17, mf_18, wr_18, mf_19, wr_19, mf_20, rd_20 hp, sh_20 hp, wr_20 hp, mf_21, wr_21, mf_22, rd_22 hp, sh_22 hp, wr_22 hp, mf_23, rd_23 hp, sh_23 hp, wr_23 hp, mf_24, rd_24 hp, sh_24 hp, wr_24 hp, mf_25, wr_25, mf_26, rd_26 hp, sh_26 hp, wr_26 hp, mf_27, rd_27 hp, sh_27 hp, wr_27 hp, mf_28, rd_28 hp, sh_28 hp, wr_28 hp, mf_29, rd_29 hp, sh_29 hp, wr_29 hp, mf_30, wr_30, mf_31, rd_31 hp, sh_31 hp, wr_31 hp, mf_32, wr_32, mf_33, rd_33 hp, sh_33 hp, wr_33 hp, mf_34, wr_34, mf_35, wr_35, mf_36, rd_36 hp, sh_36 hp, wr_36 hp, mf_37, rd_37 hp, sh_37 hp, wr_37 hp, mf_38, rd_38 hp, sh_38 hp, wr_38 hp, mf_39, rd_39 hp, sh_39 hp, wr_39 hp, mf_40, rd_40 hp, sh_40 hp, wr_40 hp, mf_41, wr_41, mM_p hp, sM_p hp, wM_p hp, sM_o, z15, hD1l, hD1b, nI_add]
          rw [e3]
          have hdt2 := hdt hb
          have hf0 : 0 < f := by
            cases f with
            | zero => exact absurd hdt2 (by simp [dep])
            | succ f => omega
          have G := hg t ht hdt2 (D + 1) (sup (sup (sup (sup (sup Z 40 D (nI (s + 1))) 41 0 (c + nI 1)) 15 0 (l + nI 1)) 39 (D + 1) (nI t)) 40 (D + 1) (nI 0)) (l + nI 1) (c + nI 1) (some (.int (nI r))) (some (.int (nI s))) (some (.int (nI t))) (by omega) (Ag_40 (Ag_39 (Ag_15 ag2 _) _ _) _ _) (by rw [sup_f (by decide), sup_f (by decide), sup_eq]) (by rw [sup_f (by decide), sup_f (by decide), sup_f (by decide), sup_eq]) (by rw [sup_f (by decide), sup_eq]) sup_eq
          revert G
          generalize g t (l + nI 1) (c + nI 1) = res
          obtain ⟨r1, r2, r3⟩ := res
          cases r1 with
          | some x =>
            intro G
            simp only [wkP] at G ⊢
            exact G
          | none =>
            intro G
            unfold wkP at G
            obtain ⟨Z1, a5, a6, a7, i1, i2, i3, i4, i5⟩ := G
            simp only
            rw [i1]
            obtain ⟨j1, j2⟩ := i5 D (by omega)
            rw [sup_f (by decide), sup_j (by omega), sup_f (by decide), sup_f (by decide), sup_f (by decide)] at j1
            rw [sup_j (by omega), sup_f (by decide), sup_f (by decide), sup_f (by decide), sup_eq] at j2
            have I := ih (s + 1) D Z1 r2 r3 a5 a6 a7 (by omega) hD i2 i3 i4 (by rw [j1]; exact h39) j2
            revert I
            generalize wkS g S (hitB S a kd) r q (s + 1) r2 r3 = res
            obtain ⟨u1, u2, u3⟩ := res
            unfold wkP
            cases u1 with
            | some x => exact id
            | none =>
              rintro ⟨Z', b5, b6, b7, k1, k2, k3, k4, k5⟩
              refine ⟨Z', b5, b6, b7, k1, k2, k3, k4, fun i hi => ?_⟩
              obtain ⟨m1, m2⟩ := k5 i hi
              obtain ⟨n1, n2⟩ := i5 i (by omega)
              rw [sup_f (by decide), sup_j (by omega), sup_f (by decide), sup_f (by decide), sup_f (by decide)] at n1
              rw [sup_j (by omega), sup_f (by decide), sup_f (by decide), sup_f (by decide), sup_j (by omega)] at n2
              exact ⟨m1.trans n1, m2.trans n2⟩
        · rw [if_neg hb]
          have hb4 : ¬ S 2 t = nI 4 := fun z => hb (Or.inl z)
          have hb5 : ¬ S 2 t = nI 5 := fun z => hb (Or.inr z)
          have e3 : ex (d + 3) 203 158 [some (.ref o), l1, some (.int a), some (.int kd), some (.int (nI (D + 1))), some (.int (nI r)), some (.int (nI s)), some (.int (nI t))] [] (mM o p (sup (sup Z 40 D (nI (s + 1))) 41 0 (c + nI 1)) m0, sM o p pl s0, n, k) = wkX d o p pl n k m0 s0 l1 a kd (D + 1) (sup (sup Z 40 D (nI (s + 1))) 41 0 (c + nI 1)) (some (.int (nI r))) (some (.int (nI s))) (some (.int (nI t))) := by
            unfold wkX
            conv => lhs; simp only [x203_158, x203_159, x203_162, x203_164, x203_165, x203_166, x203_169, x203_170, x203_173, x203_175, x203_176, x203_177, x203_180, bnd_some, Option.toList_some, Option.toList_none, List.cons_append, List.nil_append, List.singleton_append, clr_i, clr_r, clr_n, clr_0, clr_q, clr_l, isR_r, isR_n, isR_q, cat1_i, cat1_r, b0, b1, if_true, if_false, not_true, not_false_eq_true, reduceCtorEq, ite_self, and_true, true_and, and_false, false_and, or_true, true_or, or_false, false_or, mf_0, wr_0, mf_1, wr_1, mf_2, rd_2 hp, sh_2 hp, wr_2 hp, mf_3, rd_3 hp, sh_3 hp, wr_3 hp, mf_4, rd_4 hp, sh_4 hp, wr_4 hp, mf_5, rd_5 hp, sh_5 hp, wr_5 hp, mf_6, rd_6 hp, sh_6 hp, wr_6 hp, mf_7, rd_7 hp, sh_7 hp, wr_7 hp, mf_8, wr_8, mf_9, rd_9 hp, sh_9 hp, wr_9 hp, mf_10, rd_10 hp, sh_10 hp, wr_10 hp, mf_11, rd_11 hp, sh_11 hp, wr_11 hp, mf_12, rd_12 hp, sh_12 hp, wr_12 hp, mf_13, rd_13 hp, sh_13 hp, wr_13 hp, mf_14, wr_14, mf_15, wr_15, mf_16, mf_17, wr_17, mf_18, wr_18, mf_19, wr_19, mf_20, rd_20 hp, sh_20 hp, wr_20 hp, mf_21, wr_21, mf_22, rd_22 hp, sh_22 hp, wr_22 hp, mf_23, rd_23 hp, sh_23 hp, wr_23 hp, mf_24, rd_24 hp, sh_24 hp, wr_24 hp, mf_25, wr_25, mf_26, rd_26 hp, sh_26 hp, wr_26 hp, mf_27, rd_27 hp, sh_27 hp, wr_27 hp, mf_28, rd_28 hp, sh_28 hp, wr_28 hp, mf_29, rd_29 hp, sh_29 hp, wr_29 hp, mf_30, wr_30, mf_31, rd_31 hp, sh_31 hp, wr_31 hp, mf_32, wr_32, mf_33, rd_33 hp, sh_33 hp, wr_33 hp, mf_34, wr_34, mf_35, wr_35, mf_36, rd_36 hp, sh_36 hp, wr_36 hp, mf_37, rd_37 hp, sh_37 hp, wr_37 hp, mf_38, rd_38 hp, sh_38 hp, wr_38 hp, mf_39, rd_39 hp, sh_39 hp, wr_39 hp, mf_40, rd_40 hp, sh_40 hp, wr_40 hp, mf_41, wr_41, mM_p hp, sM_p hp, wM_p hp, sM_o, ht2, htb, g2, hb4, hb5]
          rw [e3]
          have I := ih (s + 1) D (sup (sup Z 40 D (nI (s + 1))) 41 0 (c + nI 1)) l (c + nI 1) (some (.int (nI r))) (some (.int (nI s))) (some (.int (nI t))) (by omega) hD ag2 (by rw [sup_f (by decide), sup_f (by decide)]; exact h15) sup_eq (by rw [sup_f (by decide), sup_f (by decide)]; exact h39) (by rw [sup_f (by decide), sup_eq])
          revert I
          generalize wkS g S (hitB S a kd) r q (s + 1) l (c + nI 1) = res
          obtain ⟨r1, r2, r3⟩ := res
          unfold wkP
          cases r1 with
          | some x => exact id
          | none =>
            rintro ⟨Z', a5, a6, a7, i1, i2, i3, i4, i5⟩
            refine ⟨Z', a5, a6, a7, i1, i2, i3, i4, fun i hi => ?_⟩
            obtain ⟨j1, j2⟩ := i5 i hi
            rw [sup_f (by decide), sup_f (by decide)] at j1
            rw [sup_f (by decide), sup_j (by omega)] at j2
            exact ⟨j1, j2⟩
theorem wk_all {l1 : Option Value} {a kd : Int32} (hp : Op o p) (ws : Wset S T) (hT : T ≤ 200) (ha : a < 0 ∨ ∃ i, i < 40 ∧ a = nI i) : ∀ f r, dep S T f r → ∀ D Z l c l5 l6 l7, D + f ≤ 200 → Ag S Z → Z 15 0 = l → Z 41 0 = c → Z 39 D = nI r → Z 40 D = nI 0 → wkP S Z D (wkX d o p pl n k m0 s0 l1 a kd (D + 1) Z l5 l6 l7) (wkX d o p pl n k m0 s0 l1 a kd D) (fun Z' => (mM o p Z' m0, sM o p pl s0, n, k)) (wkF S (hitB S a kd) f r l c) := by
  intro f
  induction f with
  | zero => intro r h; exact absurd h (by simp [dep])
  | succ f ih =>
    intro r hd D Z l c l5 l6 l7 hD ag h15 h41 h39 h40
    unfold wkF
    exact wk_row hp ws hT ha hd (fun t _ h => ih t h) (sN S r) 0 D Z l c l5 l6 l7 (by omega) (by omega) ag h15 h41 h39 h40
/-- the walk from a row on: what it answers, what it leaves -/
theorem m203 {a kd : Int32} {f r : Nat} {Z : St} (hp : Op o p) (ws : Wset S T) (hT : T ≤ 200) (ha : a < 0 ∨ ∃ i, i < 40 ∧ a = nI i) (hd : dep S T f r) (hf : f ≤ 200) (ag : Ag S Z) : ∃ Z', ex (d + 3) 203 0 [some (.ref o), some (.int (nI r)), some (.int a), some (.int kd), none, none, none, none] [] (mM o p Z m0, sM o p pl s0, n, k) = some (some (.int (opI (wkF S (hitB S a kd) f r (Z 15 0 + nI 1) (Z 41 0)).1)), (mM o p Z' m0, sM o p pl s0, n, k)) ∧ Ag S Z' ∧ Z' 15 0 = (wkF S (hitB S a kd) f r (Z 15 0 + nI 1) (Z 41 0)).2.1 ∧ Z' 41 0 = (wkF S (hitB S a kd) f r (Z 15 0 + nI 1) (Z 41 0)).2.2 := by
  have l0 : 0 < 201 := by omega
  have b0 : 0 < 2147483648 := by omega
  have e1 : ex (d + 3) 203 0 [some (.ref o), some (.int (nI r)), some (.int a), some (.int kd), none, none, none, none] [] (mM o p Z m0, sM o p pl s0, n, k) = wkX d o p pl n k m0 s0 (some (.int (nI r))) a kd (0 + 1) (sup (sup (sup Z 39 0 (nI r)) 40 0 (nI 0)) 15 0 (Z 15 0 + nI 1)) none none none := by
    unfold wkX
    conv => lhs; simp only [x203_0, x203_1, x203_3, x203_4, x203_7, x203_8, x203_9, x203_10, x203_11, x203_14, x203_15, x203_16, x203_17, x203_18, x203_18i, x203_19, x203_22, x203_23, x203_24, bnd_some, Option.toList_some, Option.toList_none, List.cons_append, List.nil_append, List.singleton_append, clr_i, clr_r, clr_n, clr_0, clr_q, clr_l, isR_r, isR_n, isR_q, cat1_i, cat1_r, b0, b1, if_true, if_false, not_true, not_false_eq_true, reduceCtorEq, ite_self, and_true, true_and, and_false, false_and, or_true, true_or, or_false, false_or, mf_0, wr_0, mf_1, wr_1, mf_2, rd_2 hp, sh_2 hp, wr_2 hp, mf_3, rd_3 hp, sh_3 hp, wr_3 hp, mf_4, rd_4 hp, sh_4 hp, wr_4 hp, mf_5, rd_5 hp, sh_5 hp, wr_5 hp, mf_6, rd_6 hp, sh_6 hp, wr_6 hp, mf_7, rd_7 hp, sh_7 hp, wr_7 hp, mf_8, wr_8, mf_9, rd_9 hp, sh_9 hp, wr_9 hp, mf_10, rd_10 hp, sh_10 hp, wr_10 hp, mf_11, rd_11 hp, sh_11 hp, wr_11 hp, mf_12, rd_12 hp, sh_12 hp, wr_12 hp, mf_13, rd_13 hp, sh_13 hp, wr_13 hp, mf_14, wr_14, mf_15, wr_15, mf_16, mf_17, wr_17, mf_18, wr_18, mf_19, wr_19, mf_20, rd_20 hp, sh_20 hp, wr_20 hp, mf_21, wr_21, mf_22, rd_22 hp, sh_22 hp, wr_22 hp, mf_23, rd_23 hp, sh_23 hp, wr_23 hp, mf_24, rd_24 hp, sh_24 hp, wr_24 hp, mf_25, wr_25, mf_26, rd_26 hp, sh_26 hp, wr_26 hp, mf_27, rd_27 hp, sh_27 hp, wr_27 hp, mf_28, rd_28 hp, sh_28 hp, wr_28 hp, mf_29, rd_29 hp, sh_29 hp, wr_29 hp, mf_30, wr_30, mf_31, rd_31 hp, sh_31 hp, wr_31 hp, mf_32, wr_32, mf_33, rd_33 hp, sh_33 hp, wr_33 hp, mf_34, wr_34, mf_35, wr_35, mf_36, rd_36 hp, sh_36 hp, wr_36 hp, mf_37, rd_37 hp, sh_37 hp, wr_37 hp, mf_38, rd_38 hp, sh_38 hp, wr_38 hp, mf_39, rd_39 hp, sh_39 hp, wr_39 hp, mf_40, rd_40 hp, sh_40 hp, wr_40 hp, mf_41, wr_41, mM_p hp, sM_p hp, wM_p hp, sM_o, sup_eq, sup_f, not_false_eq_true, Nat.reduceEqDiff, l0, b0]
  have W := wk_all (d := d) (o := o) (p := p) (pl := pl) (n := n) (k := k) (m0 := m0) (s0 := s0) (l1 := some (.int (nI r))) (kd := kd) hp ws hT ha f r hd 0 (sup (sup (sup Z 39 0 (nI r)) 40 0 (nI 0)) 15 0 (Z 15 0 + nI 1)) (Z 15 0 + nI 1) (Z 41 0) none none none (by omega) (Ag_15 (Ag_40 (Ag_39 ag _ _) _ _) _) sup_eq (by simp only [sup_eq, sup_f, not_false_eq_true, Nat.reduceEqDiff]) (by rw [sup_f (by decide), sup_f (by decide), sup_eq]) (by rw [sup_f (by decide), sup_eq])
  rw [e1]
  revert W
  generalize wkF S (hitB S a kd) f r (Z 15 0 + nI 1) (Z 41 0) = res
  obtain ⟨r1, r2, r3⟩ := res
  unfold wkP
  cases r1 with
  | some x =>
    rintro ⟨Z', i1, i2, i3, i4⟩
    exact ⟨Z', i1, i2, i3, i4⟩
  | none =>
    rintro ⟨Z', l5, l6, l7, i1, i2, i3, i4, i5⟩
    refine ⟨Z', ?_, i2, i3, i4⟩
    rw [i1]
    unfold wkX
    have h0 : nI 0 ≤ 0 := by decide
    simp only [x203_27, x203_29, x203_216, x203_217, bnd_some, Option.toList_some, Option.toList_none, List.cons_append, List.nil_append, List.singleton_append, clr_i, clr_r, clr_n, clr_0, clr_q, clr_l, isR_r, isR_n, isR_q, cat1_i, cat1_r, b0, b1, if_true, if_false, not_true, not_false_eq_true, reduceCtorEq, ite_self, and_true, true_and, and_false, false_and, or_true, true_or, or_false, false_or, h0, opI]
end MQ
