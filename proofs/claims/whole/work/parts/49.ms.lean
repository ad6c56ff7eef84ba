/-! ===== the reference: what a plan may choose from, and at what price ===== -/
/-- in a slot of a rack itself -/
abbrev onR (S : St) (t : Nat) : Prop := ¬ nI 4 < S 2 t ∧ S 3 t = nI 1 ∧ S 4 t < nI 1000
def gat (S : St) : Nat → List Nat
  | 0 => []
  | t + 1 => if (gat S t).length < 8 ∧ onR S t then gat S t ++ [t] else gat S t
def paV (S : St) (a t : Nat) : Int32 := if fitV S a t = nI 1 then costV S a t else nI 100000000
def aR (S : St) (r : Nat) : Nat := (S 22 r).toNatClampNeg
def gS1 (S : St) : St := sup (sup S 14 0 (S 14 0 + nI 1)) 15 0 (S 15 0 + S 8 0)
def GP (S1 : St) (L : List Nat) (Z : St) : Prop := (∀ f j, f ≠ 25 → f ≠ 26 → Z f j = S1 f j) ∧ Z 25 0 = nI L.length ∧ (∀ i, i < L.length → Z 26 i = nI (L.getD i 0))
def GQ (S Z1 : St) (L : List Nat) (r c : Nat) (Z : St) : Prop := (∀ f j, f ≠ 27 → f ≠ 28 → Z f j = Z1 f j) ∧ (∀ q, q < r → Z 28 q = -1) ∧ (∀ q e, e < L.length → q < r ∨ (q = r ∧ e < c) → Z 27 (8 * q + e) = paV S (aR S q) (L.getD e 0))
def Gz (S : St) (L : List Nat) (n : Nat) (Z : St) : Prop := (∀ f j, f ≠ 25 → f ≠ 26 → f ≠ 27 → f ≠ 28 → Z f j = gS1 S f j) ∧ Z 25 0 = nI L.length ∧ (∀ i, i < L.length → Z 26 i = nI (L.getD i 0)) ∧ (∀ q, q < n → Z 28 q = -1) ∧ (∀ q e, q < n → e < L.length → Z 27 (8 * q + e) = paV S (aR S q) (L.getD e 0))
theorem gat_len (S : St) : ∀ t, (gat S t).length ≤ 8 := by
  intro t
  induction t with
  | zero => simp [gat]
  | succ t ih =>
    unfold gat
    split
    · rename_i h
      simp only [List.length_append, List.length_singleton]
      omega
    · exact ih
theorem gat_cap {S : St} {t : Nat} (h : ¬ (gat S t).length < 8) : ∀ q, gat S (t + q) = gat S t := by
  intro q
  induction q with
  | zero => rfl
  | succ q ih =>
    have e : gat S (t + (q + 1)) = if (gat S (t + q)).length < 8 ∧ onR S (t + q) then gat S (t + q) ++ [t + q] else gat S (t + q) := rfl
    rw [e, ih, if_neg (fun z => h z.1)]
theorem gat_mem {S : St} : ∀ t x, x ∈ gat S t → x < t ∧ onR S x := by
  intro t
  induction t with
  | zero => intro x h; simp [gat] at h
  | succ t ih =>
    intro x h
    unfold gat at h
    split at h
    · rename_i hc
      rcases List.mem_append.mp h with h | h
      · exact ⟨Nat.lt_succ_of_lt (ih x h).1, (ih x h).2⟩
      · rw [List.mem_singleton] at h
        subst h
        exact ⟨Nat.lt_succ_self _, hc.2⟩
    · exact ⟨Nat.lt_succ_of_lt (ih x h).1, (ih x h).2⟩
theorem getD_mem {L : List Nat} {i : Nat} (h : i < L.length) : L.getD i 0 ∈ L := by
  rw [List.getD_eq_getElem?_getD, List.getElem?_eq_getElem h]
  exact List.getElem_mem h
theorem getD_app {L : List Nat} {i t : Nat} : (L ++ [t]).getD i 0 = if i < L.length then L.getD i 0 else if i = L.length then t else 0 := by
  simp only [List.getD_eq_getElem?_getD]
  split
  · rename_i h
    rw [List.getElem?_append_left h]
  · rename_i h
    rw [List.getElem?_append_right (by omega)]
    split
    · rename_i h2
      subst h2
      simp
    · rename_i h2
      rw [List.getElem?_eq_none (by simp; omega)]
      rfl
section MS
variable {d o p pl n k : Nat} {S : St} {m0 : Mm} {s0 : Nat → Nat × Nat} {T R A : Nat}
theorem m190_a {S1 : St} (hp : Op o p) (h1 : ∀ f j, f ≠ 14 → f ≠ 15 → S1 f j = S f j) (hT : S 1 0 = nI T) (hT2 : T ≤ 200) : ∀ q t Z l2, t + q = T → GP S1 (gat S t) Z → ∃ Z' t', ex (d + 3) 190 30 [some (.ref o), some (.int (nI t)), l2] [] (mM o p Z m0, sM o p pl s0, n, k) = ex (d + 3) 190 106 [some (.ref o), some (.int (nI t')), l2] [] (mM o p Z' m0, sM o p pl s0, n, k) ∧ GP S1 (gat S T) Z' := by
  intro q
  induction q with
  | zero =>
    intro t Z l2 ht gp
    have e : t = T := by omega
    subst e
    have z1 : Z 1 0 = nI t := by rw [gp.1 1 0 (by decide) (by decide), h1 1 0 (by decide) (by decide)]; exact hT
    have g1 : nI t ≤ nI t := nI_le (Nat.le_refl _) (by omega)
    exact ⟨Z, t, by simp only [x190_30, x190_31, x190_32, x190_35, bnd_some, Option.toList_some, Option.toList_none, List.cons_append, List.nil_append, List.singleton_append, clr_i, clr_r, clr_n, clr_0, clr_q, clr_l, isR_r, isR_n, isR_q, cat1_i, cat1_r, b0, b1, if_true, if_false, not_true, not_false_eq_true, reduceCtorEq, ite_self, and_true, true_and, and_false, false_and, or_true, true_or, or_false, false_or, mf_0, wr_0, mf_1, wr_1, mf_2, rd_2 hp, sh_2 hp, wr_2 hp, mf_3, rd_3 hp, sh_3 hp, wr_3 hp, mf_4, rd_4 hp, sh_4 hp, wr_4 hp, mf_5, rd_5 hp, sh_5 hp, wr_5 hp, mf_6, rd_6 hp, sh_6 hp, wr_6 hp, mf_7, rd_7 hp, sh_7 hp, wr_7 hp, mf_8, wr_8, mf_9, rd_9 hp, sh_9 hp, wr_9 hp, mf_10, rd_10 hp, sh_10 hp, wr_10 hp, mf_11, rd_11 hp, sh_11 hp, wr_11 hp, mf_12, rd_12 hp, sh_12 hp, wr_12 hp, mf_13, rd_13 hp, sh_13 hp, wr_13 hp, mf_14, wr_14, mf_15, wr_15, mf_16, mf_17, wr_17, mf_18, wr_18, mf_19, wr_19, mf_20, rd_20 hp, sh_20 hp, wr_20 hp, mf_21, wr_21, mf_22, rd_22 hp, sh_22 hp, wr_22 hp, mf_23, rd_23 hp, sh_23 hp, wr_23 hp, mf_24, rd_24 hp, sh_24 hp, wr_24 hp, mf_25, wr_25, mf_26, rd_26 hp, sh_26 hp, wr_26 hp, mf_27, rd_27 hp, sh_27 hp, wr_27 hp, mf_28, rd_28 hp, sh_28 hp, wr_28 hp, mf_29, rd_29 hp, sh_29 hp, wr_29 hp, mf_30, wr_30, mf_31, rd_31 hp, sh_31 hp, wr_31 hp, mf_32, wr_32, mf_33, rd_33 hp, sh_33 hp, wr_33 hp, mf_34, wr_34, mf_35, wr_35, mf_36, rd_36 hp, sh_36 hp, wr_36 hp, mf_37, rd_37 hp, sh_37 hp, wr_37 hp, mf_38, rd_38 hp, sh_38 hp, wr_38 hp, mf_39, rd_39 hp, sh_39 hp, wr_39 hp, mf_40, rd_40 hp, sh_40 hp, wr_40 hp, mf_41, wr_41, mM_p hp, sM_p hp, wM_p hp, sM_o, z1, g1], gp⟩
  | succ q ih =>
    intro t Z l2 ht gp
    have z1 : Z 1 0 = nI T := by rw [gp.1 1 0 (by decide) (by decide), h1 1 0 (by decide) (by decide)]; exact hT
    have z2 : Z 2 t = S 2 t := by rw [gp.1 2 t (by decide) (by decide), h1 2 t (by decide) (by decide)]
    have z3 : Z 3 t = S 3 t := by rw [gp.1 3 t (by decide) (by decide), h1 3 t (by decide) (by decide)]
    have z4 : Z 4 t = S 4 t := by rw [gp.1 4 t (by decide) (by decide), h1 4 t (by decide) (by decide)]
    have g1 : ¬ nI T ≤ nI t := nI_ge (by omega) (by omega)
    have ht2 : t < 200 := by omega
    have htb : t < 2147483648 := by omega
    have hl8 := gat_len S t
    by_cases h8 : (gat S t).length < 8
    · have e8 : ¬ nI 8 ≤ nI (gat S t).length := nI_ge h8 (by omega)
      have hlb : (gat S t).length < 2147483648 := by omega
      have skip : ¬ onR S t → ∃ Z' t', ex (d + 3) 190 100 [some (.ref o), some (.int (nI t)), l2] [] (mM o p Z m0, sM o p pl s0, n, k) = ex (d + 3) 190 106 [some (.ref o), some (.int (nI t')), l2] [] (mM o p Z' m0, sM o p pl s0, n, k) ∧ GP S1 (gat S T) Z' := by
        intro hn
        have eg : gat S (t + 1) = gat S t := by
          rw [gat, if_neg (fun z => hn z.2)]
        obtain ⟨Z', t', i1, i2⟩ := ih (t + 1) Z l2 (by omega) (by rw [eg]; exact gp)
        refine ⟨Z', t', ?_, i2⟩
        rw [← i1]
        conv => lhs; simp only [x190_100, x190_103, bnd_some, Option.toList_some, Option.toList_none, List.cons_append, List.nil_append, List.singleton_append, clr_i, clr_r, clr_n, clr_0, clr_q, clr_l, isR_r, isR_n, isR_q, cat1_i, cat1_r, b0, b1, if_true, if_false, not_true, not_false_eq_true, reduceCtorEq, ite_self, and_true, true_and, and_false, false_and, or_true, true_or, or_false, false_or, nI_add]
      by_cases c1 : nI 4 < S 2 t
      · obtain ⟨Z', t', i1, i2⟩ := skip (fun z => z.1 c1)
        refine ⟨Z', t', ?_, i2⟩
        rw [← i1]
        conv => lhs; simp only [x190_30, x190_31, x190_32, x190_35, x190_38, x190_39, x190_42, x190_44, x190_47, x190_48, x190_49, x190_52, bnd_some, Option.toList_some, Option.toList_none, List.cons_append, List.nil_append, List.singleton_append, clr_i, clr_r, clr_n, clr_0, clr_q, clr_l, isR_r, isR_n, isR_q, cat1_i, cat1_r, b0, b1, if_true, if_false, not_true, not_false_eq_true, reduceCtorEq, ite_self, and_true, true_and, and_false, false_and, or_true, true_or, or_false, false_or, mf_0, wr_0, mf_1, wr_1, mf_2, rd_2 hp, sh_2 hp, wr_2 hp, mf_3, rd_3 hp, sh_3 hp, wr_3 hp, mf_4, rd_4 hp, sh_4 hp, wr_4 hp, mf_5, rd_5 hp, sh_5 hp, wr_5 hp, mf_6, rd_6 hp, sh_6 hp, wr_6 hp, mf_7, rd_7 hp, sh_7 hp, wr_7 hp, mf_8, wr_8, mf_9, rd_9 hp, sh_9 hp, wr_9 hp, mf_10, rd_10 hp, sh_10 hp, wr_10 hp, mf_11, rd_11 hp, sh_11 hp, wr_11 hp, mf_12, rd_12 hp, sh_12 hp, wr_12 hp, mf_13, rd_13 hp, sh_13 hp, wr_13 hp, mf_14, wr_14, mf_15, wr_15, mf_16, mf_17, wr_17, mf_18, wr_18, mf_19, wr_19, mf_20, rd_20 hp, sh_20 hp, wr_20 hp, mf_21, wr_21, mf_22, rd_22 hp, sh_22 hp, wr_22 hp, mf_23, rd_23 hp, sh_23 hp, wr_23 hp, mf_24, rd_24 hp, sh_24 hp, wr_24 hp, mf_25, wr_25, mf_26, rd_26 hp, sh_26 hp, wr_26 hp, mf_27, rd_27 hp, sh_27 hp, wr_27 hp, mf_28, rd_28 hp, sh_28 hp, wr_28 hp, mf_29, rd_29 hp, sh_29 hp, wr_29 hp, mf_30, wr_30, mf_31, rd_31 hp, sh_31 hp, wr_31 hp, mf_32, wr_32, mf_33, rd_33 hp, sh_33 hp, wr_33 hp, mf_34, wr_34, mf_35, wr_35, mf_36, rd_36 hp, sh_36 hp, wr_36 hp, mf_37, rd_37 hp, sh_37 hp, wr_37 hp, mf_38, rd_38 hp, sh_38 hp, wr_38 hp, mf_39, rd_39 hp, sh_39 hp, wr_39 hp, mf_40, rd_40 hp, sh_40 hp, wr_40 hp, mf_41, wr_41, mM_p hp, sM_p hp, wM_p hp, sM_o, z1, g1, gp.2.1, e8, m139 hp ht2, z2, b2_0, c1]
      · by_cases c2 : S 3 t = nI 1
        · by_cases c3 : S 4 t < nI 1000
          · have eg : gat S (t + 1) = gat S t ++ [t] := by
              rw [gat, if_pos ⟨h8, c1, c2, c3⟩]
            obtain ⟨Z', t', i1, i2⟩ := ih (t + 1) (sup (sup Z 26 (gat S t).length (nI t)) 25 0 (nI ((gat S t).length + 1))) l2 (by omega) (by
              rw [eg]
              refine ⟨fun f j a b => by rw [sup_f a, sup_f b]; exact gp.1 f j a b, by rw [sup_eq, List.length_append, List.length_singleton], fun i hi => ?_⟩
              rw [List.length_append, List.length_singleton] at hi
              rw [sup_f (by decide), getD_app]
              by_cases e : i = (gat S t).length
              · subst e
                rw [sup_eq, if_neg (by omega), if_pos rfl]
              · rw [sup_j e, if_pos (by omega)]
                exact gp.2.2 i (by omega))
            refine ⟨Z', t', ?_, i2⟩
            rw [← i1]
            have gp2 := gp.2.1
            conv => lhs; simp only [x190_30, x190_31, x190_32, x190_35, x190_38, x190_39, x190_42, x190_44, x190_47, x190_48, x190_49, x190_52, x190_55, x190_56, x190_59, x190_60, x190_61, x190_62, x190_65, x190_66, x190_69, x190_70, x190_71, x190_74, bnd_some, Option.toList_some, Option.toList_none, List.cons_append, List.nil_append, List.singleton_append, clr_i, clr_r, clr_n, clr_0, clr_q, clr_l, isR_r, isR_n, isR_q, cat1_i, cat1_r, b0, b1, if_true, if_false, not_true, not_false_eq_true, reduceCtorEq, ite_self, and_true, true_and, and_false, false_and, or_true, true_or, or_false, false_or, mf_0, wr_0, mf_1, wr_1, mf_2, rd_2 hp, sh_2 hp, wr_2 hp, mf_3, rd_3 hp, sh_3 hp, wr_3 hp, mf_4, rd_4 hp, sh_4 hp, wr_4 hp, mf_5, rd_5 hp, sh_5 hp, wr_5 hp, mf_6, rd_6 hp, sh_6 hp, wr_6 hp, mf_7, rd_7 hp, sh_7 hp, wr_7 hp, mf_8, wr_8, mf_9, rd_9 hp, sh_9 hp, wr_9 hp, mf_10, rd_10 hp, sh_10 hp, wr_10 hp, mf_11, rd_11 hp, sh_11 hp, wr_11 hp, mf_12, rd_12 hp, sh_12 hp, wr_12 hp, mf_13, rd_13 hp, sh_13 hp, wr_13 hp, mf_14, wr_14, mf_15, wr_15, mf_16, mf_17, wr_17, mf_18, wr_18, mf_19, wr_19, mf_20, rd_20 hp, sh_20 hp, wr_20 hp, mf_21, wr_21, mf_22, rd_22 hp, sh_22 hp, wr_22 hp, mf_23, rd_23 hp, sh_23 hp, wr_23 hp, mf_24, rd_24 hp, sh_24 hp, wr_24 hp, mf_25, wr_25, mf_26, rd_26 hp, sh_26 hp, wr_26 hp, mf_27, rd_27 hp, sh_27 hp, wr_27 hp, mf_28, rd_28 hp, sh_28 hp, wr_28 hp, mf_29, rd_29 hp, sh_29 hp, wr_29 hp, mf_30, wr_30, mf_31, rd_31 hp, sh_31 hp, wr_31 hp, mf_32, wr_32, mf_33, rd_33 hp, sh_33 hp, wr_33 hp, mf_34, wr_34, mf_35, wr_35, mf_36, rd_36 hp, sh_36 hp, wr_36 hp, mf_37, rd_37 hp, sh_37 hp, wr_37 hp, mf_38, rd_38 hp, sh_38 hp, wr_38 hp, mf_39, rd_39 hp, sh_39 hp, wr_39 hp, mf_40, rd_40 hp, sh_40 hp, wr_40 hp, mf_41, wr_41, mM_p hp, sM_p hp, wM_p hp, sM_o, z1, g1, gp2, e8, m139 hp ht2, z2, b2_0, c1, ht2, htb, z3, z4, c2, c3]
            conv => lhs; simp only [x190_80, x190_81, x190_84, x190_85, x190_88, x190_89, x190_90, x190_91, x190_91i, x190_92, x190_95, x190_96, x190_97, x190_100, x190_103, bnd_some, Option.toList_some, Option.toList_none, List.cons_append, List.nil_append, List.singleton_append, clr_i, clr_r, clr_n, clr_0, clr_q, clr_l, isR_r, isR_n, isR_q, cat1_i, cat1_r, b0, b1, if_true, if_false, not_true, not_false_eq_true, reduceCtorEq, ite_self, and_true, true_and, and_false, false_and, or_true, true_or, or_false, false_or, mf_0, wr_0, mf_1, wr_1, mf_2, rd_2 hp, sh_2 hp, wr_2 hp, mf_3, rd_3 hp, sh_3 hp, wr_3 hp, mf_4, rd_4 hp, sh_4 hp, wr_4 hp, mf_5, rd_5 hp, sh_5 hp, wr_5 hp, mf_6, rd_6 hp, sh_6 hp, wr_6 hp, mf_7, rd_7 hp, sh_7 hp, wr_7 hp, mf_8, wr_8, mf_9, rd_9 hp, sh_9 hp, wr_9 hp, mf_10, rd_10 hp, sh_10 hp, wr_10 hp, mf_11, rd_11 hp, sh_11 hp, wr_11 hp, mf_12, rd_12 hp, sh_12 hp, wr_12 hp, mf_13, rd_13 hp, sh_13 hp, wr_13 hp, mf_14, wr_14, mf_15, wr_15, mf_16, mf_17, wr_17, mf_18, wr_18, mf_19, wr_19, mf_20, rd_20 hp, sh_20 hp, wr_20 hp, mf_21, wr_21, mf_22, rd_22 hp, sh_22 hp, wr_22 hp, mf_23, rd_23 hp, sh_23 hp, wr_23 hp, mf_24, rd_24 hp, sh_24 hp, wr_24 hp, mf_25, wr_25, mf_26, rd_26 hp, sh_26 hp, wr_26 hp, mf_27, rd_27 hp, sh_27 hp, wr_27 hp, mf_28, rd_28 hp, sh_28 hp, wr_28 hp, mf_29, rd_29 hp, sh_29 hp, wr_29 hp, mf_30, wr_30, mf_31, rd_31 hp, sh_31 hp, wr_31 hp, mf_32, wr_32, mf_33, rd_33 hp, sh_33 hp, wr_33 hp, mf_34, wr_34, mf_35, wr_35, mf_36, rd_36 hp, sh_36 hp, wr_36 hp, mf_37, rd_37 hp, sh_37 hp, wr_37 hp, mf_38, rd_38 hp, sh_38 hp, wr_38 hp, mf_39, rd_39 hp, sh_39 hp, wr_39 hp, mf_40, rd_40 hp, sh_40 hp, wr_40 hp, mf_41, wr_41, mM_p hp, sM_p hp, wM_p hp, sM_o, sup_eq, sup_f, not_false_eq_true, Nat.reduceEqDiff, gp2, h8, hlb, nI_add]
          · obtain ⟨Z', t', i1, i2⟩ := skip (fun z => c3 z.2.2)
            refine ⟨Z', t', ?_, i2⟩
            rw [← i1]
            conv => lhs; simp only [x190_30, x190_31, x190_32, x190_35, x190_38, x190_39, x190_42, x190_44, x190_47, x190_48, x190_49, x190_52, x190_55, x190_56, x190_59, x190_60, x190_61, x190_62, x190_65, x190_66, x190_69, x190_70, x190_71, x190_74, x190_77, bnd_some, Option.toList_some, Option.toList_none, List.cons_append, List.nil_append, List.singleton_append, clr_i, clr_r, clr_n, clr_0, clr_q, clr_l, isR_r, isR_n, isR_q, cat1_i, cat1_r, b0, b1, if_true, if_false, not_true, not_false_eq_true, reduceCtorEq, ite_self, and_true, true_and, and_false, false_and, or_true, true_or, or_false, false_or, mf_0, wr_0, mf_1, wr_1, mf_2, rd_2 hp, sh_2 hp, wr_2 hp, mf_3, rd_3 hp, sh_3 hp, wr_3 hp, mf_4, rd_4 hp, sh_4 hp, wr_4 hp, mf_5, rd_5 hp, sh_5 hp, wr_5 hp, mf_6, rd_6 hp, sh_6 hp, wr_6 hp, mf_7, rd_7 hp, sh_7 hp, wr_7 hp, mf_8, wr_8, mf_9, rd_9 hp, sh_9 hp, wr_9 hp, mf_10, rd_10 hp, sh_10 hp, wr_10 hp, mf_11, rd_11 hp, sh_11 hp, wr_11 hp, mf_12, rd_12 hp, sh_12 hp, wr_12 hp, mf_13, rd_13 hp, sh_13 hp, wr_13 hp, mf_14, wr_14, mf_15, wr_15, mf_16, mf_17, wr_17, mf_18, wr_18, mf_19, wr_19, mf_20, rd_20 hp, sh_20 hp, wr_20 hp, mf_21, wr_21, mf_22, rd_22 hp, sh_22 hp, wr_22 hp, mf_23, rd_23 hp, sh_23 hp, wr_23 hp, mf_24, rd_24 hp, sh_24 hp, wr_24 hp, mf_25, wr_25, mf_26, rd_26 hp, sh_26 hp, wr_26 hp, mf_27, rd_27 hp, sh_27 hp, wr_27 hp, mf_28, rd_28 hp, sh_28 hp, wr_28 hp, mf_29, rd_29 hp, sh_29 hp, wr_29 hp, mf_30, wr_30, mf_31, rd_31 hp, sh_31 hp, wr_31 hp, mf_32, wr_32, mf_33, rd_33 hp, sh_33 hp, wr_33 hp, mf_34, wr_34, mf_35, wr_35, mf_36, rd_36 hp, sh_36 hp, wr_36 hp, mf_37, rd_37 hp, sh_37 hp, wr_37 hp, mf_38, rd_38 hp, sh_38 hp, wr_38 hp, mf_39, rd_39 hp, sh_39 hp, wr_39 hp, mf_40, rd_40 hp, sh_40 hp, wr_40 hp, mf_41, wr_41, mM_p hp, sM_p hp, wM_p hp, sM_o, z1, g1, gp.2.1, e8, m139 hp ht2, z2, b2_0, c1, ht2, htb, z3, z4, c2, c3]
        · obtain ⟨Z', t', i1, i2⟩ := skip (fun z => c2 z.2.1)
          refine ⟨Z', t', ?_, i2⟩
          rw [← i1]
          conv => lhs; simp only [x190_30, x190_31, x190_32, x190_35, x190_38, x190_39, x190_42, x190_44, x190_47, x190_48, x190_49, x190_52, x190_55, x190_56, x190_59, x190_60, x190_61, x190_62, bnd_some, Option.toList_some, Option.toList_none, List.cons_append, List.nil_append, List.singleton_append, clr_i, clr_r, clr_n, clr_0, clr_q, clr_l, isR_r, isR_n, isR_q, cat1_i, cat1_r, b0, b1, if_true, if_false, not_true, not_false_eq_true, reduceCtorEq, ite_self, and_true, true_and, and_false, false_and, or_true, true_or, or_false, false_or, mf_0, wr_0, mf_1, wr_1, mf_2, rd_2 hp, sh_2 hp, wr_2 hp, mf_3, rd_3 hp, sh_3 hp, wr_3 hp, mf_4, rd_4 hp, sh_4 hp, wr_4 hp, mf_5, rd_5 hp, sh_5 hp, wr_5 hp, mf_6, rd_6 hp, sh_6 hp, wr_6 hp, mf_7, rd_7 hp, sh_7 hp, wr_7 hp, mf_8, wr_8, mf_9, rd_9 hp, sh_9 hp, wr_9 hp, mf_10, rd_10 hp, sh_10 hp, wr_10 hp, mf_11, rd_11 hp, sh_11 hp, wr_11 hp, mf_12, rd_12 hp, sh_12 hp, wr_12 hp, mf_13, rd_13 hp, sh_13 hp, wr_13 hp, mf_14, wr_14, mf_15, wr_15, mf_16, mf_17, wr_17, mf_18, wr_18, mf_19, wr_19, mf_20, rd_20 hp, sh_20 hp, wr_20 hp, mf_21, wr_21, mf_22, rd_22 hp, sh_22 hp, wr_22 hp, mf_23, rd_23 hp, sh_23 hp, wr_23 hp, mf_24, rd_24 hp, sh_24 hp, wr_24 hp, mf_25, wr_25, mf_26, rd_26 hp, sh_26 hp, wr_26 hp, mf_27, rd_27 hp, sh_27 hp, wr_27 hp, mf_28, rd_28 hp, sh_28 hp, wr_28 hp, mf_29, rd_29 hp, sh_29 hp, wr_29 hp, mf_30, wr_30, mf_31, rd_31 hp, sh_31 hp, wr_31 hp, mf_32, wr_32, mf_33, rd_33 hp, sh_33 hp, wr_33 hp, mf_34, wr_34, mf_35, wr_35, mf_36, rd_36 hp, sh_36 hp, wr_36 hp, mf_37, rd_37 hp, sh_37 hp, wr_37 hp, mf_38, rd_38 hp, sh_38 hp, wr_38 hp, mf_39, rd_39 hp, sh_39 hp, wr_39 hp, mf_40, rd_40 hp, sh_40 hp, wr_40 hp, mf_41, wr_41, mM_p hp, sM_p hp, wM_p hp, sM_o, z1, g1, gp.2.1, e8, m139 hp ht2, z2, b2_0, c1, ht2, htb, z3, c2]
    · have e8 : nI 8 ≤ nI (gat S t).length := nI_le (by omega) (by omega)
      refine ⟨Z, t, by simp only [x190_30, x190_31, x190_32, x190_35, x190_38, x190_39, x190_42, x190_44, bnd_some, Option.toList_some, Option.toList_none, List.cons_append, List.nil_append, List.singleton_append, clr_i, clr_r, clr_n, clr_0, clr_q, clr_l, isR_r, isR_n, isR_q, cat1_i, cat1_r, b0, b1, if_true, if_false, not_true, not_false_eq_true, reduceCtorEq, ite_self, and_true, true_and, and_false, false_and, or_true, true_or, or_false, false_or, mf_0, wr_0, mf_1, wr_1, mf_2, rd_2 hp, sh_2 hp, wr_2 hp, mf_3, rd_3 hp, sh_3 hp, wr_3 hp, mf_4, rd_4 hp, sh_4 hp, wr_4 hp, mf_5, rd_5 hp, sh_5 hp, wr_5 hp, mf_6, rd_6 hp, sh_6 hp, wr_6 hp, mf_7, rd_7 hp, sh_7 hp, wr_7 hp, mf_8, wr_8, mf_9, rd_9 hp, sh_9 hp, wr_9 hp, mf_10, rd_10 hp, sh_10 hp, wr_10 hp, mf_11, rd_11 hp, sh_11 hp, wr_11 hp, mf_12, rd_12 hp, sh_12 hp, wr_12 hp, mf_13, rd_13 hp, sh_13 hp, wr_13 hp, mf_14, wr_14, mf_15, wr_15, mf_16, mf_17, wr_17, mf_18, wr_18, mf_19, wr_19, mf_20, rd_20 hp, sh_20 hp, wr_20 hp, mf_21, wr_21, mf_22, rd_22 hp, sh_22 hp, wr_22 hp, mf_23, rd_23 hp, sh_23 hp, wr_23 hp, mf_24, rd_24 hp, sh_24 hp, wr_24 hp, mf_25, wr_25, mf_26, rd_26 hp, sh_26 hp, wr_26 hp, mf_27, rd_27 hp, sh_27 hp, wr_27 hp, mf_28, rd_28 hp, sh_28 hp, wr_28 hp, mf_29, rd_29 hp, sh_29 hp, wr_29 hp, mf_30, wr_30, mf_31, rd_31 hp, sh_31 hp, wr_31 hp, mf_32, wr_32, mf_33, rd_33 hp, sh_33 hp, wr_33 hp, mf_34, wr_34, mf_35, wr_35, mf_36, rd_36 hp, sh_36 hp, wr_36 hp, mf_37, rd_37 hp, sh_37 hp, wr_37 hp, mf_38, rd_38 hp, sh_38 hp, wr_38 hp, mf_39, rd_39 hp, sh_39 hp, wr_39 hp, mf_40, rd_40 hp, sh_40 hp, wr_40 hp, mf_41, wr_41, mM_p hp, sM_p hp, wM_p hp, sM_o, z1, g1, gp.2.1, e8], ?_⟩
      have : T = t + (q + 1) := by omega
      rw [this, gat_cap h8]
      exact gp
theorem m190_c {Z1 : St} {L : List Nat} {r a : Nat} (hp : Op o p) (ws : Wset S T) (hT : T ≤ 200) (hL : L.length ≤ 8) (hLm : ∀ x, x ∈ L → x < T) (h1 : ∀ f j, f ≠ 14 → f ≠ 15 → f ≠ 25 → f ≠ 26 → Z1 f j = S f j) (h25 : Z1 25 0 = nI L.length) (h26 : ∀ i, i < L.length → Z1 26 i = nI (L.getD i 0)) (hr : r < 7) (ha : S 22 r = nI a) (ha2 : a < 40) : ∀ q c Z, c + q = L.length → GQ S Z1 L r c Z → Z 28 r = -1 → ∃ Z', ex (d + 3) 190 125 [some (.ref o), some (.int (nI r)), some (.int (nI c))] [] (mM o p Z m0, sM o p pl s0, n, k) = ex (d + 3) 190 191 [some (.ref o), some (.int (nI r)), some (.int (nI L.length))] [] (mM o p Z' m0, sM o p pl s0, n, k) ∧ GQ S Z1 L r L.length Z' ∧ Z' 28 r = -1 := by
  have har : aR S r = a := by unfold aR; rw [ha, nI_clamp (by omega)]
  intro q
  induction q with
  | zero =>
    intro c Z hc gq h28
    have e : c = L.length := by omega
    subst e
    have z25 : Z 25 0 = nI L.length := by rw [gq.1 25 0 (by decide) (by decide)]; exact h25
    have g1 : nI L.length ≤ nI L.length := nI_le (Nat.le_refl _) (by omega)
    exact ⟨Z, by simp only [x190_125, x190_126, x190_127, x190_130, bnd_some, Option.toList_some, Option.toList_none, List.cons_append, List.nil_append, List.singleton_append, clr_i, clr_r, clr_n, clr_0, clr_q, clr_l, isR_r, isR_n, isR_q, cat1_i, cat1_r, b0, b1, if_true, if_false, not_true, not_false_eq_true, reduceCtorEq, ite_self, and_true, true_and, and_false, false_and, or_true, true_or, or_false, false_or, mf_0, wr_0, mf_1, wr_1, mf_2, rd_2 hp, sh_2 hp, wr_2 hp, mf_3, rd_3 hp, sh_3 hp, wr_3 hp, mf_4, rd_4 hp, sh_4 hp, wr_4 hp, mf_5, rd_5 hp, sh_5 hp, wr_5 hp, mf_6, rd_6 hp, sh_6 hp, wr_6 hp, mf_7, rd_7 hp, sh_7 hp, wr_7 hp, mf_8, wr_8, mf_9, rd_9 hp, sh_9 hp, wr_9 hp, mf_10, rd_10 hp, sh_10 hp, wr_10 hp, mf_11, rd_11 hp, sh_11 hp, wr_11 hp, mf_12, rd_12 hp, sh_12 hp, wr_12 hp, mf_13, rd_13 hp, sh_13 hp, wr_13 hp, mf_14, wr_14, mf_15, wr_15, mf_16, mf_17, wr_17, mf_18, wr_18, mf_19, wr_19, mf_20, rd_20 hp, sh_20 hp, wr_20 hp, mf_21, wr_21, mf_22, rd_22 hp, sh_22 hp, wr_22 hp, mf_23, rd_23 hp, sh_23 hp, wr_23 hp, mf_24, rd_24 hp, sh_24 hp, wr_24 hp, mf_25, wr_25, mf_26, rd_26 hp, sh_26 hp, wr_26 hp, mf_27, rd_27 hp, sh_27 hp, wr_27 hp, mf_28, rd_28 hp, sh_28 hp, wr_28 hp, mf_29, rd_29 hp, sh_29 hp, wr_29 hp, mf_30, wr_30, mf_31, rd_31 hp, sh_31 hp, wr_31 hp, mf_32, wr_32, mf_33, rd_33 hp, sh_33 hp, wr_33 hp, mf_34, wr_34, mf_35, wr_35, mf_36, rd_36 hp, sh_36 hp, wr_36 hp, mf_37, rd_37 hp, sh_37 hp, wr_37 hp, mf_38, rd_38 hp, sh_38 hp, wr_38 hp, mf_39, rd_39 hp, sh_39 hp, wr_39 hp, mf_40, rd_40 hp, sh_40 hp, wr_40 hp, mf_41, wr_41, mM_p hp, sM_p hp, wM_p hp, sM_o, z25, g1], gq, h28⟩
  | succ q ih =>
    intro c Z hc gq h28
    have z25 : Z 25 0 = nI L.length := by rw [gq.1 25 0 (by decide) (by decide)]; exact h25
    have g1 : ¬ nI L.length ≤ nI c := nI_ge (by omega) (by omega)
    have zS : ∀ f, f ≠ 14 → f ≠ 15 → f ≠ 25 → f ≠ 26 → f ≠ 27 → f ≠ 28 → ∀ j, Z f j = S f j := fun f a1 a2 a3 a4 a5 a6 j => by rw [gq.1 f j a5 a6, h1 f j a1 a2 a3 a4]
    have z22 : Z 22 r = nI a := by rw [zS 22 (by decide) (by decide) (by decide) (by decide) (by decide) (by decide)]; exact ha
    have z26 : Z 26 c = nI (L.getD c 0) := by rw [gq.1 26 c (by decide) (by decide)]; exact h26 c (by omega)
    have hx := hLm _ (getD_mem (L := L) (i := c) (by omega))
    have hc8 : c < 8 := by omega
    have hcb : c < 2147483648 := by omega
    have hrb : r < 2147483648 := by omega
    have g2 : 8 * r + c < 56 := by omega
    have g3 : 8 * r + c < 2147483648 := by omega
    have y2 := zS 2 (by decide) (by decide) (by decide) (by decide) (by decide) (by decide)
    have y7 := zS 7 (by decide) (by decide) (by decide) (by decide) (by decide) (by decide)
    have y9 := zS 9 (by decide) (by decide) (by decide) (by decide) (by decide) (by decide)
    have y10 := zS 10 (by decide) (by decide) (by decide) (by decide) (by decide) (by decide)
    have y11 := zS 11 (by decide) (by decide) (by decide) (by decide) (by decide) (by decide)
    have y20 := zS 20 (by decide) (by decide) (by decide) (by decide) (by decide) (by decide)
    have Q := m179 (d := d) (o := o) (p := p) (pl := pl) (n := n) (k := k) (m0 := m0) (s0 := s0) (S := Z) (a := a) (t := L.getD c 0) (T := T) hp ha2 hx hT (Wset_eq y2 y7 ws)
    rw [fitV_eq y2 y7 y9 y10 y11 y20] at Q
    have Q2 := m180 (d := d) (o := o) (p := p) (pl := pl) (n := n) (k := k) (m0 := m0) (s0 := s0) (S := Z) (a := a) (t := L.getD c 0) (T := T) hp ha2 hx hT (Wset_eq y2 y7 ws)
    rw [costV_eq y2 y7 y9 y20] at Q2
    obtain ⟨Z', i1, i2, i3⟩ := ih (c + 1) (sup Z 27 (8 * r + c) (paV S a (L.getD c 0))) (by omega) ⟨fun f j a1 a2 => by rw [sup_f a1]; exact gq.1 f j a1 a2, fun x hx => by rw [sup_f (by decide)]; exact gq.2.1 x hx, fun x e he hq => by
      by_cases ee : x = r ∧ e = c
      · obtain ⟨rfl, rfl⟩ := ee
        rw [sup_eq, har]
      · rw [sup_j (by omega)]
        exact gq.2.2 x e he (by omega)⟩ (by rw [sup_f (by decide)]; exact h28)
    refine ⟨Z', ?_, i2, i3⟩
    rw [← i1]
    unfold paV
    by_cases hf : fitV S a (L.getD c 0) = nI 1
    · rw [if_pos hf]
      conv => lhs; simp only [x190_125, x190_126, x190_127, x190_130, bnd_some, Option.toList_some, Option.toList_none, List.cons_append, List.nil_append, List.singleton_append, clr_i, clr_r, clr_n, clr_0, clr_q, clr_l, isR_r, isR_n, isR_q, cat1_i, cat1_r, b0, b1, if_true, if_false, not_true, not_false_eq_true, reduceCtorEq, ite_self, and_true, true_and, and_false, false_and, or_true, true_or, or_false, false_or, mf_0, wr_0, mf_1, wr_1, mf_2, rd_2 hp, sh_2 hp, wr_2 hp, mf_3, rd_3 hp, sh_3 hp, wr_3 hp, mf_4, rd_4 hp, sh_4 hp, wr_4 hp, mf_5, rd_5 hp, sh_5 hp, wr_5 hp, mf_6, rd_6 hp, sh_6 hp, wr_6 hp, mf_7, rd_7 hp, sh_7 hp, wr_7 hp, mf_8, wr_8, mf_9, rd_9 hp, sh_9 hp, wr_9 hp, mf_10, rd_10 hp, sh_10 hp, wr_10 hp, mf_11, rd_11 hp, sh_11 hp, wr_11 hp, mf_12, rd_12 hp, sh_12 hp, wr_12 hp, mf_13, rd_13 hp, sh_13 hp, wr_13 hp, mf_14, wr_14, mf_15, wr_15, mf_16, mf_17, wr_17, mf_18, wr_18, mf_19, wr_19, mf_20, rd_20 hp, sh_20 hp, wr_20 hp, mf_21, wr_21, mf_22, rd_22 hp, sh_22 hp, wr_22 hp, mf_23, rd_23 hp, sh_23 hp, wr_23 hp, mf_24, rd_24 hp, sh_24 hp, wr_24 hp, mf_25, wr_25, mf_26, rd_26 hp, sh_26 hp, wr_26 hp, mf_27, rd_27 hp, sh_27 hp, wr_27 hp, mf_28, rd_28 hp, sh_28 hp, wr_28 hp, mf_29, rd_29 hp, sh_29 hp, wr_29 hp, mf_30, wr_30, mf_31, rd_31 hp, sh_31 hp, wr_31 hp, mf_32, wr_32, mf_33, rd_33 hp, sh_33 hp, wr_33 hp, mf_34, wr_34, mf_35, wr_35, mf_36, rd_36 hp, sh_36 hp, wr_36 hp, mf_37, rd_37 hp, sh_37 hp, wr_37 hp, mf_38, rd_38 hp, sh_38 hp, wr_38 hp, mf_39, rd_39 hp, sh_39 hp, wr_39 hp, mf_40, rd_40 hp, sh_40 hp, wr_40 hp, mf_41, wr_41, mM_p hp, sM_p hp, wM_p hp, sM_o, z25, g1]
      conv => lhs; simp only [x190_133, x190_134, x190_137, x190_139, x190_140, x190_141, x190_142, x190_143, x190_144, x190_145, x190_148, x190_149, x190_150, x190_151, x190_154, x190_155, x190_156, x190_159, x190_160, x190_163, x190_164, x190_165, x190_168, x190_169, x190_170, x190_171, x190_174, x190_175, x190_176, x190_179, x190_182, x190_184, x190_185, x190_188, bnd_some, Option.toList_some, Option.toList_none, List.cons_append, List.nil_append, List.singleton_append, clr_i, clr_r, clr_n, clr_0, clr_q, clr_l, isR_r, isR_n, isR_q, cat1_i, cat1_r, b0, b1, if_true, if_false, not_true, not_false_eq_true, reduceCtorEq, ite_self, and_true, true_and, and_false, false_and, or_true, true_or, or_false, false_or, mf_0, wr_0, mf_1, wr_1, mf_2, rd_2 hp, sh_2 hp, wr_2 hp, mf_3, rd_3 hp, sh_3 hp, wr_3 hp, mf_4, rd_4 hp, sh_4 hp, wr_4 hp, mf_5, rd_5 hp, sh_5 hp, wr_5 hp, mf_6, rd_6 hp, sh_6 hp, wr_6 hp, mf_7, rd_7 hp, sh_7 hp, wr_7 hp, mf_8, wr_8, mf_9, rd_9 hp, sh_9 hp, wr_9 hp, mf_10, rd_10 hp, sh_10 hp, wr_10 hp, mf_11, rd_11 hp, sh_11 hp, wr_11 hp, mf_12, rd_12 hp, sh_12 hp, wr_12 hp, mf_13, rd_13 hp, sh_13 hp, wr_13 hp, mf_14, wr_14, mf_15, wr_15, mf_16, mf_17, wr_17, mf_18, wr_18, mf_19, wr_19, mf_20, rd_20 hp, sh_20 hp, wr_20 hp, mf_21, wr_21, mf_22, rd_22 hp, sh_22 hp, wr_22 hp, mf_23, rd_23 hp, sh_23 hp, wr_23 hp, mf_24, rd_24 hp, sh_24 hp, wr_24 hp, mf_25, wr_25, mf_26, rd_26 hp, sh_26 hp, wr_26 hp, mf_27, rd_27 hp, sh_27 hp, wr_27 hp, mf_28, rd_28 hp, sh_28 hp, wr_28 hp, mf_29, rd_29 hp, sh_29 hp, wr_29 hp, mf_30, wr_30, mf_31, rd_31 hp, sh_31 hp, wr_31 hp, mf_32, wr_32, mf_33, rd_33 hp, sh_33 hp, wr_33 hp, mf_34, wr_34, mf_35, wr_35, mf_36, rd_36 hp, sh_36 hp, wr_36 hp, mf_37, rd_37 hp, sh_37 hp, wr_37 hp, mf_38, rd_38 hp, sh_38 hp, wr_38 hp, mf_39, rd_39 hp, sh_39 hp, wr_39 hp, mf_40, rd_40 hp, sh_40 hp, wr_40 hp, mf_41, wr_41, mM_p hp, sM_p hp, wM_p hp, sM_o, pk_mul, nI_add, hr, hrb, hc8, hcb, z22, z26, Q, hf, Q2, g2, g3]
    · rw [if_neg hf]
      conv => lhs; simp only [x190_125, x190_126, x190_127, x190_130, bnd_some, Option.toList_some, Option.toList_none, List.cons_append, List.nil_append, List.singleton_append, clr_i, clr_r, clr_n, clr_0, clr_q, clr_l, isR_r, isR_n, isR_q, cat1_i, cat1_r, b0, b1, if_true, if_false, not_true, not_false_eq_true, reduceCtorEq, ite_self, and_true, true_and, and_false, false_and, or_true, true_or, or_false, false_or, mf_0, wr_0, mf_1, wr_1, mf_2, rd_2 hp, sh_2 hp, wr_2 hp, mf_3, rd_3 hp, sh_3 hp, wr_3 hp, mf_4, rd_4 hp, sh_4 hp, wr_4 hp, mf_5, rd_5 hp, sh_5 hp, wr_5 hp, mf_6, rd_6 hp, sh_6 hp, wr_6 hp, mf_7, rd_7 hp, sh_7 hp, wr_7 hp, mf_8, wr_8, mf_9, rd_9 hp, sh_9 hp, wr_9 hp, mf_10, rd_10 hp, sh_10 hp, wr_10 hp, mf_11, rd_11 hp, sh_11 hp, wr_11 hp, mf_12, rd_12 hp, sh_12 hp, wr_12 hp, mf_13, rd_13 hp, sh_13 hp, wr_13 hp, mf_14, wr_14, mf_15, wr_15, mf_16, mf_17, wr_17, mf_18, wr_18, mf_19, wr_19, mf_20, rd_20 hp, sh_20 hp, wr_20 hp, mf_21, wr_21, mf_22, rd_22 hp, sh_22 hp, wr_22 hp, mf_23, rd_23 hp, sh_23 hp, wr_23 hp, mf_24, rd_24 hp, sh_24 hp, wr_24 hp, mf_25, wr_25, mf_26, rd_26 hp, sh_26 hp, wr_26 hp, mf_27, rd_27 hp, sh_27 hp, wr_27 hp, mf_28, rd_28 hp, sh_28 hp, wr_28 hp, mf_29, rd_29 hp, sh_29 hp, wr_29 hp, mf_30, wr_30, mf_31, rd_31 hp, sh_31 hp, wr_31 hp, mf_32, wr_32, mf_33, rd_33 hp, sh_33 hp, wr_33 hp, mf_34, wr_34, mf_35, wr_35, mf_36, rd_36 hp, sh_36 hp, wr_36 hp, mf_37, rd_37 hp, sh_37 hp, wr_37 hp, mf_38, rd_38 hp, sh_38 hp, wr_38 hp, mf_39, rd_39 hp, sh_39 hp, wr_39 hp, mf_40, rd_40 hp, sh_40 hp, wr_40 hp, mf_41, wr_41, mM_p hp, sM_p hp, wM_p hp, sM_o, z25, g1]
      conv => lhs; simp only [x190_133, x190_134, x190_137, x190_139, x190_140, x190_141, x190_142, x190_143, x190_144, x190_145, x190_148, x190_149, x190_150, x190_151, x190_154, x190_155, x190_156, x190_159, x190_160, x190_163, x190_164, x190_165, x190_168, x190_169, x190_170, x190_171, x190_174, x190_175, x190_176, x190_179, x190_182, x190_184, x190_185, x190_188, bnd_some, Option.toList_some, Option.toList_none, List.cons_append, List.nil_append, List.singleton_append, clr_i, clr_r, clr_n, clr_0, clr_q, clr_l, isR_r, isR_n, isR_q, cat1_i, cat1_r, b0, b1, if_true, if_false, not_true, not_false_eq_true, reduceCtorEq, ite_self, and_true, true_and, and_false, false_and, or_true, true_or, or_false, false_or, mf_0, wr_0, mf_1, wr_1, mf_2, rd_2 hp, sh_2 hp, wr_2 hp, mf_3, rd_3 hp, sh_3 hp, wr_3 hp, mf_4, rd_4 hp, sh_4 hp, wr_4 hp, mf_5, rd_5 hp, sh_5 hp, wr_5 hp, mf_6, rd_6 hp, sh_6 hp, wr_6 hp, mf_7, rd_7 hp, sh_7 hp, wr_7 hp, mf_8, wr_8, mf_9, rd_9 hp, sh_9 hp, wr_9 hp, mf_10, rd_10 hp, sh_10 hp, wr_10 hp, mf_11, rd_11 hp, sh_11 hp, wr_11 hp, mf_12, rd_12 hp, sh_12 hp, wr_12 hp, mf_13, rd_13 hp, sh_13 hp, wr_13 hp, mf_14, wr_14, mf_15, wr_15, mf_16, mf_17, wr_17, mf_18, wr_18, mf_19, wr_19, mf_20, rd_20 hp, sh_20 hp, wr_20 hp, mf_21, wr_21, mf_22, rd_22 hp, sh_22 hp, wr_22 hp, mf_23, rd_23 hp, sh_23 hp, wr_23 hp, mf_24, rd_24 hp, sh_24 hp, wr_24 hp, mf_25, wr_25, mf_26, rd_26 hp, sh_26 hp, wr_26 hp, mf_27, rd_27 hp, sh_27 hp, wr_27 hp, mf_28, rd_28 hp, sh_28 hp, wr_28 hp, mf_29, rd_29 hp, sh_29 hp, wr_29 hp, mf_30, wr_30, mf_31, rd_31 hp, sh_31 hp, wr_31 hp, mf_32, wr_32, mf_33, rd_33 hp, sh_33 hp, wr_33 hp, mf_34, wr_34, mf_35, wr_35, mf_36, rd_36 hp, sh_36 hp, wr_36 hp, mf_37, rd_37 hp, sh_37 hp, wr_37 hp, mf_38, rd_38 hp, sh_38 hp, wr_38 hp, mf_39, rd_39 hp, sh_39 hp, wr_39 hp, mf_40, rd_40 hp, sh_40 hp, wr_40 hp, mf_41, wr_41, mM_p hp, sM_p hp, wM_p hp, sM_o, pk_mul, nI_add, hr, hrb, hc8, hcb, z22, z26, Q, hf, g2, g3]
theorem m190_r {Z1 : St} {L : List Nat} {nr : Nat} (hp : Op o p) (ws : Wset S T) (hT : T ≤ 200) (hL : L.length ≤ 8) (hLm : ∀ x, x ∈ L → x < T) (h1 : ∀ f j, f ≠ 14 → f ≠ 15 → f ≠ 25 → f ≠ 26 → Z1 f j = S f j) (h25 : Z1 25 0 = nI L.length) (h26 : ∀ i, i < L.length → Z1 26 i = nI (L.getD i 0)) (hn : S 21 0 = nI nr) (hn7 : nr ≤ 7) (ha : ∀ r, r < nr → ∃ a, a < 40 ∧ S 22 r = nI a) : ∀ q r Z l2, r + q = nr → GQ S Z1 L r 0 Z → ∃ Z', ex (d + 3) 190 108 [some (.ref o), some (.int (nI r)), l2] [] (mM o p Z m0, sM o p pl s0, n, k) = some (none, (mM o p Z' m0, sM o p pl s0, n, k)) ∧ GQ S Z1 L nr 0 Z' := by
  intro q
  induction q with
  | zero =>
    intro r Z l2 hr gq
    have e : r = nr := by omega
    subst e
    have z21 : Z 21 0 = nI r := by rw [gq.1 21 0 (by decide) (by decide), h1 21 0 (by decide) (by decide) (by decide) (by decide)]; exact hn
    have g1 : nI r ≤ nI r := nI_le (Nat.le_refl _) (by omega)
    exact ⟨Z, by simp only [x190_108, x190_109, x190_110, x190_113, x190_197, bnd_some, Option.toList_some, Option.toList_none, List.cons_append, List.nil_append, List.singleton_append, clr_i, clr_r, clr_n, clr_0, clr_q, clr_l, isR_r, isR_n, isR_q, cat1_i, cat1_r, b0, b1, if_true, if_false, not_true, not_false_eq_true, reduceCtorEq, ite_self, and_true, true_and, and_false, false_and, or_true, true_or, or_false, false_or, mf_0, wr_0, mf_1, wr_1, mf_2, rd_2 hp, sh_2 hp, wr_2 hp, mf_3, rd_3 hp, sh_3 hp, wr_3 hp, mf_4, rd_4 hp, sh_4 hp, wr_4 hp, mf_5, rd_5 hp, sh_5 hp, wr_5 hp, mf_6, rd_6 hp, sh_6 hp, wr_6 hp, mf_7, rd_7 hp, sh_7 hp, wr_7 hp, mf_8, wr_8, mf_9, rd_9 hp, sh_9 hp, wr_9 hp, mf_10, rd_10 hp, sh_10 hp, wr_10 hp, mf_11, rd_11 hp, sh_11 hp, wr_11 hp, mf_12, rd_12 hp, sh_12 hp, wr_12 hp, mf_13, rd_13 hp, sh_13 hp, wr_13 hp, mf_14, wr_14, mf_15, wr_15, mf_16, mf_17, wr_17, mf_18, wr_18, mf_19, wr_19, mf_20, rd_20 hp, sh_20 hp, wr_20 hp, mf_21, wr_21, mf_22, rd_22 hp, sh_22 hp, wr_22 hp, mf_23, rd_23 hp, sh_23 hp, wr_23 hp, mf_24, rd_24 hp, sh_24 hp, wr_24 hp, mf_25, wr_25, mf_26, rd_26 hp, sh_26 hp, wr_26 hp, mf_27, rd_27 hp, sh_27 hp, wr_27 hp, mf_28, rd_28 hp, sh_28 hp, wr_28 hp, mf_29, rd_29 hp, sh_29 hp, wr_29 hp, mf_30, wr_30, mf_31, rd_31 hp, sh_31 hp, wr_31 hp, mf_32, wr_32, mf_33, rd_33 hp, sh_33 hp, wr_33 hp, mf_34, wr_34, mf_35, wr_35, mf_36, rd_36 hp, sh_36 hp, wr_36 hp, mf_37, rd_37 hp, sh_37 hp, wr_37 hp, mf_38, rd_38 hp, sh_38 hp, wr_38 hp, mf_39, rd_39 hp, sh_39 hp, wr_39 hp, mf_40, rd_40 hp, sh_40 hp, wr_40 hp, mf_41, wr_41, mM_p hp, sM_p hp, wM_p hp, sM_o, z21, g1], gq⟩
  | succ q ih =>
    intro r Z l2 hr gq
    have z21 : Z 21 0 = nI nr := by rw [gq.1 21 0 (by decide) (by decide), h1 21 0 (by decide) (by decide) (by decide) (by decide)]; exact hn
    have g1 : ¬ nI nr ≤ nI r := nI_ge (by omega) (by omega)
    have r7 : r < 7 := by omega
    have rb : r < 2147483648 := by omega
    obtain ⟨a, ha2, ha1⟩ := ha r (by omega)
    obtain ⟨Z2, i1, i2, i3⟩ := m190_c (d := d) (o := o) (p := p) (pl := pl) (n := n) (k := k) (m0 := m0) (s0 := s0) (S := S) (T := T) (Z1 := Z1) (L := L) (r := r) (a := a) hp ws hT hL hLm h1 h25 h26 r7 ha1 ha2 L.length 0 (sup Z 28 r (-1)) (by omega) ⟨fun f j a1 a2 => by rw [sup_f a2]; exact gq.1 f j a1 a2, fun x hx => by rw [sup_j (by omega)]; exact gq.2.1 x hx, fun x e he hq => by rw [sup_f (by decide)]; exact gq.2.2 x e he (by omega)⟩ sup_eq
    obtain ⟨Z', j1, j2⟩ := ih (r + 1) Z2 (some (.int (nI L.length))) (by omega) ⟨i2.1, fun x hx => by
      by_cases e : x = r
      · subst e; exact i3
      · exact i2.2.1 x (by omega), fun x e he hq => i2.2.2 x e he (by omega)⟩
    refine ⟨Z', ?_, j2⟩
    rw [← j1]
    conv => lhs; simp only [x190_108, x190_109, x190_110, x190_113, bnd_some, Option.toList_some, Option.toList_none, List.cons_append, List.nil_append, List.singleton_append, clr_i, clr_r, clr_n, clr_0, clr_q, clr_l, isR_r, isR_n, isR_q, cat1_i, cat1_r, b0, b1, if_true, if_false, not_true, not_false_eq_true, reduceCtorEq, ite_self, and_true, true_and, and_false, false_and, or_true, true_or, or_false, false_or, mf_0, wr_0, mf_1, wr_1, mf_2, rd_2 hp, sh_2 hp, wr_2 hp, mf_3, rd_3 hp, sh_3 hp, wr_3 hp, mf_4, rd_4 hp, sh_4 hp, wr_4 hp, mf_5, rd_5 hp, sh_5 hp, wr_5 hp, mf_6, rd_6 hp, sh_6 hp, wr_6 hp, mf_7, rd_7 hp, sh_7 hp, wr_7 hp, mf_8, wr_8, mf_9, rd_9 hp, sh_9 hp, wr_9 hp, mf_10, rd_10 hp, sh_10 hp, wr_10 hp, mf_11, rd_11 hp, sh_11 hp, wr_11 hp, mf_12, rd_12 hp, sh_12 hp, wr_12 hp, mf_13, rd_13 hp, sh_13 hp, wr_13 hp, mf_14, wr_14, mf_15, wr_15, mf_16, mf_17, wr_17, mf_18, wr_18, mf_19, wr_19, mf_20, rd_20 hp, sh_20 hp, wr_20 hp, mf_21, wr_21, mf_22, rd_22 hp, sh_22 hp, wr_22 hp, mf_23, rd_23 hp, sh_23 hp, wr_23 hp, mf_24, rd_24 hp, sh_24 hp, wr_24 hp, mf_25, wr_25, mf_26, rd_26 hp, sh_26 hp, wr_26 hp, mf_27, rd_27 hp, sh_27 hp, wr_27 hp, mf_28, rd_28 hp, sh_28 hp, wr_28 hp, mf_29, rd_29 hp, sh_29 hp, wr_29 hp, mf_30, wr_30, mf_31, rd_31 hp, sh_31 hp, wr_31 hp, mf_32, wr_32, mf_33, rd_33 hp, sh_33 hp, wr_33 hp, mf_34, wr_34, mf_35, wr_35, mf_36, rd_36 hp, sh_36 hp, wr_36 hp, mf_37, rd_37 hp, sh_37 hp, wr_37 hp, mf_38, rd_38 hp, sh_38 hp, wr_38 hp, mf_39, rd_39 hp, sh_39 hp, wr_39 hp, mf_40, rd_40 hp, sh_40 hp, wr_40 hp, mf_41, wr_41, mM_p hp, sM_p hp, wM_p hp, sM_o, z21, g1]
    conv => lhs; simp only [x190_116, x190_117, x190_120, x190_121, x190_122, x190_123, x190_124, bnd_some, Option.toList_some, Option.toList_none, List.cons_append, List.nil_append, List.singleton_append, clr_i, clr_r, clr_n, clr_0, clr_q, clr_l, isR_r, isR_n, isR_q, cat1_i, cat1_r, b0, b1, if_true, if_false, not_true, not_false_eq_true, reduceCtorEq, ite_self, and_true, true_and, and_false, false_and, or_true, true_or, or_false, false_or, mf_0, wr_0, mf_1, wr_1, mf_2, rd_2 hp, sh_2 hp, wr_2 hp, mf_3, rd_3 hp, sh_3 hp, wr_3 hp, mf_4, rd_4 hp, sh_4 hp, wr_4 hp, mf_5, rd_5 hp, sh_5 hp, wr_5 hp, mf_6, rd_6 hp, sh_6 hp, wr_6 hp, mf_7, rd_7 hp, sh_7 hp, wr_7 hp, mf_8, wr_8, mf_9, rd_9 hp, sh_9 hp, wr_9 hp, mf_10, rd_10 hp, sh_10 hp, wr_10 hp, mf_11, rd_11 hp, sh_11 hp, wr_11 hp, mf_12, rd_12 hp, sh_12 hp, wr_12 hp, mf_13, rd_13 hp, sh_13 hp, wr_13 hp, mf_14, wr_14, mf_15, wr_15, mf_16, mf_17, wr_17, mf_18, wr_18, mf_19, wr_19, mf_20, rd_20 hp, sh_20 hp, wr_20 hp, mf_21, wr_21, mf_22, rd_22 hp, sh_22 hp, wr_22 hp, mf_23, rd_23 hp, sh_23 hp, wr_23 hp, mf_24, rd_24 hp, sh_24 hp, wr_24 hp, mf_25, wr_25, mf_26, rd_26 hp, sh_26 hp, wr_26 hp, mf_27, rd_27 hp, sh_27 hp, wr_27 hp, mf_28, rd_28 hp, sh_28 hp, wr_28 hp, mf_29, rd_29 hp, sh_29 hp, wr_29 hp, mf_30, wr_30, mf_31, rd_31 hp, sh_31 hp, wr_31 hp, mf_32, wr_32, mf_33, rd_33 hp, sh_33 hp, wr_33 hp, mf_34, wr_34, mf_35, wr_35, mf_36, rd_36 hp, sh_36 hp, wr_36 hp, mf_37, rd_37 hp, sh_37 hp, wr_37 hp, mf_38, rd_38 hp, sh_38 hp, wr_38 hp, mf_39, rd_39 hp, sh_39 hp, wr_39 hp, mf_40, rd_40 hp, sh_40 hp, wr_40 hp, mf_41, wr_41, mM_p hp, sM_p hp, wM_p hp, sM_o, r7, rb]
    rw [i1]
    conv => lhs; simp only [x190_191, x190_194, bnd_some, Option.toList_some, Option.toList_none, List.cons_append, List.nil_append, List.singleton_append, clr_i, clr_r, clr_n, clr_0, clr_q, clr_l, isR_r, isR_n, isR_q, cat1_i, cat1_r, b0, b1, if_true, if_false, not_true, not_false_eq_true, reduceCtorEq, ite_self, and_true, true_and, and_false, false_and, or_true, true_or, or_false, false_or, nI_add]
theorem m190 {nr : Nat} (hp : Op o p) (hT : S 1 0 = nI T) (hT2 : T ≤ 200) (ws : Wset S T) (hn : S 21 0 = nI nr) (hn7 : nr ≤ 7) (ha : ∀ r, r < nr → ∃ a, a < 40 ∧ S 22 r = nI a) : ∃ Z, ex (d + 3) 190 0 [some (.ref o), none, none] [] (mM o p S m0, sM o p pl s0, n, k) = some (none, (mM o p Z m0, sM o p pl s0, n, k)) ∧ Gz S (gat S T) nr Z := by
  have h1 : ∀ f j, f ≠ 14 → f ≠ 15 → gS1 S f j = S f j := fun f j a b => by unfold gS1; rw [sup_f b, sup_f a]
  obtain ⟨Z1, t', i1, i2⟩ := m190_a (d := d) (o := o) (p := p) (pl := pl) (n := n) (k := k) (m0 := m0) (s0 := s0) (S := S) (S1 := gS1 S) hp h1 hT hT2 T 0 (sup (gS1 S) 25 0 (nI 0)) none (by omega) ⟨fun f j a b => sup_f a, sup_eq, fun i hi => absurd hi (by simp [gat])⟩
  obtain ⟨Z, j1, j2⟩ := m190_r (d := d) (o := o) (p := p) (pl := pl) (n := n) (k := k) (m0 := m0) (s0 := s0) (S := S) (T := T) (Z1 := Z1) (L := gat S T) hp ws hT2 (gat_len S T) (fun x hx => (gat_mem T x hx).1) (fun f j a b c e => by rw [i2.1 f j c e, h1 f j a b]) i2.2.1 i2.2.2 hn hn7 ha nr 0 Z1 none (by omega) ⟨fun _ _ _ _ => rfl, fun x hx => absurd hx (by omega), fun x e he hq => absurd hq (by omega)⟩
  refine ⟨Z, ?_, fun f j a b c e => by rw [j2.1 f j c e, i2.1 f j a b], by rw [j2.1 25 0 (by decide) (by decide)]; exact i2.2.1, fun i hi => by rw [j2.1 26 i (by decide) (by decide)]; exact i2.2.2 i hi, j2.2.1, fun x e hx he => j2.2.2 x e he (Or.inl hx)⟩
  rw [← j1]
  have e0 : ex (d + 3) 190 0 [some (.ref o), none, none] [] (mM o p S m0, sM o p pl s0, n, k) = ex (d + 3) 190 30 [some (.ref o), some (.int (nI 0)), none] [] (mM o p (sup (gS1 S) 25 0 (nI 0)) m0, sM o p pl s0, n, k) := by
    conv => lhs; simp only [x190_0, x190_1, x190_1i, x190_2, x190_5, x190_6, x190_7, x190_10, x190_11, x190_11i, x190_12, x190_15, x190_16, x190_19, x190_20, x190_23, x190_24, x190_25, x190_28, x190_29, bnd_some, Option.toList_some, Option.toList_none, List.cons_append, List.nil_append, List.singleton_append, clr_i, clr_r, clr_n, clr_0, clr_q, clr_l, isR_r, isR_n, isR_q, cat1_i, cat1_r, b0, b1, if_true, if_false, not_true, not_false_eq_true, reduceCtorEq, ite_self, and_true, true_and, and_false, false_and, or_true, true_or, or_false, false_or, mf_0, wr_0, mf_1, wr_1, mf_2, rd_2 hp, sh_2 hp, wr_2 hp, mf_3, rd_3 hp, sh_3 hp, wr_3 hp, mf_4, rd_4 hp, sh_4 hp, wr_4 hp, mf_5, rd_5 hp, sh_5 hp, wr_5 hp, mf_6, rd_6 hp, sh_6 hp, wr_6 hp, mf_7, rd_7 hp, sh_7 hp, wr_7 hp, mf_8, wr_8, mf_9, rd_9 hp, sh_9 hp, wr_9 hp, mf_10, rd_10 hp, sh_10 hp, wr_10 hp, mf_11, rd_11 hp, sh_11 hp, wr_11 hp, mf_12, rd_12 hp, sh_12 hp, wr_12 hp, mf_13, rd_13 hp, sh_13 hp, wr_13 hp, mf_14, wr_14, mf_15, wr_15, mf_16, mf_17, wr_17, mf_18, wr_18, mf_19, wr_19, mf_20, rd_20 hp, sh_20 hp, wr_20 hp, mf_21, wr_21, mf_22, rd_22 hp, sh_22 hp, wr_22 hp, mf_23, rd_23 hp, sh_23 hp, wr_23 hp, mf_24, rd_24 hp, sh_24 hp, wr_24 hp, mf_25, wr_25, mf_26, rd_26 hp, sh_26 hp, wr_26 hp, mf_27, rd_27 hp, sh_27 hp, wr_27 hp, mf_28, rd_28 hp, sh_28 hp, wr_28 hp, mf_29, rd_29 hp, sh_29 hp, wr_29 hp, mf_30, wr_30, mf_31, rd_31 hp, sh_31 hp, wr_31 hp, mf_32, wr_32, mf_33, rd_33 hp, sh_33 hp, wr_33 hp, mf_34, wr_34, mf_35, wr_35, mf_36, rd_36 hp, sh_36 hp, wr_36 hp, mf_37, rd_37 hp, sh_37 hp, wr_37 hp, mf_38, rd_38 hp, sh_38 hp, wr_38 hp, mf_39, rd_39 hp, sh_39 hp, wr_39 hp, mf_40, rd_40 hp, sh_40 hp, wr_40 hp, mf_41, wr_41, mM_p hp, sM_p hp, wM_p hp, sM_o, sup_eq, sup_f, not_false_eq_true, Nat.reduceEqDiff]
    rfl
  rw [e0, i1]
  conv => lhs; simp only [x190_106, x190_107, bnd_some, Option.toList_some, Option.toList_none, List.cons_append, List.nil_append, List.singleton_append, clr_i, clr_r, clr_n, clr_0, clr_q, clr_l, isR_r, isR_n, isR_q, cat1_i, cat1_r, b0, b1, if_true, if_false, not_true, not_false_eq_true, reduceCtorEq, ite_self, and_true, true_and, and_false, false_and, or_true, true_or, or_false, false_or]
end MS
