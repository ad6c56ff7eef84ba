/-! ===== the class: count, find ===== -/
def lw (C : St) (l y : Int32) : St := sup (sup C 15 0 l) 42 0 y
def bxK (G : Gh) (t : Nat) : Prop := G.kd t = 4 ∨ G.kd t = 5
def cnS (g : Nat → Int32 → Int32 × Int32) (G : Gh) (C : St) (r : Nat) : Nat → Nat → Int32 → Int32 → Int32 × Int32
  | 0, _, l, c => (l, c)
  | n + 1, s, l, c => match thI C r s with
    | none => cnS g G C r n (s + 1) l c
    | some t => if G.kd t = 4 ∨ G.kd t = 5 then cnS g G C r n (s + 1) (g t l).1 (c + (nI 1 + (g t l).2)) else cnS g G C r n (s + 1) l (c + (nI 1 + nI 0))
def cnF (G : Gh) (C : St) : Nat → Nat → Int32 → Int32 × Int32
  | 0, _, l => (l, nI 0)
  | f + 1, r, l => cnS (cnF G C f) G C r (G.sl r) 0 (l + nI 1) (nI 0)
def fnS' (g : Nat → Int32 → Option Nat × Int32) (G : Gh) (C : St) (P : Nat → Bool) (r : Nat) : Nat → Nat → Int32 → Option Nat × Int32
  | 0, _, l => (none, l)
  | n + 1, s, l => match thI C r s with
    | none => fnS' g G C P r n (s + 1) l
    | some t => if P t = true then (some t, l) else if G.kd t = 4 ∨ G.kd t = 5 then (match g t l with
        | (some x, l') => (some x, l')
        | (none, l') => fnS' g G C P r n (s + 1) l') else fnS' g G C P r n (s + 1) l
def fnF (G : Gh) (C : St) (P : Nat → Bool) : Nat → Nat → Int32 → Option Nat × Int32
  | 0, _, l => (none, l)
  | f + 1, r, l => fnS' (fnF G C P f) G C P r (G.sl r) 0 (l + nI 1)
section CS
variable {d n k : Nat} {G : Gh} {C : St} {m0 : Mm} {s0 : Nat → Nat × Nat}
theorem lw_f {l y : Int32} {f j : Nat} (h : f ≠ 15) (h2 : f ≠ 42) : lw C l y f j = C f j := by
  unfold lw
  rw [sup_f h2, sup_f h]
theorem lw2 {l y : Int32} {j : Nat} : lw C l y 2 j = C 2 j := lw_f (by decide) (by decide)
theorem lw7 {l y : Int32} {j : Nat} : lw C l y 7 j = C 7 j := lw_f (by decide) (by decide)
theorem lw8 {l y : Int32} {j : Nat} : lw C l y 8 j = C 8 j := lw_f (by decide) (by decide)
theorem OKC_lw {l y : Int32} (hK : OKC G C) : OKC G (lw C l y) := OKC_eq hK (fun f hf j => lw_f (by omega) (by omega))
theorem c100w {l y : Int32} (hG : OKG G) : ex d 100 0 [some (.ref (G.ad 1))] [] (cM G (lw C l y) m0, cS G s0, n, k) = some (none, (cM G (lw C (l + nI 1) (y + nI 1)) m0, cS G s0, n, k)) := by
  rw [c100 hG]
  unfold lw
  rw [sup_eq, sup_f (show ¬ 15 = 42 by decide), sup_eq, sup_com (f := 42) (g := 15) (by decide), sup_sup, sup_sup]
theorem c101w {l y : Int32} (hG : OKG G) : ex d 101 0 [some (.ref (G.ad 1))] [] (cM G (lw C l y) m0, cS G s0, n, k) = some (none, (cM G (lw C l (y - nI 1)) m0, cS G s0, n, k)) := by
  rw [c101 hG]
  unfold lw
  rw [sup_eq, sup_sup]
theorem c130 (hG : OKG G) (hK : OKC G C) : ∀ f dp r, dp + f = 9 → dep C G.T f r → lvR G r → ∀ l y, ex (d + f) 130 0 [some (.ref (G.ad 1)), some (.ref (aH G r)), some (.int (nI dp)), none, none, none] [] (cM G (lw C l y) m0, cS G s0, n, k) = some (some (.int (cnF G C f r l).2), (cM G (lw C (cnF G C f r l).1 y) m0, cS G s0, n, k)) := by
  have hT := okT hG
  intro f
  induction f with
  | zero => intro dp r _ h; exact h.elim
  | succ f ih =>
    intro dp r hd hp lv l y
    obtain ⟨h212, -, -, hs⟩ := hp
    have s4 := hG.2.2.2.2.1 r lv
    have sn := sN_c hG hK lv
    have g8 : nI dp ≤ nI 8 := nI_le (by omega) (by omega)
    have ed : d + (f + 1) = d + f + 1 := rfl
    have NN : ∀ dp2 l y, ex (d + f) 130 0 [some (.ref (G.ad 1)), some .null, some (.int dp2), none, none, none] [] (cM G (lw C l y) m0, cS G s0, n, k) = some (some (.int (nI 0)), (cM G (lw C l y) m0, cS G s0, n, k)) := fun dp2 l y => by
      simp only [x130_0, x130_0n, x130_0q, x130_1n, x130_1, x130_4, x130_5, x130_7, x130_10, x130_11, bnd_some, Option.toList_some, Option.toList_none, List.cons_append, List.nil_append, List.singleton_append, clr_i, clr_r, clr_n, clr_0, clr_q, clr_l, isR_r, isR_n, isR_q, cat1_i, cat1_r, b0, b1, if_true, if_false, not_true, not_false_eq_true, reduceCtorEq, ite_self, and_true, true_and, and_false, false_and, or_true, true_or, or_false, false_or]
    have L : ∀ u s l c l5, s + u = G.sl r → ex (d + f + 1) 130 21 [some (.ref (G.ad 1)), some (.ref (aH G r)), some (.int (nI dp)), some (.int c), some (.int (nI s)), l5] [] (cM G (lw C l (y + nI 1)) m0, cS G s0, n, k) = some (some (.int (cnS (cnF G C f) G C r u s l c).2), (cM G (lw C (cnS (cnF G C f) G C r u s l c).1 y) m0, cS G s0, n, k)) := by
      intro u
      induction u with
      | zero =>
        intro s l c l5 hsu
        have e : s = G.sl r := by omega
        subst e
        have h2 : nI (G.sl r) ≤ nI (G.sl r) := nI_le (Nat.le_refl _) (by omega)
        simp only [x130_21, x130_23, x130_23n, x130_23q, x130_24, x130_27, x130_28, x130_68, x130_69, x130_72, x130_73, bnd_some, Option.toList_some, Option.toList_none, List.cons_append, List.nil_append, List.singleton_append, clr_i, clr_r, clr_n, clr_0, clr_q, clr_l, isR_r, isR_n, isR_q, cat1_i, cat1_r, b0, b1, if_true, if_false, not_true, not_false_eq_true, reduceCtorEq, ite_self, and_true, true_and, and_false, false_and, or_true, true_or, or_false, false_or, k_sH hG, k_H_2 hG, k_sS hG, k_s1 hG, lv, tb21, h2, c101w hG, i_as]
        rfl
      | succ u ihu =>
        intro s l c l5 hsu
        have h1 : s < G.sl r := by omega
        have sb : s < 2147483648 := by omega
        have h2 : ¬ nI (G.sl r) ≤ nI s := nI_ge (by omega) (by omega)
        have e : cnS (cnF G C f) G C r (u + 1) s l c = match thI C r s with | none => cnS (cnF G C f) G C r u (s + 1) l c | some t => if G.kd t = 4 ∨ G.kd t = 5 then cnS (cnF G C f) G C r u (s + 1) (cnF G C f t l).1 (c + (nI 1 + (cnF G C f t l).2)) else cnS (cnF G C f) G C r u (s + 1) l (c + (nI 1 + nI 0)) := rfl
        rw [e]
        rcases hs s (by rw [sn]; exact h1) with h7 | ⟨t, ht, h7, hb⟩
        · rw [thI_n h7]
          simp only []
          rw [← ihu (s + 1) l c (some .null) (by omega)]
          conv => lhs; simp only [x130_21, x130_23, x130_23n, x130_23q, x130_24, x130_27, x130_28, bnd_some, Option.toList_some, Option.toList_none, List.cons_append, List.nil_append, List.singleton_append, clr_i, clr_r, clr_n, clr_0, clr_q, clr_l, isR_r, isR_n, isR_q, cat1_i, cat1_r, b0, b1, if_true, if_false, not_true, not_false_eq_true, reduceCtorEq, ite_self, and_true, true_and, and_false, false_and, or_true, true_or, or_false, false_or, k_sH hG, k_H_2 hG, k_sS hG, lv, tb21, h2]
          conv => lhs; simp only [x130_31, x130_31n, x130_31q, x130_32, x130_35, x130_37, x130_38, x130_38n, x130_38q, x130_40, x130_40n, x130_40q, x130_42n, x130_42, bnd_some, Option.toList_some, Option.toList_none, List.cons_append, List.nil_append, List.singleton_append, clr_i, clr_r, clr_n, clr_0, clr_q, clr_l, isR_r, isR_n, isR_q, cat1_i, cat1_r, b0, b1, if_true, if_false, not_true, not_false_eq_true, reduceCtorEq, ite_self, and_true, true_and, and_false, false_and, or_true, true_or, or_false, false_or, k_sH hG, k_H_2 hG, k_sS hG, k_S hG, lv, ta21, h1, sb, lw7, h7, rfT_n m1_0]
          conv => lhs; simp only [x130_62, x130_65, bnd_some, Option.toList_some, Option.toList_none, List.cons_append, List.nil_append, List.singleton_append, clr_i, clr_r, clr_n, clr_0, clr_q, clr_l, isR_r, isR_n, isR_q, cat1_i, cat1_r, b0, b1, if_true, if_false, not_true, not_false_eq_true, reduceCtorEq, ite_self, and_true, true_and, and_false, false_and, or_true, true_or, or_false, false_or, nI_add]
        · have tb : t < 2147483648 := by omega
          rw [thI_s h7 tb]
          simp only []
          by_cases hq : G.kd t = 4 ∨ G.kd t = 5
          · rw [if_pos hq]
            have hb' := hb (by rw [kdE hG hK ht (by omega), kdE hG hK ht (by omega)]; exact hq)
            have lvt : lvR G t := Or.inl ⟨ht, hq⟩
            have I := ih (dp + 1) t (by omega) hb' lvt l (y + nI 1)
            rw [← ihu (s + 1) (cnF G C f t l).1 (c + (nI 1 + (cnF G C f t l).2)) (some (.ref (aT G t))) (by omega)]
            conv => lhs; simp only [x130_21, x130_23, x130_23n, x130_23q, x130_24, x130_27, x130_28, bnd_some, Option.toList_some, Option.toList_none, List.cons_append, List.nil_append, List.singleton_append, clr_i, clr_r, clr_n, clr_0, clr_q, clr_l, isR_r, isR_n, isR_q, cat1_i, cat1_r, b0, b1, if_true, if_false, not_true, not_false_eq_true, reduceCtorEq, ite_self, and_true, true_and, and_false, false_and, or_true, true_or, or_false, false_or, k_sH hG, k_H_2 hG, k_sS hG, lv, tb21, h2]
            conv => lhs; simp only [x130_31, x130_31n, x130_31q, x130_32, x130_35, x130_37, x130_38, x130_38n, x130_38q, x130_40, x130_40n, x130_40q, x130_42n, x130_42, bnd_some, Option.toList_some, Option.toList_none, List.cons_append, List.nil_append, List.singleton_append, clr_i, clr_r, clr_n, clr_0, clr_q, clr_l, isR_r, isR_n, isR_q, cat1_i, cat1_r, b0, b1, if_true, if_false, not_true, not_false_eq_true, reduceCtorEq, ite_self, and_true, true_and, and_false, false_and, or_true, true_or, or_false, false_or, k_sH hG, k_H_2 hG, k_sS hG, k_S hG, lv, ta21, h1, sb, lw7, h7, rfT_r tb]
            conv => lhs; simp only [x130_45, x130_46, x130_47, x130_48, x130_48n, x130_48q, x130_50, x130_53, x130_54, x130_55, x130_56 (hv0 := isR_r), x130_56 (hv0 := isR_n), x130_59, x130_60, x130_61, bnd_some, Option.toList_some, Option.toList_none, List.cons_append, List.nil_append, List.singleton_append, clr_i, clr_r, clr_n, clr_0, clr_q, clr_l, isR_r, isR_n, isR_q, cat1_i, cat1_r, b0, b1, if_true, if_false, not_true, not_false_eq_true, reduceCtorEq, ite_self, and_true, true_and, and_false, false_and, or_true, true_or, or_false, false_or, k_s1 hG, k_sT hG, k_T_5 hG, isTh_tg, ht, hq, nI_add, I]
            conv => lhs; simp only [x130_62, x130_65, bnd_some, Option.toList_some, Option.toList_none, List.cons_append, List.nil_append, List.singleton_append, clr_i, clr_r, clr_n, clr_0, clr_q, clr_l, isR_r, isR_n, isR_q, cat1_i, cat1_r, b0, b1, if_true, if_false, not_true, not_false_eq_true, reduceCtorEq, ite_self, and_true, true_and, and_false, false_and, or_true, true_or, or_false, false_or, nI_add]
          · rw [if_neg hq]
            rw [← ihu (s + 1) l (c + (nI 1 + nI 0)) (some (.ref (aT G t))) (by omega)]
            conv => lhs; simp only [x130_21, x130_23, x130_23n, x130_23q, x130_24, x130_27, x130_28, bnd_some, Option.toList_some, Option.toList_none, List.cons_append, List.nil_append, List.singleton_append, clr_i, clr_r, clr_n, clr_0, clr_q, clr_l, isR_r, isR_n, isR_q, cat1_i, cat1_r, b0, b1, if_true, if_false, not_true, not_false_eq_true, reduceCtorEq, ite_self, and_true, true_and, and_false, false_and, or_true, true_or, or_false, false_or, k_sH hG, k_H_2 hG, k_sS hG, lv, tb21, h2]
            conv => lhs; simp only [x130_31, x130_31n, x130_31q, x130_32, x130_35, x130_37, x130_38, x130_38n, x130_38q, x130_40, x130_40n, x130_40q, x130_42n, x130_42, bnd_some, Option.toList_some, Option.toList_none, List.cons_append, List.nil_append, List.singleton_append, clr_i, clr_r, clr_n, clr_0, clr_q, clr_l, isR_r, isR_n, isR_q, cat1_i, cat1_r, b0, b1, if_true, if_false, not_true, not_false_eq_true, reduceCtorEq, ite_self, and_true, true_and, and_false, false_and, or_true, true_or, or_false, false_or, k_sH hG, k_H_2 hG, k_sS hG, k_S hG, lv, ta21, h1, sb, lw7, h7, rfT_r tb]
            conv => lhs; simp only [x130_45, x130_46, x130_47, x130_48, x130_48n, x130_48q, x130_50, x130_53, x130_54, x130_55, x130_56 (hv0 := isR_r), x130_56 (hv0 := isR_n), bnd_some, Option.toList_some, Option.toList_none, List.cons_append, List.nil_append, List.singleton_append, clr_i, clr_r, clr_n, clr_0, clr_q, clr_l, isR_r, isR_n, isR_q, cat1_i, cat1_r, b0, b1, if_true, if_false, not_true, not_false_eq_true, reduceCtorEq, ite_self, and_true, true_and, and_false, false_and, or_true, true_or, or_false, false_or, k_s1 hG, k_sT hG, k_T_5 hG, isTh_tg, ht, hq, NN]
            conv => lhs; simp only [x130_59, x130_60, x130_61, x130_62, x130_65, bnd_some, Option.toList_some, Option.toList_none, List.cons_append, List.nil_append, List.singleton_append, clr_i, clr_r, clr_n, clr_0, clr_q, clr_l, isR_r, isR_n, isR_q, cat1_i, cat1_r, b0, b1, if_true, if_false, not_true, not_false_eq_true, reduceCtorEq, ite_self, and_true, true_and, and_false, false_and, or_true, true_or, or_false, false_or, nI_add]
            rw [show nI 1 + nI 0 = nI (1 + 0) from nI_add ..]
    rw [ed]
    have L0 := L (G.sl r) 0 (l + nI 1) (nI 0) none (by omega)
    unfold cnF
    rw [← L0]
    conv => lhs; simp only [x130_0, x130_0n, x130_0q, x130_1n, x130_1, x130_4, x130_5, x130_7, x130_10, x130_11, x130_12, x130_13, x130_16, x130_17, x130_18, x130_19, bnd_some, Option.toList_some, Option.toList_none, List.cons_append, List.nil_append, List.singleton_append, clr_i, clr_r, clr_n, clr_0, clr_q, clr_l, isR_r, isR_n, isR_q, cat1_i, cat1_r, b0, b1, if_true, if_false, not_true, not_false_eq_true, reduceCtorEq, ite_self, and_true, true_and, and_false, false_and, or_true, true_or, or_false, false_or, k_s1 hG, g8, c100w hG]
theorem c79_0 {h : Int32} (hG : OKG G) (hK : OKC G C) (hr : rowI G.R G.T C h = none) : ex (d + 2) 79 0 [some (.ref (G.ad 1)), some (.int h), none, none] [] (cM G C m0, cS G s0, n, k) = rtC G m0 s0 n k (bdS C 1) := by
  simp only [x79_0, x79_1, x79_2, x79_5, x79_5n, x79_5q, x79_6, x79_6n, x79_6q, x79_7n, x79_7, x79_10, x79_11, x79_12, x79_15, bnd_some, Option.toList_some, Option.toList_none, List.cons_append, List.nil_append, List.singleton_append, clr_i, clr_r, clr_n, clr_0, clr_q, clr_l, isR_r, isR_n, isR_q, cat1_i, cat1_r, b0, b1, if_true, if_false, not_true, not_false_eq_true, reduceCtorEq, ite_self, and_true, true_and, and_false, false_and, or_true, true_or, or_false, false_or, k_1_0 hG, k_1_1 hG, k_1_1w hG, k_1_2 hG, k_1_3 hG, k_1_3w hG, k_1_4 hG, k_1_5 hG, k_1_5w hG, k_1_6 hG, k_1_7 hG, k_1_7w hG, k_1_8 hG, k_1_9 hG, k_1_9w hG, k_1_10 hG, k_1_11 hG, k_1_11w hG, k_1_12 hG, k_1_12w hG, k_1_13 hG, k_1_13w hG, k_1_14 hG, k_1_14w hG, k_1_15 hG, k_1_15w hG, k_1_16 hG, k_1_16w hG, k_7_0 hG, k_7_1 hG, k_7_2 hG, k_7_2w hG, k_7_3 hG, k_7_4 hG, k_7_5 hG, k_7_5w hG, k_7_6 hG, k_7_7 hG, k_7_8 hG, k_7_9 hG, k_7_10 hG, k_7_11 hG, k_7_12 hG, k_7_13 hG, k_7_14 hG, k_7_15 hG, k_7_15w hG, k_7_16 hG, k_7_17 hG, k_7_17w hG, k_s1 hG, k_s2 hG, k_s3 hG, k_s4 hG, k_s5 hG, k_s6 hG, k_s7 hG, k_s8 hG, k_s9 hG, k_s10 hG, k_s11 hG, k_s12 hG, k_s13 hG, k_s14 hG, k_s15 hG, k_s16 hG, k_s17 hG, k_s18 hG, k_s19 hG, k_s20 hG, k_s21 hG, k_2 hG, k_3 hG, k_4 hG, k_5 hG, k_6 hG, k_13 hG, k_14 hG, k_16 hG, k_8 hG, k_8w hG, k_9 hG, k_9w hG, k_10 hG, k_10w hG, k_11 hG, k_11w hG, k_12 hG, k_12w hG, k_15 hG, k_15w hG, k_17 hG, k_17w hG, k_18 hG, k_18w hG, k_19 hG, k_19w hG, k_20 hG, k_20w hG, k_21 hG, k_21w hG, k_P hG, k_Pw hG, k_sP hG, k_Q hG, k_Qw hG, k_sQ hG, k_G hG, k_Gw hG, k_sG hG, k_Z hG, k_Zw hG, k_sZ hG, k_I hG, k_Iw hG, k_sI hG, k_O hG, k_Ow hG, k_sO hG, k_V hG, k_Vw hG, k_sV hG, k_M hG, k_Mw hG, k_sM hG, k_S hG, k_Sw hG, k_Swn hG, k_sS hG, k_T_0 hG, k_T_1 hG, k_T_2 hG, k_T_3 hG, k_T_4 hG, k_T_5 hG, k_T_6 hG, k_T_7 hG, k_T_8 hG, k_T_6v hG, k_T_2w hG, k_T_4w hG, k_T_3w hG, k_T_3wn hG, k_sT hG, k_H_0 hG, k_H_1 hG, k_H_2 hG, k_sH hG, k_A_0 hG, k_sA hG, k_J_0 hG, k_J_1 hG, k_J_2 hG, k_J_2w hG, k_sJ hG, k_C hG, k_sC hG, isTh_tg, isTh1, isTh8, isTh9, zT, oT, oF, zT0, oF0, c87n hG hK hr, c84 hG, bdS, rtC]
theorem c79 {h : Int32} {r : Nat} (hG : OKG G) (hK : OKC G C) (hr : rowI G.R G.T C h = some r) (hd : dep C G.T 8 r) : ex (d + 9) 79 0 [some (.ref (G.ad 1)), some (.int h), none, none] [] (cM G C m0, cS G s0, n, k) = rtC G m0 s0 n k (fnS (lw (sup C 14 0 (C 14 0 + nI 1)) (cnF G C 8 r (C 15 0)).1 (C 42 0)) (cnF G C 8 r (C 15 0)).2) := by
  have lv := (rowI_lv hG hK hr).1
  have hK1 : OKC G (sup C 14 0 (C 14 0 + nI 1)) := OKC_eq hK (fun f hf j => sup_f (by omega))
  have ea : Aw C (sup C 14 0 (C 14 0 + nI 1)) := Aw_sup (by omega)
  have hd1 := dep_eq ea 8 r hd
  have I := c130 (d := d) (m0 := m0) (s0 := s0) (n := n) (k := k) hG hK1 8 1 r (by omega) hd1 lv (C 15 0) (C 42 0 + nI 1)
  have ec : ∀ f r l, cnF G (sup C 14 0 (C 14 0 + nI 1)) f r l = cnF G C f r l := by
    have et : ∀ r s, thI (sup C 14 0 (C 14 0 + nI 1)) r s = thI C r s := fun r s => thI_eq (fun j => sup_f (by decide)) r s
    intro f
    induction f with
    | zero => intro r l; rfl
    | succ f ih =>
      intro r l
      have es : ∀ u s l c, cnS (cnF G (sup C 14 0 (C 14 0 + nI 1)) f) G (sup C 14 0 (C 14 0 + nI 1)) r u s l c = cnS (cnF G C f) G C r u s l c := by
        intro u
        induction u with
        | zero => intro s l c; rfl
        | succ u ihu =>
          intro s l c
          unfold cnS
          rw [et]
          cases thI C r s with
          | none => exact ihu _ _ _
          | some t =>
            simp only [ih]
            split
            · exact ihu _ _ _
            · exact ihu _ _ _
      exact es _ _ _ _
  have e0 : sup (sup C 14 0 (C 14 0 + nI 1)) 42 0 (C 42 0 + nI 1) = lw (sup C 14 0 (C 14 0 + nI 1)) (C 15 0) (C 42 0 + nI 1) := by
    unfold lw
    have h := sup_idem (Z := sup C 14 0 (C 14 0 + nI 1)) (f := 15) (j := 0)
    rw [sup_f (by decide)] at h
    rw [h]
  have ed : d + 8 + 1 = d + 9 := rfl
  rw [ec] at I
  simp only [x79_0, x79_1, x79_2, x79_5, x79_5n, x79_5q, x79_6, x79_6n, x79_6q, x79_7n, x79_7, x79_10, x79_11, x79_12, x79_15, x79_16, x79_17, x79_20, x79_21, x79_21n, x79_21q, x79_22, x79_23 (hv0 := isR_r), x79_23 (hv0 := isR_n), x79_26, x79_27, x79_28, x79_31, x79_32, x79_33, x79_36, bnd_some, Option.toList_some, Option.toList_none, List.cons_append, List.nil_append, List.singleton_append, clr_i, clr_r, clr_n, clr_0, clr_q, clr_l, isR_r, isR_n, isR_q, cat1_i, cat1_r, b0, b1, if_true, if_false, not_true, not_false_eq_true, reduceCtorEq, ite_self, and_true, true_and, and_false, false_and, or_true, true_or, or_false, false_or, k_s1 hG, c87s hG hK hr, c99 hG, e0, I, c101w hG, i_as, c85 hG, fnS, rtC]
end CS
