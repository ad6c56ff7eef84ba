/-! ===== the class: find, all racks ===== -/
section CU
variable {d n k : Nat} {G : Gh} {C : St} {m0 : Mm} {s0 : Nat → Nat × Nat}
/-- all racks, one after another -/
def fnR (G : Gh) (C : St) (P : Nat → Bool) : Nat → Nat → Int32 → Option Nat × Int32
  | 0, _, l => (none, l)
  | u + 1, r, l => match fnF G C P 8 (200 + r) l with
    | (some x, l') => (some x, l')
    | (none, l') => fnR G C P u (r + 1) l'
theorem clr_ao {ao : Option Nat} : clr (some (acO G ao)) = some (acO G ao) := by cases ao <;> rfl
theorem c78_0 {a kd : Int32} (hG : OKG G) (hK : OKC G C) (hx : ixI G.A a = none) (ha : ¬ a = -1) : ex (d + 2) 78 0 [some (.ref (G.ad 1)), some (.int a), some (.int kd), none, none, none] [] (cM G C m0, cS G s0, n, k) = rtC G m0 s0 n k (bdS C 10) := by
  simp only [x78_0, x78_1, x78_2, x78_5, x78_5n, x78_5q, x78_6, x78_6n, x78_6q, x78_7n, x78_7, x78_10, x78_11, x78_12, x78_15, x78_16, x78_18, x78_21, bnd_some, Option.toList_some, Option.toList_none, List.cons_append, List.nil_append, List.singleton_append, clr_i, clr_r, clr_n, clr_0, clr_q, clr_l, isR_r, isR_n, isR_q, cat1_i, cat1_r, b0, b1, if_true, if_false, not_true, not_false_eq_true, reduceCtorEq, ite_self, and_true, true_and, and_false, false_and, or_true, true_or, or_false, false_or, k_1_0 hG, k_1_1 hG, k_1_1w hG, k_1_2 hG, k_1_3 hG, k_1_3w hG, k_1_4 hG, k_1_5 hG, k_1_5w hG, k_1_6 hG, k_1_7 hG, k_1_7w hG, k_1_8 hG, k_1_9 hG, k_1_9w hG, k_1_10 hG, k_1_11 hG, k_1_11w hG, k_1_12 hG, k_1_12w hG, k_1_13 hG, k_1_13w hG, k_1_14 hG, k_1_14w hG, k_1_15 hG, k_1_15w hG, k_1_16 hG, k_1_16w hG, k_7_0 hG, k_7_1 hG, k_7_2 hG, k_7_2w hG, k_7_3 hG, k_7_4 hG, k_7_5 hG, k_7_5w hG, k_7_6 hG, k_7_7 hG, k_7_8 hG, k_7_9 hG, k_7_10 hG, k_7_11 hG, k_7_12 hG, k_7_13 hG, k_7_14 hG, k_7_15 hG, k_7_15w hG, k_7_16 hG, k_7_17 hG, k_7_17w hG, k_s1 hG, k_s2 hG, k_s3 hG, k_s4 hG, k_s5 hG, k_s6 hG, k_s7 hG, k_s8 hG, k_s9 hG, k_s10 hG, k_s11 hG, k_s12 hG, k_s13 hG, k_s14 hG, k_s15 hG, k_s16 hG, k_s17 hG, k_s18 hG, k_s19 hG, k_s20 hG, k_s21 hG, k_2 hG, k_3 hG, k_4 hG, k_5 hG, k_6 hG, k_13 hG, k_14 hG, k_16 hG, k_8 hG, k_8w hG, k_9 hG, k_9w hG, k_10 hG, k_10w hG, k_11 hG, k_11w hG, k_12 hG, k_12w hG, k_15 hG, k_15w hG, k_17 hG, k_17w hG, k_18 hG, k_18w hG, k_19 hG, k_19w hG, k_20 hG, k_20w hG, k_21 hG, k_21w hG, k_P hG, k_Pw hG, k_sP hG, k_Q hG, k_Qw hG, k_sQ hG, k_G hG, k_Gw hG, k_sG hG, k_Z hG, k_Zw hG, k_sZ hG, k_I hG, k_Iw hG, k_sI hG, k_O hG, k_Ow hG, k_sO hG, k_V hG, k_Vw hG, k_sV hG, k_M hG, k_Mw hG, k_sM hG, k_S hG, k_Sw hG, k_Swn hG, k_sS hG, k_T_0 hG, k_T_1 hG, k_T_2 hG, k_T_3 hG, k_T_4 hG, k_T_5 hG, k_T_6 hG, k_T_7 hG, k_T_8 hG, k_T_6v hG, k_T_2w hG, k_T_4w hG, k_T_3w hG, k_T_3wn hG, k_sT hG, k_H_0 hG, k_H_1 hG, k_H_2 hG, k_sH hG, k_A_0 hG, k_sA hG, k_J_0 hG, k_J_1 hG, k_J_2 hG, k_J_2w hG, k_sJ hG, k_C hG, k_sC hG, isTh_tg, isTh1, isTh8, isTh9, zT, oT, oF, zT0, oF0, c88n hG hK hx, ha, c84 hG, bdS, rtC]
theorem c78_g {a : Int32} {ao : Option Nat} {kd : Int32} (hG : OKG G) (hK : OKC G C) (ha : (a = -1 ∧ ao = none) ∨ ∃ i, i < G.A ∧ a = nI i ∧ ao = some i) : ex (d + 2) 78 0 [some (.ref (G.ad 1)), some (.int a), some (.int kd), none, none, none] [] (cM G C m0, cS G s0, n, k) = ex (d + 2) 78 22 [some (.ref (G.ad 1)), some (.int a), some (.int kd), some (acO G ao), none, none] [] (cM G C m0, cS G s0, n, k) := by
  rcases ha with ⟨rfl, rfl⟩ | ⟨i, hi, rfl, rfl⟩
  · have hx : ixI G.A (-1) = none := by unfold ixI; rw [if_pos m1_0]
    simp only [acO]
    conv => lhs; simp only [x78_0, x78_1, x78_2, x78_5, x78_5n, x78_5q, x78_6, x78_6n, x78_6q, x78_7n, x78_7, x78_10, x78_11, x78_12, bnd_some, Option.toList_some, Option.toList_none, List.cons_append, List.nil_append, List.singleton_append, clr_i, clr_r, clr_n, clr_0, clr_q, clr_l, isR_r, isR_n, isR_q, cat1_i, cat1_r, b0, b1, if_true, if_false, not_true, not_false_eq_true, reduceCtorEq, ite_self, and_true, true_and, and_false, false_and, or_true, true_or, or_false, false_or, k_1_0 hG, k_1_1 hG, k_1_1w hG, k_1_2 hG, k_1_3 hG, k_1_3w hG, k_1_4 hG, k_1_5 hG, k_1_5w hG, k_1_6 hG, k_1_7 hG, k_1_7w hG, k_1_8 hG, k_1_9 hG, k_1_9w hG, k_1_10 hG, k_1_11 hG, k_1_11w hG, k_1_12 hG, k_1_12w hG, k_1_13 hG, k_1_13w hG, k_1_14 hG, k_1_14w hG, k_1_15 hG, k_1_15w hG, k_1_16 hG, k_1_16w hG, k_7_0 hG, k_7_1 hG, k_7_2 hG, k_7_2w hG, k_7_3 hG, k_7_4 hG, k_7_5 hG, k_7_5w hG, k_7_6 hG, k_7_7 hG, k_7_8 hG, k_7_9 hG, k_7_10 hG, k_7_11 hG, k_7_12 hG, k_7_13 hG, k_7_14 hG, k_7_15 hG, k_7_15w hG, k_7_16 hG, k_7_17 hG, k_7_17w hG, k_s1 hG, k_s2 hG, k_s3 hG, k_s4 hG, k_s5 hG, k_s6 hG, k_s7 hG, k_s8 hG, k_s9 hG, k_s10 hG, k_s11 hG, k_s12 hG, k_s13 hG, k_s14 hG, k_s15 hG, k_s16 hG, k_s17 hG, k_s18 hG, k_s19 hG, k_s20 hG, k_s21 hG, k_2 hG, k_3 hG, k_4 hG, k_5 hG, k_6 hG, k_13 hG, k_14 hG, k_16 hG, k_8 hG, k_8w hG, k_9 hG, k_9w hG, k_10 hG, k_10w hG, k_11 hG, k_11w hG, k_12 hG, k_12w hG, k_15 hG, k_15w hG, k_17 hG, k_17w hG, k_18 hG, k_18w hG, k_19 hG, k_19w hG, k_20 hG, k_20w hG, k_21 hG, k_21w hG, k_P hG, k_Pw hG, k_sP hG, k_Q hG, k_Qw hG, k_sQ hG, k_G hG, k_Gw hG, k_sG hG, k_Z hG, k_Zw hG, k_sZ hG, k_I hG, k_Iw hG, k_sI hG, k_O hG, k_Ow hG, k_sO hG, k_V hG, k_Vw hG, k_sV hG, k_M hG, k_Mw hG, k_sM hG, k_S hG, k_Sw hG, k_Swn hG, k_sS hG, k_T_0 hG, k_T_1 hG, k_T_2 hG, k_T_3 hG, k_T_4 hG, k_T_5 hG, k_T_6 hG, k_T_7 hG, k_T_8 hG, k_T_6v hG, k_T_2w hG, k_T_4w hG, k_T_3w hG, k_T_3wn hG, k_sT hG, k_H_0 hG, k_H_1 hG, k_H_2 hG, k_sH hG, k_A_0 hG, k_sA hG, k_J_0 hG, k_J_1 hG, k_J_2 hG, k_J_2w hG, k_sJ hG, k_C hG, k_sC hG, isTh_tg, isTh1, isTh8, isTh9, zT, oT, oF, zT0, oF0, c88n hG hK hx]
  · simp only [acO]
    conv => lhs; simp only [x78_0, x78_1, x78_2, x78_5, x78_5n, x78_5q, x78_6, x78_6n, x78_6q, x78_7n, x78_7, x78_10, x78_11, x78_12, bnd_some, Option.toList_some, Option.toList_none, List.cons_append, List.nil_append, List.singleton_append, clr_i, clr_r, clr_n, clr_0, clr_q, clr_l, isR_r, isR_n, isR_q, cat1_i, cat1_r, b0, b1, if_true, if_false, not_true, not_false_eq_true, reduceCtorEq, ite_self, and_true, true_and, and_false, false_and, or_true, true_or, or_false, false_or, k_1_0 hG, k_1_1 hG, k_1_1w hG, k_1_2 hG, k_1_3 hG, k_1_3w hG, k_1_4 hG, k_1_5 hG, k_1_5w hG, k_1_6 hG, k_1_7 hG, k_1_7w hG, k_1_8 hG, k_1_9 hG, k_1_9w hG, k_1_10 hG, k_1_11 hG, k_1_11w hG, k_1_12 hG, k_1_12w hG, k_1_13 hG, k_1_13w hG, k_1_14 hG, k_1_14w hG, k_1_15 hG, k_1_15w hG, k_1_16 hG, k_1_16w hG, k_7_0 hG, k_7_1 hG, k_7_2 hG, k_7_2w hG, k_7_3 hG, k_7_4 hG, k_7_5 hG, k_7_5w hG, k_7_6 hG, k_7_7 hG, k_7_8 hG, k_7_9 hG, k_7_10 hG, k_7_11 hG, k_7_12 hG, k_7_13 hG, k_7_14 hG, k_7_15 hG, k_7_15w hG, k_7_16 hG, k_7_17 hG, k_7_17w hG, k_s1 hG, k_s2 hG, k_s3 hG, k_s4 hG, k_s5 hG, k_s6 hG, k_s7 hG, k_s8 hG, k_s9 hG, k_s10 hG, k_s11 hG, k_s12 hG, k_s13 hG, k_s14 hG, k_s15 hG, k_s16 hG, k_s17 hG, k_s18 hG, k_s19 hG, k_s20 hG, k_s21 hG, k_2 hG, k_3 hG, k_4 hG, k_5 hG, k_6 hG, k_13 hG, k_14 hG, k_16 hG, k_8 hG, k_8w hG, k_9 hG, k_9w hG, k_10 hG, k_10w hG, k_11 hG, k_11w hG, k_12 hG, k_12w hG, k_15 hG, k_15w hG, k_17 hG, k_17w hG, k_18 hG, k_18w hG, k_19 hG, k_19w hG, k_20 hG, k_20w hG, k_21 hG, k_21w hG, k_P hG, k_Pw hG, k_sP hG, k_Q hG, k_Qw hG, k_sQ hG, k_G hG, k_Gw hG, k_sG hG, k_Z hG, k_Zw hG, k_sZ hG, k_I hG, k_Iw hG, k_sI hG, k_O hG, k_Ow hG, k_sO hG, k_V hG, k_Vw hG, k_sV hG, k_M hG, k_Mw hG, k_sM hG, k_S hG, k_Sw hG, k_Swn hG, k_sS hG, k_T_0 hG, k_T_1 hG, k_T_2 hG, k_T_3 hG, k_T_4 hG, k_T_5 hG, k_T_6 hG, k_T_7 hG, k_T_8 hG, k_T_6v hG, k_T_2w hG, k_T_4w hG, k_T_3w hG, k_T_3wn hG, k_sT hG, k_H_0 hG, k_H_1 hG, k_H_2 hG, k_sH hG, k_A_0 hG, k_sA hG, k_J_0 hG, k_J_1 hG, k_J_2 hG, k_J_2w hG, k_sJ hG, k_C hG, k_sC hG, isTh_tg, isTh1, isTh8, isTh9, zT, oT, oF, zT0, oF0, c88s hG hK hi]
theorem c78_1 {a kd : Int32} {ao : Option Nat} (hG : OKG G) (hK : OKC G C) (ha : (a = -1 ∧ ao = none) ∨ ∃ i, i < G.A ∧ a = nI i ∧ ao = some i) (hk : ixR 0 4 kd = none) : ex (d + 2) 78 0 [some (.ref (G.ad 1)), some (.int a), some (.int kd), none, none, none] [] (cM G C m0, cS G s0, n, k) = rtC G m0 s0 n k (bdS C 6) := by
  rw [c78_g hG hK ha]
  simp only [x78_22, x78_23, x78_24, x78_25, x78_28, x78_31, x78_32, x78_34, x78_37, bnd_some, Option.toList_some, Option.toList_none, List.cons_append, List.nil_append, List.singleton_append, clr_i, clr_r, clr_n, clr_0, clr_q, clr_l, isR_r, isR_n, isR_q, cat1_i, cat1_r, b0, b1, if_true, if_false, not_true, not_false_eq_true, reduceCtorEq, ite_self, and_true, true_and, and_false, false_and, or_true, true_or, or_false, false_or, k_s1 hG, c92, b2_R, b2_0, hk, c84 hG, bdS, rtC]
theorem fnF_lt {P : Nat → Bool} (hG : OKG G) (hK : OKC G C) : ∀ f r l x, dep C G.T f r → lvR G r → (fnF G C P f r l).1 = some x → x < G.T := by
  have hT := okT hG
  intro f
  induction f with
  | zero => intro r l x h; exact h.elim
  | succ f ih =>
    intro r l x hp lv hx
    obtain ⟨-, h6, h40, hs⟩ := hp
    unfold fnF at hx
    have sn := sN_c hG hK lv
    have key : ∀ u s l, s + u = G.sl r → (fnS' (fnF G C P f) G C P r u s l).1 = some x → x < G.T := by
      intro u
      induction u with
      | zero => intro s l _ h; cases h
      | succ u ihu =>
        intro s l hsu h
        unfold fnS' at h
        rcases hs s (by rw [sn]; omega) with h7 | ⟨t, ht, h7, hb⟩
        · rw [thI_n h7] at h
          exact ihu (s + 1) l (by omega) h
        · rw [thI_s h7 (by omega)] at h
          simp only [] at h
          split at h
          · cases h; exact ht
          · split at h
            · rename_i hq
              have hb' := hb (by rw [kdE hG hK ht (by omega), kdE hG hK ht (by omega)]; exact hq)
              cases hfo : fnF G C P f t l with
              | mk fo l' =>
                rw [hfo] at h
                cases fo with
                | none => exact ihu (s + 1) l' (by omega) h
                | some z =>
                  simp only [] at h
                  have h2 : some z = some x := h
                  exact ih t l x hb' (Or.inl ⟨ht, hq⟩) (by rw [hfo]; exact h2)
            · exact ihu (s + 1) l (by omega) h
    exact key (G.sl r) 0 _ (by omega) hx
theorem c78_e {a : Int32} {ao fo : Option Nat} {kd s : Nat} {l y : Int32} (hG : OKG G) (hfo : ∀ x, fo = some x → x < G.T) : ex (d + 13) 78 84 [some (.ref (G.ad 1)), some (.int a), some (.int (nI kd)), some (acO G ao), some (thO G fo), some (.int (nI s))] [] (cM G (lw C l (y + nI 1)) m0, cS G s0, n, k) = rtC G m0 s0 n k (match fo with | none => bdS (lw C l y) 3 | some x => fnS (lw C l y) (nI x)) := by
  cases fo with
  | none => simp only [x78_84, x78_85, x78_88, x78_88n, x78_88q, x78_90n, x78_90, x78_93, x78_94, x78_95, x78_98, x78_101, x78_102, x78_102n, x78_102q, x78_104, x78_107, x78_110, bnd_some, Option.toList_some, Option.toList_none, List.cons_append, List.nil_append, List.singleton_append, clr_i, clr_r, clr_n, clr_0, clr_q, clr_l, isR_r, isR_n, isR_q, cat1_i, cat1_r, b0, b1, if_true, if_false, not_true, not_false_eq_true, reduceCtorEq, ite_self, and_true, true_and, and_false, false_and, or_true, true_or, or_false, false_or, thO, k_s1 hG, c101w hG, i_as, c84 hG, bdS, rtC]
  | some x =>
    have hx := hfo x rfl
    simp only [x78_84, x78_85, x78_88, x78_88n, x78_88q, x78_90n, x78_90, x78_93, x78_94, x78_95, x78_98, x78_101, x78_102, x78_102n, x78_102q, x78_104, x78_107, x78_110, bnd_some, Option.toList_some, Option.toList_none, List.cons_append, List.nil_append, List.singleton_append, clr_i, clr_r, clr_n, clr_0, clr_q, clr_l, isR_r, isR_n, isR_q, cat1_i, cat1_r, b0, b1, if_true, if_false, not_true, not_false_eq_true, reduceCtorEq, ite_self, and_true, true_and, and_false, false_and, or_true, true_or, or_false, false_or, thO, k_s1 hG, k_sT hG, k_T_0 hG, isTh_tg, hx, c101w hG, i_as, c85 hG, fnS, rtC]
theorem c78_l {a : Int32} {ao : Option Nat} {kd : Nat} {y : Int32} (hG : OKG G) (hK : OKC G C) (ws : Wset C G.T) (w4 : W4 G) (hd : ∀ r, r < G.R → dep C G.T 8 (200 + r)) (ha : ∀ i, ao = some i → i < G.A) (hkd : kd ≤ 4) : ∀ u r l, r + u = G.R → ex (d + 13) 78 48 [some (.ref (G.ad 1)), some (.int a), some (.int (nI kd)), some (acO G ao), some .null, some (.int (nI r))] [] (cM G (lw C l (y + nI 1)) m0, cS G s0, n, k) = rtC G m0 s0 n k (match (fnR G C (isB C ao (nI kd)) u r l).1 with | none => bdS (lw C (fnR G C (isB C ao (nI kd)) u r l).2 y) 3 | some x => fnS (lw C (fnR G C (isB C ao (nI kd)) u r l).2 y) (nI x)) := by
  have hR := okR hG
  have h8 : C 8 0 = nI G.R := hK.1.2.1
  have AR : isR (acO G ao) = true := by cases ao <;> rfl
  have A2 : ∀ l2 l4 l5 st h, ex (d + 13) 78 70 [some (.ref (G.ad 1)), some (.int a), l2, some (acO G ao), l4, l5] st h = ex (d + 13) 78 71 [some (.ref (G.ad 1)), some (.int a), l2, some (acO G ao), l4, l5] (acO G ao :: st) h := by
    intro l2 l4 l5 st h
    rcases acO_cs (G := G) (a := ao) with ha' | ⟨b', ha'⟩ <;> rw [ha'] <;> simp only [x78_70, x78_70n, x78_70q]
  intro u
  induction u with
  | zero =>
    intro r l hr
    have e : r = G.R := by omega
    subst e
    have g : nI G.R ≤ nI G.R := nI_le (Nat.le_refl _) (by omega)
    have E := c78_e (d := d) (C := C) (m0 := m0) (s0 := s0) (n := n) (k := k) (a := a) (ao := ao) (fo := none) (kd := kd) (s := G.R) (l := l) (y := y) hG (fun x h => by cases h)
    unfold fnR
    simp only [thO] at E
    simp only []
    rw [← E]
    conv => lhs; simp only [x78_48, x78_50, x78_51, x78_54, bnd_some, Option.toList_some, Option.toList_none, List.cons_append, List.nil_append, List.singleton_append, clr_i, clr_r, clr_n, clr_0, clr_q, clr_l, isR_r, isR_n, isR_q, cat1_i, cat1_r, b0, b1, if_true, if_false, not_true, not_false_eq_true, reduceCtorEq, ite_self, and_true, true_and, and_false, false_and, or_true, true_or, or_false, false_or, k_s1 hG, k_1_3 hG, lw8, h8, g]
  | succ u ih =>
    intro r l hr
    have g : ¬ nI G.R ≤ nI r := nI_ge (by omega) (by omega)
    have r12 : r < 12 := by omega
    have rb : r < 2147483648 := by omega
    have hr' : r < G.R := by omega
    have lv : lvR G (200 + r) := Or.inr ⟨by omega, by omega⟩
    have I := c129 (d := d) (m0 := m0) (s0 := s0) (n := n) (k := k) (a := ao) hG hK ws w4 ha hkd 8 1 (200 + r) (by omega) (hd r hr') lv l (y + nI 1)
    have lt := fun x => fnF_lt (P := isB C ao (nI kd)) hG hK 8 (200 + r) l x (hd r hr') lv
    have ed : d + 4 + 8 = d + 12 := by omega
    rw [ed] at I
    have go : ex (d + 13) 78 48 [some (.ref (G.ad 1)), some (.int a), some (.int (nI kd)), some (acO G ao), some .null, some (.int (nI r))] [] (cM G (lw C l (y + nI 1)) m0, cS G s0, n, k) = ex (d + 13) 78 76 [some (.ref (G.ad 1)), some (.int a), some (.int (nI kd)), some (acO G ao), some .null, some (.int (nI r))] [thO G (fnF G C (isB C ao (nI kd)) 8 (200 + r) l).1] (cM G (lw C (fnF G C (isB C ao (nI kd)) 8 (200 + r) l).2 (y + nI 1)) m0, cS G s0, n, k) := by
      conv => lhs; simp only [x78_48, x78_50, x78_51, x78_54, x78_57, x78_57n, x78_57q, x78_59n, x78_59, x78_62, x78_63, x78_64, x78_67, x78_69, bnd_some, Option.toList_some, Option.toList_none, List.cons_append, List.nil_append, List.singleton_append, clr_i, clr_r, clr_n, clr_0, clr_q, clr_l, isR_r, isR_n, isR_q, cat1_i, cat1_r, b0, b1, if_true, if_false, not_true, not_false_eq_true, reduceCtorEq, ite_self, and_true, true_and, and_false, false_and, or_true, true_or, or_false, false_or, k_s1 hG, k_1_3 hG, k_1_2 hG, k_s3 hG, k_3 hG, lw8, h8, g, ta22, r12, rb, hr']
      rw [A2]
      conv => lhs; simp only [x78_71, x78_72, bnd_some, Option.toList_some, Option.toList_none, List.cons_append, List.nil_append, List.singleton_append, clr_i, clr_r, clr_n, clr_0, clr_q, clr_l, isR_r, isR_n, isR_q, cat1_i, cat1_r, b0, b1, if_true, if_false, not_true, not_false_eq_true, reduceCtorEq, ite_self, and_true, true_and, and_false, false_and, or_true, true_or, or_false, false_or]
      rw [x78_73 (hv0 := isR_r) (hv1 := AR) (ht := by show (cS G s0 (G.ad 1)).1 = 10; rw [k_s1 hG]), I, bnd_some]
      rfl
    rw [go]
    cases hfo : fnF G C (isB C ao (nI kd)) 8 (200 + r) l with
    | mk fo l' =>
      rw [hfo] at lt
      unfold fnR
      rw [hfo]
      cases fo with
      | none =>
        simp only []
        rw [← ih (r + 1) l' (by omega)]
        conv => lhs; simp only [x78_76, x78_76n, x78_76q, x78_78, x78_81, bnd_some, Option.toList_some, Option.toList_none, List.cons_append, List.nil_append, List.singleton_append, clr_i, clr_r, clr_n, clr_0, clr_q, clr_l, isR_r, isR_n, isR_q, cat1_i, cat1_r, b0, b1, if_true, if_false, not_true, not_false_eq_true, reduceCtorEq, ite_self, and_true, true_and, and_false, false_and, or_true, true_or, or_false, false_or, thO, clr_ao, nI_add]
      | some x =>
        have E := c78_e (d := d) (C := C) (m0 := m0) (s0 := s0) (n := n) (k := k) (a := a) (ao := ao) (fo := some x) (kd := kd) (s := r + 1) (l := l') (y := y) hG (fun z h => by cases h; exact lt x rfl)
        simp only [thO] at E
        simp only []
        rw [← E]
        conv => lhs; simp only [x78_76, x78_76n, x78_76q, x78_78, x78_81, bnd_some, Option.toList_some, Option.toList_none, List.cons_append, List.nil_append, List.singleton_append, clr_i, clr_r, clr_n, clr_0, clr_q, clr_l, isR_r, isR_n, isR_q, cat1_i, cat1_r, b0, b1, if_true, if_false, not_true, not_false_eq_true, reduceCtorEq, ite_self, and_true, true_and, and_false, false_and, or_true, true_or, or_false, false_or, thO, clr_ao, nI_add]
        by_cases q : r + 1 = G.R
        · have g2 : nI G.R ≤ nI (r + 1) := nI_le (by omega) (by omega)
          conv => lhs; simp only [x78_48, x78_50, x78_51, x78_54, bnd_some, Option.toList_some, Option.toList_none, List.cons_append, List.nil_append, List.singleton_append, clr_i, clr_r, clr_n, clr_0, clr_q, clr_l, isR_r, isR_n, isR_q, cat1_i, cat1_r, b0, b1, if_true, if_false, not_true, not_false_eq_true, reduceCtorEq, ite_self, and_true, true_and, and_false, false_and, or_true, true_or, or_false, false_or, k_s1 hG, k_1_3 hG, lw8, h8, g2]
        · have g2 : ¬ nI G.R ≤ nI (r + 1) := nI_ge (by omega) (by omega)
          conv => lhs; simp only [x78_48, x78_50, x78_51, x78_54, x78_57, x78_57n, x78_57q, x78_59n, x78_59, bnd_some, Option.toList_some, Option.toList_none, List.cons_append, List.nil_append, List.singleton_append, clr_i, clr_r, clr_n, clr_0, clr_q, clr_l, isR_r, isR_n, isR_q, cat1_i, cat1_r, b0, b1, if_true, if_false, not_true, not_false_eq_true, reduceCtorEq, ite_self, and_true, true_and, and_false, false_and, or_true, true_or, or_false, false_or, k_s1 hG, k_1_3 hG, lw8, h8, g2]
theorem c78 {a : Int32} {kd : Nat} {ao : Option Nat} {C1 : St} (hG : OKG G) (hK : OKC G C) (ws : Wset C G.T) (w4 : W4 G) (hd : ∀ r, r < G.R → dep C G.T 8 (200 + r)) (ha : (a = -1 ∧ ao = none) ∨ ∃ i, i < G.A ∧ a = nI i ∧ ao = some i) (hkd : kd ≤ 4) (hk : ixR 0 4 (nI kd) = some kd) (hC1 : C1 = sup C 14 0 (C 14 0 + nI 1)) : ex (d + 13) 78 0 [some (.ref (G.ad 1)), some (.int a), some (.int (nI kd)), none, none, none] [] (cM G C m0, cS G s0, n, k) = rtC G m0 s0 n k (match (fnR G C1 (isB C1 ao (nI kd)) G.R 0 (C 15 0)).1 with | none => bdS (lw C1 (fnR G C1 (isB C1 ao (nI kd)) G.R 0 (C 15 0)).2 (C 42 0)) 3 | some x => fnS (lw C1 (fnR G C1 (isB C1 ao (nI kd)) G.R 0 (C 15 0)).2 (C 42 0)) (nI x)) := by
  have ha2 : ∀ i, ao = some i → i < G.A := by
    intro i hi
    rcases ha with ⟨-, h⟩ | ⟨j, hj, -, h⟩
    · rw [h] at hi; cases hi
    · rw [h] at hi; cases hi; exact hj
  have hK1 : OKC G C1 := by rw [hC1]; exact OKC_eq hK (fun f hf j => sup_f (by omega))
  have ws1 : Wset C1 G.T := by rw [hC1]; exact Wset_eq (fun j => sup_f (by decide)) (fun j => sup_f (by decide)) ws
  have hd1 : ∀ r, r < G.R → dep C1 G.T 8 (200 + r) := fun r hr => by rw [hC1]; exact dep_eq (Aw_sup (by omega)) 8 _ (hd r hr)
  have L := c78_l (d := d) (m0 := m0) (s0 := s0) (n := n) (k := k) (a := a) (y := C 42 0) hG hK1 ws1 w4 hd1 ha2 hkd G.R 0 (C 15 0) (by omega)
  have e0 : sup (sup C 14 0 (C 14 0 + nI 1)) 42 0 (C 42 0 + nI 1) = lw C1 (C 15 0) (C 42 0 + nI 1) := by
    unfold lw
    rw [hC1]
    have h := sup_idem (Z := sup C 14 0 (C 14 0 + nI 1)) (f := 15) (j := 0)
    rw [sup_f (by decide)] at h
    rw [h]
  have G1 := c78_g (d := d + 11) (m0 := m0) (s0 := s0) (n := n) (k := k) (kd := nI kd) hG hK ha
  rw [← L, G1]
  conv => lhs; simp only [x78_22, x78_23, x78_24, x78_25, x78_28, x78_31, x78_32, x78_34, x78_37, x78_38, x78_39, x78_42, x78_43, x78_43n, x78_43q, x78_45, x78_46, bnd_some, Option.toList_some, Option.toList_none, List.cons_append, List.nil_append, List.singleton_append, clr_i, clr_r, clr_n, clr_0, clr_q, clr_l, isR_r, isR_n, isR_q, cat1_i, cat1_r, b0, b1, if_true, if_false, not_true, not_false_eq_true, reduceCtorEq, ite_self, and_true, true_and, and_false, false_and, or_true, true_or, or_false, false_or, k_s1 hG, c92, b2_R, b2_0, hk, c99 hG, e0, clr_ao]
end CU
