/-! ===== the class: rack, actor ===== -/
def rkC (C : St) (R a : Nat) : St := filS (sup C 6 (200 + R) (nI a)) 7 (40 * (200 + R)) a (-1)
def acC (C : St) (A : Nat) : St := filS C 20 (6 * A) 6 (-1)
section CJ
variable {d n k : Nat} {G G' : Gh} {C C1 : St} {m0 m1 m2 : Mm} {s0 s1 s2 : Nat → Nat × Nat}
theorem c44_n {v : Int32} (hG : OKG G) (hK : OKC G C) (h : ixR 1 40 v = none ∨ G.R = 12) : ex (d + 3) 44 0 [some (.ref (G.ad 1)), some (.int v), none] [] (cM G C m0, cS G s0, n, k) = rtC G m0 s0 n k (bdS C 6) := by
  have h8 := hK.1.2.1
  by_cases q : ixR 1 40 v = none
  · simp only [x44_0, x44_1, x44_2, x44_4, x44_7, x44_10, x44_11, x44_14, x44_16, x44_19, x44_20, x44_22, x44_25, bnd_some, Option.toList_some, Option.toList_none, List.cons_append, List.nil_append, List.singleton_append, clr_i, clr_r, clr_n, clr_0, clr_q, clr_l, isR_r, isR_n, isR_q, cat1_i, cat1_r, b0, b1, if_true, if_false, not_true, not_false_eq_true, reduceCtorEq, ite_self, and_true, true_and, and_false, false_and, or_true, true_or, or_false, false_or, k_1_0 hG, k_1_1 hG, k_1_1w hG, k_1_2 hG, k_1_3 hG, k_1_3w hG, k_1_4 hG, k_1_5 hG, k_1_5w hG, k_1_6 hG, k_1_7 hG, k_1_7w hG, k_1_8 hG, k_1_9 hG, k_1_9w hG, k_1_10 hG, k_1_11 hG, k_1_11w hG, k_1_12 hG, k_1_12w hG, k_1_13 hG, k_1_13w hG, k_1_14 hG, k_1_14w hG, k_1_15 hG, k_1_15w hG, k_1_16 hG, k_1_16w hG, k_7_0 hG, k_7_1 hG, k_7_2 hG, k_7_2w hG, k_7_3 hG, k_7_4 hG, k_7_5 hG, k_7_5w hG, k_7_6 hG, k_7_7 hG, k_7_8 hG, k_7_9 hG, k_7_10 hG, k_7_11 hG, k_7_12 hG, k_7_13 hG, k_7_14 hG, k_7_15 hG, k_7_15w hG, k_7_16 hG, k_7_17 hG, k_7_17w hG, k_s1 hG, k_s2 hG, k_s3 hG, k_s4 hG, k_s5 hG, k_s6 hG, k_s7 hG, k_s8 hG, k_s9 hG, k_s10 hG, k_s11 hG, k_s12 hG, k_s13 hG, k_s14 hG, k_s15 hG, k_s16 hG, k_s17 hG, k_s18 hG, k_s19 hG, k_s20 hG, k_s21 hG, k_2 hG, k_3 hG, k_4 hG, k_5 hG, k_6 hG, k_13 hG, k_14 hG, k_16 hG, k_8 hG, k_8w hG, k_9 hG, k_9w hG, k_10 hG, k_10w hG, k_11 hG, k_11w hG, k_12 hG, k_12w hG, k_15 hG, k_15w hG, k_17 hG, k_17w hG, k_18 hG, k_18w hG, k_19 hG, k_19w hG, k_20 hG, k_20w hG, k_21 hG, k_21w hG, k_P hG, k_Pw hG, k_sP hG, k_Q hG, k_Qw hG, k_sQ hG, k_G hG, k_Gw hG, k_sG hG, k_Z hG, k_Zw hG, k_sZ hG, k_I hG, k_Iw hG, k_sI hG, k_O hG, k_Ow hG, k_sO hG, k_V hG, k_Vw hG, k_sV hG, k_M hG, k_Mw hG, k_sM hG, k_S hG, k_Sw hG, k_Swn hG, k_sS hG, k_T_0 hG, k_T_1 hG, k_T_2 hG, k_T_3 hG, k_T_4 hG, k_T_5 hG, k_T_6 hG, k_T_7 hG, k_T_8 hG, k_T_6v hG, k_T_2w hG, k_T_4w hG, k_T_3w hG, k_T_3wn hG, k_sT hG, k_H_0 hG, k_H_1 hG, k_H_2 hG, k_sH hG, k_A_0 hG, k_sA hG, k_J_0 hG, k_J_1 hG, k_J_2 hG, k_J_2w hG, k_sJ hG, k_C hG, k_sC hG, isTh_tg, isTh1, isTh8, isTh9, zT, oT, oF, zT0, oF0, c92, b2_R, b2_0, q, c84 hG, bdS, rtC]
  · have q2 := h.resolve_left q
    have g : ¬ nI 12 < nI 12 := by decide
    simp only [x44_0, x44_1, x44_2, x44_4, x44_7, x44_10, x44_11, x44_14, x44_16, x44_19, x44_20, x44_22, x44_25, bnd_some, Option.toList_some, Option.toList_none, List.cons_append, List.nil_append, List.singleton_append, clr_i, clr_r, clr_n, clr_0, clr_q, clr_l, isR_r, isR_n, isR_q, cat1_i, cat1_r, b0, b1, if_true, if_false, not_true, not_false_eq_true, reduceCtorEq, ite_self, and_true, true_and, and_false, false_and, or_true, true_or, or_false, false_or, k_1_0 hG, k_1_1 hG, k_1_1w hG, k_1_2 hG, k_1_3 hG, k_1_3w hG, k_1_4 hG, k_1_5 hG, k_1_5w hG, k_1_6 hG, k_1_7 hG, k_1_7w hG, k_1_8 hG, k_1_9 hG, k_1_9w hG, k_1_10 hG, k_1_11 hG, k_1_11w hG, k_1_12 hG, k_1_12w hG, k_1_13 hG, k_1_13w hG, k_1_14 hG, k_1_14w hG, k_1_15 hG, k_1_15w hG, k_1_16 hG, k_1_16w hG, k_7_0 hG, k_7_1 hG, k_7_2 hG, k_7_2w hG, k_7_3 hG, k_7_4 hG, k_7_5 hG, k_7_5w hG, k_7_6 hG, k_7_7 hG, k_7_8 hG, k_7_9 hG, k_7_10 hG, k_7_11 hG, k_7_12 hG, k_7_13 hG, k_7_14 hG, k_7_15 hG, k_7_15w hG, k_7_16 hG, k_7_17 hG, k_7_17w hG, k_s1 hG, k_s2 hG, k_s3 hG, k_s4 hG, k_s5 hG, k_s6 hG, k_s7 hG, k_s8 hG, k_s9 hG, k_s10 hG, k_s11 hG, k_s12 hG, k_s13 hG, k_s14 hG, k_s15 hG, k_s16 hG, k_s17 hG, k_s18 hG, k_s19 hG, k_s20 hG, k_s21 hG, k_2 hG, k_3 hG, k_4 hG, k_5 hG, k_6 hG, k_13 hG, k_14 hG, k_16 hG, k_8 hG, k_8w hG, k_9 hG, k_9w hG, k_10 hG, k_10w hG, k_11 hG, k_11w hG, k_12 hG, k_12w hG, k_15 hG, k_15w hG, k_17 hG, k_17w hG, k_18 hG, k_18w hG, k_19 hG, k_19w hG, k_20 hG, k_20w hG, k_21 hG, k_21w hG, k_P hG, k_Pw hG, k_sP hG, k_Q hG, k_Qw hG, k_sQ hG, k_G hG, k_Gw hG, k_sG hG, k_Z hG, k_Zw hG, k_sZ hG, k_I hG, k_Iw hG, k_sI hG, k_O hG, k_Ow hG, k_sO hG, k_V hG, k_Vw hG, k_sV hG, k_M hG, k_Mw hG, k_sM hG, k_S hG, k_Sw hG, k_Swn hG, k_sS hG, k_T_0 hG, k_T_1 hG, k_T_2 hG, k_T_3 hG, k_T_4 hG, k_T_5 hG, k_T_6 hG, k_T_7 hG, k_T_8 hG, k_T_6v hG, k_T_2w hG, k_T_4w hG, k_T_3w hG, k_T_3wn hG, k_sT hG, k_H_0 hG, k_H_1 hG, k_H_2 hG, k_sH hG, k_A_0 hG, k_sA hG, k_J_0 hG, k_J_1 hG, k_J_2 hG, k_J_2w hG, k_sJ hG, k_C hG, k_sC hG, isTh_tg, isTh1, isTh8, isTh9, zT, oT, oF, zT0, oF0, c92, b2_R, b2_0, q, h8, q2, g, c84 hG, bdS, rtC]
theorem rkC_e {R a : Nat} : (∀ j, j < a → rkC C R a 7 (40 * (200 + R) + j) = -1) ∧ rkC C R a 8 0 = C 8 0 := by
  unfold rkC filS
  refine ⟨fun j hj => by rw [if_pos ⟨rfl, by omega, by omega⟩], ?_⟩
  rw [if_neg (fun z => absurd z.1 (by decide)), sup_f (by decide)]
theorem tc22 : (21 ≤ 22 ∧ 22 ≤ 25) ↔ True := by decide
theorem tc23 : (21 ≤ 23 ∧ 23 ≤ 25) ↔ True := by decide
theorem cs_3 : casts.contains (3, elT 22) = true := by decide
theorem cs_0 : casts.contains (0, elT 23) = true := by decide
theorem c44 {a : Nat} (hG : OKG G) (hK : OKC G C) (vc : VC G C) (hR : G.R < 12) (hn : ∀ a, G.W a ≠ 0 → a < n) (ha : a ≤ 40) (hx : ixR 1 40 (nI a) = some a) : Gr G (gR G n a) (sup (sup (rkC C G.R a) 8 0 (nI (G.R + 1))) 0 0 (nI 0)) m0 s0 n (n + 2) (k + 3 + a) (ex (d + 3) 44 0 [some (.ref (G.ad 1)), some (.int (nI a)), none] [] (cM G C m0, cS G s0, n, k)) (nI G.R) := by
  have h8 := hK.1.2.1
  have w0 : G.W n = 0 := W_n (G := G) hn 0
  have w1 := W_n (G := G) hn 1
  obtain ⟨hG', ge, had, had2, h3⟩ := gR_all (n := n) (a := a) hG hR ha hn
  have hT := okT hG
  obtain ⟨z0, z1⟩ := fr_R hG hR
  have a1 : a ≤ 10000 := by omega
  have ea0 : (gR G n a).ad (500 + G.R) = n := had 0 (by omega)
  have ea1 : (gR G n a).ad (800 + G.R) = n + 1 := had 1 (by omega)
  have eaH : aH (gR G n a) (200 + G.R) = n := by
    rw [aH_e (by omega), show 300 + (200 + G.R) = 500 + G.R by omega, ea0]
  have eaS : aS (gR G n a) (200 + G.R) = n + 1 := by
    rw [aS_e (by omega), show 600 + (200 + G.R) = 800 + G.R by omega, ea1]
  obtain ⟨e7, e8⟩ := rkC_e (C := C) (R := G.R) (a := a)
  have esl : (gR G n a).sl (200 + G.R) = a := by
    show slR G a (200 + G.R) = a
    unfold slR
    rw [if_pos rfl]
  have cx : Cxx G C (rkC C G.R a) := by
    unfold rkC
    refine Cxx_fill (by decide) ?_ (Cxx_sup (by decide) (by show ¬ Lv G 0; unfold Lv; omega) Cxx_rfl)
    intro k h1 h2
    have e : dec 7 k = (600 + k / 40, k % 40) := rfl
    rw [e]
    have : k / 40 = 200 + G.R := by omega
    rw [this, show 600 + (200 + G.R) = 800 + G.R by omega]
    exact z1
  have hM := grow (f := fRk G.R) (len := 2) (arr := 3) (idx := G.R) (n := n) (m0 := mnw (mnw m0 n (fun i => if i = 2 then .ref (n + 1) else if i = 1 then .null else if i = 0 then .int (nI G.R) else dfv (pty 3 i))) (n + 1) (fun _ => .null)) hG hK vc hG' ge cx hn had had2 h3 ⟨by omega, by omega⟩ (arr_ok hG ge had2 (Or.inl rfl) (Or.inr ⟨rfl, rfl, rfl, eaH⟩) (Or.inl rfl) (Or.inl rfl) rfl ⟨fun z => absurd z (by decide), fun _ => rfl, fun z => absurd z (by decide), fun z => absurd z (by decide)⟩ ⟨by omega, by omega⟩) (fun i hi => rfl) (by
    intro i hi j
    have : i = 0 ∨ i = 1 := by omega
    rcases this with rfl | rfl
    · show mnw (mnw m0 n _) (n + 1) _ n j = cW _ (500 + G.R) j _
      rw [mnw_ne n1_, mnw_at, show 500 + G.R = 300 + (200 + G.R) by omega, cW_H (by omega)]
      refine hoW_all (F := fun i => if i = 2 then .ref (n + 1) else if i = 1 then .null else if i = 0 then .int (nI G.R) else dfv (pty 3 i)) ?_ ?_ ?_ ?_ j
      · show Value.int (nI G.R) = Value.int (hN (200 + G.R))
        unfold hN
        rw [if_neg (by omega), Nat.add_sub_cancel_left]
      · show Value.null = if 200 + G.R < 200 then Value.ref (aT _ (200 + G.R)) else Value.null
        rw [if_neg (by omega)]
      · show Value.ref (n + 1) = Value.ref (aS _ (200 + G.R))
        rw [eaS]
      · intro i
        show _ = dfv (pty 3 (i + 3))
        rw [if_neg (by omega), if_neg (by omega), if_neg (by omega)]
    · show mnw (mnw m0 n _) (n + 1) _ (n + 1) j = cW _ (800 + G.R) j (rkC C G.R a (loc (800 + G.R) j).1 (loc (800 + G.R) j).2)
      rw [mnw_at, show 800 + G.R = 600 + (200 + G.R) by omega]
      by_cases q : j < a
      · rw [cW_S (by omega) (by rw [esl]; exact q), loc_S (by omega) (by omega)]
        show _ = rfT _ (rkC C G.R a 7 (40 * (200 + G.R) + j))
        rw [e7 j q, rfT_n m1_0]
      · unfold cW
        rw [if_neg (show ¬ 600 + (200 + G.R) < 22 by omega), if_neg (show ¬ 600 + (200 + G.R) < 100 by omega), if_neg (show ¬ 600 + (200 + G.R) < 300 by omega), if_neg (show ¬ 600 + (200 + G.R) < 600 by omega), if_pos (show 600 + (200 + G.R) < 1000 by omega), show 600 + (200 + G.R) - 600 = 200 + G.R by omega, esl, if_neg q])
  have hS := growS (f := fRk G.R) (len := 2) (n := n) (s0 := mnw (mnw s0 n (3, 3)) (n + 1) (21, a)) hG hG' ge hn had had2 h3 (fun i hi => rfl) (by
    intro i hi
    have : i = 0 ∨ i = 1 := by omega
    rcases this with rfl | rfl
    · show mnw (mnw s0 n _) (n + 1) _ n = cT _ (500 + G.R)
      rw [mnw_ne n1_, mnw_at]
      unfold cT
      rw [if_neg (show ¬ 500 + G.R < 22 by omega), if_neg (show ¬ 500 + G.R < 100 by omega), if_neg (show ¬ 500 + G.R < 300 by omega), if_pos (show 500 + G.R < 600 by omega)]
    · show mnw (mnw s0 n _) (n + 1) _ (n + 1) = cT _ (800 + G.R)
      rw [mnw_at]
      unfold cT
      rw [if_neg (show ¬ 800 + G.R < 22 by omega), if_neg (show ¬ 800 + G.R < 100 by omega), if_neg (show ¬ 800 + G.R < 300 by omega), if_neg (show ¬ 800 + G.R < 600 by omega), if_pos (show 800 + G.R < 1000 by omega), show 800 + G.R - 600 = 200 + G.R by omega, esl])
  have g12 : nI G.R < nI 12 := (nI_ltI (by omega) (by omega)).mpr hR
  have rb : G.R < 2147483648 := by omega
  have a1' : (gR G n a).ad 1 = G.ad 1 := had2 1 (Or.inl ⟨by omega, by omega⟩)
  have hq := hG'
  have h8' : rkC C G.R a 8 0 = nI G.R := e8.trans h8
  have run : ex (d + 3) 44 0 [some (.ref (G.ad 1)), some (.int (nI a)), none] [] (cM G C m0, cS G s0, n, k) = ex (d + 3) 44 47 [some (.ref (G.ad 1)), some (.int (nI a)), some (.int (nI G.R))] [] (mup (cM G C (mnw (mnw m0 n (fun i => if i = 2 then .ref (n + 1) else if i = 1 then .null else if i = 0 then .int (nI G.R) else dfv (pty 3 i))) (n + 1) (fun _ => .null))) (G.ad 3) G.R (.ref n), cS G (mnw (mnw s0 n (3, 3)) (n + 1) (21, a)), n + 2, k + 3 + a) := by
    conv => lhs; simp only [x44_0, x44_1, x44_2, x44_4, x44_7, x44_10, x44_11, x44_14, x44_16, x44_19, x44_20, x44_22, x44_25, x44_26, x44_27, x44_30, x44_31, x44_32, x44_35, x44_36, x44_39, x44_39i, x44_40, x44_41, x44_42, bnd_some, Option.toList_some, Option.toList_none, List.cons_append, List.nil_append, List.singleton_append, clr_i, clr_r, clr_n, clr_0, clr_q, clr_l, isR_r, isR_n, isR_q, cat1_i, cat1_r, b0, b1, if_true, if_false, not_true, not_false_eq_true, reduceCtorEq, ite_self, and_true, true_and, and_false, false_and, or_true, true_or, or_false, false_or, k_1_0 hG, k_1_1 hG, k_1_1w hG, k_1_2 hG, k_1_3 hG, k_1_3w hG, k_1_4 hG, k_1_5 hG, k_1_5w hG, k_1_6 hG, k_1_7 hG, k_1_7w hG, k_1_8 hG, k_1_9 hG, k_1_9w hG, k_1_10 hG, k_1_11 hG, k_1_11w hG, k_1_12 hG, k_1_12w hG, k_1_13 hG, k_1_13w hG, k_1_14 hG, k_1_14w hG, k_1_15 hG, k_1_15w hG, k_1_16 hG, k_1_16w hG, k_7_0 hG, k_7_1 hG, k_7_2 hG, k_7_2w hG, k_7_3 hG, k_7_4 hG, k_7_5 hG, k_7_5w hG, k_7_6 hG, k_7_7 hG, k_7_8 hG, k_7_9 hG, k_7_10 hG, k_7_11 hG, k_7_12 hG, k_7_13 hG, k_7_14 hG, k_7_15 hG, k_7_15w hG, k_7_16 hG, k_7_17 hG, k_7_17w hG, k_s1 hG, k_s2 hG, k_s3 hG, k_s4 hG, k_s5 hG, k_s6 hG, k_s7 hG, k_s8 hG, k_s9 hG, k_s10 hG, k_s11 hG, k_s12 hG, k_s13 hG, k_s14 hG, k_s15 hG, k_s16 hG, k_s17 hG, k_s18 hG, k_s19 hG, k_s20 hG, k_s21 hG, k_2 hG, k_3 hG, k_4 hG, k_5 hG, k_6 hG, k_13 hG, k_14 hG, k_16 hG, k_8 hG, k_8w hG, k_9 hG, k_9w hG, k_10 hG, k_10w hG, k_11 hG, k_11w hG, k_12 hG, k_12w hG, k_15 hG, k_15w hG, k_17 hG, k_17w hG, k_18 hG, k_18w hG, k_19 hG, k_19w hG, k_20 hG, k_20w hG, k_21 hG, k_21w hG, k_P hG, k_Pw hG, k_sP hG, k_Q hG, k_Qw hG, k_sQ hG, k_G hG, k_Gw hG, k_sG hG, k_Z hG, k_Zw hG, k_sZ hG, k_I hG, k_Iw hG, k_sI hG, k_O hG, k_Ow hG, k_sO hG, k_V hG, k_Vw hG, k_sV hG, k_M hG, k_Mw hG, k_sM hG, k_S hG, k_Sw hG, k_Swn hG, k_sS hG, k_T_0 hG, k_T_1 hG, k_T_2 hG, k_T_3 hG, k_T_4 hG, k_T_5 hG, k_T_6 hG, k_T_7 hG, k_T_8 hG, k_T_6v hG, k_T_2w hG, k_T_4w hG, k_T_3w hG, k_T_3wn hG, k_sT hG, k_H_0 hG, k_H_1 hG, k_H_2 hG, k_sH hG, k_A_0 hG, k_sA hG, k_J_0 hG, k_J_1 hG, k_J_2 hG, k_J_2w hG, k_sJ hG, k_C hG, k_sC hG, isTh_tg, isTh1, isTh8, isTh9, zT, oT, oF, zT0, oF0, c92, b2_R, b2_0, hx, h8, g12, cM_nw w0, cS_nw w0]
    rw [x44_43 (hv1 := isR_n), c5n (n := n + 1) w0 w1 (by rw [mnw_at]) (by omega) a1]
    simp only [x44_46, x44_46n, bnd_some, Option.toList_some, Option.toList_none, List.cons_append, List.nil_append, List.singleton_append, clr_i, clr_r, clr_n, clr_0, clr_q, clr_l, isR_r, isR_n, isR_q, cat1_i, cat1_r, b0, b1, if_true, if_false, not_true, not_false_eq_true, reduceCtorEq, ite_self, and_true, true_and, and_false, false_and, or_true, true_or, or_false, false_or, mup_nw, mup_nw2 n_1, k_s3 hG, tc22, cS_rd w0, mnw_ne n1_, mnw_at, cs_3, hR, rb]
  rw [hM, hS, ← a1'] at run
  have fin : ∀ (m' : Mm) (s' : Nat → Nat × Nat), ex (d + 3) 44 47 [some (.ref ((gR G n a).ad 1)), some (.int (nI a)), some (.int (nI G.R))] [] (cM (gR G n a) (rkC C G.R a) m', cS (gR G n a) s', n + 2, k + 3 + a) = some (some (.int (nI G.R)), (cM (gR G n a) (sup (sup (rkC C G.R a) 8 0 (nI (G.R + 1))) 0 0 (nI 0)) m', cS (gR G n a) s', n + 2, k + 3 + a)) := fun m' s' => by
    simp only [x44_47, x44_48, x44_48i, x44_49, x44_52, x44_53, x44_54, x44_57, x44_58, x44_59, x44_62, bnd_some, Option.toList_some, Option.toList_none, List.cons_append, List.nil_append, List.singleton_append, clr_i, clr_r, clr_n, clr_0, clr_q, clr_l, isR_r, isR_n, isR_q, cat1_i, cat1_r, b0, b1, if_true, if_false, not_true, not_false_eq_true, reduceCtorEq, ite_self, and_true, true_and, and_false, false_and, or_true, true_or, or_false, false_or, k_1_0 hq, k_1_1 hq, k_1_1w hq, k_1_2 hq, k_1_3 hq, k_1_3w hq, k_1_4 hq, k_1_5 hq, k_1_5w hq, k_1_6 hq, k_1_7 hq, k_1_7w hq, k_1_8 hq, k_1_9 hq, k_1_9w hq, k_1_10 hq, k_1_11 hq, k_1_11w hq, k_1_12 hq, k_1_12w hq, k_1_13 hq, k_1_13w hq, k_1_14 hq, k_1_14w hq, k_1_15 hq, k_1_15w hq, k_1_16 hq, k_1_16w hq, k_7_0 hq, k_7_1 hq, k_7_2 hq, k_7_2w hq, k_7_3 hq, k_7_4 hq, k_7_5 hq, k_7_5w hq, k_7_6 hq, k_7_7 hq, k_7_8 hq, k_7_9 hq, k_7_10 hq, k_7_11 hq, k_7_12 hq, k_7_13 hq, k_7_14 hq, k_7_15 hq, k_7_15w hq, k_7_16 hq, k_7_17 hq, k_7_17w hq, k_s1 hq, k_s2 hq, k_s3 hq, k_s4 hq, k_s5 hq, k_s6 hq, k_s7 hq, k_s8 hq, k_s9 hq, k_s10 hq, k_s11 hq, k_s12 hq, k_s13 hq, k_s14 hq, k_s15 hq, k_s16 hq, k_s17 hq, k_s18 hq, k_s19 hq, k_s20 hq, k_s21 hq, k_2 hq, k_3 hq, k_4 hq, k_5 hq, k_6 hq, k_13 hq, k_14 hq, k_16 hq, k_8 hq, k_8w hq, k_9 hq, k_9w hq, k_10 hq, k_10w hq, k_11 hq, k_11w hq, k_12 hq, k_12w hq, k_15 hq, k_15w hq, k_17 hq, k_17w hq, k_18 hq, k_18w hq, k_19 hq, k_19w hq, k_20 hq, k_20w hq, k_21 hq, k_21w hq, k_P hq, k_Pw hq, k_sP hq, k_Q hq, k_Qw hq, k_sQ hq, k_G hq, k_Gw hq, k_sG hq, k_Z hq, k_Zw hq, k_sZ hq, k_I hq, k_Iw hq, k_sI hq, k_O hq, k_Ow hq, k_sO hq, k_V hq, k_Vw hq, k_sV hq, k_M hq, k_Mw hq, k_sM hq, k_S hq, k_Sw hq, k_Swn hq, k_sS hq, k_T_0 hq, k_T_1 hq, k_T_2 hq, k_T_3 hq, k_T_4 hq, k_T_5 hq, k_T_6 hq, k_T_7 hq, k_T_8 hq, k_T_6v hq, k_T_2w hq, k_T_4w hq, k_T_3w hq, k_T_3wn hq, k_sT hq, k_H_0 hq, k_H_1 hq, k_H_2 hq, k_sH hq, k_A_0 hq, k_sA hq, k_J_0 hq, k_J_1 hq, k_J_2 hq, k_J_2w hq, k_sJ hq, k_C hq, k_sC hq, isTh_tg, isTh1, isTh8, isTh9, zT, oT, oF, zT0, oF0, h8', nI_add, c85 hq]
  rw [fin, a1'] at run
  exact ⟨_, _, run, fun b hb hw => ⟨fr_m hG (Or.inl ⟨by omega, by omega⟩) hw (by rw [mnw_ne (by omega), mnw_ne (by omega)]), by rw [cS_rd hw, mnw_ne (by omega), mnw_ne (by omega)]⟩⟩
theorem c61_n (hG : OKG G) (hK : OKC G C) (h : G.A = 40) : ex (d + 3) 61 0 [some (.ref (G.ad 1)), none] [] (cM G C m0, cS G s0, n, k) = rtC G m0 s0 n k (bdS C 6) := by
  have h8 := hK.1.2.2.1
  have g : ¬ nI 40 < nI 40 := by decide
  simp only [x61_0, x61_1, x61_4, x61_6, x61_9, x61_10, x61_12, x61_15, bnd_some, Option.toList_some, Option.toList_none, List.cons_append, List.nil_append, List.singleton_append, clr_i, clr_r, clr_n, clr_0, clr_q, clr_l, isR_r, isR_n, isR_q, cat1_i, cat1_r, b0, b1, if_true, if_false, not_true, not_false_eq_true, reduceCtorEq, ite_self, and_true, true_and, and_false, false_and, or_true, true_or, or_false, false_or, k_1_0 hG, k_1_1 hG, k_1_1w hG, k_1_2 hG, k_1_3 hG, k_1_3w hG, k_1_4 hG, k_1_5 hG, k_1_5w hG, k_1_6 hG, k_1_7 hG, k_1_7w hG, k_1_8 hG, k_1_9 hG, k_1_9w hG, k_1_10 hG, k_1_11 hG, k_1_11w hG, k_1_12 hG, k_1_12w hG, k_1_13 hG, k_1_13w hG, k_1_14 hG, k_1_14w hG, k_1_15 hG, k_1_15w hG, k_1_16 hG, k_1_16w hG, k_7_0 hG, k_7_1 hG, k_7_2 hG, k_7_2w hG, k_7_3 hG, k_7_4 hG, k_7_5 hG, k_7_5w hG, k_7_6 hG, k_7_7 hG, k_7_8 hG, k_7_9 hG, k_7_10 hG, k_7_11 hG, k_7_12 hG, k_7_13 hG, k_7_14 hG, k_7_15 hG, k_7_15w hG, k_7_16 hG, k_7_17 hG, k_7_17w hG, k_s1 hG, k_s2 hG, k_s3 hG, k_s4 hG, k_s5 hG, k_s6 hG, k_s7 hG, k_s8 hG, k_s9 hG, k_s10 hG, k_s11 hG, k_s12 hG, k_s13 hG, k_s14 hG, k_s15 hG, k_s16 hG, k_s17 hG, k_s18 hG, k_s19 hG, k_s20 hG, k_s21 hG, k_2 hG, k_3 hG, k_4 hG, k_5 hG, k_6 hG, k_13 hG, k_14 hG, k_16 hG, k_8 hG, k_8w hG, k_9 hG, k_9w hG, k_10 hG, k_10w hG, k_11 hG, k_11w hG, k_12 hG, k_12w hG, k_15 hG, k_15w hG, k_17 hG, k_17w hG, k_18 hG, k_18w hG, k_19 hG, k_19w hG, k_20 hG, k_20w hG, k_21 hG, k_21w hG, k_P hG, k_Pw hG, k_sP hG, k_Q hG, k_Qw hG, k_sQ hG, k_G hG, k_Gw hG, k_sG hG, k_Z hG, k_Zw hG, k_sZ hG, k_I hG, k_Iw hG, k_sI hG, k_O hG, k_Ow hG, k_sO hG, k_V hG, k_Vw hG, k_sV hG, k_M hG, k_Mw hG, k_sM hG, k_S hG, k_Sw hG, k_Swn hG, k_sS hG, k_T_0 hG, k_T_1 hG, k_T_2 hG, k_T_3 hG, k_T_4 hG, k_T_5 hG, k_T_6 hG, k_T_7 hG, k_T_8 hG, k_T_6v hG, k_T_2w hG, k_T_4w hG, k_T_3w hG, k_T_3wn hG, k_sT hG, k_H_0 hG, k_H_1 hG, k_H_2 hG, k_sH hG, k_A_0 hG, k_sA hG, k_J_0 hG, k_J_1 hG, k_J_2 hG, k_J_2w hG, k_sJ hG, k_C hG, k_sC hG, isTh_tg, isTh1, isTh8, isTh9, zT, oT, oF, zT0, oF0, h8, h, g, c84 hG, bdS, rtC]
theorem acC_e {A : Nat} : (∀ j, j < 6 → acC C A 20 (6 * A + j) = -1) ∧ acC C A 19 0 = C 19 0 := by
  unfold acC filS
  refine ⟨fun j hj => by rw [if_pos ⟨rfl, by omega, by omega⟩], ?_⟩
  rw [if_neg (fun z => absurd z.1 (by decide))]
theorem lt06 : 0 < 6 := by decide
theorem lt16 : 1 < 6 := by decide
theorem lt26 : 2 < 6 := by decide
theorem lt36 : 3 < 6 := by decide
theorem lt46 : 4 < 6 := by decide
theorem lt56 : 5 < 6 := by decide
theorem lb0 : 0 < 2147483648 := by decide
theorem lb1 : 1 < 2147483648 := by decide
theorem lb2 : 2 < 2147483648 := by decide
theorem lb3 : 3 < 2147483648 := by decide
theorem lb4 : 4 < 2147483648 := by decide
theorem lb5 : 5 < 2147483648 := by decide
theorem c0 {a : Nat} {f : Nat → Value} (wa : G.W a = 0) (w1 : G.W (a + 1) = 0) : ex d 0 0 [some (.ref a)] [] (cM G C (mnw m0 a f), cS G (mnw s0 a (0, 1)), a + 1, k) = some (none, (cM G C (mnw (mnw m0 a (fun i => if i = 0 then .ref (a + 1) else f i)) (a + 1) (fun i => if i = 5 then .int (-1) else if i = 4 then .int (-1) else if i = 3 then .int (-1) else if i = 2 then .int (-1) else if i = 1 then .int (-1) else if i = 0 then .int (-1) else .int 0)), cS G (mnw (mnw s0 a (0, 1)) (a + 1) (20, 6)), a + 1 + 1, k + 6)) := by
  simp only [x0_0, x0_1, x0_4, x0_5, x0_7, x0_9, x0_9i, x0_10, x0_11, x0_12, x0_13, x0_13i, x0_14, x0_15, x0_16, x0_17, x0_17i, x0_18, x0_19, x0_20, x0_21, x0_21i, x0_22, x0_23, x0_24, x0_25, x0_25i, x0_26, x0_27, x0_28, x0_29, x0_29i, x0_30, x0_31, x0_32, x0_33, x0_33n, x0_33q, x0_36, bnd_some, Option.toList_some, Option.toList_none, List.cons_append, List.nil_append, List.singleton_append, clr_i, clr_r, clr_n, clr_0, clr_q, clr_l, isR_r, isR_n, isR_q, cat1_i, cat1_r, b0, b1, if_true, if_false, not_true, not_false_eq_true, reduceCtorEq, ite_self, and_true, true_and, and_false, false_and, or_true, true_or, or_false, false_or, le6, cM_nw w1, cS_nw w1, cS_rd wa, cS_rd w1, mnw_at, mnw_ne n1_, cM_up wa, cM_up w1, mup_nw, mup_nw2 n_1, lt06, lt16, lt26, lt36, lt46, lt56, lb0, lb1, lb2, lb3, lb4, lb5]
theorem c61 (hG : OKG G) (hK : OKC G C) (vc : VC G C) (hA : G.A < 40) (hn : ∀ a, G.W a ≠ 0 → a < n) : Gr G (gA G n) (sup (sup (acC C G.A) 19 0 (nI (G.A + 1))) 0 0 (nI 0)) m0 s0 n (n + 2) (k + 1 + 6) (ex (d + 3) 61 0 [some (.ref (G.ad 1)), none] [] (cM G C m0, cS G s0, n, k)) (nI G.A) := by
  have h8 := hK.1.2.2.1
  have w0 : G.W n = 0 := W_n (G := G) hn 0
  have w1 := W_n (G := G) hn 1
  obtain ⟨hG', ge, had, had2, h3⟩ := gA_all (n := n) hG hA hn
  obtain ⟨z0, z1⟩ := fr_A hG hA
  have ea0 : (gA G n).ad (2000 + G.A) = n := had 0 (by omega)
  have ea1 : (gA G n).ad (2100 + G.A) = n + 1 := had 1 (by omega)
  have eaA : aA (gA G n) G.A = n := by rw [aA_e hA, ea0]
  have eaM : aM (gA G n) G.A = n + 1 := by rw [aM_e hA, ea1]
  obtain ⟨e7, e8⟩ := acC_e (C := C) (A := G.A)
  have cx : Cxx G C (acC C G.A) := by
    unfold acC
    refine Cxx_fill (by decide) ?_ Cxx_rfl
    intro k h1 h2
    have e : dec 20 k = (2100 + k / 6, k % 6) := rfl
    rw [e]
    have : k / 6 = G.A := by omega
    rw [this]
    exact z1
  have hM := grow (f := fAc G.A) (len := 2) (arr := 4) (idx := G.A) (n := n) (m0 := mnw (mnw m0 n (fun i => if i = 0 then .ref (n + 1) else dfv (pty 0 i))) (n + 1) (fun i => if i = 5 then .int (-1) else if i = 4 then .int (-1) else if i = 3 then .int (-1) else if i = 2 then .int (-1) else if i = 1 then .int (-1) else if i = 0 then .int (-1) else .int 0)) hG hK vc hG' ge cx hn had had2 h3 ⟨by omega, by omega⟩ (arr_ok hG ge had2 (Or.inl rfl) (Or.inl rfl) (Or.inr ⟨rfl, rfl, rfl, eaA⟩) (Or.inl rfl) rfl ⟨fun z => absurd z (by decide), fun z => absurd z (by decide), fun _ => rfl, fun z => absurd z (by decide)⟩ ⟨by omega, by omega⟩) (fun i hi => rfl) (by
    intro i hi j
    have : i = 0 ∨ i = 1 := by omega
    rcases this with rfl | rfl
    · show mnw (mnw m0 n _) (n + 1) _ n j = cW _ (2000 + G.A) j _
      rw [mnw_ne n1_, mnw_at]
      unfold cW
      rw [if_neg (show ¬ 2000 + G.A < 22 by omega), if_neg (show ¬ 2000 + G.A < 100 by omega), if_neg (show ¬ 2000 + G.A < 300 by omega), if_neg (show ¬ 2000 + G.A < 600 by omega), if_neg (show ¬ 2000 + G.A < 1000 by omega), if_neg (show ¬ 2000 + G.A < 1600 by omega), if_neg (show ¬ 2000 + G.A < 2000 by omega), if_pos (show 2000 + G.A < 2100 by omega), show 2000 + G.A - 2000 = G.A by omega, eaM]
    · show mnw (mnw m0 n _) (n + 1) _ (n + 1) j = cW _ (2100 + G.A) j (acC C G.A (loc (2100 + G.A) j).1 (loc (2100 + G.A) j).2)
      rw [mnw_at]
      by_cases q : j < 6
      · rw [cW_M hA q, loc_M hA q]
        show _ = Value.int (acC C G.A 20 (6 * G.A + j))
        rw [e7 j q]
        have : j = 0 ∨ j = 1 ∨ j = 2 ∨ j = 3 ∨ j = 4 ∨ j = 5 := by omega
        rcases this with rfl | rfl | rfl | rfl | rfl | rfl <;> rfl
      · unfold cW
        rw [if_neg (show ¬ 2100 + G.A < 22 by omega), if_neg (show ¬ 2100 + G.A < 100 by omega), if_neg (show ¬ 2100 + G.A < 300 by omega), if_neg (show ¬ 2100 + G.A < 600 by omega), if_neg (show ¬ 2100 + G.A < 1000 by omega), if_neg (show ¬ 2100 + G.A < 1600 by omega), if_neg (show ¬ 2100 + G.A < 2000 by omega), if_neg (show ¬ 2100 + G.A < 2100 by omega), if_pos (show 2100 + G.A < 2200 by omega), if_neg q, if_neg (show ¬ j = 5 by omega), if_neg (show ¬ j = 4 by omega), if_neg (show ¬ j = 3 by omega), if_neg (show ¬ j = 2 by omega), if_neg (show ¬ j = 1 by omega), if_neg (show ¬ j = 0 by omega)])
  have hS := growS (f := fAc G.A) (len := 2) (n := n) (s0 := mnw (mnw s0 n (0, 1)) (n + 1) (20, 6)) hG hG' ge hn had had2 h3 (fun i hi => rfl) (by
    intro i hi
    have : i = 0 ∨ i = 1 := by omega
    rcases this with rfl | rfl
    · show mnw (mnw s0 n _) (n + 1) _ n = cT _ (2000 + G.A)
      rw [mnw_ne n1_, mnw_at]
      unfold cT
      rw [if_neg (show ¬ 2000 + G.A < 22 by omega), if_neg (show ¬ 2000 + G.A < 100 by omega), if_neg (show ¬ 2000 + G.A < 300 by omega), if_neg (show ¬ 2000 + G.A < 600 by omega), if_neg (show ¬ 2000 + G.A < 1000 by omega), if_neg (show ¬ 2000 + G.A < 1600 by omega), if_neg (show ¬ 2000 + G.A < 2000 by omega), if_pos (show 2000 + G.A < 2100 by omega)]
    · show mnw (mnw s0 n _) (n + 1) _ (n + 1) = cT _ (2100 + G.A)
      rw [mnw_at]
      unfold cT
      rw [if_neg (show ¬ 2100 + G.A < 22 by omega), if_neg (show ¬ 2100 + G.A < 100 by omega), if_neg (show ¬ 2100 + G.A < 300 by omega), if_neg (show ¬ 2100 + G.A < 600 by omega), if_neg (show ¬ 2100 + G.A < 1000 by omega), if_neg (show ¬ 2100 + G.A < 1600 by omega), if_neg (show ¬ 2100 + G.A < 2000 by omega), if_neg (show ¬ 2100 + G.A < 2100 by omega), if_pos (show 2100 + G.A < 2200 by omega)])
  have g12 : nI G.A < nI 40 := (nI_ltI (by omega) (by omega)).mpr hA
  have rb : G.A < 2147483648 := by omega
  have a1' : (gA G n).ad 1 = G.ad 1 := had2 1 (Or.inl ⟨by omega, by omega⟩)
  have hq := hG'
  have h8' : acC C G.A 19 0 = nI G.A := e8.trans h8
  have run : ex (d + 3) 61 0 [some (.ref (G.ad 1)), none] [] (cM G C m0, cS G s0, n, k) = ex (d + 3) 61 34 [some (.ref (G.ad 1)), some (.int (nI G.A))] [] (mup (cM G C (mnw (mnw m0 n (fun i => if i = 0 then .ref (n + 1) else dfv (pty 0 i))) (n + 1) (fun i => if i = 5 then .int (-1) else if i = 4 then .int (-1) else if i = 3 then .int (-1) else if i = 2 then .int (-1) else if i = 1 then .int (-1) else if i = 0 then .int (-1) else .int 0))) (G.ad 4) G.A (.ref n), cS G (mnw (mnw s0 n (0, 1)) (n + 1) (20, 6)), n + 2, k + 1 + 6) := by
    conv => lhs; simp only [x61_0, x61_1, x61_4, x61_6, x61_9, x61_10, x61_12, x61_15, x61_16, x61_17, x61_20, x61_21, x61_22, x61_25, x61_26, x61_29, x61_29i, bnd_some, Option.toList_some, Option.toList_none, List.cons_append, List.nil_append, List.singleton_append, clr_i, clr_r, clr_n, clr_0, clr_q, clr_l, isR_r, isR_n, isR_q, cat1_i, cat1_r, b0, b1, if_true, if_false, not_true, not_false_eq_true, reduceCtorEq, ite_self, and_true, true_and, and_false, false_and, or_true, true_or, or_false, false_or, k_1_0 hG, k_1_1 hG, k_1_1w hG, k_1_2 hG, k_1_3 hG, k_1_3w hG, k_1_4 hG, k_1_5 hG, k_1_5w hG, k_1_6 hG, k_1_7 hG, k_1_7w hG, k_1_8 hG, k_1_9 hG, k_1_9w hG, k_1_10 hG, k_1_11 hG, k_1_11w hG, k_1_12 hG, k_1_12w hG, k_1_13 hG, k_1_13w hG, k_1_14 hG, k_1_14w hG, k_1_15 hG, k_1_15w hG, k_1_16 hG, k_1_16w hG, k_7_0 hG, k_7_1 hG, k_7_2 hG, k_7_2w hG, k_7_3 hG, k_7_4 hG, k_7_5 hG, k_7_5w hG, k_7_6 hG, k_7_7 hG, k_7_8 hG, k_7_9 hG, k_7_10 hG, k_7_11 hG, k_7_12 hG, k_7_13 hG, k_7_14 hG, k_7_15 hG, k_7_15w hG, k_7_16 hG, k_7_17 hG, k_7_17w hG, k_s1 hG, k_s2 hG, k_s3 hG, k_s4 hG, k_s5 hG, k_s6 hG, k_s7 hG, k_s8 hG, k_s9 hG, k_s10 hG, k_s11 hG, k_s12 hG, k_s13 hG, k_s14 hG, k_s15 hG, k_s16 hG, k_s17 hG, k_s18 hG, k_s19 hG, k_s20 hG, k_s21 hG, k_2 hG, k_3 hG, k_4 hG, k_5 hG, k_6 hG, k_13 hG, k_14 hG, k_16 hG, k_8 hG, k_8w hG, k_9 hG, k_9w hG, k_10 hG, k_10w hG, k_11 hG, k_11w hG, k_12 hG, k_12w hG, k_15 hG, k_15w hG, k_17 hG, k_17w hG, k_18 hG, k_18w hG, k_19 hG, k_19w hG, k_20 hG, k_20w hG, k_21 hG, k_21w hG, k_P hG, k_Pw hG, k_sP hG, k_Q hG, k_Qw hG, k_sQ hG, k_G hG, k_Gw hG, k_sG hG, k_Z hG, k_Zw hG, k_sZ hG, k_I hG, k_Iw hG, k_sI hG, k_O hG, k_Ow hG, k_sO hG, k_V hG, k_Vw hG, k_sV hG, k_M hG, k_Mw hG, k_sM hG, k_S hG, k_Sw hG, k_Swn hG, k_sS hG, k_T_0 hG, k_T_1 hG, k_T_2 hG, k_T_3 hG, k_T_4 hG, k_T_5 hG, k_T_6 hG, k_T_7 hG, k_T_8 hG, k_T_6v hG, k_T_2w hG, k_T_4w hG, k_T_3w hG, k_T_3wn hG, k_sT hG, k_H_0 hG, k_H_1 hG, k_H_2 hG, k_sH hG, k_A_0 hG, k_sA hG, k_J_0 hG, k_J_1 hG, k_J_2 hG, k_J_2w hG, k_sJ hG, k_C hG, k_sC hG, isTh_tg, isTh1, isTh8, isTh9, zT, oT, oF, zT0, oF0, h8, g12, cM_nw w0, cS_nw w0]
    rw [x61_30, c0 (a := n) w0 w1]
    simp only [x61_33, x61_33n, bnd_some, Option.toList_some, Option.toList_none, List.cons_append, List.nil_append, List.singleton_append, clr_i, clr_r, clr_n, clr_0, clr_q, clr_l, isR_r, isR_n, isR_q, cat1_i, cat1_r, b0, b1, if_true, if_false, not_true, not_false_eq_true, reduceCtorEq, ite_self, and_true, true_and, and_false, false_and, or_true, true_or, or_false, false_or, k_s4 hG, tc23, cS_rd w0, mnw_ne n1_, mnw_at, cs_0, hA, rb]
  rw [hM, hS, ← a1'] at run
  have fin : ∀ (m' : Mm) (s' : Nat → Nat × Nat), ex (d + 3) 61 34 [some (.ref ((gA G n).ad 1)), some (.int (nI G.A))] [] (cM (gA G n) (acC C G.A) m', cS (gA G n) s', n + 2, k + 1 + 6) = some (some (.int (nI G.A)), (cM (gA G n) (sup (sup (acC C G.A) 19 0 (nI (G.A + 1))) 0 0 (nI 0)) m', cS (gA G n) s', n + 2, k + 1 + 6)) := fun m' s' => by
    simp only [x61_34, x61_35, x61_35i, x61_36, x61_39, x61_40, x61_41, x61_44, x61_45, x61_46, x61_49, bnd_some, Option.toList_some, Option.toList_none, List.cons_append, List.nil_append, List.singleton_append, clr_i, clr_r, clr_n, clr_0, clr_q, clr_l, isR_r, isR_n, isR_q, cat1_i, cat1_r, b0, b1, if_true, if_false, not_true, not_false_eq_true, reduceCtorEq, ite_self, and_true, true_and, and_false, false_and, or_true, true_or, or_false, false_or, k_1_0 hq, k_1_1 hq, k_1_1w hq, k_1_2 hq, k_1_3 hq, k_1_3w hq, k_1_4 hq, k_1_5 hq, k_1_5w hq, k_1_6 hq, k_1_7 hq, k_1_7w hq, k_1_8 hq, k_1_9 hq, k_1_9w hq, k_1_10 hq, k_1_11 hq, k_1_11w hq, k_1_12 hq, k_1_12w hq, k_1_13 hq, k_1_13w hq, k_1_14 hq, k_1_14w hq, k_1_15 hq, k_1_15w hq, k_1_16 hq, k_1_16w hq, k_7_0 hq, k_7_1 hq, k_7_2 hq, k_7_2w hq, k_7_3 hq, k_7_4 hq, k_7_5 hq, k_7_5w hq, k_7_6 hq, k_7_7 hq, k_7_8 hq, k_7_9 hq, k_7_10 hq, k_7_11 hq, k_7_12 hq, k_7_13 hq, k_7_14 hq, k_7_15 hq, k_7_15w hq, k_7_16 hq, k_7_17 hq, k_7_17w hq, k_s1 hq, k_s2 hq, k_s3 hq, k_s4 hq, k_s5 hq, k_s6 hq, k_s7 hq, k_s8 hq, k_s9 hq, k_s10 hq, k_s11 hq, k_s12 hq, k_s13 hq, k_s14 hq, k_s15 hq, k_s16 hq, k_s17 hq, k_s18 hq, k_s19 hq, k_s20 hq, k_s21 hq, k_2 hq, k_3 hq, k_4 hq, k_5 hq, k_6 hq, k_13 hq, k_14 hq, k_16 hq, k_8 hq, k_8w hq, k_9 hq, k_9w hq, k_10 hq, k_10w hq, k_11 hq, k_11w hq, k_12 hq, k_12w hq, k_15 hq, k_15w hq, k_17 hq, k_17w hq, k_18 hq, k_18w hq, k_19 hq, k_19w hq, k_20 hq, k_20w hq, k_21 hq, k_21w hq, k_P hq, k_Pw hq, k_sP hq, k_Q hq, k_Qw hq, k_sQ hq, k_G hq, k_Gw hq, k_sG hq, k_Z hq, k_Zw hq, k_sZ hq, k_I hq, k_Iw hq, k_sI hq, k_O hq, k_Ow hq, k_sO hq, k_V hq, k_Vw hq, k_sV hq, k_M hq, k_Mw hq, k_sM hq, k_S hq, k_Sw hq, k_Swn hq, k_sS hq, k_T_0 hq, k_T_1 hq, k_T_2 hq, k_T_3 hq, k_T_4 hq, k_T_5 hq, k_T_6 hq, k_T_7 hq, k_T_8 hq, k_T_6v hq, k_T_2w hq, k_T_4w hq, k_T_3w hq, k_T_3wn hq, k_sT hq, k_H_0 hq, k_H_1 hq, k_H_2 hq, k_sH hq, k_A_0 hq, k_sA hq, k_J_0 hq, k_J_1 hq, k_J_2 hq, k_J_2w hq, k_sJ hq, k_C hq, k_sC hq, isTh_tg, isTh1, isTh8, isTh9, zT, oT, oF, zT0, oF0, h8', nI_add, c85 hq]
  rw [fin, a1'] at run
  exact ⟨_, _, run, fun b hb hw => ⟨fr_m hG (Or.inl ⟨by omega, by omega⟩) hw (by rw [mnw_ne (by omega), mnw_ne (by omega)]), by rw [cS_rd hw, mnw_ne (by omega), mnw_ne (by omega)]⟩⟩
end CJ
