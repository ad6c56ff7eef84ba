/-! ===== the class: set, trunk, row; racks, actors ===== -/
section CH
variable {d n k : Nat} {G G' : Gh} {C C1 : St} {m0 m1 m2 : Mm} {s0 s1 s2 : Nat → Nat × Nat}
theorem c98_n {kd v w : Int32} (hG : OKG G) (hK : OKC G C) (h : ¬ (¬ v < nI 1 ∧ ¬ w < v) ∨ G.T = 200) : ex (d + 3) 98 0 [some (.ref (G.ad 1)), some (.int kd), some (.int v), some (.int w), none] [] (cM G C m0, cS G s0, n, k) = rtC G m0 s0 n k (bdS C 6) := by
  have M := c96 (d := d + 2) (m0 := m0) (s0 := s0) (n := n) (k := k) hG hK
  unfold rtC at M
  by_cases q : ¬ v < nI 1 ∧ ¬ w < v
  · have q2 := h.resolve_left (fun z => z q)
    simp only [x98_0, x98_1, x98_2, x98_3, x98_6, x98_9, x98_10, x98_13, x98_16, x98_17, x98_19, x98_22, bnd_some, Option.toList_some, Option.toList_none, List.cons_append, List.nil_append, List.singleton_append, clr_i, clr_r, clr_n, clr_0, clr_q, clr_l, isR_r, isR_n, isR_q, cat1_i, cat1_r, b0, b1, if_true, if_false, not_true, not_false_eq_true, reduceCtorEq, ite_self, and_true, true_and, and_false, false_and, or_true, true_or, or_false, false_or, k_1_0 hG, k_1_1 hG, k_1_1w hG, k_1_2 hG, k_1_3 hG, k_1_3w hG, k_1_4 hG, k_1_5 hG, k_1_5w hG, k_1_6 hG, k_1_7 hG, k_1_7w hG, k_1_8 hG, k_1_9 hG, k_1_9w hG, k_1_10 hG, k_1_11 hG, k_1_11w hG, k_1_12 hG, k_1_12w hG, k_1_13 hG, k_1_13w hG, k_1_14 hG, k_1_14w hG, k_1_15 hG, k_1_15w hG, k_1_16 hG, k_1_16w hG, k_7_0 hG, k_7_1 hG, k_7_2 hG, k_7_2w hG, k_7_3 hG, k_7_4 hG, k_7_5 hG, k_7_5w hG, k_7_6 hG, k_7_7 hG, k_7_8 hG, k_7_9 hG, k_7_10 hG, k_7_11 hG, k_7_12 hG, k_7_13 hG, k_7_14 hG, k_7_15 hG, k_7_15w hG, k_7_16 hG, k_7_17 hG, k_7_17w hG, k_s1 hG, k_s2 hG, k_s3 hG, k_s4 hG, k_s5 hG, k_s6 hG, k_s7 hG, k_s8 hG, k_s9 hG, k_s10 hG, k_s11 hG, k_s12 hG, k_s13 hG, k_s14 hG, k_s15 hG, k_s16 hG, k_s17 hG, k_s18 hG, k_s19 hG, k_s20 hG, k_s21 hG, k_2 hG, k_3 hG, k_4 hG, k_5 hG, k_6 hG, k_13 hG, k_14 hG, k_16 hG, k_8 hG, k_8w hG, k_9 hG, k_9w hG, k_10 hG, k_10w hG, k_11 hG, k_11w hG, k_12 hG, k_12w hG, k_15 hG, k_15w hG, k_17 hG, k_17w hG, k_18 hG, k_18w hG, k_19 hG, k_19w hG, k_20 hG, k_20w hG, k_21 hG, k_21w hG, k_P hG, k_Pw hG, k_sP hG, k_Q hG, k_Qw hG, k_sQ hG, k_G hG, k_Gw hG, k_sG hG, k_Z hG, k_Zw hG, k_sZ hG, k_I hG, k_Iw hG, k_sI hG, k_O hG, k_Ow hG, k_sO hG, k_V hG, k_Vw hG, k_sV hG, k_M hG, k_Mw hG, k_sM hG, k_S hG, k_Sw hG, k_Swn hG, k_sS hG, k_T_0 hG, k_T_1 hG, k_T_2 hG, k_T_3 hG, k_T_4 hG, k_T_5 hG, k_T_6 hG, k_T_7 hG, k_T_8 hG, k_T_6v hG, k_T_2w hG, k_T_4w hG, k_T_3w hG, k_T_3wn hG, k_sT hG, k_H_0 hG, k_H_1 hG, k_H_2 hG, k_sH hG, k_A_0 hG, k_sA hG, k_J_0 hG, k_J_1 hG, k_J_2 hG, k_J_2w hG, k_sJ hG, k_C hG, k_sC hG, isTh_tg, isTh1, isTh8, isTh9, zT, oT, oF, zT0, oF0, c92, b2_0, q, M, q2, c84 hG, bdS, rtC]
  · simp only [x98_0, x98_1, x98_2, x98_3, x98_6, x98_9, x98_10, x98_13, x98_16, x98_17, x98_19, x98_22, bnd_some, Option.toList_some, Option.toList_none, List.cons_append, List.nil_append, List.singleton_append, clr_i, clr_r, clr_n, clr_0, clr_q, clr_l, isR_r, isR_n, isR_q, cat1_i, cat1_r, b0, b1, if_true, if_false, not_true, not_false_eq_true, reduceCtorEq, ite_self, and_true, true_and, and_false, false_and, or_true, true_or, or_false, false_or, k_1_0 hG, k_1_1 hG, k_1_1w hG, k_1_2 hG, k_1_3 hG, k_1_3w hG, k_1_4 hG, k_1_5 hG, k_1_5w hG, k_1_6 hG, k_1_7 hG, k_1_7w hG, k_1_8 hG, k_1_9 hG, k_1_9w hG, k_1_10 hG, k_1_11 hG, k_1_11w hG, k_1_12 hG, k_1_12w hG, k_1_13 hG, k_1_13w hG, k_1_14 hG, k_1_14w hG, k_1_15 hG, k_1_15w hG, k_1_16 hG, k_1_16w hG, k_7_0 hG, k_7_1 hG, k_7_2 hG, k_7_2w hG, k_7_3 hG, k_7_4 hG, k_7_5 hG, k_7_5w hG, k_7_6 hG, k_7_7 hG, k_7_8 hG, k_7_9 hG, k_7_10 hG, k_7_11 hG, k_7_12 hG, k_7_13 hG, k_7_14 hG, k_7_15 hG, k_7_15w hG, k_7_16 hG, k_7_17 hG, k_7_17w hG, k_s1 hG, k_s2 hG, k_s3 hG, k_s4 hG, k_s5 hG, k_s6 hG, k_s7 hG, k_s8 hG, k_s9 hG, k_s10 hG, k_s11 hG, k_s12 hG, k_s13 hG, k_s14 hG, k_s15 hG, k_s16 hG, k_s17 hG, k_s18 hG, k_s19 hG, k_s20 hG, k_s21 hG, k_2 hG, k_3 hG, k_4 hG, k_5 hG, k_6 hG, k_13 hG, k_14 hG, k_16 hG, k_8 hG, k_8w hG, k_9 hG, k_9w hG, k_10 hG, k_10w hG, k_11 hG, k_11w hG, k_12 hG, k_12w hG, k_15 hG, k_15w hG, k_17 hG, k_17w hG, k_18 hG, k_18w hG, k_19 hG, k_19w hG, k_20 hG, k_20w hG, k_21 hG, k_21w hG, k_P hG, k_Pw hG, k_sP hG, k_Q hG, k_Qw hG, k_sQ hG, k_G hG, k_Gw hG, k_sG hG, k_Z hG, k_Zw hG, k_sZ hG, k_I hG, k_Iw hG, k_sI hG, k_O hG, k_Ow hG, k_sO hG, k_V hG, k_Vw hG, k_sV hG, k_M hG, k_Mw hG, k_sM hG, k_S hG, k_Sw hG, k_Swn hG, k_sS hG, k_T_0 hG, k_T_1 hG, k_T_2 hG, k_T_3 hG, k_T_4 hG, k_T_5 hG, k_T_6 hG, k_T_7 hG, k_T_8 hG, k_T_6v hG, k_T_2w hG, k_T_4w hG, k_T_3w hG, k_T_3wn hG, k_sT hG, k_H_0 hG, k_H_1 hG, k_H_2 hG, k_sH hG, k_A_0 hG, k_sA hG, k_J_0 hG, k_J_1 hG, k_J_2 hG, k_J_2w hG, k_sJ hG, k_C hG, k_sC hG, isTh_tg, isTh1, isTh8, isTh9, zT, oT, oF, zT0, oF0, c92, b2_0, q, c84 hG, bdS, rtC]
theorem c5 {a q b : Nat} {v : Int32} (wa : G.W a = 0) (wn : G.W n = 0) (hs : (s1 a).1 = 3) (hne : ¬ a = n) (hq : q ≤ 10000) : ex d 5 0 [some (.ref a), some (.int v), some (.ref b), some (.int (nI q))] [] (cM G C m1, cS G s1, n, k) = some (none, (cM G C (mup (mnw (mup (mup m1 a 0 (.int v)) a 1 (.ref b)) n (fun _ => .null)) a 2 (.ref n)), cS G (mnw s1 n (21, q)), n + 1, k + q)) := by
  simp only [x5_0, x5_1, x5_4, x5_5, x5_6, x5_9, x5_10, x5_10n, x5_10q, x5_11, x5_11n, x5_11q, x5_14, x5_15, x5_16, x5_19, x5_19n, x5_19q, x5_22, bnd_some, Option.toList_some, Option.toList_none, List.cons_append, List.nil_append, List.singleton_append, clr_i, clr_r, clr_n, clr_0, clr_q, clr_l, isR_r, isR_n, isR_q, cat1_i, cat1_r, b0, b1, if_true, if_false, not_true, not_false_eq_true, reduceCtorEq, ite_self, and_true, true_and, and_false, false_and, or_true, true_or, or_false, false_or, cS_rd wa, hs, cM_up wa, hq, cM_nw wn, cS_nw wn, mnw_ne hne]
theorem c5n {a q : Nat} {v : Int32} (wa : G.W a = 0) (wn : G.W n = 0) (hs : (s1 a).1 = 3) (hne : ¬ a = n) (hq : q ≤ 10000) : ex d 5 0 [some (.ref a), some (.int v), some .null, some (.int (nI q))] [] (cM G C m1, cS G s1, n, k) = some (none, (cM G C (mup (mnw (mup (mup m1 a 0 (.int v)) a 1 .null) n (fun _ => .null)) a 2 (.ref n)), cS G (mnw s1 n (21, q)), n + 1, k + q)) := by
  simp only [x5_0, x5_1, x5_4, x5_5, x5_6, x5_9, x5_10, x5_10n, x5_10q, x5_11, x5_11n, x5_11q, x5_14, x5_15, x5_16, x5_19, x5_19n, x5_19q, x5_22, bnd_some, Option.toList_some, Option.toList_none, List.cons_append, List.nil_append, List.singleton_append, clr_i, clr_r, clr_n, clr_0, clr_q, clr_l, isR_r, isR_n, isR_q, cat1_i, cat1_r, b0, b1, if_true, if_false, not_true, not_false_eq_true, reduceCtorEq, ite_self, and_true, true_and, and_false, false_and, or_true, true_or, or_false, false_or, cS_rd wa, hs, cM_up wa, hq, cM_nw wn, cS_nw wn, mnw_ne hne]
theorem hoW_all {r : Nat} {F : Nat → Value} (f0 : F 0 = hoW G' r 0) (f1 : F 1 = hoW G' r 1) (f2 : F 2 = hoW G' r 2) (f3 : ∀ j, F (j + 3) = hoW G' r (j + 3)) : ∀ j, F j = hoW G' r j := by
  intro j
  match j with
  | 0 => exact f0
  | 1 => exact f1
  | 2 => exact f2
  | j + 3 => exact f3 j
theorem c98 {kd a : Nat} {w : Int32} (hG : OKG G) (hK : OKC G C) (vc : VC G C) (hT : G.T < 200) (hn : ∀ a, G.W a ≠ 0 → a < n) (hk : kd = 4 ∨ kd = 5) (ha : a ≤ 40) (hx : ¬ nI a < nI 1 ∧ ¬ w < nI a) : Gr G (gT G n 3 kd a 0 (fBx G.T)) (sup (sup (nwC C G.T (nI kd) a 0) 1 0 (nI (G.T + 1))) 0 0 (nI 0)) m0 s0 n (n + 3) (k + 6 + 3 + a) (ex (d + 3) 98 0 [some (.ref (G.ad 1)), some (.int (nI kd)), some (.int (nI a)), some (.int w), none] [] (cM G C m0, cS G s0, n, k)) (nI G.T) := by
  have M := c96 (d := d + 2) (m0 := m0) (s0 := s0) (n := n) (k := k) hG hK
  unfold rtC at M
  have h1 := hK.1.1
  have w0 := W_n (G := G) hn 0
  have w1 := W_n (G := G) hn 1
  have w2 := W_n (G := G) hn 2
  have w0' : G.W n = 0 := w0
  have hTn : ¬ G.T = 200 := by omega
  have fm : Fm G 3 kd a 0 (fBx G.T) := Or.inr (Or.inl ⟨hk, rfl, rfl, ha, rfl⟩)
  have a1 : a ≤ 10000 := by omega
  have K := fun (s1 : Nat → Nat × Nat) (m1 : Mm) (n2 k2 : Nat) (ht : isTh (s1 n).1 = true) => c38 (d := d + 2) (G := G) (C := C) (m1 := m1) (s1 := s1) (n := n2) (k := k2) (v := nI G.T) (w := nI kd) w0' ht
  have ts : isTh ((mnw s0 n (9, 6)) n).1 = true := by rw [mnw_at]; rfl
  obtain ⟨gk, gs, gv⟩ := gK (G := G) (n := n) (len := 3) (kd := kd) (sl := a) (vl := 0) (f := fBx G.T)
  obtain ⟨e2, e3, e4, e5, e7, e1, e9⟩ := nwC_e (C := C) (T := G.T) (a := a) (b := 0) (kd := nI kd)
  have had := (gT_lv (n := n) hG hT fm).2.2.2
  have ea0 : (gT G n 3 kd a 0 (fBx G.T)).ad (100 + G.T) = n := had 0 (by omega)
  have ea1 : (gT G n 3 kd a 0 (fBx G.T)).ad (300 + G.T) = n + 1 := had 1 (by omega)
  have ea2 : (gT G n 3 kd a 0 (fBx G.T)).ad (600 + G.T) = n + 2 := had 2 (by omega)
  have GT := grT (m1 := mnw (mnw (mnw m0 n (fun i => if i = 5 then .ref (n + 1) else if i = 2 then .int (nI 0) else if i = 1 then .int (nI kd) else if i = 0 then .int (nI G.T) else dfv (pty 9 i))) (n + 1) (fun i => if i = 2 then .ref (n + 2) else if i = 1 then .ref n else if i = 0 then .int (nI (1000 + G.T)) else dfv (pty 3 i))) (n + 2) (fun _ => .null)) (s1 := mnw (mnw (mnw s0 n (9, 6)) (n + 1) (3, 3)) (n + 2) (21, a)) (c := nI kd) hG hK vc hT fm hn (by
    intro i hi j
    have : i = 0 ∨ i = 1 ∨ i = 2 := by omega
    rcases this with rfl | rfl | rfl
    · show _ = cW _ (100 + G.T) j _
      rw [show fBx G.T 0 = 100 + G.T from rfl, cW_T hT, loc_T hT]
      show mnw (mnw (mnw m0 n _) (n + 1) _) (n + 2) _ n j = _
      rw [mnw_ne n2_, mnw_ne n1_, mnw_at]
      refine thW_all (F := fun i => if i = 5 then .ref (n + 1) else if i = 2 then .int (nI 0) else if i = 1 then .int (nI kd) else if i = 0 then .int (nI G.T) else dfv (pty 9 i)) (X := fun x => nwC C G.T (nI kd) a 0 x G.T) rfl ?_ ?_ ?_ ?_ ?_ ?_ ?_ ?_ ?_ j
      · show _ = Value.int (nwC C G.T (nI kd) a 0 2 G.T)
        rw [e2]; rfl
      · show _ = Value.int (nwC C G.T (nI kd) a 0 3 G.T)
        rw [e3]; rfl
      · show _ = rfH _ (nwC C G.T (nI kd) a 0 4 G.T)
        rw [e4, rfH_n m1_0]; rfl
      · show _ = Value.int (nwC C G.T (nI kd) a 0 5 G.T)
        rw [e5]; rfl
      · show Value.ref (n + 1) = if (gT G n 3 kd a 0 (fBx G.T)).kd G.T = 4 ∨ (gT G n 3 kd a 0 (fBx G.T)).kd G.T = 5 then Value.ref (aH _ G.T) else Value.null
        rw [gk, if_pos hk, aH_e (by omega), ea1]
      · show dfv (pty 9 6) = if (gT G n 3 kd a 0 (fBx G.T)).kd G.T ≤ 3 then Value.ref (aZ _ G.T) else if 6 ≤ (gT G n 3 kd a 0 (fBx G.T)).kd G.T then _ else dfv (pty 9 6)
        rw [gk, if_neg (by omega), if_neg (by omega)]
      · show dfv (pty 9 7) = if (gT G n 3 kd a 0 (fBx G.T)).kd G.T ≤ 3 then Value.ref (aI _ G.T) else dfv (pty (tgT ((gT G n 3 kd a 0 (fBx G.T)).kd G.T)) 7)
        rw [gk, if_neg (by omega), tk9 hk]
      · show dfv (pty 9 8) = if (gT G n 3 kd a 0 (fBx G.T)).kd G.T ≤ 3 then Value.ref (aO _ G.T) else dfv (pty (tgT ((gT G n 3 kd a 0 (fBx G.T)).kd G.T)) 8)
        rw [gk, if_neg (by omega), tk9 hk]
      · intro i
        show _ = dfv (pty (tgT ((gT G n 3 kd a 0 (fBx G.T)).kd G.T)) (i + 9))
        rw [gk, tk9 hk, if_neg (by omega), if_neg (by omega), if_neg (by omega), if_neg (by omega)]
    · show _ = cW _ (300 + G.T) j _
      rw [mnw_ne n1_2, mnw_at, show fBx G.T 1 = 300 + G.T from rfl, cW_H (by omega)]
      refine hoW_all (F := fun i => if i = 2 then .ref (n + 2) else if i = 1 then .ref n else if i = 0 then .int (nI (1000 + G.T)) else dfv (pty 3 i)) ?_ ?_ ?_ ?_ j
      · show Value.int (nI (1000 + G.T)) = Value.int (hN G.T)
        unfold hN
        rw [if_pos hT]
      · show Value.ref n = if G.T < 200 then Value.ref (aT _ G.T) else Value.null
        rw [if_pos hT, aT_e hT, ea0]
      · show Value.ref (n + 2) = Value.ref (aS _ G.T)
        rw [aS_e (by omega), ea2]
      · intro i
        show _ = dfv (pty 3 (i + 3))
        rw [if_neg (by omega), if_neg (by omega), if_neg (by omega)]
    · show _ = cW _ (600 + G.T) j _
      rw [mnw_at, show fBx G.T 2 = 600 + G.T from rfl]
      by_cases q : j < a
      · rw [cW_S (by omega) (by rw [gs]; exact q), loc_S (by omega) (by omega)]
        show _ = rfT _ (nwC C G.T (nI kd) a 0 7 (40 * G.T + j))
        rw [e7 j q, rfT_n m1_0]
      · unfold cW
        rw [if_neg (show ¬ 600 + G.T < 22 by omega), if_neg (show ¬ 600 + G.T < 100 by omega), if_neg (show ¬ 600 + G.T < 300 by omega), if_neg (show ¬ 600 + G.T < 600 by omega), if_pos (show 600 + G.T < 1000 by omega), show 600 + G.T - 600 = G.T by omega, gs, if_neg q]) (by
    intro i hi
    have : i = 0 ∨ i = 1 ∨ i = 2 := by omega
    rcases this with rfl | rfl | rfl
    · show _ = cT _ (100 + G.T)
      show mnw (mnw (mnw s0 n _) (n + 1) _) (n + 2) _ n = _
      rw [mnw_ne n2_, mnw_ne n1_, mnw_at]
      unfold cT
      rw [if_neg (show ¬ 100 + G.T < 22 by omega), if_neg (show ¬ 100 + G.T < 100 by omega), if_pos (show 100 + G.T < 300 by omega), show 100 + G.T - 100 = G.T by omega, gk, tk9 hk]
      unfold nfT
      rw [if_neg (by omega), if_pos (by omega)]
    · show _ = cT _ (300 + G.T)
      rw [mnw_ne n1_2, mnw_at]
      unfold cT
      rw [if_neg (show ¬ 300 + G.T < 22 by omega), if_neg (show ¬ 300 + G.T < 100 by omega), if_neg (show ¬ 300 + G.T < 300 by omega), if_pos (show 300 + G.T < 600 by omega)]
    · show _ = cT _ (600 + G.T)
      rw [mnw_at]
      unfold cT
      rw [if_neg (show ¬ 600 + G.T < 22 by omega), if_neg (show ¬ 600 + G.T < 100 by omega), if_neg (show ¬ 600 + G.T < 300 by omega), if_neg (show ¬ 600 + G.T < 600 by omega), if_pos (show 600 + G.T < 1000 by omega), show 600 + G.T - 600 = G.T by omega, gs])
  obtain ⟨hM, hS, hq, ha1, hea⟩ := GT
  have run : ex (d + 3) 98 0 [some (.ref (G.ad 1)), some (.int (nI kd)), some (.int (nI a)), some (.int w), none] [] (cM G C m0, cS G s0, n, k) = bnd (ex (d + 2) 97 0 [some (.ref (G.ad 1)), some (.ref n)] [] (cM G C (mnw (mnw (mnw m0 n (fun i => if i = 5 then .ref (n + 1) else if i = 2 then .int (nI 0) else if i = 1 then .int (nI kd) else if i = 0 then .int (nI G.T) else dfv (pty 9 i))) (n + 1) (fun i => if i = 2 then .ref (n + 2) else if i = 1 then .ref n else if i = 0 then .int (nI (1000 + G.T)) else dfv (pty 3 i))) (n + 2) (fun _ => .null)), cS G (mnw (mnw (mnw s0 n (9, 6)) (n + 1) (3, 3)) (n + 2) (21, a)), n + 3, k + 6 + 3 + a)) (fun x h' => ex (d + 3) 98 67 [some (.ref (G.ad 1)), some (.int (nI kd)), some (.int (nI a)), some (.int w), some (.ref n)] (x.toList ++ []) h') := by
    conv => lhs; simp only [x98_0, x98_1, x98_2, x98_3, x98_6, x98_9, x98_10, x98_13, x98_16, x98_17, x98_19, x98_22, x98_23, x98_26, x98_26i, x98_27, x98_28, x98_31, bnd_some, Option.toList_some, Option.toList_none, List.cons_append, List.nil_append, List.singleton_append, clr_i, clr_r, clr_n, clr_0, clr_q, clr_l, isR_r, isR_n, isR_q, cat1_i, cat1_r, b0, b1, if_true, if_false, not_true, not_false_eq_true, reduceCtorEq, ite_self, and_true, true_and, and_false, false_and, or_true, true_or, or_false, false_or, k_1_0 hG, k_1_1 hG, k_1_1w hG, k_1_2 hG, k_1_3 hG, k_1_3w hG, k_1_4 hG, k_1_5 hG, k_1_5w hG, k_1_6 hG, k_1_7 hG, k_1_7w hG, k_1_8 hG, k_1_9 hG, k_1_9w hG, k_1_10 hG, k_1_11 hG, k_1_11w hG, k_1_12 hG, k_1_12w hG, k_1_13 hG, k_1_13w hG, k_1_14 hG, k_1_14w hG, k_1_15 hG, k_1_15w hG, k_1_16 hG, k_1_16w hG, k_7_0 hG, k_7_1 hG, k_7_2 hG, k_7_2w hG, k_7_3 hG, k_7_4 hG, k_7_5 hG, k_7_5w hG, k_7_6 hG, k_7_7 hG, k_7_8 hG, k_7_9 hG, k_7_10 hG, k_7_11 hG, k_7_12 hG, k_7_13 hG, k_7_14 hG, k_7_15 hG, k_7_15w hG, k_7_16 hG, k_7_17 hG, k_7_17w hG, k_s1 hG, k_s2 hG, k_s3 hG, k_s4 hG, k_s5 hG, k_s6 hG, k_s7 hG, k_s8 hG, k_s9 hG, k_s10 hG, k_s11 hG, k_s12 hG, k_s13 hG, k_s14 hG, k_s15 hG, k_s16 hG, k_s17 hG, k_s18 hG, k_s19 hG, k_s20 hG, k_s21 hG, k_2 hG, k_3 hG, k_4 hG, k_5 hG, k_6 hG, k_13 hG, k_14 hG, k_16 hG, k_8 hG, k_8w hG, k_9 hG, k_9w hG, k_10 hG, k_10w hG, k_11 hG, k_11w hG, k_12 hG, k_12w hG, k_15 hG, k_15w hG, k_17 hG, k_17w hG, k_18 hG, k_18w hG, k_19 hG, k_19w hG, k_20 hG, k_20w hG, k_21 hG, k_21w hG, k_P hG, k_Pw hG, k_sP hG, k_Q hG, k_Qw hG, k_sQ hG, k_G hG, k_Gw hG, k_sG hG, k_Z hG, k_Zw hG, k_sZ hG, k_I hG, k_Iw hG, k_sI hG, k_O hG, k_Ow hG, k_sO hG, k_V hG, k_Vw hG, k_sV hG, k_M hG, k_Mw hG, k_sM hG, k_S hG, k_Sw hG, k_Swn hG, k_sS hG, k_T_0 hG, k_T_1 hG, k_T_2 hG, k_T_3 hG, k_T_4 hG, k_T_5 hG, k_T_6 hG, k_T_7 hG, k_T_8 hG, k_T_6v hG, k_T_2w hG, k_T_4w hG, k_T_3w hG, k_T_3wn hG, k_sT hG, k_H_0 hG, k_H_1 hG, k_H_2 hG, k_sH hG, k_A_0 hG, k_sA hG, k_J_0 hG, k_J_1 hG, k_J_2 hG, k_J_2w hG, k_sJ hG, k_C hG, k_sC hG, isTh_tg, isTh1, isTh8, isTh9, zT, oT, oF, zT0, oF0, c92, b2_0, hx, M, hTn, h1, cM_nw w0', cS_nw w0']
    rw [x98_32]
    conv => lhs; simp only [K _ _ _ _ ts, bnd_some, Option.toList_some, Option.toList_none, List.cons_append, List.nil_append, List.singleton_append, clr_i, clr_r, clr_n, clr_0, clr_q, clr_l, isR_r, isR_n, isR_q, cat1_i, cat1_r, b0, b1, if_true, if_false, not_true, not_false_eq_true, reduceCtorEq, ite_self, and_true, true_and, and_false, false_and, or_true, true_or, or_false, false_or, mup_nw]
    conv => lhs; simp only [x98_35, x98_35n, x98_35q, x98_37, x98_37n, x98_37q, x98_39, x98_42, x98_42i, x98_43, x98_46, x98_46n, x98_46q, x98_48, x98_51, x98_52, x98_52n, x98_52q, x98_54, bnd_some, Option.toList_some, Option.toList_none, List.cons_append, List.nil_append, List.singleton_append, clr_i, clr_r, clr_n, clr_0, clr_q, clr_l, isR_r, isR_n, isR_q, cat1_i, cat1_r, b0, b1, if_true, if_false, not_true, not_false_eq_true, reduceCtorEq, ite_self, and_true, true_and, and_false, false_and, or_true, true_or, or_false, false_or, cS_rd w0', cS_rd w1, mnw_at, mnw_ne n1_, cM_nw w1, cS_nw w1, cM_rd w0', isTh9, nI_add, reduceIte, Nat.reduceEqDiff]
    rw [x98_55 (hv1 := isR_r), c5 (n := n + 1 + 1) w1 w2 (by rw [mnw_at]) (by omega) a1]
    simp only [x98_58, x98_58n, x98_58q, x98_61, x98_62, x98_62n, x98_62q, x98_64 (hv0 := isR_r), x98_64 (hv0 := isR_n), bnd_some, Option.toList_some, Option.toList_none, List.cons_append, List.nil_append, List.singleton_append, clr_i, clr_r, clr_n, clr_0, clr_q, clr_l, isR_r, isR_n, isR_q, cat1_i, cat1_r, b0, b1, if_true, if_false, not_true, not_false_eq_true, reduceCtorEq, ite_self, and_true, true_and, and_false, false_and, or_true, true_or, or_false, false_or, mup_nw, mup_nw2 (n_1 (n := n + 1)), cS_rd w0', mnw_at, mnw_ne n1_, mnw_ne n2_, isTh9, cM_up w0', mup_nw3 n_1 n_2, k_s1 hG]
  have h1' : nwC C G.T (nI kd) a 0 1 0 = nI G.T := e1.trans h1
  have hc : casts.contains ((cS G (mnw (mnw (mnw s0 n (9, 6)) (n + 1) (3, 3)) (n + 2) (21, a)) n).1, elT 21) = true := by
    rw [cS_rd w0', mnw_ne n2_, mnw_ne n1_, mnw_at]
    decide
  have P := c97 (d := d + 1) (n := n + 3) (k := k + 6 + 3 + a) hG hT h1 hc hM hS hq ha1 hea (show G.T < G.T + 1 by omega) h1'
  rw [P] at run
  rw [bnd_some] at run
  have fin : ∀ (x : Int32) (h : Hp), ex (d + 3) 98 67 [some (.ref (G.ad 1)), some (.int (nI kd)), some (.int (nI a)), some (.int w), some (.ref n)] ((some (Value.int x)).toList ++ []) h = some (some (.int x), h) := fun x h => by simp only [x98_67, bnd_some, Option.toList_some, Option.toList_none, List.cons_append, List.nil_append, List.singleton_append, clr_i, clr_r, clr_n, clr_0, clr_q, clr_l, isR_r, isR_n, isR_q, cat1_i, cat1_r, b0, b1, if_true, if_false, not_true, not_false_eq_true, reduceCtorEq, ite_self, and_true, true_and, and_false, false_and, or_true, true_or, or_false, false_or]
  rw [fin] at run
  exact ⟨_, _, run, fun a ha hw => ⟨fr_m hG (Or.inl ⟨by omega, by omega⟩) hw (by rw [mnw_ne (by omega), mnw_ne (by omega), mnw_ne (by omega)]), by rw [cS_rd hw, mnw_ne (by omega), mnw_ne (by omega), mnw_ne (by omega)]⟩⟩
theorem c46_n (hG : OKG G) (hK : OKC G C) (h : G.T = 200) : ex (d + 4) 46 0 [some (.ref (G.ad 1))] [] (cM G C m0, cS G s0, n, k) = rtC G m0 s0 n k (bdS C 6) := by
  have P := c98_n (d := d) (m0 := m0) (s0 := s0) (n := n) (k := k) (kd := nI 4) (v := nI 6) (w := nI 6) hG hK (Or.inr h)
  unfold rtC at P ⊢
  simp only [x46_0, x46_1, x46_2, x46_4, x46_6, x46_9, bnd_some, Option.toList_some, Option.toList_none, List.cons_append, List.nil_append, List.singleton_append, clr_i, clr_r, clr_n, clr_0, clr_q, clr_l, isR_r, isR_n, isR_q, cat1_i, cat1_r, b0, b1, if_true, if_false, not_true, not_false_eq_true, reduceCtorEq, ite_self, and_true, true_and, and_false, false_and, or_true, true_or, or_false, false_or, k_s1 hG, P]
theorem c46 (hG : OKG G) (hK : OKC G C) (vc : VC G C) (hT : G.T < 200) (hn : ∀ a, G.W a ≠ 0 → a < n) : Gr G (gT G n 3 4 6 0 (fBx G.T)) (sup (sup (nwC C G.T (nI 4) 6 0) 1 0 (nI (G.T + 1))) 0 0 (nI 0)) m0 s0 n (n + 3) (k + 6 + 3 + 6) (ex (d + 4) 46 0 [some (.ref (G.ad 1))] [] (cM G C m0, cS G s0, n, k)) (nI G.T) := by
  obtain ⟨m', s', h1, h2⟩ := c98 (d := d) (m0 := m0) (s0 := s0) (n := n) (k := k) (kd := 4) (a := 6) (w := nI 6) hG hK vc hT hn (Or.inl rfl) (by omega) (by decide)
  refine ⟨m', s', ?_, h2⟩
  simp only [x46_0, x46_1, x46_2, x46_4, x46_6, x46_9, bnd_some, Option.toList_some, Option.toList_none, List.cons_append, List.nil_append, List.singleton_append, clr_i, clr_r, clr_n, clr_0, clr_q, clr_l, isR_r, isR_n, isR_q, cat1_i, cat1_r, b0, b1, if_true, if_false, not_true, not_false_eq_true, reduceCtorEq, ite_self, and_true, true_and, and_false, false_and, or_true, true_or, or_false, false_or, k_s1 hG, h1]
theorem c47_n {v : Int32} (hG : OKG G) (hK : OKC G C) (h : ixR 1 20 v = none ∨ G.T = 200) : ex (d + 4) 47 0 [some (.ref (G.ad 1)), some (.int v)] [] (cM G C m0, cS G s0, n, k) = rtC G m0 s0 n k (bdS C 6) := by
  have P := c98_n (d := d) (m0 := m0) (s0 := s0) (n := n) (k := k) (kd := nI 5) (v := v) (w := nI 20) hG hK (h.elim (fun z => Or.inl (fun y => (ixR_b.mp y) z)) Or.inr)
  unfold rtC at P ⊢
  simp only [x47_0, x47_1, x47_2, x47_3, x47_5, x47_8, bnd_some, Option.toList_some, Option.toList_none, List.cons_append, List.nil_append, List.singleton_append, clr_i, clr_r, clr_n, clr_0, clr_q, clr_l, isR_r, isR_n, isR_q, cat1_i, cat1_r, b0, b1, if_true, if_false, not_true, not_false_eq_true, reduceCtorEq, ite_self, and_true, true_and, and_false, false_and, or_true, true_or, or_false, false_or, k_s1 hG, P]
theorem c47 {a : Nat} (hG : OKG G) (hK : OKC G C) (vc : VC G C) (hT : G.T < 200) (hn : ∀ a, G.W a ≠ 0 → a < n) (ha : a ≤ 20) (hx : ixR 1 20 (nI a) = some a) : Gr G (gT G n 3 5 a 0 (fBx G.T)) (sup (sup (nwC C G.T (nI 5) a 0) 1 0 (nI (G.T + 1))) 0 0 (nI 0)) m0 s0 n (n + 3) (k + 6 + 3 + a) (ex (d + 4) 47 0 [some (.ref (G.ad 1)), some (.int (nI a))] [] (cM G C m0, cS G s0, n, k)) (nI G.T) := by
  obtain ⟨m', s', h1, h2⟩ := c98 (d := d) (m0 := m0) (s0 := s0) (n := n) (k := k) (kd := 5) (a := a) (w := nI 20) hG hK vc hT hn (Or.inr rfl) (by omega) (ixR_b.mpr (by rw [hx]; exact fun z => by cases z))
  refine ⟨m', s', ?_, h2⟩
  simp only [x47_0, x47_1, x47_2, x47_3, x47_5, x47_8, bnd_some, Option.toList_some, Option.toList_none, List.cons_append, List.nil_append, List.singleton_append, clr_i, clr_r, clr_n, clr_0, clr_q, clr_l, isR_r, isR_n, isR_q, cat1_i, cat1_r, b0, b1, if_true, if_false, not_true, not_false_eq_true, reduceCtorEq, ite_self, and_true, true_and, and_false, false_and, or_true, true_or, or_false, false_or, k_s1 hG, h1]
theorem c35 {a b : Nat} {v w : Int32} (wa : G.W a = 0) (wn : G.W n = 0) (hs : (s1 a).1 = 8) (hne : ¬ a = n) (hb : b ≤ 10000) : ex (d + 1) 35 0 [some (.ref a), some (.int v), some (.int w), some (.int (nI b))] [] (cM G C m1, cS G s1, n, k) = some (none, (cM G C (mup (mnw (mup (mup (mup m1 a 0 (.int v)) a 1 (.int w)) a 2 (.int (nI 0))) n (fun _ => .int 0)) a 6 (.ref n)), cS G (mnw s1 n (20, b)), n + 1, k + b)) := by
  have K := c38 (d := d) (G := G) (C := C) (m1 := m1) (s1 := s1) (n := n) (k := k) (v := v) (w := w) wa (by rw [hs]; rfl)
  simp only [x35_0, x35_1, x35_2, x35_3, x35_6, x35_7, x35_8, x35_10, x35_10n, x35_10q, x35_13, bnd_some, Option.toList_some, Option.toList_none, List.cons_append, List.nil_append, List.singleton_append, clr_i, clr_r, clr_n, clr_0, clr_q, clr_l, isR_r, isR_n, isR_q, cat1_i, cat1_r, b0, b1, if_true, if_false, not_true, not_false_eq_true, reduceCtorEq, ite_self, and_true, true_and, and_false, false_and, or_true, true_or, or_false, false_or, K, cS_rd wa, hs, cM_up wa, hb, cM_nw wn, cS_nw wn, mnw_ne hne]
theorem c48_n {v w : Int32} (hG : OKG G) (hK : OKC G C) (h : ixR 6 8 v = none ∨ ixR 0 40 w = none ∨ G.T = 200) : ex (d + 3) 48 0 [some (.ref (G.ad 1)), some (.int v), some (.int w)] [] (cM G C m0, cS G s0, n, k) = rtC G m0 s0 n k (bdS C 6) := by
  have M := c96 (d := d + 2) (m0 := m0) (s0 := s0) (n := n) (k := k) hG hK
  unfold rtC at M
  by_cases q : ixR 6 8 v = none
  · simp only [x48_0, x48_1, x48_3, x48_5, x48_8, x48_11, x48_12, x48_13, x48_15, x48_18, x48_21, x48_22, x48_25, x48_28, x48_29, x48_31, x48_34, bnd_some, Option.toList_some, Option.toList_none, List.cons_append, List.nil_append, List.singleton_append, clr_i, clr_r, clr_n, clr_0, clr_q, clr_l, isR_r, isR_n, isR_q, cat1_i, cat1_r, b0, b1, if_true, if_false, not_true, not_false_eq_true, reduceCtorEq, ite_self, and_true, true_and, and_false, false_and, or_true, true_or, or_false, false_or, k_1_0 hG, k_1_1 hG, k_1_1w hG, k_1_2 hG, k_1_3 hG, k_1_3w hG, k_1_4 hG, k_1_5 hG, k_1_5w hG, k_1_6 hG, k_1_7 hG, k_1_7w hG, k_1_8 hG, k_1_9 hG, k_1_9w hG, k_1_10 hG, k_1_11 hG, k_1_11w hG, k_1_12 hG, k_1_12w hG, k_1_13 hG, k_1_13w hG, k_1_14 hG, k_1_14w hG, k_1_15 hG, k_1_15w hG, k_1_16 hG, k_1_16w hG, k_7_0 hG, k_7_1 hG, k_7_2 hG, k_7_2w hG, k_7_3 hG, k_7_4 hG, k_7_5 hG, k_7_5w hG, k_7_6 hG, k_7_7 hG, k_7_8 hG, k_7_9 hG, k_7_10 hG, k_7_11 hG, k_7_12 hG, k_7_13 hG, k_7_14 hG, k_7_15 hG, k_7_15w hG, k_7_16 hG, k_7_17 hG, k_7_17w hG, k_s1 hG, k_s2 hG, k_s3 hG, k_s4 hG, k_s5 hG, k_s6 hG, k_s7 hG, k_s8 hG, k_s9 hG, k_s10 hG, k_s11 hG, k_s12 hG, k_s13 hG, k_s14 hG, k_s15 hG, k_s16 hG, k_s17 hG, k_s18 hG, k_s19 hG, k_s20 hG, k_s21 hG, k_2 hG, k_3 hG, k_4 hG, k_5 hG, k_6 hG, k_13 hG, k_14 hG, k_16 hG, k_8 hG, k_8w hG, k_9 hG, k_9w hG, k_10 hG, k_10w hG, k_11 hG, k_11w hG, k_12 hG, k_12w hG, k_15 hG, k_15w hG, k_17 hG, k_17w hG, k_18 hG, k_18w hG, k_19 hG, k_19w hG, k_20 hG, k_20w hG, k_21 hG, k_21w hG, k_P hG, k_Pw hG, k_sP hG, k_Q hG, k_Qw hG, k_sQ hG, k_G hG, k_Gw hG, k_sG hG, k_Z hG, k_Zw hG, k_sZ hG, k_I hG, k_Iw hG, k_sI hG, k_O hG, k_Ow hG, k_sO hG, k_V hG, k_Vw hG, k_sV hG, k_M hG, k_Mw hG, k_sM hG, k_S hG, k_Sw hG, k_Swn hG, k_sS hG, k_T_0 hG, k_T_1 hG, k_T_2 hG, k_T_3 hG, k_T_4 hG, k_T_5 hG, k_T_6 hG, k_T_7 hG, k_T_8 hG, k_T_6v hG, k_T_2w hG, k_T_4w hG, k_T_3w hG, k_T_3wn hG, k_sT hG, k_H_0 hG, k_H_1 hG, k_H_2 hG, k_sH hG, k_A_0 hG, k_sA hG, k_J_0 hG, k_J_1 hG, k_J_2 hG, k_J_2w hG, k_sJ hG, k_C hG, k_sC hG, isTh_tg, isTh1, isTh8, isTh9, zT, oT, oF, zT0, oF0, c92, b2_R, b2_0, q, c84 hG, bdS, rtC]
  · by_cases q2 : ixR 0 40 w = none
    · simp only [x48_0, x48_1, x48_3, x48_5, x48_8, x48_11, x48_12, x48_13, x48_15, x48_18, x48_21, x48_22, x48_25, x48_28, x48_29, x48_31, x48_34, bnd_some, Option.toList_some, Option.toList_none, List.cons_append, List.nil_append, List.singleton_append, clr_i, clr_r, clr_n, clr_0, clr_q, clr_l, isR_r, isR_n, isR_q, cat1_i, cat1_r, b0, b1, if_true, if_false, not_true, not_false_eq_true, reduceCtorEq, ite_self, and_true, true_and, and_false, false_and, or_true, true_or, or_false, false_or, k_1_0 hG, k_1_1 hG, k_1_1w hG, k_1_2 hG, k_1_3 hG, k_1_3w hG, k_1_4 hG, k_1_5 hG, k_1_5w hG, k_1_6 hG, k_1_7 hG, k_1_7w hG, k_1_8 hG, k_1_9 hG, k_1_9w hG, k_1_10 hG, k_1_11 hG, k_1_11w hG, k_1_12 hG, k_1_12w hG, k_1_13 hG, k_1_13w hG, k_1_14 hG, k_1_14w hG, k_1_15 hG, k_1_15w hG, k_1_16 hG, k_1_16w hG, k_7_0 hG, k_7_1 hG, k_7_2 hG, k_7_2w hG, k_7_3 hG, k_7_4 hG, k_7_5 hG, k_7_5w hG, k_7_6 hG, k_7_7 hG, k_7_8 hG, k_7_9 hG, k_7_10 hG, k_7_11 hG, k_7_12 hG, k_7_13 hG, k_7_14 hG, k_7_15 hG, k_7_15w hG, k_7_16 hG, k_7_17 hG, k_7_17w hG, k_s1 hG, k_s2 hG, k_s3 hG, k_s4 hG, k_s5 hG, k_s6 hG, k_s7 hG, k_s8 hG, k_s9 hG, k_s10 hG, k_s11 hG, k_s12 hG, k_s13 hG, k_s14 hG, k_s15 hG, k_s16 hG, k_s17 hG, k_s18 hG, k_s19 hG, k_s20 hG, k_s21 hG, k_2 hG, k_3 hG, k_4 hG, k_5 hG, k_6 hG, k_13 hG, k_14 hG, k_16 hG, k_8 hG, k_8w hG, k_9 hG, k_9w hG, k_10 hG, k_10w hG, k_11 hG, k_11w hG, k_12 hG, k_12w hG, k_15 hG, k_15w hG, k_17 hG, k_17w hG, k_18 hG, k_18w hG, k_19 hG, k_19w hG, k_20 hG, k_20w hG, k_21 hG, k_21w hG, k_P hG, k_Pw hG, k_sP hG, k_Q hG, k_Qw hG, k_sQ hG, k_G hG, k_Gw hG, k_sG hG, k_Z hG, k_Zw hG, k_sZ hG, k_I hG, k_Iw hG, k_sI hG, k_O hG, k_Ow hG, k_sO hG, k_V hG, k_Vw hG, k_sV hG, k_M hG, k_Mw hG, k_sM hG, k_S hG, k_Sw hG, k_Swn hG, k_sS hG, k_T_0 hG, k_T_1 hG, k_T_2 hG, k_T_3 hG, k_T_4 hG, k_T_5 hG, k_T_6 hG, k_T_7 hG, k_T_8 hG, k_T_6v hG, k_T_2w hG, k_T_4w hG, k_T_3w hG, k_T_3wn hG, k_sT hG, k_H_0 hG, k_H_1 hG, k_H_2 hG, k_sH hG, k_A_0 hG, k_sA hG, k_J_0 hG, k_J_1 hG, k_J_2 hG, k_J_2w hG, k_sJ hG, k_C hG, k_sC hG, isTh_tg, isTh1, isTh8, isTh9, zT, oT, oF, zT0, oF0, c92, b2_R, b2_0, q, q2, c84 hG, bdS, rtC]
    · have q3 := (h.resolve_left q).resolve_left q2
      simp only [x48_0, x48_1, x48_3, x48_5, x48_8, x48_11, x48_12, x48_13, x48_15, x48_18, x48_21, x48_22, x48_25, x48_28, x48_29, x48_31, x48_34, bnd_some, Option.toList_some, Option.toList_none, List.cons_append, List.nil_append, List.singleton_append, clr_i, clr_r, clr_n, clr_0, clr_q, clr_l, isR_r, isR_n, isR_q, cat1_i, cat1_r, b0, b1, if_true, if_false, not_true, not_false_eq_true, reduceCtorEq, ite_self, and_true, true_and, and_false, false_and, or_true, true_or, or_false, false_or, k_1_0 hG, k_1_1 hG, k_1_1w hG, k_1_2 hG, k_1_3 hG, k_1_3w hG, k_1_4 hG, k_1_5 hG, k_1_5w hG, k_1_6 hG, k_1_7 hG, k_1_7w hG, k_1_8 hG, k_1_9 hG, k_1_9w hG, k_1_10 hG, k_1_11 hG, k_1_11w hG, k_1_12 hG, k_1_12w hG, k_1_13 hG, k_1_13w hG, k_1_14 hG, k_1_14w hG, k_1_15 hG, k_1_15w hG, k_1_16 hG, k_1_16w hG, k_7_0 hG, k_7_1 hG, k_7_2 hG, k_7_2w hG, k_7_3 hG, k_7_4 hG, k_7_5 hG, k_7_5w hG, k_7_6 hG, k_7_7 hG, k_7_8 hG, k_7_9 hG, k_7_10 hG, k_7_11 hG, k_7_12 hG, k_7_13 hG, k_7_14 hG, k_7_15 hG, k_7_15w hG, k_7_16 hG, k_7_17 hG, k_7_17w hG, k_s1 hG, k_s2 hG, k_s3 hG, k_s4 hG, k_s5 hG, k_s6 hG, k_s7 hG, k_s8 hG, k_s9 hG, k_s10 hG, k_s11 hG, k_s12 hG, k_s13 hG, k_s14 hG, k_s15 hG, k_s16 hG, k_s17 hG, k_s18 hG, k_s19 hG, k_s20 hG, k_s21 hG, k_2 hG, k_3 hG, k_4 hG, k_5 hG, k_6 hG, k_13 hG, k_14 hG, k_16 hG, k_8 hG, k_8w hG, k_9 hG, k_9w hG, k_10 hG, k_10w hG, k_11 hG, k_11w hG, k_12 hG, k_12w hG, k_15 hG, k_15w hG, k_17 hG, k_17w hG, k_18 hG, k_18w hG, k_19 hG, k_19w hG, k_20 hG, k_20w hG, k_21 hG, k_21w hG, k_P hG, k_Pw hG, k_sP hG, k_Q hG, k_Qw hG, k_sQ hG, k_G hG, k_Gw hG, k_sG hG, k_Z hG, k_Zw hG, k_sZ hG, k_I hG, k_Iw hG, k_sI hG, k_O hG, k_Ow hG, k_sO hG, k_V hG, k_Vw hG, k_sV hG, k_M hG, k_Mw hG, k_sM hG, k_S hG, k_Sw hG, k_Swn hG, k_sS hG, k_T_0 hG, k_T_1 hG, k_T_2 hG, k_T_3 hG, k_T_4 hG, k_T_5 hG, k_T_6 hG, k_T_7 hG, k_T_8 hG, k_T_6v hG, k_T_2w hG, k_T_4w hG, k_T_3w hG, k_T_3wn hG, k_sT hG, k_H_0 hG, k_H_1 hG, k_H_2 hG, k_sH hG, k_A_0 hG, k_sA hG, k_J_0 hG, k_J_1 hG, k_J_2 hG, k_J_2w hG, k_sJ hG, k_C hG, k_sC hG, isTh_tg, isTh1, isTh8, isTh9, zT, oT, oF, zT0, oF0, c92, b2_R, b2_0, q, q2, M, q3, c84 hG, bdS, rtC]
theorem c48 {v b : Nat} (hG : OKG G) (hK : OKC G C) (vc : VC G C) (wf : Wfr G C) (hT : G.T < 200) (hn : ∀ a, G.W a ≠ 0 → a < n) (hv : 6 ≤ v ∧ v ≤ 8) (hb : b ≤ 40) (hx : ixR 6 8 (nI v) = some v) (hy : ixR 0 40 (nI b) = some b) : Gr G (gT G n 2 v 0 b (fRw G.T)) (sup (sup (nwC C G.T (nI v) 0 b) 1 0 (nI (G.T + 1))) 0 0 (nI 0)) m0 s0 n (n + 2) (k + 7 + b) (ex (d + 3) 48 0 [some (.ref (G.ad 1)), some (.int (nI v)), some (.int (nI b))] [] (cM G C m0, cS G s0, n, k)) (nI G.T) := by
  have M := c96 (d := d + 2) (m0 := m0) (s0 := s0) (n := n) (k := k) hG hK
  unfold rtC at M
  have h1 := hK.1.1
  have w0 := W_n (G := G) hn 0
  have w1 := W_n (G := G) hn 1
  have w0' : G.W n = 0 := w0
  have hTn : ¬ G.T = 200 := by omega
  have b1 : b ≤ 10000 := by omega
  have fm : Fm G 2 v 0 b (fRw G.T) := Or.inr (Or.inr ⟨hv.1, hv.2, rfl, rfl, hb, rfl⟩)
  obtain ⟨gk, gs, gv⟩ := gK (G := G) (n := n) (len := 2) (kd := v) (sl := 0) (vl := b) (f := fRw G.T)
  obtain ⟨e2, e3, e4, e5, e7, e1, e9⟩ := nwC_e (C := C) (T := G.T) (a := 0) (b := b) (kd := nI v)
  have had := (gT_lv (n := n) hG hT fm).2.2.2
  have ea1 : (gT G n 2 v 0 b (fRw G.T)).ad (1600 + G.T) = n + 1 := had 1 (by omega)
  have GT := grT (m1 := mnw (mnw m0 n (fun i => if i = 6 then .ref (n + 1) else if i = 2 then .int (nI 0) else if i = 1 then .int (nI v) else if i = 0 then .int (nI G.T) else dfv (pty 8 i))) (n + 1) (fun _ => .int 0)) (s1 := mnw (mnw s0 n (8, 7)) (n + 1) (20, b)) (c := nI v) hG hK vc hT fm hn (by
    intro i hi j
    have : i = 0 ∨ i = 1 := by omega
    rcases this with rfl | rfl
    · show _ = cW _ (100 + G.T) j _
      rw [show fRw G.T 0 = 100 + G.T from rfl, cW_T hT, loc_T hT]
      show mnw (mnw m0 n _) (n + 1) _ n j = _
      rw [mnw_ne n1_, mnw_at]
      refine thW_all (F := fun i => if i = 6 then .ref (n + 1) else if i = 2 then .int (nI 0) else if i = 1 then .int (nI v) else if i = 0 then .int (nI G.T) else dfv (pty 8 i)) (X := fun x => nwC C G.T (nI v) 0 b x G.T) rfl ?_ ?_ ?_ ?_ ?_ ?_ ?_ ?_ ?_ j
      · show _ = Value.int (nwC C G.T (nI v) 0 b 2 G.T)
        rw [e2]; rfl
      · show _ = Value.int (nwC C G.T (nI v) 0 b 3 G.T)
        rw [e3]; rfl
      · show _ = rfH _ (nwC C G.T (nI v) 0 b 4 G.T)
        rw [e4, rfH_n m1_0]; rfl
      · show _ = Value.int (nwC C G.T (nI v) 0 b 5 G.T)
        rw [e5]; rfl
      · show Value.null = if (gT G n 2 v 0 b (fRw G.T)).kd G.T = 4 ∨ (gT G n 2 v 0 b (fRw G.T)).kd G.T = 5 then Value.ref (aH _ G.T) else Value.null
        rw [gk, if_neg (by omega)]
      · show Value.ref (n + 1) = if (gT G n 2 v 0 b (fRw G.T)).kd G.T ≤ 3 then Value.ref (aZ _ G.T) else if 6 ≤ (gT G n 2 v 0 b (fRw G.T)).kd G.T then Value.ref (aV _ G.T) else dfv (pty 9 6)
        rw [gk, if_neg (by omega), if_pos hv.1, aV_e hT, ea1]
      · show dfv (pty 8 7) = if (gT G n 2 v 0 b (fRw G.T)).kd G.T ≤ 3 then Value.ref (aI _ G.T) else dfv (pty (tgT ((gT G n 2 v 0 b (fRw G.T)).kd G.T)) 7)
        rw [gk, if_neg (by omega), tk8 hv.1]
      · show dfv (pty 8 8) = if (gT G n 2 v 0 b (fRw G.T)).kd G.T ≤ 3 then Value.ref (aO _ G.T) else dfv (pty (tgT ((gT G n 2 v 0 b (fRw G.T)).kd G.T)) 8)
        rw [gk, if_neg (by omega), tk8 hv.1]
      · intro i
        show _ = dfv (pty (tgT ((gT G n 2 v 0 b (fRw G.T)).kd G.T)) (i + 9))
        rw [gk, tk8 hv.1, if_neg (by omega), if_neg (by omega), if_neg (by omega), if_neg (by omega)]
    · show _ = cW _ (1600 + G.T) j _
      rw [mnw_at, show fRw G.T 1 = 1600 + G.T from rfl]
      by_cases q : j < 40
      · rw [cW_V hT q, loc_V hT q]
        show _ = Value.int (nwC C G.T (nI v) 0 b 12 (40 * G.T + j))
        rw [e9 12 (by omega), wf.2 (40 * G.T + j) (by omega)]
      · unfold cW
        rw [if_neg (show ¬ 1600 + G.T < 22 by omega), if_neg (show ¬ 1600 + G.T < 100 by omega), if_neg (show ¬ 1600 + G.T < 300 by omega), if_neg (show ¬ 1600 + G.T < 600 by omega), if_neg (show ¬ 1600 + G.T < 1000 by omega), if_neg (show ¬ 1600 + G.T < 1600 by omega), if_pos (show 1600 + G.T < 2000 by omega), if_neg q]) (by
    intro i hi
    have : i = 0 ∨ i = 1 := by omega
    rcases this with rfl | rfl
    · show _ = cT _ (100 + G.T)
      show mnw (mnw s0 n _) (n + 1) _ n = _
      rw [mnw_ne n1_, mnw_at]
      unfold cT
      rw [if_neg (show ¬ 100 + G.T < 22 by omega), if_neg (show ¬ 100 + G.T < 100 by omega), if_pos (show 100 + G.T < 300 by omega), show 100 + G.T - 100 = G.T by omega, gk, tk8 hv.1]
      unfold nfT
      rw [if_neg (by omega), if_neg (by omega)]
    · show _ = cT _ (1600 + G.T)
      rw [mnw_at]
      unfold cT
      rw [if_neg (show ¬ 1600 + G.T < 22 by omega), if_neg (show ¬ 1600 + G.T < 100 by omega), if_neg (show ¬ 1600 + G.T < 300 by omega), if_neg (show ¬ 1600 + G.T < 600 by omega), if_neg (show ¬ 1600 + G.T < 1000 by omega), if_neg (show ¬ 1600 + G.T < 1600 by omega), if_pos (show 1600 + G.T < 2000 by omega), show 1600 + G.T - 1600 = G.T by omega, gv])
  obtain ⟨hM, hS, hq, ha1, hea⟩ := GT
  have run : ex (d + 3) 48 0 [some (.ref (G.ad 1)), some (.int (nI v)), some (.int (nI b))] [] (cM G C m0, cS G s0, n, k) = bnd (ex (d + 2) 97 0 [some (.ref (G.ad 1)), some (.ref n)] [] (cM G C (mnw (mnw m0 n (fun i => if i = 6 then .ref (n + 1) else if i = 2 then .int (nI 0) else if i = 1 then .int (nI v) else if i = 0 then .int (nI G.T) else dfv (pty 8 i))) (n + 1) (fun _ => .int 0)), cS G (mnw (mnw s0 n (8, 7)) (n + 1) (20, b)), n + 2, k + 7 + b)) (fun x h' => ex (d + 3) 48 52 [some (.ref (G.ad 1)), some (.int (nI v)), some (.int (nI b))] (x.toList ++ []) h') := by
    conv => lhs; simp only [x48_0, x48_1, x48_3, x48_5, x48_8, x48_11, x48_12, x48_13, x48_15, x48_18, x48_21, x48_22, x48_25, x48_28, x48_29, x48_31, x48_34, x48_35, x48_36, x48_39, x48_39i, x48_40, x48_41, x48_44, x48_45, bnd_some, Option.toList_some, Option.toList_none, List.cons_append, List.nil_append, List.singleton_append, clr_i, clr_r, clr_n, clr_0, clr_q, clr_l, isR_r, isR_n, isR_q, cat1_i, cat1_r, b0, b1, if_true, if_false, not_true, not_false_eq_true, reduceCtorEq, ite_self, and_true, true_and, and_false, false_and, or_true, true_or, or_false, false_or, k_1_0 hG, k_1_1 hG, k_1_1w hG, k_1_2 hG, k_1_3 hG, k_1_3w hG, k_1_4 hG, k_1_5 hG, k_1_5w hG, k_1_6 hG, k_1_7 hG, k_1_7w hG, k_1_8 hG, k_1_9 hG, k_1_9w hG, k_1_10 hG, k_1_11 hG, k_1_11w hG, k_1_12 hG, k_1_12w hG, k_1_13 hG, k_1_13w hG, k_1_14 hG, k_1_14w hG, k_1_15 hG, k_1_15w hG, k_1_16 hG, k_1_16w hG, k_7_0 hG, k_7_1 hG, k_7_2 hG, k_7_2w hG, k_7_3 hG, k_7_4 hG, k_7_5 hG, k_7_5w hG, k_7_6 hG, k_7_7 hG, k_7_8 hG, k_7_9 hG, k_7_10 hG, k_7_11 hG, k_7_12 hG, k_7_13 hG, k_7_14 hG, k_7_15 hG, k_7_15w hG, k_7_16 hG, k_7_17 hG, k_7_17w hG, k_s1 hG, k_s2 hG, k_s3 hG, k_s4 hG, k_s5 hG, k_s6 hG, k_s7 hG, k_s8 hG, k_s9 hG, k_s10 hG, k_s11 hG, k_s12 hG, k_s13 hG, k_s14 hG, k_s15 hG, k_s16 hG, k_s17 hG, k_s18 hG, k_s19 hG, k_s20 hG, k_s21 hG, k_2 hG, k_3 hG, k_4 hG, k_5 hG, k_6 hG, k_13 hG, k_14 hG, k_16 hG, k_8 hG, k_8w hG, k_9 hG, k_9w hG, k_10 hG, k_10w hG, k_11 hG, k_11w hG, k_12 hG, k_12w hG, k_15 hG, k_15w hG, k_17 hG, k_17w hG, k_18 hG, k_18w hG, k_19 hG, k_19w hG, k_20 hG, k_20w hG, k_21 hG, k_21w hG, k_P hG, k_Pw hG, k_sP hG, k_Q hG, k_Qw hG, k_sQ hG, k_G hG, k_Gw hG, k_sG hG, k_Z hG, k_Zw hG, k_sZ hG, k_I hG, k_Iw hG, k_sI hG, k_O hG, k_Ow hG, k_sO hG, k_V hG, k_Vw hG, k_sV hG, k_M hG, k_Mw hG, k_sM hG, k_S hG, k_Sw hG, k_Swn hG, k_sS hG, k_T_0 hG, k_T_1 hG, k_T_2 hG, k_T_3 hG, k_T_4 hG, k_T_5 hG, k_T_6 hG, k_T_7 hG, k_T_8 hG, k_T_6v hG, k_T_2w hG, k_T_4w hG, k_T_3w hG, k_T_3wn hG, k_sT hG, k_H_0 hG, k_H_1 hG, k_H_2 hG, k_sH hG, k_A_0 hG, k_sA hG, k_J_0 hG, k_J_1 hG, k_J_2 hG, k_J_2w hG, k_sJ hG, k_C hG, k_sC hG, isTh_tg, isTh1, isTh8, isTh9, zT, oT, oF, zT0, oF0, c92, b2_R, b2_0, hx, hy, M, hTn, h1, cM_nw w0', cS_nw w0']
    rw [x48_46, c35 (n := n + 1) w0' w1 (by rw [mnw_at]) (by omega) b1]
    simp only [x48_49 (hv0 := isR_r), x48_49 (hv0 := isR_n), bnd_some, Option.toList_some, Option.toList_none, List.cons_append, List.nil_append, List.singleton_append, clr_i, clr_r, clr_n, clr_0, clr_q, clr_l, isR_r, isR_n, isR_q, cat1_i, cat1_r, b0, b1, if_true, if_false, not_true, not_false_eq_true, reduceCtorEq, ite_self, and_true, true_and, and_false, false_and, or_true, true_or, or_false, false_or, mup_nw, mup_nw2 n_1, k_s1 hG]
  have h1' : nwC C G.T (nI v) 0 b 1 0 = nI G.T := e1.trans h1
  have hc : casts.contains ((cS G (mnw (mnw s0 n (8, 7)) (n + 1) (20, b)) n).1, elT 21) = true := by
    rw [cS_rd w0', mnw_ne n1_, mnw_at]
    decide
  have P := c97 (d := d + 1) (n := n + 2) (k := k + 7 + b) hG hT h1 hc hM hS hq ha1 hea (show G.T < G.T + 1 by omega) h1'
  rw [P] at run
  rw [bnd_some] at run
  have fin : ∀ (x : Int32) (h : Hp), ex (d + 3) 48 52 [some (.ref (G.ad 1)), some (.int (nI v)), some (.int (nI b))] ((some (Value.int x)).toList ++ []) h = some (some (.int x), h) := fun x h => by simp only [x48_52, bnd_some, Option.toList_some, Option.toList_none, List.cons_append, List.nil_append, List.singleton_append, clr_i, clr_r, clr_n, clr_0, clr_q, clr_l, isR_r, isR_n, isR_q, cat1_i, cat1_r, b0, b1, if_true, if_false, not_true, not_false_eq_true, reduceCtorEq, ite_self, and_true, true_and, and_false, false_and, or_true, true_or, or_false, false_or]
  rw [fin] at run
  exact ⟨_, _, run, fun a ha hw => ⟨fr_m hG (Or.inl ⟨by omega, by omega⟩) hw (by rw [mnw_ne (by omega), mnw_ne (by omega)]), by rw [cS_rd hw, mnw_ne (by omega), mnw_ne (by omega)]⟩⟩
end CH
