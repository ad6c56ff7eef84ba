/-! ===== the class: hire ===== -/
theorem tc24 : (21 ≤ 24 ∧ 24 ≤ 25) ↔ True := by decide
theorem cs_2 : casts.contains (2, elT 24) = true := by decide
section CP
variable {d n k : Nat} {G G' : Gh} {C C' : St} {m0 m1 m' : Mm} {s0 s1 s' : Nat → Nat × Nat} {m n' k' : Nat} {x : Int32}
theorem c4 {a t : Nat} {c : Int32} {f : Nat → Value} (hG : OKG G) (wa : G.W a = 0) (ht : t < G.T) (hf : f = fun i => dfv (pty 2 i)) : ex d 4 0 [some (.ref a), some (.ref (aT G t)), some (.int c)] [] (cM G C (mnw m0 a f), cS G (mnw s0 a (2, 3)), n, k) = some (none, (cM G C (mnw m0 a (fun i => if i = 2 then .int (nI 0) else if i = 1 then .int c else if i = 0 then .ref (aT G t) else dfv (pty 2 i))), cS G (mnw s0 a (2, 3)), n, k)) := by
  subst hf
  simp only [x4_0, x4_1, x4_4, x4_5, x4_5n, x4_5q, x4_6, x4_6n, x4_6q, x4_9, x4_10, x4_11, x4_14, x4_15, x4_16, x4_19, bnd_some, Option.toList_some, Option.toList_none, List.cons_append, List.nil_append, List.singleton_append, clr_i, clr_r, clr_n, clr_0, clr_q, clr_l, isR_r, isR_n, isR_q, cat1_i, cat1_r, b0, b1, if_true, if_false, not_true, not_false_eq_true, reduceCtorEq, ite_self, and_true, true_and, and_false, false_and, or_true, true_or, or_false, false_or, cS_rd wa, mnw_at, cM_up wa, mup_nw]
theorem c109_n {t : Nat} {c : Int32} (hG : OKG G) (hK : OKC G C) (h : ixR 0 1000000 c = none ∨ G.H = 300) : ex (d + 1) 109 0 [some (.ref (G.ad 1)), some (.ref (aT G t)), some (.int c), none, none] [] (cM G C m0, cS G s0, n, k) = rtC G m0 s0 n k (bdS C 6) := by
  have h1 := hK.1.2.2.2
  by_cases q : ixR 0 1000000 c = none
  · simp only [x109_0, x109_1, x109_2, x109_5, x109_8, x109_11, x109_12, x109_15, x109_18, x109_21, x109_22, x109_24, x109_27, bnd_some, Option.toList_some, Option.toList_none, List.cons_append, List.nil_append, List.singleton_append, clr_i, clr_r, clr_n, clr_0, clr_q, clr_l, isR_r, isR_n, isR_q, cat1_i, cat1_r, b0, b1, if_true, if_false, not_true, not_false_eq_true, reduceCtorEq, ite_self, and_true, true_and, and_false, false_and, or_true, true_or, or_false, false_or, k_1_0 hG, k_1_1 hG, k_1_1w hG, k_1_2 hG, k_1_3 hG, k_1_3w hG, k_1_4 hG, k_1_5 hG, k_1_5w hG, k_1_6 hG, k_1_7 hG, k_1_7w hG, k_1_8 hG, k_1_9 hG, k_1_9w hG, k_1_10 hG, k_1_11 hG, k_1_11w hG, k_1_12 hG, k_1_12w hG, k_1_13 hG, k_1_13w hG, k_1_14 hG, k_1_14w hG, k_1_15 hG, k_1_15w hG, k_1_16 hG, k_1_16w hG, k_7_0 hG, k_7_1 hG, k_7_2 hG, k_7_2w hG, k_7_3 hG, k_7_4 hG, k_7_5 hG, k_7_5w hG, k_7_6 hG, k_7_7 hG, k_7_8 hG, k_7_9 hG, k_7_10 hG, k_7_11 hG, k_7_12 hG, k_7_13 hG, k_7_14 hG, k_7_15 hG, k_7_15w hG, k_7_16 hG, k_7_17 hG, k_7_17w hG, k_s1 hG, k_s2 hG, k_s3 hG, k_s4 hG, k_s5 hG, k_s6 hG, k_s7 hG, k_s8 hG, k_s9 hG, k_s10 hG, k_s11 hG, k_s12 hG, k_s13 hG, k_s14 hG, k_s15 hG, k_s16 hG, k_s17 hG, k_s18 hG, k_s19 hG, k_s20 hG, k_s21 hG, k_2 hG, k_3 hG, k_4 hG, k_5 hG, k_6 hG, k_13 hG, k_14 hG, k_16 hG, k_8 hG, k_8w hG, k_9 hG, k_9w hG, k_10 hG, k_10w hG, k_11 hG, k_11w hG, k_12 hG, k_12w hG, k_15 hG, k_15w hG, k_17 hG, k_17w hG, k_18 hG, k_18w hG, k_19 hG, k_19w hG, k_20 hG, k_20w hG, k_21 hG, k_21w hG, k_P hG, k_Pw hG, k_sP hG, k_Q hG, k_Qw hG, k_sQ hG, k_G hG, k_Gw hG, k_sG hG, k_Z hG, k_Zw hG, k_sZ hG, k_I hG, k_Iw hG, k_sI hG, k_O hG, k_Ow hG, k_sO hG, k_V hG, k_Vw hG, k_sV hG, k_M hG, k_Mw hG, k_sM hG, k_S hG, k_Sw hG, k_Swn hG, k_sS hG, k_T_0 hG, k_T_1 hG, k_T_2 hG, k_T_3 hG, k_T_4 hG, k_T_5 hG, k_T_6 hG, k_T_7 hG, k_T_8 hG, k_T_6v hG, k_T_2w hG, k_T_4w hG, k_T_3w hG, k_T_3wn hG, k_sT hG, k_H_0 hG, k_H_1 hG, k_H_2 hG, k_sH hG, k_A_0 hG, k_sA hG, k_J_0 hG, k_J_1 hG, k_J_2 hG, k_J_2w hG, k_sJ hG, k_C hG, k_sC hG, isTh_tg, isTh1, isTh8, isTh9, zT, oT, oF, zT0, oF0, c92, b2_R, b2_0, q, c84 hG, bdS, rtC]
  · have q2 := h.resolve_left q
    have g : ¬ nI 300 < nI 300 := by decide
    simp only [x109_0, x109_1, x109_2, x109_5, x109_8, x109_11, x109_12, x109_15, x109_18, x109_21, x109_22, x109_24, x109_27, bnd_some, Option.toList_some, Option.toList_none, List.cons_append, List.nil_append, List.singleton_append, clr_i, clr_r, clr_n, clr_0, clr_q, clr_l, isR_r, isR_n, isR_q, cat1_i, cat1_r, b0, b1, if_true, if_false, not_true, not_false_eq_true, reduceCtorEq, ite_self, and_true, true_and, and_false, false_and, or_true, true_or, or_false, false_or, k_1_0 hG, k_1_1 hG, k_1_1w hG, k_1_2 hG, k_1_3 hG, k_1_3w hG, k_1_4 hG, k_1_5 hG, k_1_5w hG, k_1_6 hG, k_1_7 hG, k_1_7w hG, k_1_8 hG, k_1_9 hG, k_1_9w hG, k_1_10 hG, k_1_11 hG, k_1_11w hG, k_1_12 hG, k_1_12w hG, k_1_13 hG, k_1_13w hG, k_1_14 hG, k_1_14w hG, k_1_15 hG, k_1_15w hG, k_1_16 hG, k_1_16w hG, k_7_0 hG, k_7_1 hG, k_7_2 hG, k_7_2w hG, k_7_3 hG, k_7_4 hG, k_7_5 hG, k_7_5w hG, k_7_6 hG, k_7_7 hG, k_7_8 hG, k_7_9 hG, k_7_10 hG, k_7_11 hG, k_7_12 hG, k_7_13 hG, k_7_14 hG, k_7_15 hG, k_7_15w hG, k_7_16 hG, k_7_17 hG, k_7_17w hG, k_s1 hG, k_s2 hG, k_s3 hG, k_s4 hG, k_s5 hG, k_s6 hG, k_s7 hG, k_s8 hG, k_s9 hG, k_s10 hG, k_s11 hG, k_s12 hG, k_s13 hG, k_s14 hG, k_s15 hG, k_s16 hG, k_s17 hG, k_s18 hG, k_s19 hG, k_s20 hG, k_s21 hG, k_2 hG, k_3 hG, k_4 hG, k_5 hG, k_6 hG, k_13 hG, k_14 hG, k_16 hG, k_8 hG, k_8w hG, k_9 hG, k_9w hG, k_10 hG, k_10w hG, k_11 hG, k_11w hG, k_12 hG, k_12w hG, k_15 hG, k_15w hG, k_17 hG, k_17w hG, k_18 hG, k_18w hG, k_19 hG, k_19w hG, k_20 hG, k_20w hG, k_21 hG, k_21w hG, k_P hG, k_Pw hG, k_sP hG, k_Q hG, k_Qw hG, k_sQ hG, k_G hG, k_Gw hG, k_sG hG, k_Z hG, k_Zw hG, k_sZ hG, k_I hG, k_Iw hG, k_sI hG, k_O hG, k_Ow hG, k_sO hG, k_V hG, k_Vw hG, k_sV hG, k_M hG, k_Mw hG, k_sM hG, k_S hG, k_Sw hG, k_Swn hG, k_sS hG, k_T_0 hG, k_T_1 hG, k_T_2 hG, k_T_3 hG, k_T_4 hG, k_T_5 hG, k_T_6 hG, k_T_7 hG, k_T_8 hG, k_T_6v hG, k_T_2w hG, k_T_4w hG, k_T_3w hG, k_T_3wn hG, k_sT hG, k_H_0 hG, k_H_1 hG, k_H_2 hG, k_sH hG, k_A_0 hG, k_sA hG, k_J_0 hG, k_J_1 hG, k_J_2 hG, k_J_2w hG, k_sJ hG, k_C hG, k_sC hG, isTh_tg, isTh1, isTh8, isTh9, zT, oT, oF, zT0, oF0, c92, b2_R, b2_0, q, h1, q2, g, c84 hG, bdS, rtC]
/-- the numbers behind a hire, before the thing goes -/
def hiC (C : St) (H : Nat) : St := sup (sup C 38 H (nI 0)) 35 0 (nI (H + 1))
theorem hiC_f {H f j : Nat} (h : f ≠ 38) (h2 : f ≠ 35) : hiC C H f j = C f j := by
  unfold hiC
  rw [sup_f h2, sup_f h]
theorem OKC_H {t : Nat} {c : Int32} (hK : OKC G C) : OKC (gH G n t c) (hiC C G.H) := by
  obtain ⟨⟨a1, a2, a3, a4⟩, a5, a6, a7, a8, a9⟩ := hK
  refine ⟨⟨?_, ?_, ?_, ?_⟩, ?_, ?_, ?_, ?_, ?_⟩
  · rw [hiC_f (by decide) (by decide)]; exact a1
  · rw [hiC_f (by decide) (by decide)]; exact a2
  · rw [hiC_f (by decide) (by decide)]; exact a3
  · unfold hiC
    rw [sup_eq]
    rfl
  · intro t ht; rw [hiC_f (by decide) (by decide)]; exact a5 t ht
  · intro t ht; rw [hiC_f (by decide) (by decide)]; exact a6 t ht
  · intro t ht; rw [hiC_f (by decide) (by decide)]; exact a7 t ht
  · intro t ht; rw [hiC_f (by decide) (by decide)]; exact a8 t ht
  · intro t ht q hq; rw [hiC_f (by decide) (by decide)]; exact a9 t ht q hq
theorem Rdy_H {t : Nat} {c : Int32} (ht : t < G.T) (rd : Rdy G C n m) : Rdy (gH G n t c) (hiC C G.H) (n + 1) m := by
  obtain ⟨vc, hm, hm5, h17, hn⟩ := rd
  refine ⟨⟨?_, ?_, ?_⟩, hm, hm5, ?_, ?_⟩
  · intro j; rw [hiC_f (by decide) (by decide)]; exact vc.1 j
  · intro j; rw [hiC_f (by decide) (by decide)]; exact vc.2.1 j
  · intro i hi
    have hi' : i < G.H + 1 := hi
    show (if i = G.H then t else G.ht i) < G.T
    split
    · exact ht
    · exact vc.2.2 i (by omega)
  · rw [hiC_f (by decide) (by decide)]; exact h17
  · intro a ha
    have e : (gH G n t c).W a = if n ≤ a ∧ a < n + 1 then fHi G.H (a - n) else G.W a := rfl
    rw [e] at ha
    by_cases q : n ≤ a ∧ a < n + 1
    · omega
    · rw [if_neg q] at ha
      have := hn a ha
      omega
theorem hiW_all {i : Nat} {F : Nat → Value} {v : Nat → Int32} (f0 : F 0 = hiW G' i 0 (v 0)) (f1 : F 1 = hiW G' i 1 (v 1)) (f2 : F 2 = hiW G' i 2 (v 2)) (f3 : ∀ j, F (j + 3) = hiW G' i (j + 3) (v (j + 3))) : ∀ j, F j = hiW G' i j (v j) := by
  intro j
  match j with
  | 0 => exact f0
  | 1 => exact f1
  | 2 => exact f2
  | j + 3 => exact f3 j
theorem c109 {r q t c : Nat} (hG : OKG G) (hK : OKC G C) (rd : Rdy G C n m) (h : lvR G r) (hq : q < G.sl r) (ht : t < G.T) (h4 : C 4 t = hN r) (h5 : C 5 t = nI q) (hH : G.H < 300) (hx : ixR 0 1000000 (nI c) = some c) : Gr G (gC (gH G n t (nI c)) (n + 1) m 4 (mvV (gH G n t (nI c)) (hiC C G.H) t (C 34 0) (.ref n) (nI 2))) (sup (sup (mvO (sup (hiC C G.H) 17 0 (nI (m + 1))) t r q (nI 2) (nI 0)) 34 0 (C 34 0 + nI c)) 0 0 (nI 0)) m0 s0 n (n + 2) (k + 3 + 7) (ex (d + 3) 109 0 [some (.ref (G.ad 1)), some (.ref (aT G t)), some (.int (nI c)), none, none] [] (cM G C m0, cS G s0, n, k)) (nI G.H) := by
  have rd' := rd
  obtain ⟨vc, hm, hm5, h17, hn⟩ := rd'
  have w0 : G.W n = 0 := W_n (G := G) hn 0
  have h1 := hK.1.2.2.2
  have hTT := okT hG
  obtain ⟨hG1, ge, had, had2, h3⟩ := gH_all (n := n) (t := t) (c := nI c) hG hH hn
  have ea0 : (gH G n t (nI c)).ad (2200 + G.H) = n := had 0 (by omega)
  have eaJ : aJ (gH G n t (nI c)) G.H = n := by rw [aJ_e hH, ea0]
  have z0 := fr_H hG hH
  have cx : Cxx G C (sup C 38 G.H (nI 0)) := Cxx_sup (by decide) z0 Cxx_rfl
  have hM := grow (f := fHi G.H) (len := 1) (arr := 5) (idx := G.H) (n := n) (m0 := mnw m0 n (fun i => if i = 2 then .int (nI 0) else if i = 1 then .int (nI c) else if i = 0 then .ref (aT G t) else dfv (pty 2 i))) hG hK vc hG1 ge cx hn had had2 h3 ⟨by omega, by omega⟩ (arr_ok hG ge had2 (Or.inl rfl) (Or.inl rfl) (Or.inl rfl) (Or.inr ⟨rfl, rfl, rfl, eaJ⟩) rfl ⟨fun z => absurd z (by decide), fun z => absurd z (by decide), fun z => absurd z (by decide), fun _ => rfl⟩ ⟨by omega, by omega⟩) (fun i hi => rfl) (by
    intro i hi j
    have : i = 0 := by omega
    subst this
    show mnw m0 n _ n j = cW _ (2200 + G.H) j (sup C 38 G.H (nI 0) (loc (2200 + G.H) j).1 (loc (2200 + G.H) j).2)
    rw [mnw_at, cW_J hH]
    refine hiW_all (F := fun i => if i = 2 then .int (nI 0) else if i = 1 then .int (nI c) else if i = 0 then .ref (aT G t) else dfv (pty 2 i)) (v := fun j => sup C 38 G.H (nI 0) (loc (2200 + G.H) j).1 (loc (2200 + G.H) j).2) ?_ ?_ ?_ ?_ j
    · show Value.ref (aT G t) = Value.ref (aT _ (if G.H = G.H then t else G.ht G.H))
      rw [if_pos rfl, ge_T hG ge ht]
    · show Value.int (nI c) = Value.int (if G.H = G.H then nI c else G.hd G.H)
      rw [if_pos rfl]
    · show Value.int (nI 0) = Value.int (sup C 38 G.H (nI 0) (loc (2200 + G.H) 2).1 (loc (2200 + G.H) 2).2)
      rw [loc_J hH, sup_eq]
    · intro i
      show _ = dfv (pty 2 (i + 3))
      rw [if_neg (by omega), if_neg (by omega), if_neg (by omega)])
  have hS := growS (f := fHi G.H) (len := 1) (n := n) (s0 := mnw s0 n (2, 3)) hG hG1 ge hn had had2 h3 (fun i hi => rfl) (by
    intro i hi
    have : i = 0 := by omega
    subst this
    show mnw s0 n _ n = cT _ (2200 + G.H)
    rw [mnw_at]
    unfold cT
    rw [if_neg (show ¬ 2200 + G.H < 22 by omega), if_neg (show ¬ 2200 + G.H < 100 by omega), if_neg (show ¬ 2200 + G.H < 300 by omega), if_neg (show ¬ 2200 + G.H < 600 by omega), if_neg (show ¬ 2200 + G.H < 1000 by omega), if_neg (show ¬ 2200 + G.H < 1600 by omega), if_neg (show ¬ 2200 + G.H < 2000 by omega), if_neg (show ¬ 2200 + G.H < 2100 by omega), if_neg (show ¬ 2200 + G.H < 2200 by omega), if_pos (show 2200 + G.H < 3000 by omega)])
  have g3 : nI G.H < nI 300 := (nI_ltI (by omega) (by omega)).mpr hH
  have rb : G.H < 2147483648 := by omega
  have a1 : (gH G n t (nI c)).ad 1 = G.ad 1 := had2 1 (Or.inl ⟨by omega, by omega⟩)
  have K4 := c4 (d := d + 2) (G := G) (C := C) (m0 := m0) (s0 := s0) (n := n + 1) (k := k + 3) (c := nI c) (f := fun i => dfv (pty 2 i)) hG w0 ht rfl
  have run : ex (d + 3) 109 0 [some (.ref (G.ad 1)), some (.ref (aT G t)), some (.int (nI c)), none, none] [] (cM G C m0, cS G s0, n, k) = ex (d + 3) 109 52 [some (.ref (G.ad 1)), some (.ref (aT G t)), some (.int (nI c)), some (.int (nI G.H)), some (.ref n)] [] (mup (cM G C (mnw m0 n (fun i => if i = 2 then .int (nI 0) else if i = 1 then .int (nI c) else if i = 0 then .ref (aT G t) else dfv (pty 2 i)))) (G.ad 5) G.H (.ref n), cS G (mnw s0 n (2, 3)), n + 1, k + 3) := by
    conv => lhs; simp only [x109_0, x109_1, x109_2, x109_5, x109_8, x109_11, x109_12, x109_15, x109_18, x109_21, x109_22, x109_24, x109_27, x109_28, x109_29, x109_32, x109_33, x109_36, x109_36i, x109_37, x109_37n, x109_37q, x109_38, bnd_some, Option.toList_some, Option.toList_none, List.cons_append, List.nil_append, List.singleton_append, clr_i, clr_r, clr_n, clr_0, clr_q, clr_l, isR_r, isR_n, isR_q, cat1_i, cat1_r, b0, b1, if_true, if_false, not_true, not_false_eq_true, reduceCtorEq, ite_self, and_true, true_and, and_false, false_and, or_true, true_or, or_false, false_or, k_1_0 hG, k_1_1 hG, k_1_1w hG, k_1_2 hG, k_1_3 hG, k_1_3w hG, k_1_4 hG, k_1_5 hG, k_1_5w hG, k_1_6 hG, k_1_7 hG, k_1_7w hG, k_1_8 hG, k_1_9 hG, k_1_9w hG, k_1_10 hG, k_1_11 hG, k_1_11w hG, k_1_12 hG, k_1_12w hG, k_1_13 hG, k_1_13w hG, k_1_14 hG, k_1_14w hG, k_1_15 hG, k_1_15w hG, k_1_16 hG, k_1_16w hG, k_7_0 hG, k_7_1 hG, k_7_2 hG, k_7_2w hG, k_7_3 hG, k_7_4 hG, k_7_5 hG, k_7_5w hG, k_7_6 hG, k_7_7 hG, k_7_8 hG, k_7_9 hG, k_7_10 hG, k_7_11 hG, k_7_12 hG, k_7_13 hG, k_7_14 hG, k_7_15 hG, k_7_15w hG, k_7_16 hG, k_7_17 hG, k_7_17w hG, k_s1 hG, k_s2 hG, k_s3 hG, k_s4 hG, k_s5 hG, k_s6 hG, k_s7 hG, k_s8 hG, k_s9 hG, k_s10 hG, k_s11 hG, k_s12 hG, k_s13 hG, k_s14 hG, k_s15 hG, k_s16 hG, k_s17 hG, k_s18 hG, k_s19 hG, k_s20 hG, k_s21 hG, k_2 hG, k_3 hG, k_4 hG, k_5 hG, k_6 hG, k_13 hG, k_14 hG, k_16 hG, k_8 hG, k_8w hG, k_9 hG, k_9w hG, k_10 hG, k_10w hG, k_11 hG, k_11w hG, k_12 hG, k_12w hG, k_15 hG, k_15w hG, k_17 hG, k_17w hG, k_18 hG, k_18w hG, k_19 hG, k_19w hG, k_20 hG, k_20w hG, k_21 hG, k_21w hG, k_P hG, k_Pw hG, k_sP hG, k_Q hG, k_Qw hG, k_sQ hG, k_G hG, k_Gw hG, k_sG hG, k_Z hG, k_Zw hG, k_sZ hG, k_I hG, k_Iw hG, k_sI hG, k_O hG, k_Ow hG, k_sO hG, k_V hG, k_Vw hG, k_sV hG, k_M hG, k_Mw hG, k_sM hG, k_S hG, k_Sw hG, k_Swn hG, k_sS hG, k_T_0 hG, k_T_1 hG, k_T_2 hG, k_T_3 hG, k_T_4 hG, k_T_5 hG, k_T_6 hG, k_T_7 hG, k_T_8 hG, k_T_6v hG, k_T_2w hG, k_T_4w hG, k_T_3w hG, k_T_3wn hG, k_sT hG, k_H_0 hG, k_H_1 hG, k_H_2 hG, k_sH hG, k_A_0 hG, k_sA hG, k_J_0 hG, k_J_1 hG, k_J_2 hG, k_J_2w hG, k_sJ hG, k_C hG, k_sC hG, isTh_tg, isTh1, isTh8, isTh9, zT, oT, oF, zT0, oF0, c92, b2_R, b2_0, hx, h1, g3, cM_nw w0, cS_nw w0]
    conv => lhs; simp only [x109_39 (hv0 := isR_r), x109_39 (hv0 := isR_n), x109_42, x109_42n, x109_42q, x109_44, x109_45, x109_48, x109_49, x109_49n, x109_49q, x109_51, x109_51n, bnd_some, Option.toList_some, Option.toList_none, List.cons_append, List.nil_append, List.singleton_append, clr_i, clr_r, clr_n, clr_0, clr_q, clr_l, isR_r, isR_n, isR_q, cat1_i, cat1_r, b0, b1, if_true, if_false, not_true, not_false_eq_true, reduceCtorEq, ite_self, and_true, true_and, and_false, false_and, or_true, true_or, or_false, false_or, k_s1 hG, k_1_6 hG, K4, k_s5 hG, tc24, cS_rd w0, mnw_at, cs_2, hH, rb]
  have hM2 : ∃ m2, mup (cM G C (mnw m0 n (fun i => if i = 2 then .int (nI 0) else if i = 1 then .int (nI c) else if i = 0 then .ref (aT G t) else dfv (pty 2 i)))) (G.ad 5) G.H (.ref n) = cM (gH G n t (nI c)) (sup C 38 G.H (nI 0)) m2 ∧ ∀ a, a < n → G.W a = 0 → m2 a = m0 a := ⟨_, hM, fun a ha hw => fr_m hG (Or.inl ⟨by omega, by omega⟩) hw (mnw_ne (by omega))⟩
  have hS2 : ∃ s2, cS G (mnw s0 n (2, 3)) = cS (gH G n t (nI c)) s2 ∧ ∀ a, a < n → G.W a = 0 → s2 a = s0 a := ⟨_, hS, fun a ha hw => by rw [cS_rd hw, mnw_ne (by omega)]⟩
  obtain ⟨m2, em, fm⟩ := hM2
  obtain ⟨s2, es2, fs⟩ := hS2
  have hK1 := OKC_H (n := n) (t := t) (c := nI c) hK
  have rd1 := Rdy_H (c := nI c) ht rd
  have eT1 : (gH G n t (nI c)).T = G.T := rfl
  have es1 : (gH G n t (nI c)).sl = G.sl := rfl
  have eW : ∀ a, a < n → G.W a = 0 → (gH G n t (nI c)).W a = 0 := by
    intro a ha hw
    have e : (gH G n t (nI c)).W a = if n ≤ a ∧ a < n + 1 then fHi G.H (a - n) else G.W a := rfl
    rw [e, if_neg (by omega), hw]
  have el1 : ∀ r, lvR (gH G n t (nI c)) r ↔ lvR G r := fun r => Iff.rfl
  have eaT1 := ge_T hG ge ht
  have eaH1 := ge_H hG ge h
  rw [em, es2, ← a1, ← eaT1] at run
  generalize hgd : gH G n t (nI c) = G1 at *
  obtain ⟨G', m3, s3, hGd, R, fr, hq', ge', a1', w0', eT, eA, eH, ek, es, el⟩ := ch_q (tag := 4) (vals := mvV G1 (hiC C G.H) t (C 34 0) (.ref n) (nI 2)) rd1 hG1 hK1 (Or.inl rfl) m2 s2
  have ht1 : t < G1.T := by rw [eT1]; exact ht
  have lv1 := (el1 r).mpr h
  have h41 : hiC C G.H 4 t = hN r := by rw [hiC_f (by decide) (by decide)]; exact h4
  have K := c11 (d := d + 1) (n := n + 1 + 1) (k := k + 3 + 7) (m0 := m2) (s0 := s2) (C := hiC C G.H) (f := fun i => dfv (pty 4 i)) (p := C 34 0) (st := nI 2) (H := .ref n) hG1 w0' ht1 (Or.inr ⟨_, rfl⟩) (Or.inr ⟨r, lv1, h41⟩) rfl
  have R' := R (d + 2) (n + 1 + 1) (k + 3 + 7)
  have nf : nfC 4 = 7 := rfl
  rw [nf] at R'
  have ht' : t < G'.T := by rw [eT]; exact ht1
  have lv' := (el r).mpr lv1
  have hq2 : q < G'.sl r := by rw [es, es1]; exact hq
  have eaT := ge_T hG1 ge' ht1
  have h4' : sup (hiC C G.H) 17 0 (nI (m + 1)) 4 t = hN r := by rw [sup_f (by decide)]; exact h41
  have h5' : sup (hiC C G.H) 17 0 (nI (m + 1)) 5 t = nI q := by rw [sup_f (by decide), hiC_f (by decide) (by decide)]; exact h5
  have MV := c42_o (d := d) (G := G') (C := sup (hiC C G.H) 17 0 (nI (m + 1))) (m0 := m3) (s0 := s3) (n := n + 1 + 1) (k := k + 3 + 7) (s := nI 2) (x := nI 0) hq' lv' hq2 ht' h4' h5'
  have e35 : sup C 38 G.H (nI 0) 35 0 = nI G.H := by rw [sup_f (by decide)]; exact h1
  have e34 : hiC C G.H 34 0 = C 34 0 := hiC_f (by decide) (by decide)
  have e34' : mvO (sup (hiC C G.H) 17 0 (nI (m + 1))) t r q (nI 2) (nI 0) 34 0 = C 34 0 := by
    unfold mvO
    rw [sup_f (by decide), sup_f (by decide), sup_f (by decide), sup_f (by decide), sup_f (by decide), e34]
  have hfold : sup (sup C 38 G.H (nI 0)) 35 0 (nI (G.H + 1)) = hiC C G.H := rfl
  have hfin : ex (d + 3) 109 52 [some (.ref (G1.ad 1)), some (.ref (aT G1 t)), some (.int (nI c)), some (.int (nI G.H)), some (.ref n)] [] (cM G1 (sup C 38 G.H (nI 0)) m2, cS G1 s2, n + 1, k + 3) = some (some (.int (nI G.H)), (cM G' (sup (sup (mvO (sup (hiC C G.H) 17 0 (nI (m + 1))) t r q (nI 2) (nI 0)) 34 0 (C 34 0 + nI c)) 0 0 (nI 0)) m3, cS G' s3, n + 2, k + 3 + 7)) := by
    conv => lhs; simp only [x109_52, x109_53, x109_53i, x109_54, x109_57, x109_58, x109_59, x109_62, x109_63, x109_66, x109_66i, x109_67, x109_67n, x109_67q, x109_68, x109_69, x109_72, x109_72n, x109_72q, x109_74, bnd_some, Option.toList_some, Option.toList_none, List.cons_append, List.nil_append, List.singleton_append, clr_i, clr_r, clr_n, clr_0, clr_q, clr_l, isR_r, isR_n, isR_q, cat1_i, cat1_r, b0, b1, if_true, if_false, not_true, not_false_eq_true, reduceCtorEq, ite_self, and_true, true_and, and_false, false_and, or_true, true_or, or_false, false_or, k_s1 hG1, k_1_7 hG1, k_1_7w hG1, k_1_11 hG1, e35, nI_add, hfold, e34, cM_nw w0', cS_nw w0']
    conv => lhs; simp only [x109_75 (hv0 := isR_r) (hv2 := isR_r), x109_75 (hv0 := isR_r) (hv2 := isR_n), x109_75 (hv0 := isR_n) (hv2 := isR_r), x109_75 (hv0 := isR_n) (hv2 := isR_n), x109_78 (hv0 := isR_r), x109_78 (hv0 := isR_n), bnd_some, Option.toList_some, Option.toList_none, List.cons_append, List.nil_append, List.singleton_append, clr_i, clr_r, clr_n, clr_0, clr_q, clr_l, isR_r, isR_n, isR_q, cat1_i, cat1_r, b0, b1, if_true, if_false, not_true, not_false_eq_true, reduceCtorEq, ite_self, and_true, true_and, and_false, false_and, or_true, true_or, or_false, false_or, k_s1 hG1, K, R']
    rw [← eaT, ← a1']
    simp only [x109_81, x109_81n, x109_81q, x109_82, x109_83, x109_84, x109_85 (hv1 := isR_r), x109_85 (hv1 := isR_n), x109_88, x109_89, x109_89i, x109_90, x109_93, x109_94, x109_95, x109_98, x109_99, x109_100, x109_103, bnd_some, Option.toList_some, Option.toList_none, List.cons_append, List.nil_append, List.singleton_append, clr_i, clr_r, clr_n, clr_0, clr_q, clr_l, isR_r, isR_n, isR_q, cat1_i, cat1_r, b0, b1, if_true, if_false, not_true, not_false_eq_true, reduceCtorEq, ite_self, and_true, true_and, and_false, false_and, or_true, true_or, or_false, false_or, k_sT hq', k_s1 hq', k_1_11 hq', k_1_11w hq', isTh_tg, ht', MV, e34', c85 hq']
  rw [hfin] at run
  rw [a1, eaT1] at run
  rw [← hGd]
  refine ⟨m3, s3, run, fun a ha hw => ?_⟩
  have z := fr a (by omega) (eW a ha hw)
  exact ⟨z.1.trans (fm a ha hw), z.2.trans (fs a ha hw)⟩
theorem c73_0 {t c : Int32} (hG : OKG G) (hK : OKC G C) (h : ixI G.T t = none) : ex (d + 2) 73 0 [some (.ref (G.ad 1)), some (.int t), some (.int c), none, none] [] (cM G C m0, cS G s0, n, k) = rtC G m0 s0 n k (bdS C 10) := by
  simp only [x73_0, x73_1, x73_2, x73_5, x73_5n, x73_5q, x73_6, x73_6n, x73_6q, x73_7n, x73_7, x73_10, x73_11, x73_13, x73_16, bnd_some, Option.toList_some, Option.toList_none, List.cons_append, List.nil_append, List.singleton_append, clr_i, clr_r, clr_n, clr_0, clr_q, clr_l, isR_r, isR_n, isR_q, cat1_i, cat1_r, b0, b1, if_true, if_false, not_true, not_false_eq_true, reduceCtorEq, ite_self, and_true, true_and, and_false, false_and, or_true, true_or, or_false, false_or, k_1_0 hG, k_1_1 hG, k_1_1w hG, k_1_2 hG, k_1_3 hG, k_1_3w hG, k_1_4 hG, k_1_5 hG, k_1_5w hG, k_1_6 hG, k_1_7 hG, k_1_7w hG, k_1_8 hG, k_1_9 hG, k_1_9w hG, k_1_10 hG, k_1_11 hG, k_1_11w hG, k_1_12 hG, k_1_12w hG, k_1_13 hG, k_1_13w hG, k_1_14 hG, k_1_14w hG, k_1_15 hG, k_1_15w hG, k_1_16 hG, k_1_16w hG, k_7_0 hG, k_7_1 hG, k_7_2 hG, k_7_2w hG, k_7_3 hG, k_7_4 hG, k_7_5 hG, k_7_5w hG, k_7_6 hG, k_7_7 hG, k_7_8 hG, k_7_9 hG, k_7_10 hG, k_7_11 hG, k_7_12 hG, k_7_13 hG, k_7_14 hG, k_7_15 hG, k_7_15w hG, k_7_16 hG, k_7_17 hG, k_7_17w hG, k_s1 hG, k_s2 hG, k_s3 hG, k_s4 hG, k_s5 hG, k_s6 hG, k_s7 hG, k_s8 hG, k_s9 hG, k_s10 hG, k_s11 hG, k_s12 hG, k_s13 hG, k_s14 hG, k_s15 hG, k_s16 hG, k_s17 hG, k_s18 hG, k_s19 hG, k_s20 hG, k_s21 hG, k_2 hG, k_3 hG, k_4 hG, k_5 hG, k_6 hG, k_13 hG, k_14 hG, k_16 hG, k_8 hG, k_8w hG, k_9 hG, k_9w hG, k_10 hG, k_10w hG, k_11 hG, k_11w hG, k_12 hG, k_12w hG, k_15 hG, k_15w hG, k_17 hG, k_17w hG, k_18 hG, k_18w hG, k_19 hG, k_19w hG, k_20 hG, k_20w hG, k_21 hG, k_21w hG, k_P hG, k_Pw hG, k_sP hG, k_Q hG, k_Qw hG, k_sQ hG, k_G hG, k_Gw hG, k_sG hG, k_Z hG, k_Zw hG, k_sZ hG, k_I hG, k_Iw hG, k_sI hG, k_O hG, k_Ow hG, k_sO hG, k_V hG, k_Vw hG, k_sV hG, k_M hG, k_Mw hG, k_sM hG, k_S hG, k_Sw hG, k_Swn hG, k_sS hG, k_T_0 hG, k_T_1 hG, k_T_2 hG, k_T_3 hG, k_T_4 hG, k_T_5 hG, k_T_6 hG, k_T_7 hG, k_T_8 hG, k_T_6v hG, k_T_2w hG, k_T_4w hG, k_T_3w hG, k_T_3wn hG, k_sT hG, k_H_0 hG, k_H_1 hG, k_H_2 hG, k_sH hG, k_A_0 hG, k_sA hG, k_J_0 hG, k_J_1 hG, k_J_2 hG, k_J_2w hG, k_sJ hG, k_C hG, k_sC hG, isTh_tg, isTh1, isTh8, isTh9, zT, oT, oF, zT0, oF0, c86n hG hK h, c84 hG, bdS, rtC]
theorem c73_1 {j : Nat} {c : Int32} (hG : OKG G) (hK : OKC G C) (hj : j < G.T) (h5 : nI 5 < C 2 j) : ex (d + 2) 73 0 [some (.ref (G.ad 1)), some (.int (nI j)), some (.int c), none, none] [] (cM G C m0, cS G s0, n, k) = rtC G m0 s0 n k (bdS C 4) := by
  have h5' : ¬ C 2 j ≤ nI 5 := Int32.not_le.mpr h5
  simp only [x73_0, x73_1, x73_2, x73_5, x73_5n, x73_5q, x73_6, x73_6n, x73_6q, x73_7n, x73_7, x73_10, x73_11, x73_13, x73_16, x73_17, x73_17n, x73_17q, x73_18, x73_21, x73_22, x73_25, x73_26, x73_27, x73_30, bnd_some, Option.toList_some, Option.toList_none, List.cons_append, List.nil_append, List.singleton_append, clr_i, clr_r, clr_n, clr_0, clr_q, clr_l, isR_r, isR_n, isR_q, cat1_i, cat1_r, b0, b1, if_true, if_false, not_true, not_false_eq_true, reduceCtorEq, ite_self, and_true, true_and, and_false, false_and, or_true, true_or, or_false, false_or, k_1_0 hG, k_1_1 hG, k_1_1w hG, k_1_2 hG, k_1_3 hG, k_1_3w hG, k_1_4 hG, k_1_5 hG, k_1_5w hG, k_1_6 hG, k_1_7 hG, k_1_7w hG, k_1_8 hG, k_1_9 hG, k_1_9w hG, k_1_10 hG, k_1_11 hG, k_1_11w hG, k_1_12 hG, k_1_12w hG, k_1_13 hG, k_1_13w hG, k_1_14 hG, k_1_14w hG, k_1_15 hG, k_1_15w hG, k_1_16 hG, k_1_16w hG, k_7_0 hG, k_7_1 hG, k_7_2 hG, k_7_2w hG, k_7_3 hG, k_7_4 hG, k_7_5 hG, k_7_5w hG, k_7_6 hG, k_7_7 hG, k_7_8 hG, k_7_9 hG, k_7_10 hG, k_7_11 hG, k_7_12 hG, k_7_13 hG, k_7_14 hG, k_7_15 hG, k_7_15w hG, k_7_16 hG, k_7_17 hG, k_7_17w hG, k_s1 hG, k_s2 hG, k_s3 hG, k_s4 hG, k_s5 hG, k_s6 hG, k_s7 hG, k_s8 hG, k_s9 hG, k_s10 hG, k_s11 hG, k_s12 hG, k_s13 hG, k_s14 hG, k_s15 hG, k_s16 hG, k_s17 hG, k_s18 hG, k_s19 hG, k_s20 hG, k_s21 hG, k_2 hG, k_3 hG, k_4 hG, k_5 hG, k_6 hG, k_13 hG, k_14 hG, k_16 hG, k_8 hG, k_8w hG, k_9 hG, k_9w hG, k_10 hG, k_10w hG, k_11 hG, k_11w hG, k_12 hG, k_12w hG, k_15 hG, k_15w hG, k_17 hG, k_17w hG, k_18 hG, k_18w hG, k_19 hG, k_19w hG, k_20 hG, k_20w hG, k_21 hG, k_21w hG, k_P hG, k_Pw hG, k_sP hG, k_Q hG, k_Qw hG, k_sQ hG, k_G hG, k_Gw hG, k_sG hG, k_Z hG, k_Zw hG, k_sZ hG, k_I hG, k_Iw hG, k_sI hG, k_O hG, k_Ow hG, k_sO hG, k_V hG, k_Vw hG, k_sV hG, k_M hG, k_Mw hG, k_sM hG, k_S hG, k_Sw hG, k_Swn hG, k_sS hG, k_T_0 hG, k_T_1 hG, k_T_2 hG, k_T_3 hG, k_T_4 hG, k_T_5 hG, k_T_6 hG, k_T_7 hG, k_T_8 hG, k_T_6v hG, k_T_2w hG, k_T_4w hG, k_T_3w hG, k_T_3wn hG, k_sT hG, k_H_0 hG, k_H_1 hG, k_H_2 hG, k_sH hG, k_A_0 hG, k_sA hG, k_J_0 hG, k_J_1 hG, k_J_2 hG, k_J_2w hG, k_sJ hG, k_C hG, k_sC hG, isTh_tg, isTh1, isTh8, isTh9, zT, oT, oF, zT0, oF0, c86s hG hK hj, hj, h5', c84 hG, bdS, rtC]
theorem c73_2 {j : Nat} {c : Int32} (hG : OKG G) (hK : OKC G C) (hj : j < G.T) (h5 : ¬ nI 5 < C 2 j) (h3 : ¬ C 3 j = nI 1) : ex (d + 2) 73 0 [some (.ref (G.ad 1)), some (.int (nI j)), some (.int c), none, none] [] (cM G C m0, cS G s0, n, k) = rtC G m0 s0 n k (bdS C 8) := by
  have h5' : C 2 j ≤ nI 5 := Int32.not_lt.mp h5
  simp only [x73_0, x73_1, x73_2, x73_5, x73_5n, x73_5q, x73_6, x73_6n, x73_6q, x73_7n, x73_7, x73_10, x73_11, x73_13, x73_16, x73_17, x73_17n, x73_17q, x73_18, x73_21, x73_22, x73_25, x73_26, x73_27, x73_30, x73_31, x73_31n, x73_31q, x73_32, x73_35, x73_36, x73_39, x73_40, x73_42, x73_45, bnd_some, Option.toList_some, Option.toList_none, List.cons_append, List.nil_append, List.singleton_append, clr_i, clr_r, clr_n, clr_0, clr_q, clr_l, isR_r, isR_n, isR_q, cat1_i, cat1_r, b0, b1, if_true, if_false, not_true, not_false_eq_true, reduceCtorEq, ite_self, and_true, true_and, and_false, false_and, or_true, true_or, or_false, false_or, k_1_0 hG, k_1_1 hG, k_1_1w hG, k_1_2 hG, k_1_3 hG, k_1_3w hG, k_1_4 hG, k_1_5 hG, k_1_5w hG, k_1_6 hG, k_1_7 hG, k_1_7w hG, k_1_8 hG, k_1_9 hG, k_1_9w hG, k_1_10 hG, k_1_11 hG, k_1_11w hG, k_1_12 hG, k_1_12w hG, k_1_13 hG, k_1_13w hG, k_1_14 hG, k_1_14w hG, k_1_15 hG, k_1_15w hG, k_1_16 hG, k_1_16w hG, k_7_0 hG, k_7_1 hG, k_7_2 hG, k_7_2w hG, k_7_3 hG, k_7_4 hG, k_7_5 hG, k_7_5w hG, k_7_6 hG, k_7_7 hG, k_7_8 hG, k_7_9 hG, k_7_10 hG, k_7_11 hG, k_7_12 hG, k_7_13 hG, k_7_14 hG, k_7_15 hG, k_7_15w hG, k_7_16 hG, k_7_17 hG, k_7_17w hG, k_s1 hG, k_s2 hG, k_s3 hG, k_s4 hG, k_s5 hG, k_s6 hG, k_s7 hG, k_s8 hG, k_s9 hG, k_s10 hG, k_s11 hG, k_s12 hG, k_s13 hG, k_s14 hG, k_s15 hG, k_s16 hG, k_s17 hG, k_s18 hG, k_s19 hG, k_s20 hG, k_s21 hG, k_2 hG, k_3 hG, k_4 hG, k_5 hG, k_6 hG, k_13 hG, k_14 hG, k_16 hG, k_8 hG, k_8w hG, k_9 hG, k_9w hG, k_10 hG, k_10w hG, k_11 hG, k_11w hG, k_12 hG, k_12w hG, k_15 hG, k_15w hG, k_17 hG, k_17w hG, k_18 hG, k_18w hG, k_19 hG, k_19w hG, k_20 hG, k_20w hG, k_21 hG, k_21w hG, k_P hG, k_Pw hG, k_sP hG, k_Q hG, k_Qw hG, k_sQ hG, k_G hG, k_Gw hG, k_sG hG, k_Z hG, k_Zw hG, k_sZ hG, k_I hG, k_Iw hG, k_sI hG, k_O hG, k_Ow hG, k_sO hG, k_V hG, k_Vw hG, k_sV hG, k_M hG, k_Mw hG, k_sM hG, k_S hG, k_Sw hG, k_Swn hG, k_sS hG, k_T_0 hG, k_T_1 hG, k_T_2 hG, k_T_3 hG, k_T_4 hG, k_T_5 hG, k_T_6 hG, k_T_7 hG, k_T_8 hG, k_T_6v hG, k_T_2w hG, k_T_4w hG, k_T_3w hG, k_T_3wn hG, k_sT hG, k_H_0 hG, k_H_1 hG, k_H_2 hG, k_sH hG, k_A_0 hG, k_sA hG, k_J_0 hG, k_J_1 hG, k_J_2 hG, k_J_2w hG, k_sJ hG, k_C hG, k_sC hG, isTh_tg, isTh1, isTh8, isTh9, zT, oT, oF, zT0, oF0, c86s hG hK hj, hj, h5', h3, c84 hG, bdS, rtC]
theorem c73_w {c : Int32} {j : Nat} (hG : OKG G) (hK : OKC G C) (hj : j < G.T) (h5 : ¬ nI 5 < C 2 j) (h3 : C 3 j = nI 1) (hin : ex (d + 3) 109 0 [some (.ref (G.ad 1)), some (.ref (aT G j)), some (.int c), none, none] [] (cM G (lkC C) m0, cS G s0, n, k) = some (some (.int x), (cM G' C' m', cS G' s', n', k'))) (hq : OKG G') (a1 : G'.ad 1 = G.ad 1) : ex (d + 4) 73 0 [some (.ref (G.ad 1)), some (.int (nI j)), some (.int c), none, none] [] (cM G C m0, cS G s0, n, k) = some (some (.int x), (cM G' (lvC2 C') m', cS G' s', n', k')) := by
  have h5' : C 2 j ≤ nI 5 := Int32.not_lt.mp h5
  have L := c103 (d := d + 2) (G := G') (C := C') (m0 := m') (s0 := s') (n := n') (k := k') hq
  rw [a1] at L
  have s1' := k_s1 (G := G') (s0 := s') hq
  rw [a1] at s1'
  simp only [x73_0, x73_1, x73_2, x73_5, x73_5n, x73_5q, x73_6, x73_6n, x73_6q, x73_7n, x73_7, x73_10, x73_11, x73_13, x73_16, x73_17, x73_17n, x73_17q, x73_18, x73_21, x73_22, x73_25, x73_26, x73_27, x73_30, x73_31, x73_31n, x73_31q, x73_32, x73_35, x73_36, x73_39, x73_40, x73_42, x73_45, x73_46, x73_47, x73_50, x73_51, x73_51n, x73_51q, x73_52, x73_53 (hv0 := isR_r), x73_53 (hv0 := isR_n), x73_56, x73_58, x73_59, x73_62, x73_64, bnd_some, Option.toList_some, Option.toList_none, List.cons_append, List.nil_append, List.singleton_append, clr_i, clr_r, clr_n, clr_0, clr_q, clr_l, isR_r, isR_n, isR_q, cat1_i, cat1_r, b0, b1, if_true, if_false, not_true, not_false_eq_true, reduceCtorEq, ite_self, and_true, true_and, and_false, false_and, or_true, true_or, or_false, false_or, k_s1 hG, k_sT hG, k_T_1 hG, k_T_2 hG, isTh_tg, hj, c86s hG hK hj, h5', h3, c102 hG, hin, L, s1']
end CP
