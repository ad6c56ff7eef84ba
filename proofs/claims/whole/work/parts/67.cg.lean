/-! ===== the class: wear, set, trunk, row ===== -/
/-- what is not made yet is nought -/
def Wfr (G : Gh) (C : St) : Prop := (∀ j, 6 * G.T ≤ j → C 9 j = 0 ∧ C 10 j = 0 ∧ C 11 j = 0) ∧ (∀ j, 40 * G.T ≤ j → C 12 j = 0)
def nwC (C : St) (T : Nat) (kd : Int32) (a b : Nat) : St := filS (sup (sup (sup (sup (sup (sup C 2 T kd) 3 T (nI 0)) 4 T (-1)) 6 T (nI a)) 13 T (nI b)) 5 T (nI 0)) 7 (40 * T) a (-1)
def Gr (G G' : Gh) (C' : St) (m0 : Mm) (s0 : Nat → Nat × Nat) (n n' k' : Nat) (X : Option Rs) (x : Int32) : Prop := ∃ m' s', X = some (some (.int x), (cM G' C' m', cS G' s', n', k')) ∧ ∀ a, a < n → G.W a = 0 → m' a = m0 a ∧ s' a = s0 a
theorem n_1 {n : Nat} : ¬ n + 1 = n := by omega
theorem n_2 {n : Nat} : ¬ n + 2 = n := by omega
theorem n_3 {n : Nat} : ¬ n + 3 = n := by omega
theorem n1_ {n : Nat} : ¬ n = n + 1 := by omega
theorem n2_ {n : Nat} : ¬ n = n + 2 := by omega
theorem n3_ {n : Nat} : ¬ n = n + 3 := by omega
theorem n2_1 {n : Nat} : ¬ n + 2 = n + 1 := by omega
theorem n3_1 {n : Nat} : ¬ n + 3 = n + 1 := by omega
theorem n3_2 {n : Nat} : ¬ n + 3 = n + 2 := by omega
theorem n1_2 {n : Nat} : ¬ n + 1 = n + 2 := by omega
theorem n1_3 {n : Nat} : ¬ n + 1 = n + 3 := by omega
theorem n2_3 {n : Nat} : ¬ n + 2 = n + 3 := by omega
theorem le6 : (6 ≤ 10000) ↔ True := by decide
section CG
variable {d n k : Nat} {G G' : Gh} {C C1 : St} {m0 m1 m2 : Mm} {s0 s1 s2 : Nat → Nat × Nat}
theorem W_n (hn : ∀ a, G.W a ≠ 0 → a < n) (i : Nat) : G.W (n + i) = 0 := by
  by_cases q : G.W (n + i) = 0
  · exact q
  · have := hn _ q
    omega
theorem c97 {a : Nat} (hG : OKG G) (hT : G.T < 200) (h1 : C 1 0 = nI G.T) (hc : casts.contains ((cS G s1 a).1, elT 21) = true) (hM : mup (cM G C m1) (G.ad 2) G.T (.ref a) = cM G' C1 m2) (hS : cS G s1 = cS G' s2) (hq : OKG G') (e1 : G'.ad 1 = G.ad 1) (ea : aT G' G.T = a) (eT : G.T < G'.T) (c1 : C1 1 0 = nI G.T) : ex (d + 1) 97 0 [some (.ref (G.ad 1)), some (.ref a)] [] (cM G C m1, cS G s1, n, k) = some (some (.int (nI G.T)), (cM G' (sup (sup C1 1 0 (nI (G.T + 1))) 0 0 (nI 0)) m2, cS G' s2, n, k)) := by
  have tb : G.T < 2147483648 := by omega
  simp only [x97_0, x97_1, x97_4, x97_5, x97_8, x97_8n, x97_8q, x97_9, x97_9n, bnd_some, Option.toList_some, Option.toList_none, List.cons_append, List.nil_append, List.singleton_append, clr_i, clr_r, clr_n, clr_0, clr_q, clr_l, isR_r, isR_n, isR_q, cat1_i, cat1_r, b0, b1, if_true, if_false, not_true, not_false_eq_true, reduceCtorEq, ite_self, and_true, true_and, and_false, false_and, or_true, true_or, or_false, false_or, k_1_0 hG, k_1_1 hG, k_1_1w hG, k_1_2 hG, k_1_3 hG, k_1_3w hG, k_1_4 hG, k_1_5 hG, k_1_5w hG, k_1_6 hG, k_1_7 hG, k_1_7w hG, k_1_8 hG, k_1_9 hG, k_1_9w hG, k_1_10 hG, k_1_11 hG, k_1_11w hG, k_1_12 hG, k_1_12w hG, k_1_13 hG, k_1_13w hG, k_1_14 hG, k_1_14w hG, k_1_15 hG, k_1_15w hG, k_1_16 hG, k_1_16w hG, k_7_0 hG, k_7_1 hG, k_7_2 hG, k_7_2w hG, k_7_3 hG, k_7_4 hG, k_7_5 hG, k_7_5w hG, k_7_6 hG, k_7_7 hG, k_7_8 hG, k_7_9 hG, k_7_10 hG, k_7_11 hG, k_7_12 hG, k_7_13 hG, k_7_14 hG, k_7_15 hG, k_7_15w hG, k_7_16 hG, k_7_17 hG, k_7_17w hG, k_s1 hG, k_s2 hG, k_s3 hG, k_s4 hG, k_s5 hG, k_s6 hG, k_s7 hG, k_s8 hG, k_s9 hG, k_s10 hG, k_s11 hG, k_s12 hG, k_s13 hG, k_s14 hG, k_s15 hG, k_s16 hG, k_s17 hG, k_s18 hG, k_s19 hG, k_s20 hG, k_s21 hG, k_2 hG, k_3 hG, k_4 hG, k_5 hG, k_6 hG, k_13 hG, k_14 hG, k_16 hG, k_8 hG, k_8w hG, k_9 hG, k_9w hG, k_10 hG, k_10w hG, k_11 hG, k_11w hG, k_12 hG, k_12w hG, k_15 hG, k_15w hG, k_17 hG, k_17w hG, k_18 hG, k_18w hG, k_19 hG, k_19w hG, k_20 hG, k_20w hG, k_21 hG, k_21w hG, k_P hG, k_Pw hG, k_sP hG, k_Q hG, k_Qw hG, k_sQ hG, k_G hG, k_Gw hG, k_sG hG, k_Z hG, k_Zw hG, k_sZ hG, k_I hG, k_Iw hG, k_sI hG, k_O hG, k_Ow hG, k_sO hG, k_V hG, k_Vw hG, k_sV hG, k_M hG, k_Mw hG, k_sM hG, k_S hG, k_Sw hG, k_Swn hG, k_sS hG, k_T_0 hG, k_T_1 hG, k_T_2 hG, k_T_3 hG, k_T_4 hG, k_T_5 hG, k_T_6 hG, k_T_7 hG, k_T_8 hG, k_T_6v hG, k_T_2w hG, k_T_4w hG, k_T_3w hG, k_T_3wn hG, k_sT hG, k_H_0 hG, k_H_1 hG, k_H_2 hG, k_sH hG, k_A_0 hG, k_sA hG, k_J_0 hG, k_J_1 hG, k_J_2 hG, k_J_2w hG, k_sJ hG, k_C hG, k_sC hG, isTh_tg, isTh1, isTh8, isTh9, zT, oT, oF, zT0, oF0, h1, tc21, hc, hT, tb]
  rw [hM, hS, ← e1, ← ea]
  simp only [x97_10, x97_11, x97_11i, x97_12, x97_15, x97_16, x97_17, x97_20, x97_21, x97_21n, x97_21q, x97_22, x97_25, x97_28, bnd_some, Option.toList_some, Option.toList_none, List.cons_append, List.nil_append, List.singleton_append, clr_i, clr_r, clr_n, clr_0, clr_q, clr_l, isR_r, isR_n, isR_q, cat1_i, cat1_r, b0, b1, if_true, if_false, not_true, not_false_eq_true, reduceCtorEq, ite_self, and_true, true_and, and_false, false_and, or_true, true_or, or_false, false_or, k_1_0 hq, k_1_1 hq, k_1_1w hq, k_1_2 hq, k_1_3 hq, k_1_3w hq, k_1_4 hq, k_1_5 hq, k_1_5w hq, k_1_6 hq, k_1_7 hq, k_1_7w hq, k_1_8 hq, k_1_9 hq, k_1_9w hq, k_1_10 hq, k_1_11 hq, k_1_11w hq, k_1_12 hq, k_1_12w hq, k_1_13 hq, k_1_13w hq, k_1_14 hq, k_1_14w hq, k_1_15 hq, k_1_15w hq, k_1_16 hq, k_1_16w hq, k_7_0 hq, k_7_1 hq, k_7_2 hq, k_7_2w hq, k_7_3 hq, k_7_4 hq, k_7_5 hq, k_7_5w hq, k_7_6 hq, k_7_7 hq, k_7_8 hq, k_7_9 hq, k_7_10 hq, k_7_11 hq, k_7_12 hq, k_7_13 hq, k_7_14 hq, k_7_15 hq, k_7_15w hq, k_7_16 hq, k_7_17 hq, k_7_17w hq, k_s1 hq, k_s2 hq, k_s3 hq, k_s4 hq, k_s5 hq, k_s6 hq, k_s7 hq, k_s8 hq, k_s9 hq, k_s10 hq, k_s11 hq, k_s12 hq, k_s13 hq, k_s14 hq, k_s15 hq, k_s16 hq, k_s17 hq, k_s18 hq, k_s19 hq, k_s20 hq, k_s21 hq, k_2 hq, k_3 hq, k_4 hq, k_5 hq, k_6 hq, k_13 hq, k_14 hq, k_16 hq, k_8 hq, k_8w hq, k_9 hq, k_9w hq, k_10 hq, k_10w hq, k_11 hq, k_11w hq, k_12 hq, k_12w hq, k_15 hq, k_15w hq, k_17 hq, k_17w hq, k_18 hq, k_18w hq, k_19 hq, k_19w hq, k_20 hq, k_20w hq, k_21 hq, k_21w hq, k_P hq, k_Pw hq, k_sP hq, k_Q hq, k_Qw hq, k_sQ hq, k_G hq, k_Gw hq, k_sG hq, k_Z hq, k_Zw hq, k_sZ hq, k_I hq, k_Iw hq, k_sI hq, k_O hq, k_Ow hq, k_sO hq, k_V hq, k_Vw hq, k_sV hq, k_M hq, k_Mw hq, k_sM hq, k_S hq, k_Sw hq, k_Swn hq, k_sS hq, k_T_0 hq, k_T_1 hq, k_T_2 hq, k_T_3 hq, k_T_4 hq, k_T_5 hq, k_T_6 hq, k_T_7 hq, k_T_8 hq, k_T_6v hq, k_T_2w hq, k_T_4w hq, k_T_3w hq, k_T_3wn hq, k_sT hq, k_H_0 hq, k_H_1 hq, k_H_2 hq, k_sH hq, k_A_0 hq, k_sA hq, k_J_0 hq, k_J_1 hq, k_J_2 hq, k_J_2w hq, k_sJ hq, k_C hq, k_sC hq, isTh_tg, isTh1, isTh8, isTh9, zT, oT, oF, zT0, oF0, sup_eq, sup_f, not_false_eq_true, Nat.reduceEqDiff, c1, eT, nI_add, c85 hq]
theorem nwC_e {T a b : Nat} {kd : Int32} : nwC C T kd a b 2 T = kd ∧ nwC C T kd a b 3 T = nI 0 ∧ nwC C T kd a b 4 T = -1 ∧ nwC C T kd a b 5 T = nI 0 ∧ (∀ j, j < a → nwC C T kd a b 7 (40 * T + j) = -1) ∧ nwC C T kd a b 1 0 = C 1 0 ∧ (∀ f, f = 9 ∨ f = 10 ∨ f = 11 ∨ f = 12 → ∀ j, nwC C T kd a b f j = C f j) := by
  have e : ∀ f j, f ≠ 7 → nwC C T kd a b f j = sup (sup (sup (sup (sup (sup C 2 T kd) 3 T (nI 0)) 4 T (-1)) 6 T (nI a)) 13 T (nI b)) 5 T (nI 0) f j := fun f j h => by
    unfold nwC filS
    rw [if_neg (fun z => h z.1)]
  refine ⟨?_, ?_, ?_, ?_, ?_, ?_, ?_⟩
  · rw [e _ _ (by decide), sup_f (by decide), sup_f (by decide), sup_f (by decide), sup_f (by decide), sup_f (by decide), sup_eq]
  · rw [e _ _ (by decide), sup_f (by decide), sup_f (by decide), sup_f (by decide), sup_f (by decide), sup_eq]
  · rw [e _ _ (by decide), sup_f (by decide), sup_f (by decide), sup_f (by decide), sup_eq]
  · rw [e _ _ (by decide), sup_eq]
  · intro j hj
    unfold nwC filS
    rw [if_pos ⟨rfl, by omega, by omega⟩]
  · rw [e _ _ (by decide), sup_f (by decide), sup_f (by decide), sup_f (by decide), sup_f (by decide), sup_f (by decide), sup_f (by decide)]
  · intro f hf j
    rcases hf with rfl | rfl | rfl | rfl <;> rw [e _ _ (by decide), sup_f (by decide), sup_f (by decide), sup_f (by decide), sup_f (by decide), sup_f (by decide), sup_f (by decide)]
theorem nwC_x (hG : OKG G) (hT : G.T < 200) {a b : Nat} {kd : Int32} (ha : a ≤ 40) : Cxx G C (nwC C G.T kd a b) := by
  obtain ⟨z1, z3, z6, z10, z12, z14, z16⟩ := Lv_free hG hT
  have z0 : ¬ Lv G 0 := by unfold Lv; omega
  unfold nwC
  refine Cxx_fil ?_ (Cxx_sup (by decide) z1 (Cxx_sup (by decide) z0 (Cxx_sup (by decide) z0 (Cxx_sup (by decide) z1 (Cxx_sup (by decide) z1 (Cxx_sup (by decide) z1 Cxx_rfl))))))
  intro k h1 h2
  have e : dec 7 k = (600 + k / 40, k % 40) := rfl
  rw [e]
  have : k / 40 = G.T := by omega
  rw [this]
  exact z6
/-- a thing comes into the array of things -/
theorem grT {len kd sl vl : Nat} {f : Nat → Nat} {c : Int32} (hG : OKG G) (hK : OKC G C) (vc : VC G C) (hT : G.T < 200) (fm : Fm G len kd sl vl f) (hn : ∀ a, G.W a ≠ 0 → a < n) (hB : ∀ i, i < len → ∀ j, m1 (n + i) j = cW (gT G n len kd sl vl f) (f i) j (nwC C G.T c sl vl (loc (f i) j).1 (loc (f i) j).2)) (hs : ∀ i, i < len → s1 (n + i) = cT (gT G n len kd sl vl f) (f i)) : mup (cM G C m1) (G.ad 2) G.T (.ref n) = cM (gT G n len kd sl vl f) (nwC C G.T c sl vl) (mup (cM G C m1) (G.ad 2) G.T (.ref n)) ∧ cS G s1 = cS (gT G n len kd sl vl f) (cS G s1) ∧ OKG (gT G n len kd sl vl f) ∧ (gT G n len kd sl vl f).ad 1 = G.ad 1 ∧ aT (gT G n len kd sl vl f) G.T = n := by
  obtain ⟨h1, h3, fr, had⟩ := gT_lv (n := n) hG hT fm
  have hG' := gT_ok hG hT fm hn
  have ge : GE G (gT G n len kd sl vl f) := gT_GE fr (okR hG) hT
  have s40 : sl ≤ 40 := by unfold Fm at fm; omega
  have f0 : f 0 = 100 + G.T ∧ 0 < len := by
    rcases fm with ⟨-, hl, hf, -⟩ | ⟨-, hl, hf, -⟩ | ⟨-, -, hl, hf, -⟩ <;> rw [hf, hl] <;> exact ⟨rfl, by omega⟩
  have ea : aT (gT G n len kd sl vl f) G.T = n := by
    rw [aT_e (by omega), ← f0.1, had 0 f0.2]
    rfl
  refine ⟨?_, growS (f := f) (len := len) hG hG' ge hn had (gT_ad2 fr) h3 (fun i hi => rfl) hs, hG', gT_ad2 fr 1 (Or.inl ⟨by omega, by omega⟩), ea⟩
  refine grow (f := f) (len := len) hG hK vc hG' ge (nwC_x hG hT s40) hn had (gT_ad2 fr) h3 ⟨by omega, by omega⟩ ?_ (fun i hi => rfl) hB
  intro y y2 y6 j v
  have : y = 2 ∨ y = 3 ∨ y = 4 ∨ y = 5 ∨ y = 6 := by omega
  rcases this with rfl | rfl | rfl | rfl | rfl
  · show (if j < G.T + 1 then Value.ref (aT (gT G n len kd sl vl f) j) else .null) = if 2 = 2 ∧ j = G.T then .ref n else (if j < G.T then Value.ref (aT G j) else .null)
    by_cases q : j = G.T
    · rw [if_pos (by omega), if_pos ⟨rfl, q⟩, q, ea]
    · rw [if_neg (show ¬ (2 = 2 ∧ j = G.T) from fun z => q z.2)]
      by_cases q2 : j < G.T
      · rw [if_pos (by omega), if_pos q2, ge_T hG ge q2]
      · rw [if_neg (by omega), if_neg q2]
  · rw [if_neg (fun z => absurd z.1 (by decide))]
    show (if j < G.R then Value.ref (aH (gT G n len kd sl vl f) (200 + j)) else .null) = (if j < G.R then Value.ref (aH G (200 + j)) else .null)
    by_cases q : j < G.R
    · rw [if_pos q, if_pos q, ge_H hG ge (Or.inr ⟨by omega, by omega⟩)]
    · rw [if_neg q, if_neg q]
  · rw [if_neg (fun z => absurd z.1 (by decide))]
    show (if j < G.A then Value.ref (aA (gT G n len kd sl vl f) j) else .null) = (if j < G.A then Value.ref (aA G j) else .null)
    by_cases q : j < G.A
    · rw [if_pos q, if_pos q, ge_A hG ge q]
    · rw [if_neg q, if_neg q]
  · rw [if_neg (fun z => absurd z.1 (by decide))]
    show (if j < G.H then Value.ref (aJ (gT G n len kd sl vl f) j) else .null) = (if j < G.H then Value.ref (aJ G j) else .null)
    by_cases q : j < G.H
    · rw [if_pos q, if_pos q, ge_J hG ge q]
    · rw [if_neg q, if_neg q]
  · rw [if_neg (fun z => absurd z.1 (by decide))]
    show (if j < G.N then Value.ref (aC (gT G n len kd sl vl f) j) else .null) = (if j < G.N then Value.ref (aC G j) else .null)
    by_cases q : j < G.N
    · have b : j < 512 := by have := okN hG; omega
      rw [if_pos q, if_pos q, aC_e b, aC_e b, gT_ad2 fr _ (lvC q)]
    · rw [if_neg q, if_neg q]
theorem thW_all {t : Nat} {F : Nat → Value} {X : Nat → Int32} (f0 : F 0 = thW G' t 0 (X (lcT 0))) (f1 : F 1 = thW G' t 1 (X (lcT 1))) (f2 : F 2 = thW G' t 2 (X (lcT 2))) (f3 : F 3 = thW G' t 3 (X (lcT 3))) (f4 : F 4 = thW G' t 4 (X (lcT 4))) (f5 : F 5 = thW G' t 5 (X (lcT 5))) (f6 : F 6 = thW G' t 6 (X (lcT 6))) (f7 : F 7 = thW G' t 7 (X (lcT 7))) (f8 : F 8 = thW G' t 8 (X (lcT 8))) (f9 : ∀ j, F (j + 9) = thW G' t (j + 9) (X (lcT (j + 9)))) : ∀ j, F j = thW G' t j (X (lcT j)) := by
  intro j
  match j with
  | 0 => exact f0
  | 1 => exact f1
  | 2 => exact f2
  | 3 => exact f3
  | 4 => exact f4
  | 5 => exact f5
  | 6 => exact f6
  | 7 => exact f7
  | 8 => exact f8
  | j + 9 => exact f9 j
theorem c38 {a : Nat} {v w : Int32} (ha : G.W a = 0) (ht : isTh (s1 a).1 = true) : ex d 38 0 [some (.ref a), some (.int v), some (.int w)] [] (cM G C m1, cS G s1, n, k) = some (none, (cM G C (mup (mup (mup m1 a 0 (.int v)) a 1 (.int w)) a 2 (.int (nI 0))), cS G s1, n, k)) := by
  simp only [x38_0, x38_1, x38_4, x38_5, x38_6, x38_9, x38_10, x38_11, x38_14, x38_15, x38_16, x38_19, bnd_some, Option.toList_some, Option.toList_none, List.cons_append, List.nil_append, List.singleton_append, clr_i, clr_r, clr_n, clr_0, clr_q, clr_l, isR_r, isR_n, isR_q, cat1_i, cat1_r, b0, b1, if_true, if_false, not_true, not_false_eq_true, reduceCtorEq, ite_self, and_true, true_and, and_false, false_and, or_true, true_or, or_false, false_or, cS_rd ha, ht, cM_up ha]
theorem fr_m {x i a : Nat} {v : Value} (hG : OKG G) (hx : Lv G x) (hw : G.W a = 0) (h : m1 a = m0 a) : mup (cM G C m1) (G.ad x) i v a = m0 a := by
  funext j
  unfold mup
  have e := hG.2.1 x hx
  have x0 : x ≠ 0 := by unfold Lv at hx; omega
  rw [if_neg (fun z => x0 (by rw [← e, ← z.1]; exact hw)), cM_rd hw, h]
theorem gK {len kd sl vl : Nat} {f : Nat → Nat} : (gT G n len kd sl vl f).kd G.T = kd ∧ (gT G n len kd sl vl f).sl G.T = sl ∧ (gT G n len kd sl vl f).vl G.T = vl := by
  unfold gT
  rw [mk_kd, mk_sl, mk_vl, if_pos rfl, if_pos rfl, if_pos rfl]
  exact ⟨rfl, rfl, rfl⟩
theorem c45_n {v : Int32} (hG : OKG G) (hK : OKC G C) (h : ixR 0 3 v = none ∨ G.T = 200) : ex (d + 3) 45 0 [some (.ref (G.ad 1)), some (.int v)] [] (cM G C m0, cS G s0, n, k) = rtC G m0 s0 n k (bdS C 6) := by
  have M := c96 (d := d + 2) (m0 := m0) (s0 := s0) (n := n) (k := k) hG hK
  unfold rtC at M
  by_cases q : ixR 0 3 v = none
  · simp only [x45_0, x45_1, x45_2, x45_3, x45_6, x45_9, x45_10, x45_13, x45_16, x45_17, x45_19, x45_22, x45_23, x45_24, x45_27, x45_27i, x45_28, x45_29, x45_32, x45_33, x45_36 (hv0 := isR_r), x45_36 (hv0 := isR_n), x45_39, bnd_some, Option.toList_some, Option.toList_none, List.cons_append, List.nil_append, List.singleton_append, clr_i, clr_r, clr_n, clr_0, clr_q, clr_l, isR_r, isR_n, isR_q, cat1_i, cat1_r, b0, b1, if_true, if_false, not_true, not_false_eq_true, reduceCtorEq, ite_self, and_true, true_and, and_false, false_and, or_true, true_or, or_false, false_or, k_1_0 hG, k_1_1 hG, k_1_1w hG, k_1_2 hG, k_1_3 hG, k_1_3w hG, k_1_4 hG, k_1_5 hG, k_1_5w hG, k_1_6 hG, k_1_7 hG, k_1_7w hG, k_1_8 hG, k_1_9 hG, k_1_9w hG, k_1_10 hG, k_1_11 hG, k_1_11w hG, k_1_12 hG, k_1_12w hG, k_1_13 hG, k_1_13w hG, k_1_14 hG, k_1_14w hG, k_1_15 hG, k_1_15w hG, k_1_16 hG, k_1_16w hG, k_7_0 hG, k_7_1 hG, k_7_2 hG, k_7_2w hG, k_7_3 hG, k_7_4 hG, k_7_5 hG, k_7_5w hG, k_7_6 hG, k_7_7 hG, k_7_8 hG, k_7_9 hG, k_7_10 hG, k_7_11 hG, k_7_12 hG, k_7_13 hG, k_7_14 hG, k_7_15 hG, k_7_15w hG, k_7_16 hG, k_7_17 hG, k_7_17w hG, k_s1 hG, k_s2 hG, k_s3 hG, k_s4 hG, k_s5 hG, k_s6 hG, k_s7 hG, k_s8 hG, k_s9 hG, k_s10 hG, k_s11 hG, k_s12 hG, k_s13 hG, k_s14 hG, k_s15 hG, k_s16 hG, k_s17 hG, k_s18 hG, k_s19 hG, k_s20 hG, k_s21 hG, k_2 hG, k_3 hG, k_4 hG, k_5 hG, k_6 hG, k_13 hG, k_14 hG, k_16 hG, k_8 hG, k_8w hG, k_9 hG, k_9w hG, k_10 hG, k_10w hG, k_11 hG, k_11w hG, k_12 hG, k_12w hG, k_15 hG, k_15w hG, k_17 hG, k_17w hG, k_18 hG, k_18w hG, k_19 hG, k_19w hG, k_20 hG, k_20w hG, k_21 hG, k_21w hG, k_P hG, k_Pw hG, k_sP hG, k_Q hG, k_Qw hG, k_sQ hG, k_G hG, k_Gw hG, k_sG hG, k_Z hG, k_Zw hG, k_sZ hG, k_I hG, k_Iw hG, k_sI hG, k_O hG, k_Ow hG, k_sO hG, k_V hG, k_Vw hG, k_sV hG, k_M hG, k_Mw hG, k_sM hG, k_S hG, k_Sw hG, k_Swn hG, k_sS hG, k_T_0 hG, k_T_1 hG, k_T_2 hG, k_T_3 hG, k_T_4 hG, k_T_5 hG, k_T_6 hG, k_T_7 hG, k_T_8 hG, k_T_6v hG, k_T_2w hG, k_T_4w hG, k_T_3w hG, k_T_3wn hG, k_sT hG, k_H_0 hG, k_H_1 hG, k_H_2 hG, k_sH hG, k_A_0 hG, k_sA hG, k_J_0 hG, k_J_1 hG, k_J_2 hG, k_J_2w hG, k_sJ hG, k_C hG, k_sC hG, isTh_tg, isTh1, isTh8, isTh9, zT, oT, oF, zT0, oF0, c92, b2_R, b2_0, q, c84 hG, bdS, rtC]
  · have q2 := h.resolve_left q
    simp only [x45_0, x45_1, x45_2, x45_3, x45_6, x45_9, x45_10, x45_13, x45_16, x45_17, x45_19, x45_22, bnd_some, Option.toList_some, Option.toList_none, List.cons_append, List.nil_append, List.singleton_append, clr_i, clr_r, clr_n, clr_0, clr_q, clr_l, isR_r, isR_n, isR_q, cat1_i, cat1_r, b0, b1, if_true, if_false, not_true, not_false_eq_true, reduceCtorEq, ite_self, and_true, true_and, and_false, false_and, or_true, true_or, or_false, false_or, k_1_0 hG, k_1_1 hG, k_1_1w hG, k_1_2 hG, k_1_3 hG, k_1_3w hG, k_1_4 hG, k_1_5 hG, k_1_5w hG, k_1_6 hG, k_1_7 hG, k_1_7w hG, k_1_8 hG, k_1_9 hG, k_1_9w hG, k_1_10 hG, k_1_11 hG, k_1_11w hG, k_1_12 hG, k_1_12w hG, k_1_13 hG, k_1_13w hG, k_1_14 hG, k_1_14w hG, k_1_15 hG, k_1_15w hG, k_1_16 hG, k_1_16w hG, k_7_0 hG, k_7_1 hG, k_7_2 hG, k_7_2w hG, k_7_3 hG, k_7_4 hG, k_7_5 hG, k_7_5w hG, k_7_6 hG, k_7_7 hG, k_7_8 hG, k_7_9 hG, k_7_10 hG, k_7_11 hG, k_7_12 hG, k_7_13 hG, k_7_14 hG, k_7_15 hG, k_7_15w hG, k_7_16 hG, k_7_17 hG, k_7_17w hG, k_s1 hG, k_s2 hG, k_s3 hG, k_s4 hG, k_s5 hG, k_s6 hG, k_s7 hG, k_s8 hG, k_s9 hG, k_s10 hG, k_s11 hG, k_s12 hG, k_s13 hG, k_s14 hG, k_s15 hG, k_s16 hG, k_s17 hG, k_s18 hG, k_s19 hG, k_s20 hG, k_s21 hG, k_2 hG, k_3 hG, k_4 hG, k_5 hG, k_6 hG, k_13 hG, k_14 hG, k_16 hG, k_8 hG, k_8w hG, k_9 hG, k_9w hG, k_10 hG, k_10w hG, k_11 hG, k_11w hG, k_12 hG, k_12w hG, k_15 hG, k_15w hG, k_17 hG, k_17w hG, k_18 hG, k_18w hG, k_19 hG, k_19w hG, k_20 hG, k_20w hG, k_21 hG, k_21w hG, k_P hG, k_Pw hG, k_sP hG, k_Q hG, k_Qw hG, k_sQ hG, k_G hG, k_Gw hG, k_sG hG, k_Z hG, k_Zw hG, k_sZ hG, k_I hG, k_Iw hG, k_sI hG, k_O hG, k_Ow hG, k_sO hG, k_V hG, k_Vw hG, k_sV hG, k_M hG, k_Mw hG, k_sM hG, k_S hG, k_Sw hG, k_Swn hG, k_sS hG, k_T_0 hG, k_T_1 hG, k_T_2 hG, k_T_3 hG, k_T_4 hG, k_T_5 hG, k_T_6 hG, k_T_7 hG, k_T_8 hG, k_T_6v hG, k_T_2w hG, k_T_4w hG, k_T_3w hG, k_T_3wn hG, k_sT hG, k_H_0 hG, k_H_1 hG, k_H_2 hG, k_sH hG, k_A_0 hG, k_sA hG, k_J_0 hG, k_J_1 hG, k_J_2 hG, k_J_2w hG, k_sJ hG, k_C hG, k_sC hG, isTh_tg, isTh1, isTh8, isTh9, zT, oT, oF, zT0, oF0, c92, b2_R, b2_0, q, M, q2, c84 hG, bdS, rtC]
theorem c45 {v : Nat} (hG : OKG G) (hK : OKC G C) (vc : VC G C) (wf : Wfr G C) (hT : G.T < 200) (hn : ∀ a, G.W a ≠ 0 → a < n) (hv : v ≤ 3) (hx : ixR 0 3 (nI v) = some v) : Gr G (gT G n 4 v 0 0 (fGm G.T)) (sup (sup (nwC C G.T (nI v) 0 0) 1 0 (nI (G.T + 1))) 0 0 (nI 0)) m0 s0 n (n + 4) (k + 27) (ex (d + 3) 45 0 [some (.ref (G.ad 1)), some (.int (nI v))] [] (cM G C m0, cS G s0, n, k)) (nI G.T) := by
  have M := c96 (d := d + 2) (m0 := m0) (s0 := s0) (n := n) (k := k) hG hK
  unfold rtC at M
  have h1 := hK.1.1
  have w0 := W_n (G := G) hn 0
  have w1 := W_n (G := G) hn 1
  have w2 := W_n (G := G) hn 2
  have w3 := W_n (G := G) hn 3
  have w0' : G.W n = 0 := w0
  have hTn : ¬ G.T = 200 := by omega
  have fm : Fm G 4 v 0 0 (fGm G.T) := Or.inl ⟨hv, rfl, rfl, rfl, rfl⟩
  have K := fun (s1 : Nat → Nat × Nat) (m1 : Mm) (n2 k2 : Nat) (ht : isTh (s1 n).1 = true) => c38 (d := d + 1) (G := G) (C := C) (m1 := m1) (s1 := s1) (n := n2) (k := k2) (v := nI G.T) (w := nI v) w0' ht
  have ts : isTh ((mnw s0 n (1, 9)) n).1 = true := by rw [mnw_at]; rfl
  obtain ⟨gk, gs, gv⟩ := gK (G := G) (n := n) (len := 4) (kd := v) (sl := 0) (vl := 0) (f := fGm G.T)
  obtain ⟨e2, e3, e4, e5, -, e1, e9⟩ := nwC_e (C := C) (T := G.T) (a := 0) (b := 0) (kd := nI v)
  have GT := grT (m1 := mnw (mnw (mnw (mnw m0 n (fun i => if i = 8 then .ref (n + 3) else if i = 7 then .ref (n + 2) else if i = 6 then .ref (n + 1) else if i = 2 then .int (nI 0) else if i = 1 then .int (nI v) else if i = 0 then .int (nI G.T) else dfv (pty 1 i))) (n + 1) (fun _ => .int 0)) (n + 2) (fun _ => .int 0)) (n + 3) (fun _ => .int 0)) (s1 := mnw (mnw (mnw (mnw s0 n (1, 9)) (n + 1) (20, 6)) (n + 2) (20, 6)) (n + 3) (20, 6)) (c := nI v) hG hK vc hT fm hn (by
    intro i hi j
    have : i = 0 ∨ i = 1 ∨ i = 2 ∨ i = 3 := by omega
    rcases this with rfl | rfl | rfl | rfl
    · show _ = cW _ (100 + G.T) j _
      rw [show fGm G.T 0 = 100 + G.T from rfl, cW_T hT, loc_T hT]
      show mnw (mnw (mnw (mnw m0 n _) (n + 1) _) (n + 2) _) (n + 3) _ n j = _
      rw [mnw_ne n3_, mnw_ne n2_, mnw_ne n1_, mnw_at]
      refine thW_all (F := fun i => if i = 8 then .ref (n + 3) else if i = 7 then .ref (n + 2) else if i = 6 then .ref (n + 1) else if i = 2 then .int (nI 0) else if i = 1 then .int (nI v) else if i = 0 then .int (nI G.T) else dfv (pty 1 i)) (X := fun x => nwC C G.T (nI v) 0 0 x G.T) rfl ?_ ?_ ?_ ?_ ?_ ?_ ?_ ?_ ?_ j
      · show _ = Value.int (nwC C G.T (nI v) 0 0 2 G.T)
        rw [e2]; rfl
      · show _ = Value.int (nwC C G.T (nI v) 0 0 3 G.T)
        rw [e3]; rfl
      · show _ = rfH _ (nwC C G.T (nI v) 0 0 4 G.T)
        rw [e4, rfH_n m1_0]; rfl
      · show _ = Value.int (nwC C G.T (nI v) 0 0 5 G.T)
        rw [e5]; rfl
      · show Value.null = if (gT G n 4 v 0 0 (fGm G.T)).kd G.T = 4 ∨ (gT G n 4 v 0 0 (fGm G.T)).kd G.T = 5 then _ else Value.null
        rw [gk, if_neg (by omega)]
      · show Value.ref (n + 1) = if (gT G n 4 v 0 0 (fGm G.T)).kd G.T ≤ 3 then Value.ref (aZ _ G.T) else _
        rw [gk, if_pos hv, aZ_e hT]
        exact congrArg Value.ref ((gT_lv (n := n) hG hT fm).2.2.2 1 (by omega)).symm
      · show Value.ref (n + 2) = if (gT G n 4 v 0 0 (fGm G.T)).kd G.T ≤ 3 then Value.ref (aI _ G.T) else _
        rw [gk, if_pos hv, aI_e hT]
        exact congrArg Value.ref ((gT_lv (n := n) hG hT fm).2.2.2 2 (by omega)).symm
      · show Value.ref (n + 3) = if (gT G n 4 v 0 0 (fGm G.T)).kd G.T ≤ 3 then Value.ref (aO _ G.T) else _
        rw [gk, if_pos hv, aO_e hT]
        exact congrArg Value.ref ((gT_lv (n := n) hG hT fm).2.2.2 3 (by omega)).symm
      · intro i
        show _ = dfv (pty (tgT ((gT G n 4 v 0 0 (fGm G.T)).kd G.T)) (i + 9))
        rw [gk, tk1 hv, if_neg (by omega), if_neg (by omega), if_neg (by omega), if_neg (by omega), if_neg (by omega), if_neg (by omega)]
    · show _ = cW _ (1000 + G.T) j _
      rw [mnw_ne n1_3, mnw_ne n1_2, mnw_at]
      by_cases q : j < 6
      · rw [show fGm G.T 1 = 1000 + G.T from rfl, cW_Z hT q, loc_Z hT q]
        show _ = Value.int (nwC C G.T (nI v) 0 0 9 (6 * G.T + j))
        rw [e9 9 (by omega), (wf.1 (6 * G.T + j) (by omega)).1]
      · unfold cW
        rw [if_neg (show ¬ 1000 + G.T < 22 by omega), if_neg (show ¬ 1000 + G.T < 100 by omega), if_neg (show ¬ 1000 + G.T < 300 by omega), if_neg (show ¬ 1000 + G.T < 600 by omega), if_neg (show ¬ 1000 + G.T < 1000 by omega), if_pos (show 1000 + G.T < 1600 by omega), if_neg q]
    · show _ = cW _ (1200 + G.T) j _
      rw [mnw_ne n2_3, mnw_at]
      by_cases q : j < 6
      · rw [show fGm G.T 2 = 1200 + G.T from rfl, cW_I hT q, loc_I hT q]
        show _ = Value.int (nwC C G.T (nI v) 0 0 10 (6 * G.T + j))
        rw [e9 10 (by omega), (wf.1 (6 * G.T + j) (by omega)).2.1]
      · unfold cW
        rw [if_neg (show ¬ 1200 + G.T < 22 by omega), if_neg (show ¬ 1200 + G.T < 100 by omega), if_neg (show ¬ 1200 + G.T < 300 by omega), if_neg (show ¬ 1200 + G.T < 600 by omega), if_neg (show ¬ 1200 + G.T < 1000 by omega), if_pos (show 1200 + G.T < 1600 by omega), if_neg q]
    · show _ = cW _ (1400 + G.T) j _
      rw [mnw_at]
      by_cases q : j < 6
      · rw [show fGm G.T 3 = 1400 + G.T from rfl, cW_O hT q, loc_O hT q]
        show _ = Value.int (nwC C G.T (nI v) 0 0 11 (6 * G.T + j))
        rw [e9 11 (by omega), (wf.1 (6 * G.T + j) (by omega)).2.2]
      · unfold cW
        rw [if_neg (show ¬ 1400 + G.T < 22 by omega), if_neg (show ¬ 1400 + G.T < 100 by omega), if_neg (show ¬ 1400 + G.T < 300 by omega), if_neg (show ¬ 1400 + G.T < 600 by omega), if_neg (show ¬ 1400 + G.T < 1000 by omega), if_pos (show 1400 + G.T < 1600 by omega), if_neg q]) (by
    intro i hi
    have : i = 0 ∨ i = 1 ∨ i = 2 ∨ i = 3 := by omega
    rcases this with rfl | rfl | rfl | rfl
    · show _ = cT _ (100 + G.T)
      show mnw (mnw (mnw (mnw s0 n _) (n + 1) _) (n + 2) _) (n + 3) _ n = _
      rw [mnw_ne n3_, mnw_ne n2_, mnw_ne n1_, mnw_at]
      unfold cT
      rw [if_neg (show ¬ 100 + G.T < 22 by omega), if_neg (show ¬ 100 + G.T < 100 by omega), if_pos (show 100 + G.T < 300 by omega), show 100 + G.T - 100 = G.T by omega, gk, tk1 hv]
      unfold nfT
      rw [if_pos hv]
    · show _ = cT _ (1000 + G.T)
      rw [mnw_ne n1_3, mnw_ne n1_2, mnw_at]
      unfold cT
      rw [if_neg (show ¬ 1000 + G.T < 22 by omega), if_neg (show ¬ 1000 + G.T < 100 by omega), if_neg (show ¬ 1000 + G.T < 300 by omega), if_neg (show ¬ 1000 + G.T < 600 by omega), if_neg (show ¬ 1000 + G.T < 1000 by omega), if_pos (show 1000 + G.T < 1600 by omega)]
    · show _ = cT _ (1200 + G.T)
      rw [mnw_ne n2_3, mnw_at]
      unfold cT
      rw [if_neg (show ¬ 1200 + G.T < 22 by omega), if_neg (show ¬ 1200 + G.T < 100 by omega), if_neg (show ¬ 1200 + G.T < 300 by omega), if_neg (show ¬ 1200 + G.T < 600 by omega), if_neg (show ¬ 1200 + G.T < 1000 by omega), if_pos (show 1200 + G.T < 1600 by omega)]
    · show _ = cT _ (1400 + G.T)
      rw [mnw_at]
      unfold cT
      rw [if_neg (show ¬ 1400 + G.T < 22 by omega), if_neg (show ¬ 1400 + G.T < 100 by omega), if_neg (show ¬ 1400 + G.T < 300 by omega), if_neg (show ¬ 1400 + G.T < 600 by omega), if_neg (show ¬ 1400 + G.T < 1000 by omega), if_pos (show 1400 + G.T < 1600 by omega)])
  obtain ⟨hM, hS, hq, ha1, hea⟩ := GT
  have run : ex (d + 3) 45 0 [some (.ref (G.ad 1)), some (.int (nI v))] [] (cM G C m0, cS G s0, n, k) = bnd (ex (d + 2) 97 0 [some (.ref (G.ad 1)), some (.ref n)] [] (cM G C (mnw (mnw (mnw (mnw m0 n (fun i => if i = 8 then .ref (n + 3) else if i = 7 then .ref (n + 2) else if i = 6 then .ref (n + 1) else if i = 2 then .int (nI 0) else if i = 1 then .int (nI v) else if i = 0 then .int (nI G.T) else dfv (pty 1 i))) (n + 1) (fun _ => .int 0)) (n + 2) (fun _ => .int 0)) (n + 3) (fun _ => .int 0)), cS G (mnw (mnw (mnw (mnw s0 n (1, 9)) (n + 1) (20, 6)) (n + 2) (20, 6)) (n + 3) (20, 6)), n + 4, k + 27)) (fun x h' => ex (d + 3) 45 39 [some (.ref (G.ad 1)), some (.int (nI v))] (x.toList ++ []) h') := by
    conv => lhs; simp only [x45_0, x45_1, x45_2, x45_3, x45_6, x45_9, x45_10, x45_13, x45_16, x45_17, x45_19, x45_22, x45_23, x45_24, x45_27, x45_27i, x45_28, x45_29, bnd_some, Option.toList_some, Option.toList_none, List.cons_append, List.nil_append, List.singleton_append, clr_i, clr_r, clr_n, clr_0, clr_q, clr_l, isR_r, isR_n, isR_q, cat1_i, cat1_r, b0, b1, if_true, if_false, not_true, not_false_eq_true, reduceCtorEq, ite_self, and_true, true_and, and_false, false_and, or_true, true_or, or_false, false_or, k_1_0 hG, k_1_1 hG, k_1_1w hG, k_1_2 hG, k_1_3 hG, k_1_3w hG, k_1_4 hG, k_1_5 hG, k_1_5w hG, k_1_6 hG, k_1_7 hG, k_1_7w hG, k_1_8 hG, k_1_9 hG, k_1_9w hG, k_1_10 hG, k_1_11 hG, k_1_11w hG, k_1_12 hG, k_1_12w hG, k_1_13 hG, k_1_13w hG, k_1_14 hG, k_1_14w hG, k_1_15 hG, k_1_15w hG, k_1_16 hG, k_1_16w hG, k_7_0 hG, k_7_1 hG, k_7_2 hG, k_7_2w hG, k_7_3 hG, k_7_4 hG, k_7_5 hG, k_7_5w hG, k_7_6 hG, k_7_7 hG, k_7_8 hG, k_7_9 hG, k_7_10 hG, k_7_11 hG, k_7_12 hG, k_7_13 hG, k_7_14 hG, k_7_15 hG, k_7_15w hG, k_7_16 hG, k_7_17 hG, k_7_17w hG, k_s1 hG, k_s2 hG, k_s3 hG, k_s4 hG, k_s5 hG, k_s6 hG, k_s7 hG, k_s8 hG, k_s9 hG, k_s10 hG, k_s11 hG, k_s12 hG, k_s13 hG, k_s14 hG, k_s15 hG, k_s16 hG, k_s17 hG, k_s18 hG, k_s19 hG, k_s20 hG, k_s21 hG, k_2 hG, k_3 hG, k_4 hG, k_5 hG, k_6 hG, k_13 hG, k_14 hG, k_16 hG, k_8 hG, k_8w hG, k_9 hG, k_9w hG, k_10 hG, k_10w hG, k_11 hG, k_11w hG, k_12 hG, k_12w hG, k_15 hG, k_15w hG, k_17 hG, k_17w hG, k_18 hG, k_18w hG, k_19 hG, k_19w hG, k_20 hG, k_20w hG, k_21 hG, k_21w hG, k_P hG, k_Pw hG, k_sP hG, k_Q hG, k_Qw hG, k_sQ hG, k_G hG, k_Gw hG, k_sG hG, k_Z hG, k_Zw hG, k_sZ hG, k_I hG, k_Iw hG, k_sI hG, k_O hG, k_Ow hG, k_sO hG, k_V hG, k_Vw hG, k_sV hG, k_M hG, k_Mw hG, k_sM hG, k_S hG, k_Sw hG, k_Swn hG, k_sS hG, k_T_0 hG, k_T_1 hG, k_T_2 hG, k_T_3 hG, k_T_4 hG, k_T_5 hG, k_T_6 hG, k_T_7 hG, k_T_8 hG, k_T_6v hG, k_T_2w hG, k_T_4w hG, k_T_3w hG, k_T_3wn hG, k_sT hG, k_H_0 hG, k_H_1 hG, k_H_2 hG, k_sH hG, k_A_0 hG, k_sA hG, k_J_0 hG, k_J_1 hG, k_J_2 hG, k_J_2w hG, k_sJ hG, k_C hG, k_sC hG, isTh_tg, isTh1, isTh8, isTh9, zT, oT, oF, zT0, oF0, c92, b2_R, b2_0, hx, M, hTn, h1, cM_nw w0', cS_nw w0']
    rw [x45_32, x45_33]
    conv => lhs; simp only [x2_0, x2_1, x2_2, x2_3, K _ _ _ _ ts, bnd_some, Option.toList_some, Option.toList_none, List.cons_append, List.nil_append, List.singleton_append, clr_i, clr_r, clr_n, clr_0, clr_q, clr_l, isR_r, isR_n, isR_q, cat1_i, cat1_r, b0, b1, if_true, if_false, not_true, not_false_eq_true, reduceCtorEq, ite_self, and_true, true_and, and_false, false_and, or_true, true_or, or_false, false_or, mup_nw]
    simp only [x2_6, x2_7, x2_9, x2_11, x2_11n, x2_11q, x2_14, x2_15, x2_17, x2_19, x2_19n, x2_19q, x2_22, x2_23, x2_25, x2_27, x2_27n, x2_27q, x2_30, x45_36 (hv0 := isR_r), x45_36 (hv0 := isR_n), bnd_some, Option.toList_some, Option.toList_none, List.cons_append, List.nil_append, List.singleton_append, clr_i, clr_r, clr_n, clr_0, clr_q, clr_l, isR_r, isR_n, isR_q, cat1_i, cat1_r, b0, b1, if_true, if_false, not_true, not_false_eq_true, reduceCtorEq, ite_self, and_true, true_and, and_false, false_and, or_true, true_or, or_false, false_or, le6, cS_rd w0', mnw_at, cM_nw w1, cS_nw w1, cM_nw w2, cS_nw w2, cM_nw w3, cS_nw w3, cM_up w0', mup_nw, mup_nw2 n_1, mup_nw3 n_1 n_2, mup_nw4 n_1 n_2 n_3, mnw_ne n1_, mnw_ne n2_, mnw_ne n3_, k_s1 hG]
  have h1' : nwC C G.T (nI v) 0 0 1 0 = nI G.T := e1.trans h1
  have hc : casts.contains ((cS G (mnw (mnw (mnw (mnw s0 n (1, 9)) (n + 1) (20, 6)) (n + 2) (20, 6)) (n + 3) (20, 6)) n).1, elT 21) = true := by
    rw [cS_rd w0', mnw_ne n3_, mnw_ne n2_, mnw_ne n1_, mnw_at]
    decide
  have P := c97 (d := d + 1) (n := n + 4) (k := k + 27) hG hT h1 hc hM hS hq ha1 hea (show G.T < G.T + 1 by omega) h1'
  rw [P] at run
  rw [bnd_some] at run
  have fin : ∀ (x : Int32) (h : Hp), ex (d + 3) 45 39 [some (.ref (G.ad 1)), some (.int (nI v))] ((some (Value.int x)).toList ++ []) h = some (some (.int x), h) := fun x h => by simp only [x45_39, bnd_some, Option.toList_some, Option.toList_none, List.cons_append, List.nil_append, List.singleton_append, clr_i, clr_r, clr_n, clr_0, clr_q, clr_l, isR_r, isR_n, isR_q, cat1_i, cat1_r, b0, b1, if_true, if_false, not_true, not_false_eq_true, reduceCtorEq, ite_self, and_true, true_and, and_false, false_and, or_true, true_or, or_false, false_or]
  rw [fin] at run
  exact ⟨_, _, run, fun a ha hw => ⟨fr_m hG (Or.inl ⟨by omega, by omega⟩) hw (by rw [mnw_ne (by omega), mnw_ne (by omega), mnw_ne (by omega), mnw_ne (by omega)]), by rw [cS_rd hw, mnw_ne (by omega), mnw_ne (by omega), mnw_ne (by omega), mnw_ne (by omega)]⟩⟩
end CG
