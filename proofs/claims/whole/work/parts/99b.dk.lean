/-! ===== the class: keepAnswer ===== -/
section DK0
variable {C : St} {nr Cn : Nat} {al : Nat → Nat → Bool} {pc : Nat → Nat → Nat} {od inv rs : Nat → Nat}
theorem Fea_q {Z : St} (h23 : ∀ j, Z 23 j = C 23 j) (h45 : ∀ j, Z 45 j = C 45 j) (h49 : ∀ j, Z 49 j = C 49 j) : ∀ (kk i left : Nat) (f : Nat → Nat), Fea Z Cn al pc od rs kk i left f ↔ Fea C Cn al pc od rs kk i left f := by
  intro kk
  induction kk with
  | zero => intro i left f; exact Iff.rfl
  | succ kk ih => intro i left f; unfold Fea; rw [clK_q h23 h45 h49, ih]
theorem Fea_all : ∀ (kk i left : Nat) (f : Nat → Nat), Fea C Cn al pc od rs kk i left f → Vps Cn al (clsF C od 0) od f i kk ∧ smP pc od f i kk ≤ left := by
  intro kk
  induction kk with
  | zero => intro i left f _; exact ⟨fun y a b => by omega, Nat.zero_le _⟩
  | succ kk ih =>
    intro i left f h
    unfold Fea at h
    obtain ⟨⟨h1, h2, h3, h4⟩, h5⟩ := h
    obtain ⟨v, s⟩ := ih (i + 1) _ f h5
    refine ⟨fun y a b => ?_, ?_⟩
    · by_cases e : y = i
      · subst e
        exact ⟨h1, h2, h3⟩
      · exact v y (by omega) (by omega)
    · rw [smP_s]
      omega
theorem rsT_le {f : Nat → Nat} {y w : Nat} (hpc : ∀ x c, pc x c ≤ 1000000) (hn : nr ≤ 7) (hw : y + w = nr) (v : Vps Cn al (clsF C od y) od f y w) : rsT C Cn al pc od nr y ≤ smP pc od f y w := by
  have le := skV_le (pc := pc) (clsF_tl (C := C) (od := od) (x := y)) w y f 0 (fun _ _ => rfl) v
  have lo := rsT_low (C := C) (Cn := Cn) (al := al) (pc := pc) (od := od) (nr := nr) (Nat.le_refl y) f 0 w hw
  have ub := smP_ub (od := od) (f := f) hpc w y
  omega
theorem Fea_of {f : Nat → Nat} (hpc : ∀ x c, pc x c ≤ 1000000) (hn : nr ≤ 7) (v : Vps Cn al (clsF C od 0) od f 0 nr) : ∀ (kk i left : Nat), i + kk = nr → smP pc od f i kk = left → Fea C Cn al pc od (rsT C Cn al pc od nr) kk i left f := by
  intro kk
  induction kk with
  | zero => intro i left _ _; trivial
  | succ kk ih =>
    intro i left hi hs
    rw [smP_s] at hs
    obtain ⟨a, b, c⟩ := v i (Nat.zero_le _) (by omega)
    have le := rsT_le (C := C) (Cn := Cn) (al := al) (pc := pc) (od := od) (nr := nr) (f := f) (y := i + 1) (w := kk) hpc hn (by omega) (fun y h1 h2 => by
      obtain ⟨a', b', c'⟩ := v y (Nat.zero_le _) (by omega)
      exact ⟨a', b', clsF_sub (Nat.zero_le _) y f (f y) h1 c'⟩)
    unfold Fea
    exact ⟨⟨a, b, c, by omega⟩, ih (i + 1) _ (by omega) (by omega)⟩
end DK0
section DK
variable {d n k : Nat} {G : Gh} {C : St} {m0 : Mm} {s0 : Nat → Nat × Nat} {nr Cn : Nat} {al : Nat → Nat → Bool} {pc : Nat → Nat → Nat} {od inv : Nat → Nat} {L : List Nat}
theorem c19_n (hG : OKG G) : ex d 19 0 [some (.ref (G.ad 7)), some (.int (nI 2147483647)), none, none] [] (cM G C m0, cS G s0, n, k) = some (none, (cM G (sup C 32 0 (nI 0)) m0, cS G s0, n, k)) := by
  simp only [x19_0, x19_1, x19_2, x19_5, x19_6, x19_8, x19_11, x19_12, x19_13, x19_14, x19_17, x19_20, bnd_some, Option.toList_some, Option.toList_none, List.cons_append, List.nil_append, List.singleton_append, clr_i, clr_r, clr_n, clr_0, clr_q, clr_l, isR_r, isR_n, isR_q, cat1_i, cat1_r, b0, b1, if_true, if_false, not_true, not_false_eq_true, reduceCtorEq, ite_self, and_true, true_and, and_false, false_and, or_true, true_or, or_false, false_or, k_1_0 hG, k_1_1 hG, k_1_1w hG, k_1_2 hG, k_1_3 hG, k_1_3w hG, k_1_4 hG, k_1_5 hG, k_1_5w hG, k_1_6 hG, k_1_7 hG, k_1_7w hG, k_1_8 hG, k_1_9 hG, k_1_9w hG, k_1_10 hG, k_1_11 hG, k_1_11w hG, k_1_12 hG, k_1_12w hG, k_1_13 hG, k_1_13w hG, k_1_14 hG, k_1_14w hG, k_1_15 hG, k_1_15w hG, k_1_16 hG, k_1_16w hG, k_7_0 hG, k_7_1 hG, k_7_2 hG, k_7_2w hG, k_7_3 hG, k_7_4 hG, k_7_5 hG, k_7_5w hG, k_7_6 hG, k_7_7 hG, k_7_8 hG, k_7_9 hG, k_7_10 hG, k_7_11 hG, k_7_12 hG, k_7_13 hG, k_7_14 hG, k_7_15 hG, k_7_15w hG, k_7_16 hG, k_7_17 hG, k_7_17w hG, k_s1 hG, k_s2 hG, k_s3 hG, k_s4 hG, k_s5 hG, k_s6 hG, k_s7 hG, k_s8 hG, k_s9 hG, k_s10 hG, k_s11 hG, k_s12 hG, k_s13 hG, k_s14 hG, k_s15 hG, k_s16 hG, k_s17 hG, k_s18 hG, k_s19 hG, k_s20 hG, k_s21 hG, k_2 hG, k_3 hG, k_4 hG, k_5 hG, k_6 hG, k_13 hG, k_14 hG, k_16 hG, k_8 hG, k_8w hG, k_9 hG, k_9w hG, k_10 hG, k_10w hG, k_11 hG, k_11w hG, k_12 hG, k_12w hG, k_15 hG, k_15w hG, k_17 hG, k_17w hG, k_18 hG, k_18w hG, k_19 hG, k_19w hG, k_20 hG, k_20w hG, k_21 hG, k_21w hG, k_P hG, k_Pw hG, k_sP hG, k_Q hG, k_Qw hG, k_sQ hG, k_G hG, k_Gw hG, k_sG hG, k_Z hG, k_Zw hG, k_sZ hG, k_I hG, k_Iw hG, k_sI hG, k_O hG, k_Ow hG, k_sO hG, k_V hG, k_Vw hG, k_sV hG, k_M hG, k_Mw hG, k_sM hG, k_S hG, k_Sw hG, k_Swn hG, k_sS hG, k_T_0 hG, k_T_1 hG, k_T_2 hG, k_T_3 hG, k_T_4 hG, k_T_5 hG, k_T_6 hG, k_T_7 hG, k_T_8 hG, k_T_6v hG, k_T_2w hG, k_T_4w hG, k_T_3w hG, k_T_3wn hG, k_sT hG, k_H_0 hG, k_H_1 hG, k_H_2 hG, k_sH hG, k_A_0 hG, k_sA hG, k_J_0 hG, k_J_1 hG, k_J_2 hG, k_J_2w hG, k_sJ hG, k_C hG, k_sC hG, isTh_tg, isTh1, isTh8, isTh9, zT, oT, oF, zT0, oF0]
theorem c19_l {Cx : St} {f : Nat → Nat} {l1 : Int32} (hG : OKG G) (o : Ord nr od inv) (hn7 : nr ≤ 7) (h21 : Cx 21 0 = nI nr) (h51 : ∀ i, i < nr → Cx 51 i = nI (od i)) (h53 : ∀ i, i < nr → f i < 8 ∧ Cx 53 i = nI (f i)) (h44 : ∀ i, i < nr → ∃ t, t < G.T ∧ L.getD (f i) 0 = t ∧ Cx 44 (f i) = nI t) : ∀ (u i : Nat) (C1 : St) (l3 : Option Value), i + u = nr → (∀ g j, g ≠ 33 → C1 g j = Cx g j) → (∀ j, C1 33 j = if j < nr ∧ inv j < i then nI (L.getD (f (inv j)) 0) else Cx 33 j) → ∃ C2 : St, (∀ g j, g ≠ 33 → C2 g j = Cx g j) ∧ (∀ j, C2 33 j = if j < nr then nI (L.getD (f (inv j)) 0) else Cx 33 j) ∧ ex d 19 31 [some (.ref (G.ad 7)), some (.int l1), some (.int (nI i)), l3] [] (cM G C1 m0, cS G s0, n, k) = some (none, (cM G C2 m0, cS G s0, n, k)) := by
  have hT := okT hG
  intro u
  induction u with
  | zero =>
    intro i C1 l3 hi hf h33
    have e : i = nr := by omega
    subst e
    have g : nI i ≤ nI i := nI_le (Nat.le_refl _) (by omega)
    have z21 : C1 21 0 = nI i := by rw [hf 21 0 (by decide)]; exact h21
    refine ⟨C1, hf, fun j => ?_, ?_⟩
    · rw [h33 j]
      by_cases hj : j < i
      · rw [if_pos ⟨hj, (o.2.1 j hj).1⟩, if_pos hj]
      · rw [if_neg (fun y => hj y.1), if_neg hj]
    · simp only [x19_31, x19_32, x19_33, x19_36, x19_80, bnd_some, Option.toList_some, Option.toList_none, List.cons_append, List.nil_append, List.singleton_append, clr_i, clr_r, clr_n, clr_0, clr_q, clr_l, isR_r, isR_n, isR_q, cat1_i, cat1_r, b0, b1, if_true, if_false, not_true, not_false_eq_true, reduceCtorEq, ite_self, and_true, true_and, and_false, false_and, or_true, true_or, or_false, false_or, k_1_0 hG, k_1_1 hG, k_1_1w hG, k_1_2 hG, k_1_3 hG, k_1_3w hG, k_1_4 hG, k_1_5 hG, k_1_5w hG, k_1_6 hG, k_1_7 hG, k_1_7w hG, k_1_8 hG, k_1_9 hG, k_1_9w hG, k_1_10 hG, k_1_11 hG, k_1_11w hG, k_1_12 hG, k_1_12w hG, k_1_13 hG, k_1_13w hG, k_1_14 hG, k_1_14w hG, k_1_15 hG, k_1_15w hG, k_1_16 hG, k_1_16w hG, k_7_0 hG, k_7_1 hG, k_7_2 hG, k_7_2w hG, k_7_3 hG, k_7_4 hG, k_7_5 hG, k_7_5w hG, k_7_6 hG, k_7_7 hG, k_7_8 hG, k_7_9 hG, k_7_10 hG, k_7_11 hG, k_7_12 hG, k_7_13 hG, k_7_14 hG, k_7_15 hG, k_7_15w hG, k_7_16 hG, k_7_17 hG, k_7_17w hG, k_s1 hG, k_s2 hG, k_s3 hG, k_s4 hG, k_s5 hG, k_s6 hG, k_s7 hG, k_s8 hG, k_s9 hG, k_s10 hG, k_s11 hG, k_s12 hG, k_s13 hG, k_s14 hG, k_s15 hG, k_s16 hG, k_s17 hG, k_s18 hG, k_s19 hG, k_s20 hG, k_s21 hG, k_2 hG, k_3 hG, k_4 hG, k_5 hG, k_6 hG, k_13 hG, k_14 hG, k_16 hG, k_8 hG, k_8w hG, k_9 hG, k_9w hG, k_10 hG, k_10w hG, k_11 hG, k_11w hG, k_12 hG, k_12w hG, k_15 hG, k_15w hG, k_17 hG, k_17w hG, k_18 hG, k_18w hG, k_19 hG, k_19w hG, k_20 hG, k_20w hG, k_21 hG, k_21w hG, k_P hG, k_Pw hG, k_sP hG, k_Q hG, k_Qw hG, k_sQ hG, k_G hG, k_Gw hG, k_sG hG, k_Z hG, k_Zw hG, k_sZ hG, k_I hG, k_Iw hG, k_sI hG, k_O hG, k_Ow hG, k_sO hG, k_V hG, k_Vw hG, k_sV hG, k_M hG, k_Mw hG, k_sM hG, k_S hG, k_Sw hG, k_Swn hG, k_sS hG, k_T_0 hG, k_T_1 hG, k_T_2 hG, k_T_3 hG, k_T_4 hG, k_T_5 hG, k_T_6 hG, k_T_7 hG, k_T_8 hG, k_T_6v hG, k_T_2w hG, k_T_4w hG, k_T_3w hG, k_T_3wn hG, k_sT hG, k_H_0 hG, k_H_1 hG, k_H_2 hG, k_sH hG, k_A_0 hG, k_sA hG, k_J_0 hG, k_J_1 hG, k_J_2 hG, k_J_2w hG, k_sJ hG, k_C hG, k_sC hG, isTh_tg, isTh1, isTh8, isTh9, zT, oT, oF, zT0, oF0, z21, g]
  | succ u ih =>
    intro i C1 l3 hi hf h33
    have g : ¬ nI nr ≤ nI i := nI_ge (by omega) (by omega)
    have z21 : C1 21 0 = nI nr := by rw [hf 21 0 (by decide)]; exact h21
    have i7 : i < 7 := by omega
    have ib : i < 2147483648 := by omega
    obtain ⟨f8, z53⟩ := h53 i (by omega)
    have fb : f i < 2147483648 := by omega
    obtain ⟨t, t1, t2, t3⟩ := h44 i (by omega)
    have tb : t < 2147483648 := by omega
    have y53 : C1 53 i = nI (f i) := by rw [hf 53 i (by decide)]; exact z53
    have y51 : C1 51 i = nI (od i) := by rw [hf 51 i (by decide)]; exact h51 i (by omega)
    have y44 : C1 44 (f i) = nI t := by rw [hf 44 _ (by decide)]; exact t3
    have oi := o.1 i (by omega)
    have o7 : od i < 7 := by omega
    have ob : od i < 2147483648 := by omega
    obtain ⟨C2, k1, k2, k3⟩ := ih (i + 1) (sup C1 33 (od i) (nI t)) (some (.ref (aT G t))) (by omega) (fun g j hg => by rw [sup_f hg]; exact hf g j hg) (fun j => by
      by_cases e : j = od i
      · subst e
        rw [sup_eq, if_pos ⟨oi, by rw [o.2.2 i (by omega)]; omega⟩, o.2.2 i (by omega), t2]
      · rw [sup_j e, h33 j]
        by_cases hj : j < nr
        · obtain ⟨v1, v2⟩ := o.2.1 j hj
          have ne : inv j ≠ i := fun z => e (by rw [← v2, z])
          by_cases lt : inv j < i
          · rw [if_pos ⟨hj, lt⟩, if_pos ⟨hj, by omega⟩]
          · rw [if_neg (fun y => lt y.2), if_neg (fun y => by omega)]
        · rw [if_neg (fun y => hj y.1), if_neg (fun y => hj y.1)])
    refine ⟨C2, k1, k2, ?_⟩
    rw [← k3]
    conv => lhs; simp only [x19_31, x19_32, x19_33, x19_36, bnd_some, Option.toList_some, Option.toList_none, List.cons_append, List.nil_append, List.singleton_append, clr_i, clr_r, clr_n, clr_0, clr_q, clr_l, isR_r, isR_n, isR_q, cat1_i, cat1_r, b0, b1, if_true, if_false, not_true, not_false_eq_true, reduceCtorEq, ite_self, and_true, true_and, and_false, false_and, or_true, true_or, or_false, false_or, k_1_0 hG, k_1_1 hG, k_1_1w hG, k_1_2 hG, k_1_3 hG, k_1_3w hG, k_1_4 hG, k_1_5 hG, k_1_5w hG, k_1_6 hG, k_1_7 hG, k_1_7w hG, k_1_8 hG, k_1_9 hG, k_1_9w hG, k_1_10 hG, k_1_11 hG, k_1_11w hG, k_1_12 hG, k_1_12w hG, k_1_13 hG, k_1_13w hG, k_1_14 hG, k_1_14w hG, k_1_15 hG, k_1_15w hG, k_1_16 hG, k_1_16w hG, k_7_0 hG, k_7_1 hG, k_7_2 hG, k_7_2w hG, k_7_3 hG, k_7_4 hG, k_7_5 hG, k_7_5w hG, k_7_6 hG, k_7_7 hG, k_7_8 hG, k_7_9 hG, k_7_10 hG, k_7_11 hG, k_7_12 hG, k_7_13 hG, k_7_14 hG, k_7_15 hG, k_7_15w hG, k_7_16 hG, k_7_17 hG, k_7_17w hG, k_s1 hG, k_s2 hG, k_s3 hG, k_s4 hG, k_s5 hG, k_s6 hG, k_s7 hG, k_s8 hG, k_s9 hG, k_s10 hG, k_s11 hG, k_s12 hG, k_s13 hG, k_s14 hG, k_s15 hG, k_s16 hG, k_s17 hG, k_s18 hG, k_s19 hG, k_s20 hG, k_s21 hG, k_2 hG, k_3 hG, k_4 hG, k_5 hG, k_6 hG, k_13 hG, k_14 hG, k_16 hG, k_8 hG, k_8w hG, k_9 hG, k_9w hG, k_10 hG, k_10w hG, k_11 hG, k_11w hG, k_12 hG, k_12w hG, k_15 hG, k_15w hG, k_17 hG, k_17w hG, k_18 hG, k_18w hG, k_19 hG, k_19w hG, k_20 hG, k_20w hG, k_21 hG, k_21w hG, k_P hG, k_Pw hG, k_sP hG, k_Q hG, k_Qw hG, k_sQ hG, k_G hG, k_Gw hG, k_sG hG, k_Z hG, k_Zw hG, k_sZ hG, k_I hG, k_Iw hG, k_sI hG, k_O hG, k_Ow hG, k_sO hG, k_V hG, k_Vw hG, k_sV hG, k_M hG, k_Mw hG, k_sM hG, k_S hG, k_Sw hG, k_Swn hG, k_sS hG, k_T_0 hG, k_T_1 hG, k_T_2 hG, k_T_3 hG, k_T_4 hG, k_T_5 hG, k_T_6 hG, k_T_7 hG, k_T_8 hG, k_T_6v hG, k_T_2w hG, k_T_4w hG, k_T_3w hG, k_T_3wn hG, k_sT hG, k_H_0 hG, k_H_1 hG, k_H_2 hG, k_sH hG, k_A_0 hG, k_sA hG, k_J_0 hG, k_J_1 hG, k_J_2 hG, k_J_2w hG, k_sJ hG, k_C hG, k_sC hG, isTh_tg, isTh1, isTh8, isTh9, zT, oT, oF, zT0, oF0, z21, g]
    conv => lhs; simp only [x19_39, x19_40, x19_43, x19_44, x19_47, x19_48, x19_49, x19_50, x19_50n, x19_50q, bnd_some, Option.toList_some, Option.toList_none, List.cons_append, List.nil_append, List.singleton_append, clr_i, clr_r, clr_n, clr_0, clr_q, clr_l, isR_r, isR_n, isR_q, cat1_i, cat1_r, b0, b1, if_true, if_false, not_true, not_false_eq_true, reduceCtorEq, ite_self, and_true, true_and, and_false, false_and, or_true, true_or, or_false, false_or, k_1_0 hG, k_1_1 hG, k_1_1w hG, k_1_2 hG, k_1_3 hG, k_1_3w hG, k_1_4 hG, k_1_5 hG, k_1_5w hG, k_1_6 hG, k_1_7 hG, k_1_7w hG, k_1_8 hG, k_1_9 hG, k_1_9w hG, k_1_10 hG, k_1_11 hG, k_1_11w hG, k_1_12 hG, k_1_12w hG, k_1_13 hG, k_1_13w hG, k_1_14 hG, k_1_14w hG, k_1_15 hG, k_1_15w hG, k_1_16 hG, k_1_16w hG, k_7_0 hG, k_7_1 hG, k_7_2 hG, k_7_2w hG, k_7_3 hG, k_7_4 hG, k_7_5 hG, k_7_5w hG, k_7_6 hG, k_7_7 hG, k_7_8 hG, k_7_9 hG, k_7_10 hG, k_7_11 hG, k_7_12 hG, k_7_13 hG, k_7_14 hG, k_7_15 hG, k_7_15w hG, k_7_16 hG, k_7_17 hG, k_7_17w hG, k_s1 hG, k_s2 hG, k_s3 hG, k_s4 hG, k_s5 hG, k_s6 hG, k_s7 hG, k_s8 hG, k_s9 hG, k_s10 hG, k_s11 hG, k_s12 hG, k_s13 hG, k_s14 hG, k_s15 hG, k_s16 hG, k_s17 hG, k_s18 hG, k_s19 hG, k_s20 hG, k_s21 hG, k_2 hG, k_3 hG, k_4 hG, k_5 hG, k_6 hG, k_13 hG, k_14 hG, k_16 hG, k_8 hG, k_8w hG, k_9 hG, k_9w hG, k_10 hG, k_10w hG, k_11 hG, k_11w hG, k_12 hG, k_12w hG, k_15 hG, k_15w hG, k_17 hG, k_17w hG, k_18 hG, k_18w hG, k_19 hG, k_19w hG, k_20 hG, k_20w hG, k_21 hG, k_21w hG, k_P hG, k_Pw hG, k_sP hG, k_Q hG, k_Qw hG, k_sQ hG, k_G hG, k_Gw hG, k_sG hG, k_Z hG, k_Zw hG, k_sZ hG, k_I hG, k_Iw hG, k_sI hG, k_O hG, k_Ow hG, k_sO hG, k_V hG, k_Vw hG, k_sV hG, k_M hG, k_Mw hG, k_sM hG, k_S hG, k_Sw hG, k_Swn hG, k_sS hG, k_T_0 hG, k_T_1 hG, k_T_2 hG, k_T_3 hG, k_T_4 hG, k_T_5 hG, k_T_6 hG, k_T_7 hG, k_T_8 hG, k_T_6v hG, k_T_2w hG, k_T_4w hG, k_T_3w hG, k_T_3wn hG, k_sT hG, k_H_0 hG, k_H_1 hG, k_H_2 hG, k_sH hG, k_A_0 hG, k_sA hG, k_J_0 hG, k_J_1 hG, k_J_2 hG, k_J_2w hG, k_sJ hG, k_C hG, k_sC hG, isTh_tg, isTh1, isTh8, isTh9, zT, oT, oF, zT0, oF0, i7, ib, y53, f8, fb, ta21, y44, rfT_r tb]
    conv => lhs; simp only [x19_51, x19_52, x19_55, x19_56, x19_59, x19_60, x19_61, x19_61n, x19_61q, x19_62n, x19_62, x19_65, x19_66, x19_69, x19_69n, x19_69q, x19_70, x19_73, x19_74, x19_77, bnd_some, Option.toList_some, Option.toList_none, List.cons_append, List.nil_append, List.singleton_append, clr_i, clr_r, clr_n, clr_0, clr_q, clr_l, isR_r, isR_n, isR_q, cat1_i, cat1_r, b0, b1, if_true, if_false, not_true, not_false_eq_true, reduceCtorEq, ite_self, and_true, true_and, and_false, false_and, or_true, true_or, or_false, false_or, k_1_0 hG, k_1_1 hG, k_1_1w hG, k_1_2 hG, k_1_3 hG, k_1_3w hG, k_1_4 hG, k_1_5 hG, k_1_5w hG, k_1_6 hG, k_1_7 hG, k_1_7w hG, k_1_8 hG, k_1_9 hG, k_1_9w hG, k_1_10 hG, k_1_11 hG, k_1_11w hG, k_1_12 hG, k_1_12w hG, k_1_13 hG, k_1_13w hG, k_1_14 hG, k_1_14w hG, k_1_15 hG, k_1_15w hG, k_1_16 hG, k_1_16w hG, k_7_0 hG, k_7_1 hG, k_7_2 hG, k_7_2w hG, k_7_3 hG, k_7_4 hG, k_7_5 hG, k_7_5w hG, k_7_6 hG, k_7_7 hG, k_7_8 hG, k_7_9 hG, k_7_10 hG, k_7_11 hG, k_7_12 hG, k_7_13 hG, k_7_14 hG, k_7_15 hG, k_7_15w hG, k_7_16 hG, k_7_17 hG, k_7_17w hG, k_s1 hG, k_s2 hG, k_s3 hG, k_s4 hG, k_s5 hG, k_s6 hG, k_s7 hG, k_s8 hG, k_s9 hG, k_s10 hG, k_s11 hG, k_s12 hG, k_s13 hG, k_s14 hG, k_s15 hG, k_s16 hG, k_s17 hG, k_s18 hG, k_s19 hG, k_s20 hG, k_s21 hG, k_2 hG, k_3 hG, k_4 hG, k_5 hG, k_6 hG, k_13 hG, k_14 hG, k_16 hG, k_8 hG, k_8w hG, k_9 hG, k_9w hG, k_10 hG, k_10w hG, k_11 hG, k_11w hG, k_12 hG, k_12w hG, k_15 hG, k_15w hG, k_17 hG, k_17w hG, k_18 hG, k_18w hG, k_19 hG, k_19w hG, k_20 hG, k_20w hG, k_21 hG, k_21w hG, k_P hG, k_Pw hG, k_sP hG, k_Q hG, k_Qw hG, k_sQ hG, k_G hG, k_Gw hG, k_sG hG, k_Z hG, k_Zw hG, k_sZ hG, k_I hG, k_Iw hG, k_sI hG, k_O hG, k_Ow hG, k_sO hG, k_V hG, k_Vw hG, k_sV hG, k_M hG, k_Mw hG, k_sM hG, k_S hG, k_Sw hG, k_Swn hG, k_sS hG, k_T_0 hG, k_T_1 hG, k_T_2 hG, k_T_3 hG, k_T_4 hG, k_T_5 hG, k_T_6 hG, k_T_7 hG, k_T_8 hG, k_T_6v hG, k_T_2w hG, k_T_4w hG, k_T_3w hG, k_T_3wn hG, k_sT hG, k_H_0 hG, k_H_1 hG, k_H_2 hG, k_sH hG, k_A_0 hG, k_sA hG, k_J_0 hG, k_J_1 hG, k_J_2 hG, k_J_2w hG, k_sJ hG, k_C hG, k_sC hG, isTh_tg, isTh1, isTh8, isTh9, zT, oT, oF, zT0, oF0, i7, ib, y51, o7, ob, t1, k_T_0 hG t1, k_sT hG t1, nI_add]
theorem c19 (hG : OKG G) (o : Ord nr od inv) (p2 : Pc2 C nr Cn od pc al (rsT C Cn al pc od nr)) (hv : rsT C Cn al pc od nr 0 < 2147483647) (h44 : ∀ i, i < Cn → L.getD i 0 < G.T ∧ C 44 i = nI (L.getD i 0)) : ∃ (C2 : St) (f : Nat → Nat), (∀ g j, ¬ (g = 32 ∧ j = 0) → g ≠ 33 → g ≠ 53 → g ≠ 54 → C2 g j = C g j) ∧ C2 32 0 = nI nr ∧ (∀ j, C2 33 j = if j < nr then nI (L.getD (f (inv j)) 0) else C 33 j) ∧ Vps Cn al (clsF C od 0) od f 0 nr ∧ smP pc od f 0 nr = rsT C Cn al pc od nr 0 ∧ (∀ e : Nat → Nat, Vps Cn al (clsF C od 0) od e 0 nr → smP pc od e 0 nr = rsT C Cn al pc od nr 0 → (∀ i, i < nr → e i = f i) ∨ ∃ y, y < nr ∧ (∀ i, i < y → e i = f i) ∧ f y < e y) ∧ ex (d + 10) 19 0 [some (.ref (G.ad 7)), some (.int (nI (rsT C Cn al pc od nr 0))), none, none] [] (cM G C m0, cS G s0, n, k) = some (none, (cM G C2 m0, cS G s0, n, k)) := by
  obtain ⟨p21, p7, p43, p8, p51, p46, ppc, p52⟩ := p2
  obtain ⟨C0, hC0⟩ : ∃ C0 : St, C0 = sup C 32 0 (nI 0) := ⟨_, rfl⟩
  have f0 : ∀ g j, g ≠ 32 → C0 g j = C g j := fun g j a => by rw [hC0, sup_f a]
  have q2 : Pc2 C0 nr Cn od pc al (rsT C Cn al pc od nr) := ⟨by rw [f0 21 0 (by decide)]; exact p21, p7, by rw [f0 43 0 (by decide)]; exact p43, p8, fun i hi => by rw [f0 51 i (by decide)]; exact p51 i hi, fun x c h1 h2 => by rw [f0 46 _ (by decide)]; exact p46 x c h1 h2, ppc, fun i hi => by rw [f0 52 _ (by decide)]; exact p52 i hi⟩
  have fq := fun kk i left f => Fea_q (C := C) (Z := C0) (Cn := Cn) (al := al) (pc := pc) (od := od) (rs := rsT C Cn al pc od nr) (fun j => f0 23 j (by decide)) (fun j => f0 45 j (by decide)) (fun j => f0 49 j (by decide)) kk i left f
  obtain ⟨C1, s1, hh⟩ := c28 (d := d + (7 - nr)) (C0 := C0) (m0 := m0) (s0 := s0) (n := n) (k := k) hG q2 nr 0 C0 (fun _ => 0) (rsT C Cn al pc od nr 0) (by omega) (fun _ _ _ _ => rfl) ((p52 0 (Nat.zero_le _)).2) (fun i hi => by omega)
  rw [show d + (7 - nr) + 2 + nr = d + 9 by omega] at hh
  have mne : ¬ nI (rsT C Cn al pc od nr 0) = nI 2147483647 := fun y => by
    have := (nI_eq (by omega) (by omega)).mp y
    omega
  rcases hh with ⟨f, h1, h2, h3, h4, h5⟩ | ⟨h1, _, _⟩
  · have ff := (fq nr 0 _ f).mp h2
    obtain ⟨vf, sf⟩ := Fea_all nr 0 _ f ff
    have ge := rsT_le ppc p7 (by omega) vf
    have se : smP pc od f 0 nr = rsT C Cn al pc od nr 0 := by omega
    obtain ⟨Cx, hCx⟩ : ∃ Cx : St, Cx = sup C1 32 0 (nI nr) := ⟨_, rfl⟩
    have fx : ∀ g j, ¬ (g = 32 ∧ j = 0) → g ≠ 53 → g ≠ 54 → Cx g j = C g j := fun g j a b c => by
      rw [hCx]
      unfold sup
      rw [if_neg a, s1 g j b c, hC0]
      unfold sup
      rw [if_neg a]
    obtain ⟨C2, k1, k2, k3⟩ := c19_l (d := d + 10) (Cx := Cx) (m0 := m0) (s0 := s0) (n := n) (k := k) (L := L) (f := f) (l1 := nI (rsT C Cn al pc od nr 0)) hG o p7 (by rw [fx 21 0 (by omega) (by decide) (by decide)]; exact p21) (fun i hi => by rw [fx 51 i (by omega) (by decide) (by decide)]; exact (p51 i hi).2) (fun i hi => by rw [hCx, sup_f (by decide)]; exact h4 i hi) (fun i hi => ⟨L.getD (f i) 0, (h44 (f i) (vf i (Nat.zero_le _) (by omega)).1).1, rfl, by rw [fx 44 _ (by omega) (by decide) (by decide)]; exact (h44 (f i) (vf i (Nat.zero_le _) (by omega)).1).2⟩) nr 0 Cx none (by omega) (fun _ _ _ => rfl) (fun j => by rw [if_neg (by omega)])
    refine ⟨C2, f, fun g j a b c e => by rw [k1 g j b]; exact fx g j a c e, by rw [k1 32 0 (by decide), hCx, sup_eq], fun j => by rw [k2 j, fx 33 j (by omega) (by decide) (by decide)], vf, se, fun e ve ce => ?_, ?_⟩
    · exact h3 e (fun i hi => by omega) ((fq nr 0 _ e).mpr (Fea_of ppc p7 ve nr 0 _ (by omega) ce))
    · have z21 : C1 21 0 = nI nr := by rw [s1 21 0 (by decide) (by decide), f0 21 0 (by decide)]; exact p21
      rw [hC0] at h5
      rw [← k3]
      conv => lhs; simp only [x19_0, x19_1, x19_2, x19_5, x19_6, x19_8, x19_11, x19_12, x19_13, x19_14, bnd_some, Option.toList_some, Option.toList_none, List.cons_append, List.nil_append, List.singleton_append, clr_i, clr_r, clr_n, clr_0, clr_q, clr_l, isR_r, isR_n, isR_q, cat1_i, cat1_r, b0, b1, if_true, if_false, not_true, not_false_eq_true, reduceCtorEq, ite_self, and_true, true_and, and_false, false_and, or_true, true_or, or_false, false_or, k_1_0 hG, k_1_1 hG, k_1_1w hG, k_1_2 hG, k_1_3 hG, k_1_3w hG, k_1_4 hG, k_1_5 hG, k_1_5w hG, k_1_6 hG, k_1_7 hG, k_1_7w hG, k_1_8 hG, k_1_9 hG, k_1_9w hG, k_1_10 hG, k_1_11 hG, k_1_11w hG, k_1_12 hG, k_1_12w hG, k_1_13 hG, k_1_13w hG, k_1_14 hG, k_1_14w hG, k_1_15 hG, k_1_15w hG, k_1_16 hG, k_1_16w hG, k_7_0 hG, k_7_1 hG, k_7_2 hG, k_7_2w hG, k_7_3 hG, k_7_4 hG, k_7_5 hG, k_7_5w hG, k_7_6 hG, k_7_7 hG, k_7_8 hG, k_7_9 hG, k_7_10 hG, k_7_11 hG, k_7_12 hG, k_7_13 hG, k_7_14 hG, k_7_15 hG, k_7_15w hG, k_7_16 hG, k_7_17 hG, k_7_17w hG, k_s1 hG, k_s2 hG, k_s3 hG, k_s4 hG, k_s5 hG, k_s6 hG, k_s7 hG, k_s8 hG, k_s9 hG, k_s10 hG, k_s11 hG, k_s12 hG, k_s13 hG, k_s14 hG, k_s15 hG, k_s16 hG, k_s17 hG, k_s18 hG, k_s19 hG, k_s20 hG, k_s21 hG, k_2 hG, k_3 hG, k_4 hG, k_5 hG, k_6 hG, k_13 hG, k_14 hG, k_16 hG, k_8 hG, k_8w hG, k_9 hG, k_9w hG, k_10 hG, k_10w hG, k_11 hG, k_11w hG, k_12 hG, k_12w hG, k_15 hG, k_15w hG, k_17 hG, k_17w hG, k_18 hG, k_18w hG, k_19 hG, k_19w hG, k_20 hG, k_20w hG, k_21 hG, k_21w hG, k_P hG, k_Pw hG, k_sP hG, k_Q hG, k_Qw hG, k_sQ hG, k_G hG, k_Gw hG, k_sG hG, k_Z hG, k_Zw hG, k_sZ hG, k_I hG, k_Iw hG, k_sI hG, k_O hG, k_Ow hG, k_sO hG, k_V hG, k_Vw hG, k_sV hG, k_M hG, k_Mw hG, k_sM hG, k_S hG, k_Sw hG, k_Swn hG, k_sS hG, k_T_0 hG, k_T_1 hG, k_T_2 hG, k_T_3 hG, k_T_4 hG, k_T_5 hG, k_T_6 hG, k_T_7 hG, k_T_8 hG, k_T_6v hG, k_T_2w hG, k_T_4w hG, k_T_3w hG, k_T_3wn hG, k_sT hG, k_H_0 hG, k_H_1 hG, k_H_2 hG, k_sH hG, k_A_0 hG, k_sA hG, k_J_0 hG, k_J_1 hG, k_J_2 hG, k_J_2w hG, k_sJ hG, k_C hG, k_sC hG, isTh_tg, isTh1, isTh8, isTh9, zT, oT, oF, zT0, oF0, mne, h5]
      conv => lhs; simp only [x19_17, x19_20, x19_21, x19_22, x19_23, x19_26, x19_29, x19_30, bnd_some, Option.toList_some, Option.toList_none, List.cons_append, List.nil_append, List.singleton_append, clr_i, clr_r, clr_n, clr_0, clr_q, clr_l, isR_r, isR_n, isR_q, cat1_i, cat1_r, b0, b1, if_true, if_false, not_true, not_false_eq_true, reduceCtorEq, ite_self, and_true, true_and, and_false, false_and, or_true, true_or, or_false, false_or, k_1_0 hG, k_1_1 hG, k_1_1w hG, k_1_2 hG, k_1_3 hG, k_1_3w hG, k_1_4 hG, k_1_5 hG, k_1_5w hG, k_1_6 hG, k_1_7 hG, k_1_7w hG, k_1_8 hG, k_1_9 hG, k_1_9w hG, k_1_10 hG, k_1_11 hG, k_1_11w hG, k_1_12 hG, k_1_12w hG, k_1_13 hG, k_1_13w hG, k_1_14 hG, k_1_14w hG, k_1_15 hG, k_1_15w hG, k_1_16 hG, k_1_16w hG, k_7_0 hG, k_7_1 hG, k_7_2 hG, k_7_2w hG, k_7_3 hG, k_7_4 hG, k_7_5 hG, k_7_5w hG, k_7_6 hG, k_7_7 hG, k_7_8 hG, k_7_9 hG, k_7_10 hG, k_7_11 hG, k_7_12 hG, k_7_13 hG, k_7_14 hG, k_7_15 hG, k_7_15w hG, k_7_16 hG, k_7_17 hG, k_7_17w hG, k_s1 hG, k_s2 hG, k_s3 hG, k_s4 hG, k_s5 hG, k_s6 hG, k_s7 hG, k_s8 hG, k_s9 hG, k_s10 hG, k_s11 hG, k_s12 hG, k_s13 hG, k_s14 hG, k_s15 hG, k_s16 hG, k_s17 hG, k_s18 hG, k_s19 hG, k_s20 hG, k_s21 hG, k_2 hG, k_3 hG, k_4 hG, k_5 hG, k_6 hG, k_13 hG, k_14 hG, k_16 hG, k_8 hG, k_8w hG, k_9 hG, k_9w hG, k_10 hG, k_10w hG, k_11 hG, k_11w hG, k_12 hG, k_12w hG, k_15 hG, k_15w hG, k_17 hG, k_17w hG, k_18 hG, k_18w hG, k_19 hG, k_19w hG, k_20 hG, k_20w hG, k_21 hG, k_21w hG, k_P hG, k_Pw hG, k_sP hG, k_Q hG, k_Qw hG, k_sQ hG, k_G hG, k_Gw hG, k_sG hG, k_Z hG, k_Zw hG, k_sZ hG, k_I hG, k_Iw hG, k_sI hG, k_O hG, k_Ow hG, k_sO hG, k_V hG, k_Vw hG, k_sV hG, k_M hG, k_Mw hG, k_sM hG, k_S hG, k_Sw hG, k_Swn hG, k_sS hG, k_T_0 hG, k_T_1 hG, k_T_2 hG, k_T_3 hG, k_T_4 hG, k_T_5 hG, k_T_6 hG, k_T_7 hG, k_T_8 hG, k_T_6v hG, k_T_2w hG, k_T_4w hG, k_T_3w hG, k_T_3wn hG, k_sT hG, k_H_0 hG, k_H_1 hG, k_H_2 hG, k_sH hG, k_A_0 hG, k_sA hG, k_J_0 hG, k_J_1 hG, k_J_2 hG, k_J_2w hG, k_sJ hG, k_C hG, k_sC hG, isTh_tg, isTh1, isTh8, isTh9, zT, oT, oF, zT0, oF0, z21]
      rw [← hCx]
  · exfalso
    obtain ⟨f, f1, f2, f3⟩ := skV_hit (clsF_tl (C := C) (od := od) (x := 0)) (nr - 0) 0 (fun _ => 0) 0 hv
    refine h1 f (fun i hi => by omega) ((fq nr 0 _ f).mpr (Fea_of ppc p7 f2 nr 0 _ (by omega) ?_))
    unfold rsT
    rw [f3]
    simp only [Nat.sub_zero, Nat.zero_add]
end DK
