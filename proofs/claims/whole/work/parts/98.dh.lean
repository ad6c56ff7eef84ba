/-! ===== the class: solve ===== -/
def alG (C : St) (L : List Nat) (ac : Nat → Nat) (to : Nat → Option Nat) (x c : Nat) : Bool := (match to x with | none => true | some y => decide (L.getD c 0 = y)) && decide (fitV C (ac x) (L.getD c 0) = nI 1)
theorem alG_iff {C : St} {L : List Nat} {ac : Nat → Nat} {to : Nat → Option Nat} {x c : Nat} : alG C L ac to x c = true ↔ gdB C L (ac x) (to x) c := by
  unfold alG gdB
  cases to x with
  | none => simp
  | some y => simp
def So1 (C C1 : St) (nr : Nat) (L : List Nat) (ac : Nat → Nat) (to : Nat → Option Nat) (pc : Nat → Nat → Nat) (r : Nat) : Prop := (∀ f j, f ≠ 46 → f ≠ 47 → f ≠ 48 → f ≠ 49 → C1 f j = C f j) ∧ ∀ x, x < r → (∀ c, c < L.length → (alG C L ac to x c = true ∧ C1 46 (8 * x + c) = nI (pc x c)) ∨ (alG C L ac to x c = false ∧ C1 46 (8 * x + c) = -1)) ∧ (∃ p : Nat × (Nat → Nat), p.1 ≤ L.length ∧ Chp C1 x p.1 p.2 (pc x) (fun c => c < L.length ∧ alG C L ac to x c = true)) ∧ (∀ q, q < nr → C1 49 (8 * x + q) = gpV C nr x q)
/-- a plan's start: roles, offers, what they cost -/
def Sv (G : Gh) (C : St) (nr : Nat) (L : List Nat) (ac : Nat → Nat) (to : Nat → Option Nat) (pc : Nat → Nat → Nat) : Prop := OKC G C ∧ Wnum C ∧ Wset C G.T ∧ W4 G ∧ Wro G C nr ∧ (∀ r, r < nr → ac r < G.A ∧ C 22 r = nI (ac r)) ∧ L.length ≤ 8 ∧ (∀ i, i < L.length → L.getD i 0 < G.T ∧ G.kd (L.getD i 0) ≤ 4) ∧ C 43 0 = nI L.length ∧ (∀ i, i < L.length → C 44 i = nI (L.getD i 0)) ∧ (∀ x y, to x = some y → y < G.T) ∧ (∀ x c, pc x c ≤ 1000000) ∧ (∀ x c, x < nr → c < L.length → alG C L ac to x c = true → costV C (ac x) (L.getD c 0) = nI (pc x c))
theorem gpV_eq {S Z : St} (h22 : ∀ j, Z 22 j = S 22 j) (h23 : ∀ j, Z 23 j = S 23 j) (h24 : ∀ j, Z 24 j = S 24 j) (nr r q : Nat) : gpV Z nr r q = gpV S nr r q := by
  unfold gpV gp1 scN
  simp only [h22, h23, btB_eq h22 h23, tmF_eq h24]
section DH
variable {d n k : Nat} {G : Gh} {C : St} {m0 : Mm} {s0 : Nat → Nat × Nat} {nr : Nat} {L : List Nat} {ac : Nat → Nat} {to : Nat → Option Nat} {pc : Nat → Nat → Nat}
theorem c18_a {fr : Int32} {tv : Option Nat} (hG : OKG G) (sv : Sv G C nr L ac to pc) (hto : ∀ x, x < nr → (nI x = fr ∧ to x = tv) ∨ (¬ nI x = fr ∧ to x = none)) : ∀ (u r : Nat) (C1 : St), r + u = nr → So1 C C1 nr L ac to pc r → ∃ C2, So1 C C2 nr L ac to pc nr ∧ ex (d + 10) 18 2 [some (.ref (G.ad 7)), some (.int fr), some (thO G tv), some (.int (nI r))] [] (cM G C1 m0, cS G s0, n, k) = ex (d + 10) 18 36 [some (.ref (G.ad 7)), some (.int fr), some (thO G tv), some (.int (nI nr))] [] (cM G C2 m0, cS G s0, n, k) := by
  obtain ⟨hK, wn, ws, w4, wr, hac, hL, hLm, h43, h44, hty, hpc, hco⟩ := sv
  intro u
  induction u with
  | zero =>
    intro r C1 hr so
    have e : r = nr := by omega
    subst e
    have w7 := wr.2.1
    have g : nI r ≤ nI r := nI_le (Nat.le_refl _) (by omega)
    have z21 : C1 21 0 = nI r := by rw [so.1 21 0 (by decide) (by decide) (by decide) (by decide)]; exact wr.1
    refine ⟨C1, so, ?_⟩
    conv => lhs; simp only [x18_2, x18_3, x18_4, x18_7, bnd_some, Option.toList_some, Option.toList_none, List.cons_append, List.nil_append, List.singleton_append, clr_i, clr_r, clr_n, clr_0, clr_q, clr_l, isR_r, isR_n, isR_q, cat1_i, cat1_r, b0, b1, if_true, if_false, not_true, not_false_eq_true, reduceCtorEq, ite_self, and_true, true_and, and_false, false_and, or_true, true_or, or_false, false_or, k_1_0 hG, k_1_1 hG, k_1_1w hG, k_1_2 hG, k_1_3 hG, k_1_3w hG, k_1_4 hG, k_1_5 hG, k_1_5w hG, k_1_6 hG, k_1_7 hG, k_1_7w hG, k_1_8 hG, k_1_9 hG, k_1_9w hG, k_1_10 hG, k_1_11 hG, k_1_11w hG, k_1_12 hG, k_1_12w hG, k_1_13 hG, k_1_13w hG, k_1_14 hG, k_1_14w hG, k_1_15 hG, k_1_15w hG, k_1_16 hG, k_1_16w hG, k_7_0 hG, k_7_1 hG, k_7_2 hG, k_7_2w hG, k_7_3 hG, k_7_4 hG, k_7_5 hG, k_7_5w hG, k_7_6 hG, k_7_7 hG, k_7_8 hG, k_7_9 hG, k_7_10 hG, k_7_11 hG, k_7_12 hG, k_7_13 hG, k_7_14 hG, k_7_15 hG, k_7_15w hG, k_7_16 hG, k_7_17 hG, k_7_17w hG, k_s1 hG, k_s2 hG, k_s3 hG, k_s4 hG, k_s5 hG, k_s6 hG, k_s7 hG, k_s8 hG, k_s9 hG, k_s10 hG, k_s11 hG, k_s12 hG, k_s13 hG, k_s14 hG, k_s15 hG, k_s16 hG, k_s17 hG, k_s18 hG, k_s19 hG, k_s20 hG, k_s21 hG, k_2 hG, k_3 hG, k_4 hG, k_5 hG, k_6 hG, k_13 hG, k_14 hG, k_16 hG, k_8 hG, k_8w hG, k_9 hG, k_9w hG, k_10 hG, k_10w hG, k_11 hG, k_11w hG, k_12 hG, k_12w hG, k_15 hG, k_15w hG, k_17 hG, k_17w hG, k_18 hG, k_18w hG, k_19 hG, k_19w hG, k_20 hG, k_20w hG, k_21 hG, k_21w hG, k_P hG, k_Pw hG, k_sP hG, k_Q hG, k_Qw hG, k_sQ hG, k_G hG, k_Gw hG, k_sG hG, k_Z hG, k_Zw hG, k_sZ hG, k_I hG, k_Iw hG, k_sI hG, k_O hG, k_Ow hG, k_sO hG, k_V hG, k_Vw hG, k_sV hG, k_M hG, k_Mw hG, k_sM hG, k_S hG, k_Sw hG, k_Swn hG, k_sS hG, k_T_0 hG, k_T_1 hG, k_T_2 hG, k_T_3 hG, k_T_4 hG, k_T_5 hG, k_T_6 hG, k_T_7 hG, k_T_8 hG, k_T_6v hG, k_T_2w hG, k_T_4w hG, k_T_3w hG, k_T_3wn hG, k_sT hG, k_H_0 hG, k_H_1 hG, k_H_2 hG, k_sH hG, k_A_0 hG, k_sA hG, k_J_0 hG, k_J_1 hG, k_J_2 hG, k_J_2w hG, k_sJ hG, k_C hG, k_sC hG, isTh_tg, isTh1, isTh8, isTh9, zT, oT, oF, zT0, oF0, z21, g]
  | succ u ih =>
    intro r C1 hr so
    obtain ⟨e, sx⟩ := so
    have w7 := wr.2.1
    have rn : r < nr := by omega
    have r7 : r < 7 := by omega
    have g : ¬ nI nr ≤ nI r := nI_ge (by omega) (by omega)
    have z21 : C1 21 0 = nI nr := by rw [e 21 0 (by decide) (by decide) (by decide) (by decide)]; exact wr.1
    have E : ∀ f, f ≠ 46 → f ≠ 47 → f ≠ 48 → f ≠ 49 → ∀ j, C1 f j = C f j := fun f a b c y j => e f j a b c y
    have K1 : OKC G C1 := OKC_eq hK (fun f hf j => e f j (by omega) (by omega) (by omega) (by omega))
    have wn1 : Wnum C1 := ⟨fun j => by rw [e 9 j (by decide) (by decide) (by decide) (by decide)]; exact wn.1 j, fun j => by rw [e 20 j (by decide) (by decide) (by decide) (by decide)]; exact wn.2 j⟩
    have ws1 : Wset C1 G.T := Wset_eq (E 2 (by decide) (by decide) (by decide) (by decide)) (E 7 (by decide) (by decide) (by decide) (by decide)) ws
    have ft : ∀ a t, fitV C1 a t = fitV C a t := fun a t => fitV_eq (E 2 (by decide) (by decide) (by decide) (by decide)) (E 7 (by decide) (by decide) (by decide) (by decide)) (E 9 (by decide) (by decide) (by decide) (by decide)) (E 10 (by decide) (by decide) (by decide) (by decide)) (E 11 (by decide) (by decide) (by decide) (by decide)) (E 20 (by decide) (by decide) (by decide) (by decide)) a t
    have ct : ∀ a t, costV C1 a t = costV C a t := fun a t => costV_eq (E 2 (by decide) (by decide) (by decide) (by decide)) (E 7 (by decide) (by decide) (by decide) (by decide)) (E 9 (by decide) (by decide) (by decide) (by decide)) (E 20 (by decide) (by decide) (by decide) (by decide)) a t
    have gd : ∀ c, gdB C1 L (ac r) (to r) c ↔ alG C L ac to r c = true := fun c => by
      rw [alG_iff]
      unfold gdB
      rw [ft]
    obtain ⟨ha, h22⟩ := hac r rn
    obtain ⟨C2, cc, ch, i1, i2, i3, i4, i5⟩ := c20 (d := d + 5) (C := C1) (m0 := m0) (s0 := s0) (n := n) (k := k) (r := r) (a := ac r) (L := L) (to := to r) (pc := pc r) hG K1 wn1 ws1 w4 r7 ha (by rw [e 22 r (by decide) (by decide) (by decide) (by decide)]; exact h22) hL hLm (by rw [e 43 0 (by decide) (by decide) (by decide) (by decide)]; exact h43) (fun i hi => by rw [e 44 i (by decide) (by decide) (by decide) (by decide)]; exact h44 i hi) (fun y hy => hty r y hy) (fun x _ => hpc r x) (fun c hc hd => by rw [ct]; exact hco r c rn hc ((gd c).mp hd))
    obtain ⟨j1, j2, j3⟩ := i1
    have wr2 : Wro G C2 nr := Wro_eq wr (fun f hf j => by rw [j1 f j (by omega) (by omega) (by omega)]; exact e f j (by omega) (by omega) (by omega) (by omega))
    have cg := c22 (d := d + 8) (C := C2) (m0 := m0) (s0 := s0) (n := n) (k := k) (r := r) hG wr2 rn
    rw [show d + 5 + 4 = d + 9 from rfl] at i5
    rw [show d + 8 + 1 = d + 9 from rfl] at cg
    have gv : ∀ q, gpV C2 nr r q = gpV C nr r q := fun q => by
      rw [gpV_eq (S := C) (Z := C2) (fun j => by rw [j1 22 j (by decide) (by decide) (by decide)]; exact e 22 j (by decide) (by decide) (by decide) (by decide)) (fun j => by rw [j1 23 j (by decide) (by decide) (by decide)]; exact e 23 j (by decide) (by decide) (by decide) (by decide)) (fun j => by rw [j1 24 j (by decide) (by decide) (by decide)]; exact e 24 j (by decide) (by decide) (by decide) (by decide))]
    have so3 : So1 C (gpS C2 nr r nr) nr L ac to pc (r + 1) := by
      refine ⟨fun f j a b c y => by rw [gpS_f y, j1 f j a b c]; exact e f j a b c y, fun x hx => ?_⟩
      by_cases ex : x = r
      · subst ex
        refine ⟨fun c hc => ?_, ⟨(cc, ch), i3, ?_⟩, fun q hq => ?_⟩
        · rw [gpS_f (by decide)]
          rcases i2 c hc with ⟨a, b⟩ | ⟨a, b⟩
          · exact Or.inl ⟨(gd c).mp b, a⟩
          · exact Or.inr ⟨Bool.eq_false_iff.mpr (fun z => b ((gd c).mpr z)), a⟩
        · obtain ⟨q1, q2, q3, q4⟩ := i4
          refine ⟨by rw [gpS_f (by decide)]; exact q1, fun i hi => by rw [gpS_f (by decide)]; exact q2 i hi, q3, fun y => ?_⟩
          exact (q4 y).trans (and_congr Iff.rfl (gd y))
        · unfold gpS
          rw [if_pos ⟨rfl, by omega, by omega⟩, ← gv q]
          congr 1
          omega
      · obtain ⟨p1, ⟨p, p2, q1, q2, q3, q4⟩, p3⟩ := sx x (by omega)
        refine ⟨fun c hc => ?_, ⟨p, p2, ?_, fun i hi => ?_, q3, q4⟩, fun q hq => ?_⟩
        · rw [gpS_f (by decide), (j2 (8 * x + c) (by omega)).1]
          exact p1 c hc
        · rw [gpS_f (by decide), j3 x ex]
          exact q1
        · rw [gpS_f (by decide), (j2 (8 * x + i) (by omega)).2]
          exact q2 i hi
        · unfold gpS
          rw [if_neg (by omega), j1 49 _ (by decide) (by decide) (by decide)]
          exact p3 q hq
    obtain ⟨C4, k1, k2⟩ := ih (r + 1) _ (by omega) so3
    refine ⟨C4, k1, ?_⟩
    rw [← k2]
    rcases hto r rn with ⟨h1, h2⟩ | ⟨h1, h2⟩
    · have h1' : (nI r = fr) ↔ True := iff_true_intro h1
      rw [h2] at i5
      cases tv with
      | none =>
        simp only [thO] at i5 ⊢
        conv => lhs; simp only [x18_2, x18_3, x18_4, x18_7, bnd_some, Option.toList_some, Option.toList_none, List.cons_append, List.nil_append, List.singleton_append, clr_i, clr_r, clr_n, clr_0, clr_q, clr_l, isR_r, isR_n, isR_q, cat1_i, cat1_r, b0, b1, if_true, if_false, not_true, not_false_eq_true, reduceCtorEq, ite_self, and_true, true_and, and_false, false_and, or_true, true_or, or_false, false_or, k_1_0 hG, k_1_1 hG, k_1_1w hG, k_1_2 hG, k_1_3 hG, k_1_3w hG, k_1_4 hG, k_1_5 hG, k_1_5w hG, k_1_6 hG, k_1_7 hG, k_1_7w hG, k_1_8 hG, k_1_9 hG, k_1_9w hG, k_1_10 hG, k_1_11 hG, k_1_11w hG, k_1_12 hG, k_1_12w hG, k_1_13 hG, k_1_13w hG, k_1_14 hG, k_1_14w hG, k_1_15 hG, k_1_15w hG, k_1_16 hG, k_1_16w hG, k_7_0 hG, k_7_1 hG, k_7_2 hG, k_7_2w hG, k_7_3 hG, k_7_4 hG, k_7_5 hG, k_7_5w hG, k_7_6 hG, k_7_7 hG, k_7_8 hG, k_7_9 hG, k_7_10 hG, k_7_11 hG, k_7_12 hG, k_7_13 hG, k_7_14 hG, k_7_15 hG, k_7_15w hG, k_7_16 hG, k_7_17 hG, k_7_17w hG, k_s1 hG, k_s2 hG, k_s3 hG, k_s4 hG, k_s5 hG, k_s6 hG, k_s7 hG, k_s8 hG, k_s9 hG, k_s10 hG, k_s11 hG, k_s12 hG, k_s13 hG, k_s14 hG, k_s15 hG, k_s16 hG, k_s17 hG, k_s18 hG, k_s19 hG, k_s20 hG, k_s21 hG, k_2 hG, k_3 hG, k_4 hG, k_5 hG, k_6 hG, k_13 hG, k_14 hG, k_16 hG, k_8 hG, k_8w hG, k_9 hG, k_9w hG, k_10 hG, k_10w hG, k_11 hG, k_11w hG, k_12 hG, k_12w hG, k_15 hG, k_15w hG, k_17 hG, k_17w hG, k_18 hG, k_18w hG, k_19 hG, k_19w hG, k_20 hG, k_20w hG, k_21 hG, k_21w hG, k_P hG, k_Pw hG, k_sP hG, k_Q hG, k_Qw hG, k_sQ hG, k_G hG, k_Gw hG, k_sG hG, k_Z hG, k_Zw hG, k_sZ hG, k_I hG, k_Iw hG, k_sI hG, k_O hG, k_Ow hG, k_sO hG, k_V hG, k_Vw hG, k_sV hG, k_M hG, k_Mw hG, k_sM hG, k_S hG, k_Sw hG, k_Swn hG, k_sS hG, k_T_0 hG, k_T_1 hG, k_T_2 hG, k_T_3 hG, k_T_4 hG, k_T_5 hG, k_T_6 hG, k_T_7 hG, k_T_8 hG, k_T_6v hG, k_T_2w hG, k_T_4w hG, k_T_3w hG, k_T_3wn hG, k_sT hG, k_H_0 hG, k_H_1 hG, k_H_2 hG, k_sH hG, k_A_0 hG, k_sA hG, k_J_0 hG, k_J_1 hG, k_J_2 hG, k_J_2w hG, k_sJ hG, k_C hG, k_sC hG, isTh_tg, isTh1, isTh8, isTh9, zT, oT, oF, zT0, oF0, z21, g]
        conv => lhs; simp only [x18_10, x18_11, x18_12, x18_13, x18_14, x18_17, x18_17n, x18_17q, x18_18, x18_21, x18_22 (hv1 := isR_r), x18_22 (hv1 := isR_n), x18_25, x18_26, x18_27, x18_30, x18_33, bnd_some, Option.toList_some, Option.toList_none, List.cons_append, List.nil_append, List.singleton_append, clr_i, clr_r, clr_n, clr_0, clr_q, clr_l, isR_r, isR_n, isR_q, cat1_i, cat1_r, b0, b1, if_true, if_false, not_true, not_false_eq_true, reduceCtorEq, ite_self, and_true, true_and, and_false, false_and, or_true, true_or, or_false, false_or, k_1_0 hG, k_1_1 hG, k_1_1w hG, k_1_2 hG, k_1_3 hG, k_1_3w hG, k_1_4 hG, k_1_5 hG, k_1_5w hG, k_1_6 hG, k_1_7 hG, k_1_7w hG, k_1_8 hG, k_1_9 hG, k_1_9w hG, k_1_10 hG, k_1_11 hG, k_1_11w hG, k_1_12 hG, k_1_12w hG, k_1_13 hG, k_1_13w hG, k_1_14 hG, k_1_14w hG, k_1_15 hG, k_1_15w hG, k_1_16 hG, k_1_16w hG, k_7_0 hG, k_7_1 hG, k_7_2 hG, k_7_2w hG, k_7_3 hG, k_7_4 hG, k_7_5 hG, k_7_5w hG, k_7_6 hG, k_7_7 hG, k_7_8 hG, k_7_9 hG, k_7_10 hG, k_7_11 hG, k_7_12 hG, k_7_13 hG, k_7_14 hG, k_7_15 hG, k_7_15w hG, k_7_16 hG, k_7_17 hG, k_7_17w hG, k_s1 hG, k_s2 hG, k_s3 hG, k_s4 hG, k_s5 hG, k_s6 hG, k_s7 hG, k_s8 hG, k_s9 hG, k_s10 hG, k_s11 hG, k_s12 hG, k_s13 hG, k_s14 hG, k_s15 hG, k_s16 hG, k_s17 hG, k_s18 hG, k_s19 hG, k_s20 hG, k_s21 hG, k_2 hG, k_3 hG, k_4 hG, k_5 hG, k_6 hG, k_13 hG, k_14 hG, k_16 hG, k_8 hG, k_8w hG, k_9 hG, k_9w hG, k_10 hG, k_10w hG, k_11 hG, k_11w hG, k_12 hG, k_12w hG, k_15 hG, k_15w hG, k_17 hG, k_17w hG, k_18 hG, k_18w hG, k_19 hG, k_19w hG, k_20 hG, k_20w hG, k_21 hG, k_21w hG, k_P hG, k_Pw hG, k_sP hG, k_Q hG, k_Qw hG, k_sQ hG, k_G hG, k_Gw hG, k_sG hG, k_Z hG, k_Zw hG, k_sZ hG, k_I hG, k_Iw hG, k_sI hG, k_O hG, k_Ow hG, k_sO hG, k_V hG, k_Vw hG, k_sV hG, k_M hG, k_Mw hG, k_sM hG, k_S hG, k_Sw hG, k_Swn hG, k_sS hG, k_T_0 hG, k_T_1 hG, k_T_2 hG, k_T_3 hG, k_T_4 hG, k_T_5 hG, k_T_6 hG, k_T_7 hG, k_T_8 hG, k_T_6v hG, k_T_2w hG, k_T_4w hG, k_T_3w hG, k_T_3wn hG, k_sT hG, k_H_0 hG, k_H_1 hG, k_H_2 hG, k_sH hG, k_A_0 hG, k_sA hG, k_J_0 hG, k_J_1 hG, k_J_2 hG, k_J_2w hG, k_sJ hG, k_C hG, k_sC hG, isTh_tg, isTh1, isTh8, isTh9, zT, oT, oF, zT0, oF0, h1', i5, cg, nI_add]
      | some tq =>
        simp only [thO] at i5 ⊢
        conv => lhs; simp only [x18_2, x18_3, x18_4, x18_7, bnd_some, Option.toList_some, Option.toList_none, List.cons_append, List.nil_append, List.singleton_append, clr_i, clr_r, clr_n, clr_0, clr_q, clr_l, isR_r, isR_n, isR_q, cat1_i, cat1_r, b0, b1, if_true, if_false, not_true, not_false_eq_true, reduceCtorEq, ite_self, and_true, true_and, and_false, false_and, or_true, true_or, or_false, false_or, k_1_0 hG, k_1_1 hG, k_1_1w hG, k_1_2 hG, k_1_3 hG, k_1_3w hG, k_1_4 hG, k_1_5 hG, k_1_5w hG, k_1_6 hG, k_1_7 hG, k_1_7w hG, k_1_8 hG, k_1_9 hG, k_1_9w hG, k_1_10 hG, k_1_11 hG, k_1_11w hG, k_1_12 hG, k_1_12w hG, k_1_13 hG, k_1_13w hG, k_1_14 hG, k_1_14w hG, k_1_15 hG, k_1_15w hG, k_1_16 hG, k_1_16w hG, k_7_0 hG, k_7_1 hG, k_7_2 hG, k_7_2w hG, k_7_3 hG, k_7_4 hG, k_7_5 hG, k_7_5w hG, k_7_6 hG, k_7_7 hG, k_7_8 hG, k_7_9 hG, k_7_10 hG, k_7_11 hG, k_7_12 hG, k_7_13 hG, k_7_14 hG, k_7_15 hG, k_7_15w hG, k_7_16 hG, k_7_17 hG, k_7_17w hG, k_s1 hG, k_s2 hG, k_s3 hG, k_s4 hG, k_s5 hG, k_s6 hG, k_s7 hG, k_s8 hG, k_s9 hG, k_s10 hG, k_s11 hG, k_s12 hG, k_s13 hG, k_s14 hG, k_s15 hG, k_s16 hG, k_s17 hG, k_s18 hG, k_s19 hG, k_s20 hG, k_s21 hG, k_2 hG, k_3 hG, k_4 hG, k_5 hG, k_6 hG, k_13 hG, k_14 hG, k_16 hG, k_8 hG, k_8w hG, k_9 hG, k_9w hG, k_10 hG, k_10w hG, k_11 hG, k_11w hG, k_12 hG, k_12w hG, k_15 hG, k_15w hG, k_17 hG, k_17w hG, k_18 hG, k_18w hG, k_19 hG, k_19w hG, k_20 hG, k_20w hG, k_21 hG, k_21w hG, k_P hG, k_Pw hG, k_sP hG, k_Q hG, k_Qw hG, k_sQ hG, k_G hG, k_Gw hG, k_sG hG, k_Z hG, k_Zw hG, k_sZ hG, k_I hG, k_Iw hG, k_sI hG, k_O hG, k_Ow hG, k_sO hG, k_V hG, k_Vw hG, k_sV hG, k_M hG, k_Mw hG, k_sM hG, k_S hG, k_Sw hG, k_Swn hG, k_sS hG, k_T_0 hG, k_T_1 hG, k_T_2 hG, k_T_3 hG, k_T_4 hG, k_T_5 hG, k_T_6 hG, k_T_7 hG, k_T_8 hG, k_T_6v hG, k_T_2w hG, k_T_4w hG, k_T_3w hG, k_T_3wn hG, k_sT hG, k_H_0 hG, k_H_1 hG, k_H_2 hG, k_sH hG, k_A_0 hG, k_sA hG, k_J_0 hG, k_J_1 hG, k_J_2 hG, k_J_2w hG, k_sJ hG, k_C hG, k_sC hG, isTh_tg, isTh1, isTh8, isTh9, zT, oT, oF, zT0, oF0, z21, g]
        conv => lhs; simp only [x18_10, x18_11, x18_12, x18_13, x18_14, x18_17, x18_17n, x18_17q, x18_18, x18_21, x18_22 (hv1 := isR_r), x18_22 (hv1 := isR_n), x18_25, x18_26, x18_27, x18_30, x18_33, bnd_some, Option.toList_some, Option.toList_none, List.cons_append, List.nil_append, List.singleton_append, clr_i, clr_r, clr_n, clr_0, clr_q, clr_l, isR_r, isR_n, isR_q, cat1_i, cat1_r, b0, b1, if_true, if_false, not_true, not_false_eq_true, reduceCtorEq, ite_self, and_true, true_and, and_false, false_and, or_true, true_or, or_false, false_or, k_1_0 hG, k_1_1 hG, k_1_1w hG, k_1_2 hG, k_1_3 hG, k_1_3w hG, k_1_4 hG, k_1_5 hG, k_1_5w hG, k_1_6 hG, k_1_7 hG, k_1_7w hG, k_1_8 hG, k_1_9 hG, k_1_9w hG, k_1_10 hG, k_1_11 hG, k_1_11w hG, k_1_12 hG, k_1_12w hG, k_1_13 hG, k_1_13w hG, k_1_14 hG, k_1_14w hG, k_1_15 hG, k_1_15w hG, k_1_16 hG, k_1_16w hG, k_7_0 hG, k_7_1 hG, k_7_2 hG, k_7_2w hG, k_7_3 hG, k_7_4 hG, k_7_5 hG, k_7_5w hG, k_7_6 hG, k_7_7 hG, k_7_8 hG, k_7_9 hG, k_7_10 hG, k_7_11 hG, k_7_12 hG, k_7_13 hG, k_7_14 hG, k_7_15 hG, k_7_15w hG, k_7_16 hG, k_7_17 hG, k_7_17w hG, k_s1 hG, k_s2 hG, k_s3 hG, k_s4 hG, k_s5 hG, k_s6 hG, k_s7 hG, k_s8 hG, k_s9 hG, k_s10 hG, k_s11 hG, k_s12 hG, k_s13 hG, k_s14 hG, k_s15 hG, k_s16 hG, k_s17 hG, k_s18 hG, k_s19 hG, k_s20 hG, k_s21 hG, k_2 hG, k_3 hG, k_4 hG, k_5 hG, k_6 hG, k_13 hG, k_14 hG, k_16 hG, k_8 hG, k_8w hG, k_9 hG, k_9w hG, k_10 hG, k_10w hG, k_11 hG, k_11w hG, k_12 hG, k_12w hG, k_15 hG, k_15w hG, k_17 hG, k_17w hG, k_18 hG, k_18w hG, k_19 hG, k_19w hG, k_20 hG, k_20w hG, k_21 hG, k_21w hG, k_P hG, k_Pw hG, k_sP hG, k_Q hG, k_Qw hG, k_sQ hG, k_G hG, k_Gw hG, k_sG hG, k_Z hG, k_Zw hG, k_sZ hG, k_I hG, k_Iw hG, k_sI hG, k_O hG, k_Ow hG, k_sO hG, k_V hG, k_Vw hG, k_sV hG, k_M hG, k_Mw hG, k_sM hG, k_S hG, k_Sw hG, k_Swn hG, k_sS hG, k_T_0 hG, k_T_1 hG, k_T_2 hG, k_T_3 hG, k_T_4 hG, k_T_5 hG, k_T_6 hG, k_T_7 hG, k_T_8 hG, k_T_6v hG, k_T_2w hG, k_T_4w hG, k_T_3w hG, k_T_3wn hG, k_sT hG, k_H_0 hG, k_H_1 hG, k_H_2 hG, k_sH hG, k_A_0 hG, k_sA hG, k_J_0 hG, k_J_1 hG, k_J_2 hG, k_J_2w hG, k_sJ hG, k_C hG, k_sC hG, isTh_tg, isTh1, isTh8, isTh9, zT, oT, oF, zT0, oF0, h1', i5, cg, nI_add]
    · rw [h2] at i5
      cases tv with
      | none =>
        simp only [thO] at i5 ⊢
        conv => lhs; simp only [x18_2, x18_3, x18_4, x18_7, bnd_some, Option.toList_some, Option.toList_none, List.cons_append, List.nil_append, List.singleton_append, clr_i, clr_r, clr_n, clr_0, clr_q, clr_l, isR_r, isR_n, isR_q, cat1_i, cat1_r, b0, b1, if_true, if_false, not_true, not_false_eq_true, reduceCtorEq, ite_self, and_true, true_and, and_false, false_and, or_true, true_or, or_false, false_or, k_1_0 hG, k_1_1 hG, k_1_1w hG, k_1_2 hG, k_1_3 hG, k_1_3w hG, k_1_4 hG, k_1_5 hG, k_1_5w hG, k_1_6 hG, k_1_7 hG, k_1_7w hG, k_1_8 hG, k_1_9 hG, k_1_9w hG, k_1_10 hG, k_1_11 hG, k_1_11w hG, k_1_12 hG, k_1_12w hG, k_1_13 hG, k_1_13w hG, k_1_14 hG, k_1_14w hG, k_1_15 hG, k_1_15w hG, k_1_16 hG, k_1_16w hG, k_7_0 hG, k_7_1 hG, k_7_2 hG, k_7_2w hG, k_7_3 hG, k_7_4 hG, k_7_5 hG, k_7_5w hG, k_7_6 hG, k_7_7 hG, k_7_8 hG, k_7_9 hG, k_7_10 hG, k_7_11 hG, k_7_12 hG, k_7_13 hG, k_7_14 hG, k_7_15 hG, k_7_15w hG, k_7_16 hG, k_7_17 hG, k_7_17w hG, k_s1 hG, k_s2 hG, k_s3 hG, k_s4 hG, k_s5 hG, k_s6 hG, k_s7 hG, k_s8 hG, k_s9 hG, k_s10 hG, k_s11 hG, k_s12 hG, k_s13 hG, k_s14 hG, k_s15 hG, k_s16 hG, k_s17 hG, k_s18 hG, k_s19 hG, k_s20 hG, k_s21 hG, k_2 hG, k_3 hG, k_4 hG, k_5 hG, k_6 hG, k_13 hG, k_14 hG, k_16 hG, k_8 hG, k_8w hG, k_9 hG, k_9w hG, k_10 hG, k_10w hG, k_11 hG, k_11w hG, k_12 hG, k_12w hG, k_15 hG, k_15w hG, k_17 hG, k_17w hG, k_18 hG, k_18w hG, k_19 hG, k_19w hG, k_20 hG, k_20w hG, k_21 hG, k_21w hG, k_P hG, k_Pw hG, k_sP hG, k_Q hG, k_Qw hG, k_sQ hG, k_G hG, k_Gw hG, k_sG hG, k_Z hG, k_Zw hG, k_sZ hG, k_I hG, k_Iw hG, k_sI hG, k_O hG, k_Ow hG, k_sO hG, k_V hG, k_Vw hG, k_sV hG, k_M hG, k_Mw hG, k_sM hG, k_S hG, k_Sw hG, k_Swn hG, k_sS hG, k_T_0 hG, k_T_1 hG, k_T_2 hG, k_T_3 hG, k_T_4 hG, k_T_5 hG, k_T_6 hG, k_T_7 hG, k_T_8 hG, k_T_6v hG, k_T_2w hG, k_T_4w hG, k_T_3w hG, k_T_3wn hG, k_sT hG, k_H_0 hG, k_H_1 hG, k_H_2 hG, k_sH hG, k_A_0 hG, k_sA hG, k_J_0 hG, k_J_1 hG, k_J_2 hG, k_J_2w hG, k_sJ hG, k_C hG, k_sC hG, isTh_tg, isTh1, isTh8, isTh9, zT, oT, oF, zT0, oF0, z21, g]
        conv => lhs; simp only [x18_10, x18_11, x18_12, x18_13, x18_14, x18_17, x18_17n, x18_17q, x18_18, x18_21, x18_22 (hv1 := isR_r), x18_22 (hv1 := isR_n), x18_25, x18_26, x18_27, x18_30, x18_33, bnd_some, Option.toList_some, Option.toList_none, List.cons_append, List.nil_append, List.singleton_append, clr_i, clr_r, clr_n, clr_0, clr_q, clr_l, isR_r, isR_n, isR_q, cat1_i, cat1_r, b0, b1, if_true, if_false, not_true, not_false_eq_true, reduceCtorEq, ite_self, and_true, true_and, and_false, false_and, or_true, true_or, or_false, false_or, k_1_0 hG, k_1_1 hG, k_1_1w hG, k_1_2 hG, k_1_3 hG, k_1_3w hG, k_1_4 hG, k_1_5 hG, k_1_5w hG, k_1_6 hG, k_1_7 hG, k_1_7w hG, k_1_8 hG, k_1_9 hG, k_1_9w hG, k_1_10 hG, k_1_11 hG, k_1_11w hG, k_1_12 hG, k_1_12w hG, k_1_13 hG, k_1_13w hG, k_1_14 hG, k_1_14w hG, k_1_15 hG, k_1_15w hG, k_1_16 hG, k_1_16w hG, k_7_0 hG, k_7_1 hG, k_7_2 hG, k_7_2w hG, k_7_3 hG, k_7_4 hG, k_7_5 hG, k_7_5w hG, k_7_6 hG, k_7_7 hG, k_7_8 hG, k_7_9 hG, k_7_10 hG, k_7_11 hG, k_7_12 hG, k_7_13 hG, k_7_14 hG, k_7_15 hG, k_7_15w hG, k_7_16 hG, k_7_17 hG, k_7_17w hG, k_s1 hG, k_s2 hG, k_s3 hG, k_s4 hG, k_s5 hG, k_s6 hG, k_s7 hG, k_s8 hG, k_s9 hG, k_s10 hG, k_s11 hG, k_s12 hG, k_s13 hG, k_s14 hG, k_s15 hG, k_s16 hG, k_s17 hG, k_s18 hG, k_s19 hG, k_s20 hG, k_s21 hG, k_2 hG, k_3 hG, k_4 hG, k_5 hG, k_6 hG, k_13 hG, k_14 hG, k_16 hG, k_8 hG, k_8w hG, k_9 hG, k_9w hG, k_10 hG, k_10w hG, k_11 hG, k_11w hG, k_12 hG, k_12w hG, k_15 hG, k_15w hG, k_17 hG, k_17w hG, k_18 hG, k_18w hG, k_19 hG, k_19w hG, k_20 hG, k_20w hG, k_21 hG, k_21w hG, k_P hG, k_Pw hG, k_sP hG, k_Q hG, k_Qw hG, k_sQ hG, k_G hG, k_Gw hG, k_sG hG, k_Z hG, k_Zw hG, k_sZ hG, k_I hG, k_Iw hG, k_sI hG, k_O hG, k_Ow hG, k_sO hG, k_V hG, k_Vw hG, k_sV hG, k_M hG, k_Mw hG, k_sM hG, k_S hG, k_Sw hG, k_Swn hG, k_sS hG, k_T_0 hG, k_T_1 hG, k_T_2 hG, k_T_3 hG, k_T_4 hG, k_T_5 hG, k_T_6 hG, k_T_7 hG, k_T_8 hG, k_T_6v hG, k_T_2w hG, k_T_4w hG, k_T_3w hG, k_T_3wn hG, k_sT hG, k_H_0 hG, k_H_1 hG, k_H_2 hG, k_sH hG, k_A_0 hG, k_sA hG, k_J_0 hG, k_J_1 hG, k_J_2 hG, k_J_2w hG, k_sJ hG, k_C hG, k_sC hG, isTh_tg, isTh1, isTh8, isTh9, zT, oT, oF, zT0, oF0, h1, i5, cg, nI_add]
      | some tq =>
        simp only [thO] at i5 ⊢
        conv => lhs; simp only [x18_2, x18_3, x18_4, x18_7, bnd_some, Option.toList_some, Option.toList_none, List.cons_append, List.nil_append, List.singleton_append, clr_i, clr_r, clr_n, clr_0, clr_q, clr_l, isR_r, isR_n, isR_q, cat1_i, cat1_r, b0, b1, if_true, if_false, not_true, not_false_eq_true, reduceCtorEq, ite_self, and_true, true_and, and_false, false_and, or_true, true_or, or_false, false_or, k_1_0 hG, k_1_1 hG, k_1_1w hG, k_1_2 hG, k_1_3 hG, k_1_3w hG, k_1_4 hG, k_1_5 hG, k_1_5w hG, k_1_6 hG, k_1_7 hG, k_1_7w hG, k_1_8 hG, k_1_9 hG, k_1_9w hG, k_1_10 hG, k_1_11 hG, k_1_11w hG, k_1_12 hG, k_1_12w hG, k_1_13 hG, k_1_13w hG, k_1_14 hG, k_1_14w hG, k_1_15 hG, k_1_15w hG, k_1_16 hG, k_1_16w hG, k_7_0 hG, k_7_1 hG, k_7_2 hG, k_7_2w hG, k_7_3 hG, k_7_4 hG, k_7_5 hG, k_7_5w hG, k_7_6 hG, k_7_7 hG, k_7_8 hG, k_7_9 hG, k_7_10 hG, k_7_11 hG, k_7_12 hG, k_7_13 hG, k_7_14 hG, k_7_15 hG, k_7_15w hG, k_7_16 hG, k_7_17 hG, k_7_17w hG, k_s1 hG, k_s2 hG, k_s3 hG, k_s4 hG, k_s5 hG, k_s6 hG, k_s7 hG, k_s8 hG, k_s9 hG, k_s10 hG, k_s11 hG, k_s12 hG, k_s13 hG, k_s14 hG, k_s15 hG, k_s16 hG, k_s17 hG, k_s18 hG, k_s19 hG, k_s20 hG, k_s21 hG, k_2 hG, k_3 hG, k_4 hG, k_5 hG, k_6 hG, k_13 hG, k_14 hG, k_16 hG, k_8 hG, k_8w hG, k_9 hG, k_9w hG, k_10 hG, k_10w hG, k_11 hG, k_11w hG, k_12 hG, k_12w hG, k_15 hG, k_15w hG, k_17 hG, k_17w hG, k_18 hG, k_18w hG, k_19 hG, k_19w hG, k_20 hG, k_20w hG, k_21 hG, k_21w hG, k_P hG, k_Pw hG, k_sP hG, k_Q hG, k_Qw hG, k_sQ hG, k_G hG, k_Gw hG, k_sG hG, k_Z hG, k_Zw hG, k_sZ hG, k_I hG, k_Iw hG, k_sI hG, k_O hG, k_Ow hG, k_sO hG, k_V hG, k_Vw hG, k_sV hG, k_M hG, k_Mw hG, k_sM hG, k_S hG, k_Sw hG, k_Swn hG, k_sS hG, k_T_0 hG, k_T_1 hG, k_T_2 hG, k_T_3 hG, k_T_4 hG, k_T_5 hG, k_T_6 hG, k_T_7 hG, k_T_8 hG, k_T_6v hG, k_T_2w hG, k_T_4w hG, k_T_3w hG, k_T_3wn hG, k_sT hG, k_H_0 hG, k_H_1 hG, k_H_2 hG, k_sH hG, k_A_0 hG, k_sA hG, k_J_0 hG, k_J_1 hG, k_J_2 hG, k_J_2w hG, k_sJ hG, k_C hG, k_sC hG, isTh_tg, isTh1, isTh8, isTh9, zT, oT, oF, zT0, oF0, z21, g]
        conv => lhs; simp only [x18_10, x18_11, x18_12, x18_13, x18_14, x18_17, x18_17n, x18_17q, x18_18, x18_21, x18_22 (hv1 := isR_r), x18_22 (hv1 := isR_n), x18_25, x18_26, x18_27, x18_30, x18_33, bnd_some, Option.toList_some, Option.toList_none, List.cons_append, List.nil_append, List.singleton_append, clr_i, clr_r, clr_n, clr_0, clr_q, clr_l, isR_r, isR_n, isR_q, cat1_i, cat1_r, b0, b1, if_true, if_false, not_true, not_false_eq_true, reduceCtorEq, ite_self, and_true, true_and, and_false, false_and, or_true, true_or, or_false, false_or, k_1_0 hG, k_1_1 hG, k_1_1w hG, k_1_2 hG, k_1_3 hG, k_1_3w hG, k_1_4 hG, k_1_5 hG, k_1_5w hG, k_1_6 hG, k_1_7 hG, k_1_7w hG, k_1_8 hG, k_1_9 hG, k_1_9w hG, k_1_10 hG, k_1_11 hG, k_1_11w hG, k_1_12 hG, k_1_12w hG, k_1_13 hG, k_1_13w hG, k_1_14 hG, k_1_14w hG, k_1_15 hG, k_1_15w hG, k_1_16 hG, k_1_16w hG, k_7_0 hG, k_7_1 hG, k_7_2 hG, k_7_2w hG, k_7_3 hG, k_7_4 hG, k_7_5 hG, k_7_5w hG, k_7_6 hG, k_7_7 hG, k_7_8 hG, k_7_9 hG, k_7_10 hG, k_7_11 hG, k_7_12 hG, k_7_13 hG, k_7_14 hG, k_7_15 hG, k_7_15w hG, k_7_16 hG, k_7_17 hG, k_7_17w hG, k_s1 hG, k_s2 hG, k_s3 hG, k_s4 hG, k_s5 hG, k_s6 hG, k_s7 hG, k_s8 hG, k_s9 hG, k_s10 hG, k_s11 hG, k_s12 hG, k_s13 hG, k_s14 hG, k_s15 hG, k_s16 hG, k_s17 hG, k_s18 hG, k_s19 hG, k_s20 hG, k_s21 hG, k_2 hG, k_3 hG, k_4 hG, k_5 hG, k_6 hG, k_13 hG, k_14 hG, k_16 hG, k_8 hG, k_8w hG, k_9 hG, k_9w hG, k_10 hG, k_10w hG, k_11 hG, k_11w hG, k_12 hG, k_12w hG, k_15 hG, k_15w hG, k_17 hG, k_17w hG, k_18 hG, k_18w hG, k_19 hG, k_19w hG, k_20 hG, k_20w hG, k_21 hG, k_21w hG, k_P hG, k_Pw hG, k_sP hG, k_Q hG, k_Qw hG, k_sQ hG, k_G hG, k_Gw hG, k_sG hG, k_Z hG, k_Zw hG, k_sZ hG, k_I hG, k_Iw hG, k_sI hG, k_O hG, k_Ow hG, k_sO hG, k_V hG, k_Vw hG, k_sV hG, k_M hG, k_Mw hG, k_sM hG, k_S hG, k_Sw hG, k_Swn hG, k_sS hG, k_T_0 hG, k_T_1 hG, k_T_2 hG, k_T_3 hG, k_T_4 hG, k_T_5 hG, k_T_6 hG, k_T_7 hG, k_T_8 hG, k_T_6v hG, k_T_2w hG, k_T_4w hG, k_T_3w hG, k_T_3wn hG, k_sT hG, k_H_0 hG, k_H_1 hG, k_H_2 hG, k_sH hG, k_A_0 hG, k_sA hG, k_J_0 hG, k_J_1 hG, k_J_2 hG, k_J_2w hG, k_sJ hG, k_C hG, k_sC hG, isTh_tg, isTh1, isTh8, isTh9, zT, oT, oF, zT0, oF0, h1, i5, cg, nI_add]
end DH
/-! ===== what the later positions cost at least ===== -/
def clsF (C : St) (od : Nat → Nat) (x : Nat) : Nat → (Nat → Nat) → Nat → Bool := fun i tl c => clK C od tl (od i) c x (i - x)
def rsT (C : St) (Cn : Nat) (al : Nat → Nat → Bool) (pc : Nat → Nat → Nat) (od : Nat → Nat) (nr x : Nat) : Nat := skV Cn al pc (clsF C od x) od (nr - x) x (fun _ => 0) 0
theorem clB_q {C Z : St} (h23 : ∀ j, Z 23 j = C 23 j) (h45 : ∀ j, Z 45 j = C 45 j) (h49 : ∀ j, Z 49 j = C 49 j) (r c q b : Nat) : clB Z r c q b = clB C r c q b := by
  unfold clB
  simp only [h23, h45, h49]
theorem clK_q {C Z : St} (h23 : ∀ j, Z 23 j = C 23 j) (h45 : ∀ j, Z 45 j = C 45 j) (h49 : ∀ j, Z 49 j = C 49 j) (od tl : Nat → Nat) (x c : Nat) : ∀ u i, clK Z od tl x c i u = clK C od tl x c i u := by
  intro u
  induction u with
  | zero => intro i; rfl
  | succ u ih => intro i; unfold clK; rw [clB_q h23 h45 h49, ih]
theorem clsF_q {C Z : St} (h23 : ∀ j, Z 23 j = C 23 j) (h45 : ∀ j, Z 45 j = C 45 j) (h49 : ∀ j, Z 49 j = C 49 j) (od : Nat → Nat) (x : Nat) : clsF Z od x = clsF C od x := by
  funext i tl c
  exact clK_q h23 h45 h49 od tl (od i) c (i - x) x
theorem clsF_tl {C : St} {od : Nat → Nat} {x : Nat} : ∀ (i : Nat) (tl tl' : Nat → Nat) (c : Nat), (∀ y, y < i → tl y = tl' y) → clsF C od x i tl c = clsF C od x i tl' c := by
  intro i tl tl' c h
  exact clK_tl (i - x) x (fun y h1 h2 => h y (by omega))
theorem clK_sub {C : St} {od tl : Nat → Nat} {x c : Nat} : ∀ w i u, clK C od tl x c i (w + u) = false → clK C od tl x c (i + w) u = false := by
  intro w
  induction w with
  | zero => intro i u h; rw [Nat.zero_add] at h; exact h
  | succ w ih =>
    intro i u h
    rw [Nat.add_right_comm] at h
    unfold clK at h
    rw [Bool.or_eq_false_iff] at h
    have := ih (i + 1) u h.2
    rw [show i + (w + 1) = i + 1 + w by omega]
    exact this
theorem clsF_sub {C : St} {od : Nat → Nat} {x y : Nat} (hxy : x ≤ y) (i : Nat) (f : Nat → Nat) (c : Nat) (hi : y ≤ i) (h : clsF C od x i f c = false) : clsF C od y i f c = false := by
  unfold clsF at h ⊢
  have := clK_sub (y - x) x (i - y) (by rw [show y - x + (i - y) = i - x by omega]; exact h)
  rw [show x + (y - x) = y by omega] at this
  exact this
section DH2
variable {C : St} {Cn nr : Nat} {al : Nat → Nat → Bool} {pc : Nat → Nat → Nat} {od : Nat → Nat}
theorem rsT_nr : rsT C Cn al pc od nr nr = 0 := by
  unfold rsT
  rw [Nat.sub_self]
  rfl
theorem rsT_top {x : Nat} : rsT C Cn al pc od nr x ≤ 2147483647 := by
  unfold rsT
  cases nr - x with
  | zero => exact Nat.zero_le _
  | succ w => exact mnN_top _ _
theorem smP_ub {f : Nat → Nat} (hpc : ∀ x c, pc x c ≤ 1000000) : ∀ w x, smP pc od f x w ≤ 1000000 * w := by
  intro w
  induction w with
  | zero => intro x; exact Nat.le_refl _
  | succ w ih =>
    intro x
    rw [smP_s]
    have a := hpc (od x) (f x)
    have b := ih (x + 1)
    omega
theorem rsT_ub {x : Nat} (hpc : ∀ x c, pc x c ≤ 1000000) (hn : nr ≤ 7) (h : rsT C Cn al pc od nr x < 2147483647) : rsT C Cn al pc od nr x ≤ 10000000 := by
  obtain ⟨f, f1, f2, f3⟩ := skV_hit (clsF_tl (C := C) (od := od) (x := x)) (nr - x) x (fun _ => 0) 0 h
  unfold rsT
  rw [f3]
  have := smP_ub (od := od) (f := f) hpc (nr - x) x
  omega
theorem rsT_low {x y : Nat} (hxy : x ≤ y) (tl : Nat → Nat) (s w : Nat) (hw : y + w = nr) : min 2147483647 (s + rsT C Cn al pc od nr y) ≤ skV Cn al pc (clsF C od x) od w y tl s := by
  have e : nr - y = w := by omega
  unfold rsT
  rw [e]
  rcases smP_low (Cn := Cn) (al := al) (pc := pc) (od := od) (k := w) (x := y) (clsF_tl (C := C) (od := od) (x := x)) (clsF_tl (C := C) (od := od) (x := y)) (fun i f c h1 h2 => clsF_sub hxy i f c h1 h2) tl (fun _ => 0) s with h | ⟨i, f, h1, h2⟩
  · exact h
  · exact absurd (clK_tl (i - y) y (fun z z1 z2 => by rw [if_neg (by omega)])) h2
theorem rsT_0 {y : Nat} (hy : y ≤ nr) (h : rsT C Cn al pc od nr y = 2147483647) : rsT C Cn al pc od nr 0 = 2147483647 := by
  by_cases z : rsT C Cn al pc od nr 0 < 2147483647
  · obtain ⟨f, f1, f2, f3⟩ := skV_hit (clsF_tl (C := C) (od := od) (x := 0)) (nr - 0) 0 (fun _ => 0) 0 z
    have le := skV_le (pc := pc) (Cn := Cn) (al := al) (od := od) (f := f) (clsF_tl (C := C) (od := od) (x := y)) (nr - y) y f 0 (fun _ _ => rfl) (fun i h1 h2 => by
      obtain ⟨a, b, c⟩ := f2 i (by omega) (by omega)
      exact ⟨a, b, clsF_sub (Nat.zero_le y) i f (f i) h1 c⟩)
    have lo := rsT_low (C := C) (Cn := Cn) (al := al) (pc := pc) (od := od) (nr := nr) (Nat.le_refl y) f 0 (nr - y) (by omega)
    rw [h] at lo
    have tot : ∀ w x, x + w = y → smP pc od f y (nr - y) ≤ smP pc od f x (nr - x) := by
      intro w
      induction w with
      | zero => intro x hx; rw [show x = y by omega]; exact Nat.le_refl _
      | succ w ih =>
        intro x hx
        refine Nat.le_trans (ih (x + 1) (by omega)) ?_
        rw [show nr - x = (nr - (x + 1)) + 1 by omega, smP_s]
        omega
    have t0 := tot y 0 (by omega)
    unfold rsT at z
    rw [f3] at z
    omega
  · have := rsT_top (C := C) (Cn := Cn) (al := al) (pc := pc) (od := od) (nr := nr) (x := 0)
    omega
end DH2
