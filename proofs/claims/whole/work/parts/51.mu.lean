/-! ===== the reference: the search ===== -/
def mnC (f : Nat → Nat) : Nat → Nat
  | 0 => 100000000
  | c + 1 => min (mnC f c) (f c)
def agA (ag : Nat → Nat → Nat → Nat → Bool) (r c : Nat) (tr : Nat → Nat) : Nat → Bool
  | 0 => true
  | q + 1 => agA ag r c tr q && ag r c q (tr q)
def upN (tr : Nat → Nat) (r c : Nat) : Nat → Nat := fun x => if x = r then c else tr x
def srM (C : Nat) (al : Nat → Nat → Bool) (pr : Nat → Nat → Nat) (ag : Nat → Nat → Nat → Nat → Bool) : Nat → Nat → (Nat → Nat) → Nat → Nat
  | 0, _, _, s => s
  | k + 1, r, tr, s => mnC (fun c => if (al r c && agA ag r c tr r) = true then srM C al pr ag k (r + 1) (upN tr r c) (s + pr r c) else 100000000) C
/-- may a role have a choice: what is fixed, what has a price -/
def alB (fx : Nat → Int32) (pr : Nat → Nat → Nat) (r c : Nat) : Bool := (decide (fx r < 0) || decide (fx r = nI c)) && decide (pr r c < 100000000)
def SZ (Z0 Z : St) : Prop := ∀ f j, f ≠ 29 → f ≠ 30 → Z f j = Z0 f j
/-- a problem as it lies in the reference's cells -/
def PZ (Z0 : St) (T nr C : Nat) (pr : Nat → Nat → Nat) (at' : Nat → Nat) : Prop :=
  Wset Z0 T ∧ T ≤ 200 ∧ Z0 21 0 = nI nr ∧ nr ≤ 7 ∧ Z0 25 0 = nI C ∧ C ≤ 8 ∧ (∀ r, r < nr → ∃ i, i ≤ 9 ∧ Z0 23 r = nI i) ∧ (∀ c, c < C → ∃ y, y < T ∧ Z0 26 c = nI y) ∧ (∀ r c, r < nr → c < C → Z0 27 (8 * r + c) = nI (pr r c) ∧ (pr r c = 100000000 ∨ pr r c ≤ 1000000)) ∧ (∀ r, r ≤ nr → Z0 31 r = nI (at' r) ∧ at' r ≤ 100000000)
theorem mnC_le (f : Nat → Nat) : ∀ c, mnC f c ≤ 100000000 := by
  intro c
  induction c with
  | zero => exact Nat.le_refl _
  | succ c ih => unfold mnC; omega
theorem b2T {i : Decidable True} : @b2 True i = nI 1 := by unfold b2; rw [if_pos trivial]
theorem b2F {i : Decidable False} : @b2 False i = nI 0 := by unfold b2; rw [if_neg id]
theorem z10 : ¬ nI 1 = 0 := by decide
theorem z00 : nI 0 = 0 := rfl
section MU0
variable {S Z : St}
theorem tmF_eq (h : ∀ j, Z 24 j = S 24 j) (s : Nat) : ∀ k, tmF Z s k = tmF S s k := by
  intro k
  induction k with
  | zero => rfl
  | succ k ih => unfold tmF; rw [ih, h]
theorem btB_eq (h22 : ∀ j, Z 22 j = S 22 j) (h23 : ∀ j, Z 23 j = S 23 j) (a : Int32) (e l : Nat) : ∀ k, btB Z a e l k = btB S a e l k := by
  intro k
  induction k with
  | zero => rfl
  | succ k ih => unfold btB; rw [ih, h22, h23, h23, h23]
theorem agE_eq (h2 : ∀ j, Z 2 j = S 2 j) (h7 : ∀ j, Z 7 j = S 7 j) (h22 : ∀ j, Z 22 j = S 22 j) (h23 : ∀ j, Z 23 j = S 23 j) (h24 : ∀ j, Z 24 j = S 24 j) (h26 : ∀ j, Z 26 j = S 26 j) (n r e l x : Nat) : agE Z n r e l x = agE S n r e l x := by
  unfold agE scN
  rw [btB_eq h22 h23, minV_eq h2 h7, tmF_eq h24, h22, h23, h23, h26]
theorem agB_eq (h2 : ∀ j, Z 2 j = S 2 j) (h7 : ∀ j, Z 7 j = S 7 j) (h22 : ∀ j, Z 22 j = S 22 j) (h23 : ∀ j, Z 23 j = S 23 j) (h24 : ∀ j, Z 24 j = S 24 j) (h26 : ∀ j, Z 26 j = S 26 j) (n r c q b : Nat) : agB Z n r c q b = agB S n r c q b := by
  unfold agB
  rw [agE_eq h2 h7 h22 h23 h24 h26, agE_eq h2 h7 h22 h23 h24 h26, h22, h22, h23, h23]
end MU0
section MU
variable {d o p pl n k : Nat} {Z0 : St} {m0 : Mm} {s0 : Nat → Nat × Nat} {T nr C : Nat} {pr : Nat → Nat → Nat} {at' : Nat → Nat}
theorem m192_q {Z : St} {r c : Nat} {tr : Nat → Nat} {l2 : Option Value} (hp : Op o p) (pz : PZ Z0 T nr C pr at') (sz : SZ Z0 Z) (hr : r < nr) (hc : c < C) (htr : ∀ x, x < r → tr x < C ∧ Z 29 x = nI (tr x)) : ∀ w q, q + w = r → ∃ q', ex (d + 3) 192 84 [some (.ref o), some (.int (nI r)), l2, some (.int (nI c)), some (.int (b2 (agA (agB Z0 nr) r c tr q = true))), some (.int (nI q))] [] (mM o p Z m0, sM o p pl s0, n, k) = ex (d + 3) 192 118 [some (.ref o), some (.int (nI r)), l2, some (.int (nI c)), some (.int (b2 (agA (agB Z0 nr) r c tr r = true))), some (.int (nI q'))] [] (mM o p Z m0, sM o p pl s0, n, k) := by
  obtain ⟨ws, hT, hn, hn7, h25, hC, h23, h26, h27, h31⟩ := pz
  have zz : ∀ f, f ≠ 29 → f ≠ 30 → ∀ j, Z f j = Z0 f j := fun f a b j => sz f j a b
  intro w
  induction w with
  | zero =>
    intro q hq
    have e : q = r := by omega
    subst e
    have g1 : nI q ≤ nI q := nI_le (Nat.le_refl _) (by omega)
    exact ⟨q, by simp only [x192_84, x192_86, x192_87, bnd_some, Option.toList_some, Option.toList_none, List.cons_append, List.nil_append, List.singleton_append, clr_i, clr_r, clr_n, clr_0, clr_q, clr_l, isR_r, isR_n, isR_q, cat1_i, cat1_r, b0, b1, if_true, if_false, not_true, not_false_eq_true, reduceCtorEq, ite_self, and_true, true_and, and_false, false_and, or_true, true_or, or_false, false_or, g1]⟩
  | succ w ih =>
    intro q hq
    have g1 : ¬ nI r ≤ nI q := nI_ge (by omega) (by omega)
    cases ha : agA (agB Z0 nr) r c tr q with
    | false =>
      have hr2 : ∀ x, agA (agB Z0 nr) r c tr (q + x) = false := by
        intro x
        induction x with
        | zero => exact ha
        | succ x ihx =>
          show (agA (agB Z0 nr) r c tr (q + x) && _) = false
          rw [ihx]
          rfl
      have hrf : agA (agB Z0 nr) r c tr r = false := by
        have := hr2 (w + 1)
        rw [hq] at this
        exact this
      refine ⟨q, ?_⟩
      rw [hrf]
      conv => lhs; simp only [x192_84, x192_86, x192_87, x192_90, x192_92, bnd_some, Option.toList_some, Option.toList_none, List.cons_append, List.nil_append, List.singleton_append, clr_i, clr_r, clr_n, clr_0, clr_q, clr_l, isR_r, isR_n, isR_q, cat1_i, cat1_r, b0, b1, if_true, if_false, not_true, not_false_eq_true, reduceCtorEq, ite_self, and_true, true_and, and_false, false_and, or_true, true_or, or_false, false_or, g1, Bool.false_eq_true, b2F, z00]
      simp only [Bool.false_eq_true, b2F, z00]
    | true =>
      have hq7 : q < 7 := by omega
      have hqb : q < 2147483648 := by omega
      obtain ⟨t1, t2⟩ := htr q (by omega)
      have M := m191 (d := d) (o := o) (p := p) (pl := pl) (n := n) (k := k) (m0 := m0) (s0 := s0) (S := Z) (T := T) (r := r) (c := c) (q := q) (b := tr q) (nr := nr) hp (Wset_eq (zz 2 (by decide) (by decide)) (zz 7 (by decide) (by decide)) ws) hT (by omega) hq7 (by omega) (by omega) (by omega) (by rw [zz 21 (by decide) (by decide)]; exact hn) hn7 (by rw [zz 23 (by decide) (by decide)]; exact h23 r hr) (by rw [zz 23 (by decide) (by decide)]; exact h23 q (by omega)) (by rw [zz 26 (by decide) (by decide)]; exact h26 c hc) (by rw [zz 26 (by decide) (by decide)]; exact h26 _ t1)
      rw [agB_eq (zz 2 (by decide) (by decide)) (zz 7 (by decide) (by decide)) (zz 22 (by decide) (by decide)) (zz 23 (by decide) (by decide)) (zz 24 (by decide) (by decide)) (zz 26 (by decide) (by decide))] at M
      obtain ⟨q', i1⟩ := ih (q + 1) (by omega)
      refine ⟨q', ?_⟩
      rw [← i1, agA, ha, Bool.true_and]
      conv => lhs; simp only [x192_84, x192_86, x192_87, x192_90, x192_92, bnd_some, Option.toList_some, Option.toList_none, List.cons_append, List.nil_append, List.singleton_append, clr_i, clr_r, clr_n, clr_0, clr_q, clr_l, isR_r, isR_n, isR_q, cat1_i, cat1_r, b0, b1, if_true, if_false, not_true, not_false_eq_true, reduceCtorEq, ite_self, and_true, true_and, and_false, false_and, or_true, true_or, or_false, false_or, g1, b2T, z10]
      conv => lhs; simp only [x192_95, x192_96, x192_97, x192_98, x192_100, x192_101, x192_104, x192_106, x192_107, x192_110, x192_112, x192_115, bnd_some, Option.toList_some, Option.toList_none, List.cons_append, List.nil_append, List.singleton_append, clr_i, clr_r, clr_n, clr_0, clr_q, clr_l, isR_r, isR_n, isR_q, cat1_i, cat1_r, b0, b1, if_true, if_false, not_true, not_false_eq_true, reduceCtorEq, ite_self, and_true, true_and, and_false, false_and, or_true, true_or, or_false, false_or, mf_0, wr_0, mf_1, wr_1, mf_2, rd_2 hp, sh_2 hp, wr_2 hp, mf_3, rd_3 hp, sh_3 hp, wr_3 hp, mf_4, rd_4 hp, sh_4 hp, wr_4 hp, mf_5, rd_5 hp, sh_5 hp, wr_5 hp, mf_6, rd_6 hp, sh_6 hp, wr_6 hp, mf_7, rd_7 hp, sh_7 hp, wr_7 hp, mf_8, wr_8, mf_9, rd_9 hp, sh_9 hp, wr_9 hp, mf_10, rd_10 hp, sh_10 hp, wr_10 hp, mf_11, rd_11 hp, sh_11 hp, wr_11 hp, mf_12, rd_12 hp, sh_12 hp, wr_12 hp, mf_13, rd_13 hp, sh_13 hp, wr_13 hp, mf_14, wr_14, mf_15, wr_15, mf_16, mf_17, wr_17, mf_18, wr_18, mf_19, wr_19, mf_20, rd_20 hp, sh_20 hp, wr_20 hp, mf_21, wr_21, mf_22, rd_22 hp, sh_22 hp, wr_22 hp, mf_23, rd_23 hp, sh_23 hp, wr_23 hp, mf_24, rd_24 hp, sh_24 hp, wr_24 hp, mf_25, wr_25, mf_26, rd_26 hp, sh_26 hp, wr_26 hp, mf_27, rd_27 hp, sh_27 hp, wr_27 hp, mf_28, rd_28 hp, sh_28 hp, wr_28 hp, mf_29, rd_29 hp, sh_29 hp, wr_29 hp, mf_30, wr_30, mf_31, rd_31 hp, sh_31 hp, wr_31 hp, mf_32, wr_32, mf_33, rd_33 hp, sh_33 hp, wr_33 hp, mf_34, wr_34, mf_35, wr_35, mf_36, rd_36 hp, sh_36 hp, wr_36 hp, mf_37, rd_37 hp, sh_37 hp, wr_37 hp, mf_38, rd_38 hp, sh_38 hp, wr_38 hp, mf_39, rd_39 hp, sh_39 hp, wr_39 hp, mf_40, rd_40 hp, sh_40 hp, wr_40 hp, mf_41, wr_41, mM_p hp, sM_p hp, wM_p hp, sM_o, hq7, hqb, t2, M, nI_add]
/-- the search: the best that was, or what lies further on -/
theorem m192 (hp : Op o p) (pz : PZ Z0 T nr C pr at') (hat : ∀ k r tr s, r + k = nr → min 100000000 (s + at' r) ≤ srM C (alB (Z0 28) pr) pr (agB Z0 nr) k r tr s) (hat0 : at' nr = 0) : ∀ kk r Z tr s best, r + kk = nr → SZ Z0 Z → Z 30 0 = nI best → best ≤ 100000000 → s ≤ 1000000 * r → (∀ x, x < r → tr x < C ∧ Z 29 x = nI (tr x)) → ∃ Z', ex (d + 3 + kk) 192 0 [some (.ref o), some (.int (nI r)), some (.int (nI s)), none, none, none] [] (mM o p Z m0, sM o p pl s0, n, k) = some (none, (mM o p Z' m0, sM o p pl s0, n, k)) ∧ SZ Z0 Z' ∧ Z' 30 0 = nI (min best (srM C (alB (Z0 28) pr) pr (agB Z0 nr) kk r tr s)) ∧ ∀ x, x < r → Z' 29 x = Z 29 x := by
  have pz' := pz
  obtain ⟨ws, hT, hn, hn7, h25, hC, h23, h26, h27, h31⟩ := pz'
  intro kk
  induction kk with
  | zero =>
    intro r Z tr s best hr sz h30 hb hs htr
    have e : r = nr := by omega
    subst e
    have z31 : Z 31 r = nI (at' r) := by rw [sz 31 r (by decide) (by decide)]; exact (h31 r (Nat.le_refl _)).1
    have r8 : r < 8 := by omega
    have rb : r < 2147483648 := by omega
    have z21 : Z 21 0 = nI r := by rw [sz 21 0 (by decide) (by decide)]; exact hn
    have hlt : (nI (s + at' r) < nI best) ↔ s + at' r < best := nI_ltI (by omega) (by omega)
    by_cases h1 : s + at' r < best
    · refine ⟨sup Z 30 0 (nI s), ?_, fun f j a b => by rw [sup_f b]; exact sz f j a b, ?_, fun x hx => sup_f (by decide)⟩
      · simp only [x192_0, x192_1, x192_2, x192_5, x192_6, x192_7, x192_8, x192_9, x192_12, x192_15, x192_16, x192_17, x192_18, x192_21, x192_24, x192_25, x192_26, x192_29, bnd_some, Option.toList_some, Option.toList_none, List.cons_append, List.nil_append, List.singleton_append, clr_i, clr_r, clr_n, clr_0, clr_q, clr_l, isR_r, isR_n, isR_q, cat1_i, cat1_r, b0, b1, if_true, if_false, not_true, not_false_eq_true, reduceCtorEq, ite_self, and_true, true_and, and_false, false_and, or_true, true_or, or_false, false_or, mf_0, wr_0, mf_1, wr_1, mf_2, rd_2 hp, sh_2 hp, wr_2 hp, mf_3, rd_3 hp, sh_3 hp, wr_3 hp, mf_4, rd_4 hp, sh_4 hp, wr_4 hp, mf_5, rd_5 hp, sh_5 hp, wr_5 hp, mf_6, rd_6 hp, sh_6 hp, wr_6 hp, mf_7, rd_7 hp, sh_7 hp, wr_7 hp, mf_8, wr_8, mf_9, rd_9 hp, sh_9 hp, wr_9 hp, mf_10, rd_10 hp, sh_10 hp, wr_10 hp, mf_11, rd_11 hp, sh_11 hp, wr_11 hp, mf_12, rd_12 hp, sh_12 hp, wr_12 hp, mf_13, rd_13 hp, sh_13 hp, wr_13 hp, mf_14, wr_14, mf_15, wr_15, mf_16, mf_17, wr_17, mf_18, wr_18, mf_19, wr_19, mf_20, rd_20 hp, sh_20 hp, wr_20 hp, mf_21, wr_21, mf_22, rd_22 hp, sh_22 hp, wr_22 hp, mf_23, rd_23 hp, sh_23 hp, wr_23 hp, mf_24, rd_24 hp, sh_24 hp, wr_24 hp, mf_25, wr_25, mf_26, rd_26 hp, sh_26 hp, wr_26 hp, mf_27, rd_27 hp, sh_27 hp, wr_27 hp, mf_28, rd_28 hp, sh_28 hp, wr_28 hp, mf_29, rd_29 hp, sh_29 hp, wr_29 hp, mf_30, wr_30, mf_31, rd_31 hp, sh_31 hp, wr_31 hp, mf_32, wr_32, mf_33, rd_33 hp, sh_33 hp, wr_33 hp, mf_34, wr_34, mf_35, wr_35, mf_36, rd_36 hp, sh_36 hp, wr_36 hp, mf_37, rd_37 hp, sh_37 hp, wr_37 hp, mf_38, rd_38 hp, sh_38 hp, wr_38 hp, mf_39, rd_39 hp, sh_39 hp, wr_39 hp, mf_40, rd_40 hp, sh_40 hp, wr_40 hp, mf_41, wr_41, mM_p hp, sM_p hp, wM_p hp, sM_o, r8, rb, z31, z21, h30, nI_add, hlt, h1]
      · rw [sup_eq, srM]
        exact congrArg nI (by omega)
    · refine ⟨Z, ?_, sz, ?_, fun _ _ => rfl⟩
      · simp only [x192_0, x192_1, x192_2, x192_5, x192_6, x192_7, x192_8, x192_9, x192_12, x192_15, bnd_some, Option.toList_some, Option.toList_none, List.cons_append, List.nil_append, List.singleton_append, clr_i, clr_r, clr_n, clr_0, clr_q, clr_l, isR_r, isR_n, isR_q, cat1_i, cat1_r, b0, b1, if_true, if_false, not_true, not_false_eq_true, reduceCtorEq, ite_self, and_true, true_and, and_false, false_and, or_true, true_or, or_false, false_or, mf_0, wr_0, mf_1, wr_1, mf_2, rd_2 hp, sh_2 hp, wr_2 hp, mf_3, rd_3 hp, sh_3 hp, wr_3 hp, mf_4, rd_4 hp, sh_4 hp, wr_4 hp, mf_5, rd_5 hp, sh_5 hp, wr_5 hp, mf_6, rd_6 hp, sh_6 hp, wr_6 hp, mf_7, rd_7 hp, sh_7 hp, wr_7 hp, mf_8, wr_8, mf_9, rd_9 hp, sh_9 hp, wr_9 hp, mf_10, rd_10 hp, sh_10 hp, wr_10 hp, mf_11, rd_11 hp, sh_11 hp, wr_11 hp, mf_12, rd_12 hp, sh_12 hp, wr_12 hp, mf_13, rd_13 hp, sh_13 hp, wr_13 hp, mf_14, wr_14, mf_15, wr_15, mf_16, mf_17, wr_17, mf_18, wr_18, mf_19, wr_19, mf_20, rd_20 hp, sh_20 hp, wr_20 hp, mf_21, wr_21, mf_22, rd_22 hp, sh_22 hp, wr_22 hp, mf_23, rd_23 hp, sh_23 hp, wr_23 hp, mf_24, rd_24 hp, sh_24 hp, wr_24 hp, mf_25, wr_25, mf_26, rd_26 hp, sh_26 hp, wr_26 hp, mf_27, rd_27 hp, sh_27 hp, wr_27 hp, mf_28, rd_28 hp, sh_28 hp, wr_28 hp, mf_29, rd_29 hp, sh_29 hp, wr_29 hp, mf_30, wr_30, mf_31, rd_31 hp, sh_31 hp, wr_31 hp, mf_32, wr_32, mf_33, rd_33 hp, sh_33 hp, wr_33 hp, mf_34, wr_34, mf_35, wr_35, mf_36, rd_36 hp, sh_36 hp, wr_36 hp, mf_37, rd_37 hp, sh_37 hp, wr_37 hp, mf_38, rd_38 hp, sh_38 hp, wr_38 hp, mf_39, rd_39 hp, sh_39 hp, wr_39 hp, mf_40, rd_40 hp, sh_40 hp, wr_40 hp, mf_41, wr_41, mM_p hp, sM_p hp, wM_p hp, sM_o, r8, rb, z31, h30, nI_add, hlt, h1]
      · rw [h30, srM]
        exact congrArg nI (by omega)
  | succ kk ihk =>
    intro r Z tr s best hr sz h30 hb hs htr
    have z31 : Z 31 r = nI (at' r) := by rw [sz 31 r (by decide) (by decide)]; exact (h31 r (by omega)).1
    have h31r := (h31 r (by omega)).2
    have r7 : r < 7 := by omega
    have r8 : r < 8 := by omega
    have rb : r < 2147483648 := by omega
    have hlt : (nI (s + at' r) < nI best) ↔ s + at' r < best := nI_ltI (by omega) (by omega)
    by_cases h1 : s + at' r < best
    · have hrn : ¬ nI r = nI nr := by rw [nI_eq (by omega) (by omega)]; omega
      have z21 : Z 21 0 = nI nr := by rw [sz 21 0 (by decide) (by decide)]; exact hn
      have loop : ∀ w c Y bst l4 l5, c + w = C → SZ Z0 Y → (∀ x, x < r → Y 29 x = Z 29 x) → Y 30 0 = nI bst → bst = min best (mnC (fun c => if (alB (Z0 28) pr r c && agA (agB Z0 nr) r c tr r) = true then srM C (alB (Z0 28) pr) pr (agB Z0 nr) kk (r + 1) (upN tr r c) (s + pr r c) else 100000000) c) → ∃ Z', ex (d + 3 + (kk + 1)) 192 32 [some (.ref o), some (.int (nI r)), some (.int (nI s)), some (.int (nI c)), l4, l5] [] (mM o p Y m0, sM o p pl s0, n, k) = some (none, (mM o p Z' m0, sM o p pl s0, n, k)) ∧ SZ Z0 Z' ∧ Z' 30 0 = nI (min best (mnC (fun c => if (alB (Z0 28) pr r c && agA (agB Z0 nr) r c tr r) = true then srM C (alB (Z0 28) pr) pr (agB Z0 nr) kk (r + 1) (upN tr r c) (s + pr r c) else 100000000) C)) ∧ ∀ x, x < r → Z' 29 x = Z 29 x := by
        intro w
        induction w with
        | zero =>
          intro c Y bst l4 l5 hc sy hy hb0 eb
          have e : c = C := by omega
          subst e
          have y25 : Y 25 0 = nI c := by rw [sy 25 0 (by decide) (by decide)]; exact h25
          have g1 : nI c ≤ nI c := nI_le (Nat.le_refl _) (by omega)
          exact ⟨Y, by simp only [x192_32, x192_33, x192_34, x192_37, x192_156, bnd_some, Option.toList_some, Option.toList_none, List.cons_append, List.nil_append, List.singleton_append, clr_i, clr_r, clr_n, clr_0, clr_q, clr_l, isR_r, isR_n, isR_q, cat1_i, cat1_r, b0, b1, if_true, if_false, not_true, not_false_eq_true, reduceCtorEq, ite_self, and_true, true_and, and_false, false_and, or_true, true_or, or_false, false_or, mf_0, wr_0, mf_1, wr_1, mf_2, rd_2 hp, sh_2 hp, wr_2 hp, mf_3, rd_3 hp, sh_3 hp, wr_3 hp, mf_4, rd_4 hp, sh_4 hp, wr_4 hp, mf_5, rd_5 hp, sh_5 hp, wr_5 hp, mf_6, rd_6 hp, sh_6 hp, wr_6 hp, mf_7, rd_7 hp, sh_7 hp, wr_7 hp, mf_8, wr_8, mf_9, rd_9 hp, sh_9 hp, wr_9 hp, mf_10, rd_10 hp, sh_10 hp, wr_10 hp, mf_11, rd_11 hp, sh_11 hp, wr_11 hp, mf_12, rd_12 hp, sh_12 hp, wr_12 hp, mf_13, rd_13 hp, sh_13 hp, wr_13 hp, mf_14, wr_14, mf_15, wr_15, mf_16, mf_17, wr_17, mf_18, wr_18, mf_19, wr_19, mf_20, rd_20 hp, sh_20 hp, wr_20 hp, mf_21, wr_21, mf_22, rd_22 hp, sh_22 hp, wr_22 hp, mf_23, rd_23 hp, sh_23 hp, wr_23 hp, mf_24, rd_24 hp, sh_24 hp, wr_24 hp, mf_25, wr_25, mf_26, rd_26 hp, sh_26 hp, wr_26 hp, mf_27, rd_27 hp, sh_27 hp, wr_27 hp, mf_28, rd_28 hp, sh_28 hp, wr_28 hp, mf_29, rd_29 hp, sh_29 hp, wr_29 hp, mf_30, wr_30, mf_31, rd_31 hp, sh_31 hp, wr_31 hp, mf_32, wr_32, mf_33, rd_33 hp, sh_33 hp, wr_33 hp, mf_34, wr_34, mf_35, wr_35, mf_36, rd_36 hp, sh_36 hp, wr_36 hp, mf_37, rd_37 hp, sh_37 hp, wr_37 hp, mf_38, rd_38 hp, sh_38 hp, wr_38 hp, mf_39, rd_39 hp, sh_39 hp, wr_39 hp, mf_40, rd_40 hp, sh_40 hp, wr_40 hp, mf_41, wr_41, mM_p hp, sM_p hp, wM_p hp, sM_o, y25, g1], sy, by rw [hb0, eb], hy⟩
        | succ w ihw =>
          intro c Y bst l4 l5 hc sy hy hb0 eb
          have y25 : Y 25 0 = nI C := by rw [sy 25 0 (by decide) (by decide)]; exact h25
          have g1 : ¬ nI C ≤ nI c := nI_ge (by omega) (by omega)
          have y28 : Y 28 r = Z0 28 r := sy 28 r (by decide) (by decide)
          have g2 : 8 * r + c < 56 := by omega
          have g3 : 8 * r + c < 2147483648 := by omega
          obtain ⟨hp27, hpb⟩ := h27 r c (by omega) (by omega)
          have y27 : Y 27 (8 * r + c) = nI (pr r c) := by rw [sy 27 _ (by decide) (by decide)]; exact hp27
          have hplt : (nI (pr r c) < nI 100000000) ↔ pr r c < 100000000 := nI_ltI (by omega) (by omega)
          have hb0le : bst ≤ 100000000 := by omega
          have skip : ∀ Y' l4 l5, SZ Z0 Y' → (∀ x, x < r → Y' 29 x = Z 29 x) → Y' 30 0 = nI bst → (alB (Z0 28) pr r c && agA (agB Z0 nr) r c tr r) = false → ∃ Z', ex (d + 3 + (kk + 1)) 192 150 [some (.ref o), some (.int (nI r)), some (.int (nI s)), some (.int (nI c)), l4, l5] [] (mM o p Y' m0, sM o p pl s0, n, k) = some (none, (mM o p Z' m0, sM o p pl s0, n, k)) ∧ SZ Z0 Z' ∧ Z' 30 0 = nI (min best (mnC (fun c => if (alB (Z0 28) pr r c && agA (agB Z0 nr) r c tr r) = true then srM C (alB (Z0 28) pr) pr (agB Z0 nr) kk (r + 1) (upN tr r c) (s + pr r c) else 100000000) C)) ∧ ∀ x, x < r → Z' 29 x = Z 29 x := by
            intro Y' l4 l5 sy' hy' hb' hf
            obtain ⟨Z', i1, i2, i3, i4⟩ := ihw (c + 1) Y' bst l4 l5 (by omega) sy' hy' hb' (by
              rw [mnC, hf]
              simp only [Bool.false_eq_true, if_false]
              omega)
            refine ⟨Z', ?_, i2, i3, i4⟩
            rw [← i1]
            conv => lhs; simp only [x192_150, x192_153, bnd_some, Option.toList_some, Option.toList_none, List.cons_append, List.nil_append, List.singleton_append, clr_i, clr_r, clr_n, clr_0, clr_q, clr_l, isR_r, isR_n, isR_q, cat1_i, cat1_r, b0, b1, if_true, if_false, not_true, not_false_eq_true, reduceCtorEq, ite_self, and_true, true_and, and_false, false_and, or_true, true_or, or_false, false_or, nI_add]
          have h28c : (Z0 28 r < 0 ∨ Z0 28 r = nI c) ∨ ¬ (Z0 28 r < 0 ∨ Z0 28 r = nI c) := Classical.em _
          rcases h28c with hfx | hfx
          · have hto : ∀ l4 l5, ex (d + 3 + (kk + 1)) 192 32 [some (.ref o), some (.int (nI r)), some (.int (nI s)), some (.int (nI c)), l4, l5] [] (mM o p Y m0, sM o p pl s0, n, k) = ex (d + 3 + (kk + 1)) 192 59 [some (.ref o), some (.int (nI r)), some (.int (nI s)), some (.int (nI c)), l4, l5] [] (mM o p Y m0, sM o p pl s0, n, k) := by
              intro l4 l5
              by_cases q1 : Z0 28 r < 0
              · conv => lhs; simp only [x192_32, x192_33, x192_34, x192_37, x192_40, x192_41, x192_44, x192_45, x192_46, bnd_some, Option.toList_some, Option.toList_none, List.cons_append, List.nil_append, List.singleton_append, clr_i, clr_r, clr_n, clr_0, clr_q, clr_l, isR_r, isR_n, isR_q, cat1_i, cat1_r, b0, b1, if_true, if_false, not_true, not_false_eq_true, reduceCtorEq, ite_self, and_true, true_and, and_false, false_and, or_true, true_or, or_false, false_or, mf_0, wr_0, mf_1, wr_1, mf_2, rd_2 hp, sh_2 hp, wr_2 hp, mf_3, rd_3 hp, sh_3 hp, wr_3 hp, mf_4, rd_4 hp, sh_4 hp, wr_4 hp, mf_5, rd_5 hp, sh_5 hp, wr_5 hp, mf_6, rd_6 hp, sh_6 hp, wr_6 hp, mf_7, rd_7 hp, sh_7 hp, wr_7 hp, mf_8, wr_8, mf_9, rd_9 hp, sh_9 hp, wr_9 hp, mf_10, rd_10 hp, sh_10 hp, wr_10 hp, mf_11, rd_11 hp, sh_11 hp, wr_11 hp, mf_12, rd_12 hp, sh_12 hp, wr_12 hp, mf_13, rd_13 hp, sh_13 hp, wr_13 hp, mf_14, wr_14, mf_15, wr_15, mf_16, mf_17, wr_17, mf_18, wr_18, mf_19, wr_19, mf_20, rd_20 hp, sh_20 hp, wr_20 hp, mf_21, wr_21, mf_22, rd_22 hp, sh_22 hp, wr_22 hp, mf_23, rd_23 hp, sh_23 hp, wr_23 hp, mf_24, rd_24 hp, sh_24 hp, wr_24 hp, mf_25, wr_25, mf_26, rd_26 hp, sh_26 hp, wr_26 hp, mf_27, rd_27 hp, sh_27 hp, wr_27 hp, mf_28, rd_28 hp, sh_28 hp, wr_28 hp, mf_29, rd_29 hp, sh_29 hp, wr_29 hp, mf_30, wr_30, mf_31, rd_31 hp, sh_31 hp, wr_31 hp, mf_32, wr_32, mf_33, rd_33 hp, sh_33 hp, wr_33 hp, mf_34, wr_34, mf_35, wr_35, mf_36, rd_36 hp, sh_36 hp, wr_36 hp, mf_37, rd_37 hp, sh_37 hp, wr_37 hp, mf_38, rd_38 hp, sh_38 hp, wr_38 hp, mf_39, rd_39 hp, sh_39 hp, wr_39 hp, mf_40, rd_40 hp, sh_40 hp, wr_40 hp, mf_41, wr_41, mM_p hp, sM_p hp, wM_p hp, sM_o, y25, g1, r7, rb, y28, q1]
              · have q2 : Z0 28 r = nI c := hfx.resolve_left q1
                rw [q2] at q1
                conv => lhs; simp only [x192_32, x192_33, x192_34, x192_37, x192_40, x192_41, x192_44, x192_45, x192_46, x192_49, x192_50, x192_53, x192_54, x192_55, x192_56, bnd_some, Option.toList_some, Option.toList_none, List.cons_append, List.nil_append, List.singleton_append, clr_i, clr_r, clr_n, clr_0, clr_q, clr_l, isR_r, isR_n, isR_q, cat1_i, cat1_r, b0, b1, if_true, if_false, not_true, not_false_eq_true, reduceCtorEq, ite_self, and_true, true_and, and_false, false_and, or_true, true_or, or_false, false_or, mf_0, wr_0, mf_1, wr_1, mf_2, rd_2 hp, sh_2 hp, wr_2 hp, mf_3, rd_3 hp, sh_3 hp, wr_3 hp, mf_4, rd_4 hp, sh_4 hp, wr_4 hp, mf_5, rd_5 hp, sh_5 hp, wr_5 hp, mf_6, rd_6 hp, sh_6 hp, wr_6 hp, mf_7, rd_7 hp, sh_7 hp, wr_7 hp, mf_8, wr_8, mf_9, rd_9 hp, sh_9 hp, wr_9 hp, mf_10, rd_10 hp, sh_10 hp, wr_10 hp, mf_11, rd_11 hp, sh_11 hp, wr_11 hp, mf_12, rd_12 hp, sh_12 hp, wr_12 hp, mf_13, rd_13 hp, sh_13 hp, wr_13 hp, mf_14, wr_14, mf_15, wr_15, mf_16, mf_17, wr_17, mf_18, wr_18, mf_19, wr_19, mf_20, rd_20 hp, sh_20 hp, wr_20 hp, mf_21, wr_21, mf_22, rd_22 hp, sh_22 hp, wr_22 hp, mf_23, rd_23 hp, sh_23 hp, wr_23 hp, mf_24, rd_24 hp, sh_24 hp, wr_24 hp, mf_25, wr_25, mf_26, rd_26 hp, sh_26 hp, wr_26 hp, mf_27, rd_27 hp, sh_27 hp, wr_27 hp, mf_28, rd_28 hp, sh_28 hp, wr_28 hp, mf_29, rd_29 hp, sh_29 hp, wr_29 hp, mf_30, wr_30, mf_31, rd_31 hp, sh_31 hp, wr_31 hp, mf_32, wr_32, mf_33, rd_33 hp, sh_33 hp, wr_33 hp, mf_34, wr_34, mf_35, wr_35, mf_36, rd_36 hp, sh_36 hp, wr_36 hp, mf_37, rd_37 hp, sh_37 hp, wr_37 hp, mf_38, rd_38 hp, sh_38 hp, wr_38 hp, mf_39, rd_39 hp, sh_39 hp, wr_39 hp, mf_40, rd_40 hp, sh_40 hp, wr_40 hp, mf_41, wr_41, mM_p hp, sM_p hp, wM_p hp, sM_o, y25, g1, r7, rb, y28, q2, q1]
            rw [hto]
            by_cases hpr : pr r c < 100000000
            · have hal : alB (Z0 28) pr r c = true := by
                unfold alB
                rcases hfx with h | h <;> simp [h, hpr]
              obtain ⟨q', j1⟩ := m192_q (d := d + (kk + 1)) (o := o) (p := p) (pl := pl) (n := n) (k := k) (m0 := m0) (s0 := s0) (Z0 := Z0) (Z := Y) (r := r) (c := c) (tr := tr) (l2 := some (.int (nI s))) hp pz sy (by omega) (by omega) (fun x hx => ⟨(htr x hx).1, by rw [hy x hx]; exact (htr x hx).2⟩) r 0 (by omega)
              have e3 : d + 3 + (kk + 1) = d + (kk + 1) + 3 := by omega
              rw [e3] at skip ⊢
              have hb1 : b2 (agA (agB Z0 nr) r c tr 0 = true) = nI 1 := rfl
              rw [hb1] at j1
              conv in ex _ 192 59 _ _ _ => simp only [x192_59, x192_60, x192_63, x192_65, x192_66, x192_67, x192_68, x192_69, x192_70, x192_72, x192_75, x192_78, x192_79, x192_81, x192_82, bnd_some, Option.toList_some, Option.toList_none, List.cons_append, List.nil_append, List.singleton_append, clr_i, clr_r, clr_n, clr_0, clr_q, clr_l, isR_r, isR_n, isR_q, cat1_i, cat1_r, b0, b1, if_true, if_false, not_true, not_false_eq_true, reduceCtorEq, ite_self, and_true, true_and, and_false, false_and, or_true, true_or, or_false, false_or, mf_0, wr_0, mf_1, wr_1, mf_2, rd_2 hp, sh_2 hp, wr_2 hp, mf_3, rd_3 hp, sh_3 hp, wr_3 hp, mf_4, rd_4 hp, sh_4 hp, wr_4 hp, mf_5, rd_5 hp, sh_5 hp, wr_5 hp, mf_6, rd_6 hp, sh_6 hp, wr_6 hp, mf_7, rd_7 hp, sh_7 hp, wr_7 hp, mf_8, wr_8, mf_9, rd_9 hp, sh_9 hp, wr_9 hp, mf_10, rd_10 hp, sh_10 hp, wr_10 hp, mf_11, rd_11 hp, sh_11 hp, wr_11 hp, mf_12, rd_12 hp, sh_12 hp, wr_12 hp, mf_13, rd_13 hp, sh_13 hp, wr_13 hp, mf_14, wr_14, mf_15, wr_15, mf_16, mf_17, wr_17, mf_18, wr_18, mf_19, wr_19, mf_20, rd_20 hp, sh_20 hp, wr_20 hp, mf_21, wr_21, mf_22, rd_22 hp, sh_22 hp, wr_22 hp, mf_23, rd_23 hp, sh_23 hp, wr_23 hp, mf_24, rd_24 hp, sh_24 hp, wr_24 hp, mf_25, wr_25, mf_26, rd_26 hp, sh_26 hp, wr_26 hp, mf_27, rd_27 hp, sh_27 hp, wr_27 hp, mf_28, rd_28 hp, sh_28 hp, wr_28 hp, mf_29, rd_29 hp, sh_29 hp, wr_29 hp, mf_30, wr_30, mf_31, rd_31 hp, sh_31 hp, wr_31 hp, mf_32, wr_32, mf_33, rd_33 hp, sh_33 hp, wr_33 hp, mf_34, wr_34, mf_35, wr_35, mf_36, rd_36 hp, sh_36 hp, wr_36 hp, mf_37, rd_37 hp, sh_37 hp, wr_37 hp, mf_38, rd_38 hp, sh_38 hp, wr_38 hp, mf_39, rd_39 hp, sh_39 hp, wr_39 hp, mf_40, rd_40 hp, sh_40 hp, wr_40 hp, mf_41, wr_41, mM_p hp, sM_p hp, wM_p hp, sM_o, pk_mul, nI_add, g2, g3, y27, hplt, hpr]
              rw [j1]
              cases ha : agA (agB Z0 nr) r c tr r with
              | false =>
                obtain ⟨Z', i1, i2, i3, i4⟩ := skip (sup Y 29 r (nI c)) (some (.int (b2 (false = true)))) (some (.int (nI q'))) (fun f j a b => by rw [sup_f a]; exact sy f j a b) (fun x hx => by rw [sup_j (by omega)]; exact hy x hx) (by rw [sup_f (by decide)]; exact hb0) (by rw [ha, Bool.and_false])
                refine ⟨Z', ?_, i2, i3, i4⟩
                rw [← i1]
                conv => lhs; simp only [x192_118, x192_119, x192_122, x192_123, x192_124, x192_125, x192_127, bnd_some, Option.toList_some, Option.toList_none, List.cons_append, List.nil_append, List.singleton_append, clr_i, clr_r, clr_n, clr_0, clr_q, clr_l, isR_r, isR_n, isR_q, cat1_i, cat1_r, b0, b1, if_true, if_false, not_true, not_false_eq_true, reduceCtorEq, ite_self, and_true, true_and, and_false, false_and, or_true, true_or, or_false, false_or, mf_0, wr_0, mf_1, wr_1, mf_2, rd_2 hp, sh_2 hp, wr_2 hp, mf_3, rd_3 hp, sh_3 hp, wr_3 hp, mf_4, rd_4 hp, sh_4 hp, wr_4 hp, mf_5, rd_5 hp, sh_5 hp, wr_5 hp, mf_6, rd_6 hp, sh_6 hp, wr_6 hp, mf_7, rd_7 hp, sh_7 hp, wr_7 hp, mf_8, wr_8, mf_9, rd_9 hp, sh_9 hp, wr_9 hp, mf_10, rd_10 hp, sh_10 hp, wr_10 hp, mf_11, rd_11 hp, sh_11 hp, wr_11 hp, mf_12, rd_12 hp, sh_12 hp, wr_12 hp, mf_13, rd_13 hp, sh_13 hp, wr_13 hp, mf_14, wr_14, mf_15, wr_15, mf_16, mf_17, wr_17, mf_18, wr_18, mf_19, wr_19, mf_20, rd_20 hp, sh_20 hp, wr_20 hp, mf_21, wr_21, mf_22, rd_22 hp, sh_22 hp, wr_22 hp, mf_23, rd_23 hp, sh_23 hp, wr_23 hp, mf_24, rd_24 hp, sh_24 hp, wr_24 hp, mf_25, wr_25, mf_26, rd_26 hp, sh_26 hp, wr_26 hp, mf_27, rd_27 hp, sh_27 hp, wr_27 hp, mf_28, rd_28 hp, sh_28 hp, wr_28 hp, mf_29, rd_29 hp, sh_29 hp, wr_29 hp, mf_30, wr_30, mf_31, rd_31 hp, sh_31 hp, wr_31 hp, mf_32, wr_32, mf_33, rd_33 hp, sh_33 hp, wr_33 hp, mf_34, wr_34, mf_35, wr_35, mf_36, rd_36 hp, sh_36 hp, wr_36 hp, mf_37, rd_37 hp, sh_37 hp, wr_37 hp, mf_38, rd_38 hp, sh_38 hp, wr_38 hp, mf_39, rd_39 hp, sh_39 hp, wr_39 hp, mf_40, rd_40 hp, sh_40 hp, wr_40 hp, mf_41, wr_41, mM_p hp, sM_p hp, wM_p hp, sM_o, r7, rb, Bool.false_eq_true, b2F, z00]
                simp only [Bool.false_eq_true, b2F, z00]
              | true =>
                obtain ⟨Y1, i1, i2, i3, i4⟩ := ihk (r + 1) (sup Y 29 r (nI c)) (upN tr r c) (s + pr r c) bst (by omega) (fun f j a b => by rw [sup_f a]; exact sy f j a b) (by rw [sup_f (by decide)]; exact hb0) hb0le (by omega) (fun x hx => by
                  unfold upN
                  by_cases e : x = r
                  · subst e
                    rw [if_pos rfl, sup_eq]
                    exact ⟨by omega, rfl⟩
                  · rw [if_neg e, sup_j e]
                    refine ⟨(htr x (by omega)).1, ?_⟩
                    rw [hy x (by omega)]
                    exact (htr x (by omega)).2)
                have e4 : d + (kk + 1) + 3 = d + 3 + kk + 1 := by omega
                obtain ⟨Z', j1', j2, j3, j4⟩ := ihw (c + 1) Y1 _ (some (.int (b2 (true = true)))) (some (.int (nI q'))) (by omega) i2 (fun x hx => by rw [i4 x (by omega), sup_j (by omega)]; exact hy x hx) i3 (by
                  rw [mnC, hal, ha]
                  simp only [Bool.and_self, if_true]
                  omega)
                refine ⟨Z', ?_, j2, j3, j4⟩
                rw [e3] at j1'
                rw [← j1']
                have y27' : sup Y 29 r (nI c) 27 (8 * r + c) = nI (pr r c) := by rw [sup_f (by decide)]; exact y27
                rw [e4]
                conv => lhs; simp only [x192_118, x192_119, x192_122, x192_123, x192_124, x192_125, x192_127, bnd_some, Option.toList_some, Option.toList_none, List.cons_append, List.nil_append, List.singleton_append, clr_i, clr_r, clr_n, clr_0, clr_q, clr_l, isR_r, isR_n, isR_q, cat1_i, cat1_r, b0, b1, if_true, if_false, not_true, not_false_eq_true, reduceCtorEq, ite_self, and_true, true_and, and_false, false_and, or_true, true_or, or_false, false_or, mf_0, wr_0, mf_1, wr_1, mf_2, rd_2 hp, sh_2 hp, wr_2 hp, mf_3, rd_3 hp, sh_3 hp, wr_3 hp, mf_4, rd_4 hp, sh_4 hp, wr_4 hp, mf_5, rd_5 hp, sh_5 hp, wr_5 hp, mf_6, rd_6 hp, sh_6 hp, wr_6 hp, mf_7, rd_7 hp, sh_7 hp, wr_7 hp, mf_8, wr_8, mf_9, rd_9 hp, sh_9 hp, wr_9 hp, mf_10, rd_10 hp, sh_10 hp, wr_10 hp, mf_11, rd_11 hp, sh_11 hp, wr_11 hp, mf_12, rd_12 hp, sh_12 hp, wr_12 hp, mf_13, rd_13 hp, sh_13 hp, wr_13 hp, mf_14, wr_14, mf_15, wr_15, mf_16, mf_17, wr_17, mf_18, wr_18, mf_19, wr_19, mf_20, rd_20 hp, sh_20 hp, wr_20 hp, mf_21, wr_21, mf_22, rd_22 hp, sh_22 hp, wr_22 hp, mf_23, rd_23 hp, sh_23 hp, wr_23 hp, mf_24, rd_24 hp, sh_24 hp, wr_24 hp, mf_25, wr_25, mf_26, rd_26 hp, sh_26 hp, wr_26 hp, mf_27, rd_27 hp, sh_27 hp, wr_27 hp, mf_28, rd_28 hp, sh_28 hp, wr_28 hp, mf_29, rd_29 hp, sh_29 hp, wr_29 hp, mf_30, wr_30, mf_31, rd_31 hp, sh_31 hp, wr_31 hp, mf_32, wr_32, mf_33, rd_33 hp, sh_33 hp, wr_33 hp, mf_34, wr_34, mf_35, wr_35, mf_36, rd_36 hp, sh_36 hp, wr_36 hp, mf_37, rd_37 hp, sh_37 hp, wr_37 hp, mf_38, rd_38 hp, sh_38 hp, wr_38 hp, mf_39, rd_39 hp, sh_39 hp, wr_39 hp, mf_40, rd_40 hp, sh_40 hp, wr_40 hp, mf_41, wr_41, mM_p hp, sM_p hp, wM_p hp, sM_o, r7, rb, b2T, z10]
                conv => lhs; simp only [x192_130, x192_131, x192_132, x192_133, x192_134, x192_135, x192_136, x192_139, x192_141, x192_142, x192_143, x192_144, x192_145, x192_146, x192_147, bnd_some, Option.toList_some, Option.toList_none, List.cons_append, List.nil_append, List.singleton_append, clr_i, clr_r, clr_n, clr_0, clr_q, clr_l, isR_r, isR_n, isR_q, cat1_i, cat1_r, b0, b1, if_true, if_false, not_true, not_false_eq_true, reduceCtorEq, ite_self, and_true, true_and, and_false, false_and, or_true, true_or, or_false, false_or, mf_0, wr_0, mf_1, wr_1, mf_2, rd_2 hp, sh_2 hp, wr_2 hp, mf_3, rd_3 hp, sh_3 hp, wr_3 hp, mf_4, rd_4 hp, sh_4 hp, wr_4 hp, mf_5, rd_5 hp, sh_5 hp, wr_5 hp, mf_6, rd_6 hp, sh_6 hp, wr_6 hp, mf_7, rd_7 hp, sh_7 hp, wr_7 hp, mf_8, wr_8, mf_9, rd_9 hp, sh_9 hp, wr_9 hp, mf_10, rd_10 hp, sh_10 hp, wr_10 hp, mf_11, rd_11 hp, sh_11 hp, wr_11 hp, mf_12, rd_12 hp, sh_12 hp, wr_12 hp, mf_13, rd_13 hp, sh_13 hp, wr_13 hp, mf_14, wr_14, mf_15, wr_15, mf_16, mf_17, wr_17, mf_18, wr_18, mf_19, wr_19, mf_20, rd_20 hp, sh_20 hp, wr_20 hp, mf_21, wr_21, mf_22, rd_22 hp, sh_22 hp, wr_22 hp, mf_23, rd_23 hp, sh_23 hp, wr_23 hp, mf_24, rd_24 hp, sh_24 hp, wr_24 hp, mf_25, wr_25, mf_26, rd_26 hp, sh_26 hp, wr_26 hp, mf_27, rd_27 hp, sh_27 hp, wr_27 hp, mf_28, rd_28 hp, sh_28 hp, wr_28 hp, mf_29, rd_29 hp, sh_29 hp, wr_29 hp, mf_30, wr_30, mf_31, rd_31 hp, sh_31 hp, wr_31 hp, mf_32, wr_32, mf_33, rd_33 hp, sh_33 hp, wr_33 hp, mf_34, wr_34, mf_35, wr_35, mf_36, rd_36 hp, sh_36 hp, wr_36 hp, mf_37, rd_37 hp, sh_37 hp, wr_37 hp, mf_38, rd_38 hp, sh_38 hp, wr_38 hp, mf_39, rd_39 hp, sh_39 hp, wr_39 hp, mf_40, rd_40 hp, sh_40 hp, wr_40 hp, mf_41, wr_41, mM_p hp, sM_p hp, wM_p hp, sM_o, sup_eq, sup_f, not_false_eq_true, Nat.reduceEqDiff, pk_mul, nI_add, g2, g3, y27, y27', i1]
                conv => lhs; simp only [x192_150, x192_153, bnd_some, Option.toList_some, Option.toList_none, List.cons_append, List.nil_append, List.singleton_append, clr_i, clr_r, clr_n, clr_0, clr_q, clr_l, isR_r, isR_n, isR_q, cat1_i, cat1_r, b0, b1, if_true, if_false, not_true, not_false_eq_true, reduceCtorEq, ite_self, and_true, true_and, and_false, false_and, or_true, true_or, or_false, false_or, nI_add]
                simp only [b2T]
            · obtain ⟨Z', i1, i2, i3, i4⟩ := skip Y l4 l5 sy hy hb0 (by unfold alB; simp [hpr])
              refine ⟨Z', ?_, i2, i3, i4⟩
              rw [← i1]
              conv => lhs; simp only [x192_59, x192_60, x192_63, x192_65, x192_66, x192_67, x192_68, x192_69, x192_70, x192_72, x192_75, bnd_some, Option.toList_some, Option.toList_none, List.cons_append, List.nil_append, List.singleton_append, clr_i, clr_r, clr_n, clr_0, clr_q, clr_l, isR_r, isR_n, isR_q, cat1_i, cat1_r, b0, b1, if_true, if_false, not_true, not_false_eq_true, reduceCtorEq, ite_self, and_true, true_and, and_false, false_and, or_true, true_or, or_false, false_or, mf_0, wr_0, mf_1, wr_1, mf_2, rd_2 hp, sh_2 hp, wr_2 hp, mf_3, rd_3 hp, sh_3 hp, wr_3 hp, mf_4, rd_4 hp, sh_4 hp, wr_4 hp, mf_5, rd_5 hp, sh_5 hp, wr_5 hp, mf_6, rd_6 hp, sh_6 hp, wr_6 hp, mf_7, rd_7 hp, sh_7 hp, wr_7 hp, mf_8, wr_8, mf_9, rd_9 hp, sh_9 hp, wr_9 hp, mf_10, rd_10 hp, sh_10 hp, wr_10 hp, mf_11, rd_11 hp, sh_11 hp, wr_11 hp, mf_12, rd_12 hp, sh_12 hp, wr_12 hp, mf_13, rd_13 hp, sh_13 hp, wr_13 hp, mf_14, wr_14, mf_15, wr_15, mf_16, mf_17, wr_17, mf_18, wr_18, mf_19, wr_19, mf_20, rd_20 hp, sh_20 hp, wr_20 hp, mf_21, wr_21, mf_22, rd_22 hp, sh_22 hp, wr_22 hp, mf_23, rd_23 hp, sh_23 hp, wr_23 hp, mf_24, rd_24 hp, sh_24 hp, wr_24 hp, mf_25, wr_25, mf_26, rd_26 hp, sh_26 hp, wr_26 hp, mf_27, rd_27 hp, sh_27 hp, wr_27 hp, mf_28, rd_28 hp, sh_28 hp, wr_28 hp, mf_29, rd_29 hp, sh_29 hp, wr_29 hp, mf_30, wr_30, mf_31, rd_31 hp, sh_31 hp, wr_31 hp, mf_32, wr_32, mf_33, rd_33 hp, sh_33 hp, wr_33 hp, mf_34, wr_34, mf_35, wr_35, mf_36, rd_36 hp, sh_36 hp, wr_36 hp, mf_37, rd_37 hp, sh_37 hp, wr_37 hp, mf_38, rd_38 hp, sh_38 hp, wr_38 hp, mf_39, rd_39 hp, sh_39 hp, wr_39 hp, mf_40, rd_40 hp, sh_40 hp, wr_40 hp, mf_41, wr_41, mM_p hp, sM_p hp, wM_p hp, sM_o, pk_mul, nI_add, g2, g3, y27, hplt, hpr]
          · have q1 : ¬ Z0 28 r < 0 := fun z => hfx (Or.inl z)
            have q2 : ¬ Z0 28 r = nI c := fun z => hfx (Or.inr z)
            obtain ⟨Z', i1, i2, i3, i4⟩ := skip Y l4 l5 sy hy hb0 (by unfold alB; simp [q1, q2])
            refine ⟨Z', ?_, i2, i3, i4⟩
            rw [← i1]
            conv => lhs; simp only [x192_32, x192_33, x192_34, x192_37, x192_40, x192_41, x192_44, x192_45, x192_46, x192_49, x192_50, x192_53, x192_54, x192_55, x192_56, bnd_some, Option.toList_some, Option.toList_none, List.cons_append, List.nil_append, List.singleton_append, clr_i, clr_r, clr_n, clr_0, clr_q, clr_l, isR_r, isR_n, isR_q, cat1_i, cat1_r, b0, b1, if_true, if_false, not_true, not_false_eq_true, reduceCtorEq, ite_self, and_true, true_and, and_false, false_and, or_true, true_or, or_false, false_or, mf_0, wr_0, mf_1, wr_1, mf_2, rd_2 hp, sh_2 hp, wr_2 hp, mf_3, rd_3 hp, sh_3 hp, wr_3 hp, mf_4, rd_4 hp, sh_4 hp, wr_4 hp, mf_5, rd_5 hp, sh_5 hp, wr_5 hp, mf_6, rd_6 hp, sh_6 hp, wr_6 hp, mf_7, rd_7 hp, sh_7 hp, wr_7 hp, mf_8, wr_8, mf_9, rd_9 hp, sh_9 hp, wr_9 hp, mf_10, rd_10 hp, sh_10 hp, wr_10 hp, mf_11, rd_11 hp, sh_11 hp, wr_11 hp, mf_12, rd_12 hp, sh_12 hp, wr_12 hp, mf_13, rd_13 hp, sh_13 hp, wr_13 hp, mf_14, wr_14, mf_15, wr_15, mf_16, mf_17, wr_17, mf_18, wr_18, mf_19, wr_19, mf_20, rd_20 hp, sh_20 hp, wr_20 hp, mf_21, wr_21, mf_22, rd_22 hp, sh_22 hp, wr_22 hp, mf_23, rd_23 hp, sh_23 hp, wr_23 hp, mf_24, rd_24 hp, sh_24 hp, wr_24 hp, mf_25, wr_25, mf_26, rd_26 hp, sh_26 hp, wr_26 hp, mf_27, rd_27 hp, sh_27 hp, wr_27 hp, mf_28, rd_28 hp, sh_28 hp, wr_28 hp, mf_29, rd_29 hp, sh_29 hp, wr_29 hp, mf_30, wr_30, mf_31, rd_31 hp, sh_31 hp, wr_31 hp, mf_32, wr_32, mf_33, rd_33 hp, sh_33 hp, wr_33 hp, mf_34, wr_34, mf_35, wr_35, mf_36, rd_36 hp, sh_36 hp, wr_36 hp, mf_37, rd_37 hp, sh_37 hp, wr_37 hp, mf_38, rd_38 hp, sh_38 hp, wr_38 hp, mf_39, rd_39 hp, sh_39 hp, wr_39 hp, mf_40, rd_40 hp, sh_40 hp, wr_40 hp, mf_41, wr_41, mM_p hp, sM_p hp, wM_p hp, sM_o, y25, g1, r7, rb, y28, q2, q1]
      obtain ⟨Z', i1, i2, i3, i4⟩ := loop C 0 Z best none none (by omega) sz (fun _ _ => rfl) h30 (by rw [mnC]; omega)
      refine ⟨Z', ?_, i2, by rw [srM]; exact i3, i4⟩
      rw [← i1]
      conv => lhs; simp only [x192_0, x192_1, x192_2, x192_5, x192_6, x192_7, x192_8, x192_9, x192_12, x192_15, x192_16, x192_17, x192_18, x192_21, x192_24, x192_25, x192_26, x192_29, x192_30, x192_31, bnd_some, Option.toList_some, Option.toList_none, List.cons_append, List.nil_append, List.singleton_append, clr_i, clr_r, clr_n, clr_0, clr_q, clr_l, isR_r, isR_n, isR_q, cat1_i, cat1_r, b0, b1, if_true, if_false, not_true, not_false_eq_true, reduceCtorEq, ite_self, and_true, true_and, and_false, false_and, or_true, true_or, or_false, false_or, mf_0, wr_0, mf_1, wr_1, mf_2, rd_2 hp, sh_2 hp, wr_2 hp, mf_3, rd_3 hp, sh_3 hp, wr_3 hp, mf_4, rd_4 hp, sh_4 hp, wr_4 hp, mf_5, rd_5 hp, sh_5 hp, wr_5 hp, mf_6, rd_6 hp, sh_6 hp, wr_6 hp, mf_7, rd_7 hp, sh_7 hp, wr_7 hp, mf_8, wr_8, mf_9, rd_9 hp, sh_9 hp, wr_9 hp, mf_10, rd_10 hp, sh_10 hp, wr_10 hp, mf_11, rd_11 hp, sh_11 hp, wr_11 hp, mf_12, rd_12 hp, sh_12 hp, wr_12 hp, mf_13, rd_13 hp, sh_13 hp, wr_13 hp, mf_14, wr_14, mf_15, wr_15, mf_16, mf_17, wr_17, mf_18, wr_18, mf_19, wr_19, mf_20, rd_20 hp, sh_20 hp, wr_20 hp, mf_21, wr_21, mf_22, rd_22 hp, sh_22 hp, wr_22 hp, mf_23, rd_23 hp, sh_23 hp, wr_23 hp, mf_24, rd_24 hp, sh_24 hp, wr_24 hp, mf_25, wr_25, mf_26, rd_26 hp, sh_26 hp, wr_26 hp, mf_27, rd_27 hp, sh_27 hp, wr_27 hp, mf_28, rd_28 hp, sh_28 hp, wr_28 hp, mf_29, rd_29 hp, sh_29 hp, wr_29 hp, mf_30, wr_30, mf_31, rd_31 hp, sh_31 hp, wr_31 hp, mf_32, wr_32, mf_33, rd_33 hp, sh_33 hp, wr_33 hp, mf_34, wr_34, mf_35, wr_35, mf_36, rd_36 hp, sh_36 hp, wr_36 hp, mf_37, rd_37 hp, sh_37 hp, wr_37 hp, mf_38, rd_38 hp, sh_38 hp, wr_38 hp, mf_39, rd_39 hp, sh_39 hp, wr_39 hp, mf_40, rd_40 hp, sh_40 hp, wr_40 hp, mf_41, wr_41, mM_p hp, sM_p hp, wM_p hp, sM_o, r8, rb, z31, z21, h30, nI_add, hlt, h1, hrn]
    · refine ⟨Z, ?_, sz, ?_, fun _ _ => rfl⟩
      · simp only [x192_0, x192_1, x192_2, x192_5, x192_6, x192_7, x192_8, x192_9, x192_12, x192_15, bnd_some, Option.toList_some, Option.toList_none, List.cons_append, List.nil_append, List.singleton_append, clr_i, clr_r, clr_n, clr_0, clr_q, clr_l, isR_r, isR_n, isR_q, cat1_i, cat1_r, b0, b1, if_true, if_false, not_true, not_false_eq_true, reduceCtorEq, ite_self, and_true, true_and, and_false, false_and, or_true, true_or, or_false, false_or, mf_0, wr_0, mf_1, wr_1, mf_2, rd_2 hp, sh_2 hp, wr_2 hp, mf_3, rd_3 hp, sh_3 hp, wr_3 hp, mf_4, rd_4 hp, sh_4 hp, wr_4 hp, mf_5, rd_5 hp, sh_5 hp, wr_5 hp, mf_6, rd_6 hp, sh_6 hp, wr_6 hp, mf_7, rd_7 hp, sh_7 hp, wr_7 hp, mf_8, wr_8, mf_9, rd_9 hp, sh_9 hp, wr_9 hp, mf_10, rd_10 hp, sh_10 hp, wr_10 hp, mf_11, rd_11 hp, sh_11 hp, wr_11 hp, mf_12, rd_12 hp, sh_12 hp, wr_12 hp, mf_13, rd_13 hp, sh_13 hp, wr_13 hp, mf_14, wr_14, mf_15, wr_15, mf_16, mf_17, wr_17, mf_18, wr_18, mf_19, wr_19, mf_20, rd_20 hp, sh_20 hp, wr_20 hp, mf_21, wr_21, mf_22, rd_22 hp, sh_22 hp, wr_22 hp, mf_23, rd_23 hp, sh_23 hp, wr_23 hp, mf_24, rd_24 hp, sh_24 hp, wr_24 hp, mf_25, wr_25, mf_26, rd_26 hp, sh_26 hp, wr_26 hp, mf_27, rd_27 hp, sh_27 hp, wr_27 hp, mf_28, rd_28 hp, sh_28 hp, wr_28 hp, mf_29, rd_29 hp, sh_29 hp, wr_29 hp, mf_30, wr_30, mf_31, rd_31 hp, sh_31 hp, wr_31 hp, mf_32, wr_32, mf_33, rd_33 hp, sh_33 hp, wr_33 hp, mf_34, wr_34, mf_35, wr_35, mf_36, rd_36 hp, sh_36 hp, wr_36 hp, mf_37, rd_37 hp, sh_37 hp, wr_37 hp, mf_38, rd_38 hp, sh_38 hp, wr_38 hp, mf_39, rd_39 hp, sh_39 hp, wr_39 hp, mf_40, rd_40 hp, sh_40 hp, wr_40 hp, mf_41, wr_41, mM_p hp, sM_p hp, wM_p hp, sM_o, r8, rb, z31, h30, nI_add, hlt, h1]
      · rw [h30]
        have := hat (kk + 1) r tr s (by omega)
        exact congrArg nI (by omega)
end MU
