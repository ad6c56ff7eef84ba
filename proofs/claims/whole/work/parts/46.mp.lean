/-! ===== the reference: walking through holders; find, count ===== -/
def boxT (S : St) (t : Nat) : Prop := S 2 t = nI 4 ∨ S 2 t = nI 5
def hitB (S : St) (a kd : Int32) (t : Nat) : Bool := decide (¬ kd < 0) && (decide (¬ nI 4 < S 2 t) && (decide (S 2 t = kd ∨ (kd = 0 ∧ S 2 t ≤ nI 2) ∨ (kd = nI 1 ∧ S 2 t = nI 2)) && (decide (a < 0) || decide (fitV S a.toNatClampNeg t = nI 1))))
def wkS (g : Nat → Int32 → Int32 → Option Nat × Int32 × Int32) (S : St) (P : Nat → Bool) (r : Nat) : Nat → Nat → Int32 → Int32 → Option Nat × Int32 × Int32
  | 0, _, l, c => (none, l, c)
  | n + 1, s, l, c => match thI S r s with
    | none => wkS g S P r n (s + 1) l c
    | some t => if P t = true then (some t, l, c + nI 1) else if S 2 t = nI 4 ∨ S 2 t = nI 5 then (match g t (l + nI 1) (c + nI 1) with
        | (some x, l', c') => (some x, l', c')
        | (none, l', c') => wkS g S P r n (s + 1) l' c') else wkS g S P r n (s + 1) l (c + nI 1)
def wkF (S : St) (P : Nat → Bool) : Nat → Nat → Int32 → Int32 → Option Nat × Int32 × Int32
  | 0, _, l, c => (none, l, c)
  | f + 1, r, l, c => wkS (wkF S P f) S P r (sN S r) 0 l c
def dep (S : St) (T : Nat) : Nat → Nat → Prop
  | 0, _ => False
  | f + 1, r => r < 212 ∧ S 6 r = nI (sN S r) ∧ sN S r ≤ 40 ∧ ∀ s, s < sN S r → (S 7 (40 * r + s) = -1 ∨ ∃ t, t < T ∧ S 7 (40 * r + s) = nI t ∧ ((S 2 t = nI 4 ∨ S 2 t = nI 5) → dep S T f t))
def Ag (S Z : St) : Prop := (∀ f j, f ≠ 15 → f ≠ 39 → f ≠ 40 → f ≠ 41 → Z f j = S f j) ∧ (∀ j, j ≠ 0 → Z 15 j = S 15 j)
section MP0
variable {S Z : St}
theorem fitG_eq (h2 : ∀ j, Z 2 j = S 2 j) (h9 : ∀ j, Z 9 j = S 9 j) (h10 : ∀ j, Z 10 j = S 10 j) (h11 : ∀ j, Z 11 j = S 11 j) (h20 : ∀ j, Z 20 j = S 20 j) (a t : Nat) : ∀ k, fitG Z a t k = fitG S a t k := by
  intro k
  induction k with
  | zero => rfl
  | succ k ih => unfold fitG; rw [ih, h2, h9, h10, h11, h20]
theorem thI_eq (h7 : ∀ j, Z 7 j = S 7 j) (t k : Nat) : thI Z t k = thI S t k := by
  unfold thI
  rw [h7]
theorem fitV_eq (h2 : ∀ j, Z 2 j = S 2 j) (h7 : ∀ j, Z 7 j = S 7 j) (h9 : ∀ j, Z 9 j = S 9 j) (h10 : ∀ j, Z 10 j = S 10 j) (h11 : ∀ j, Z 11 j = S 11 j) (h20 : ∀ j, Z 20 j = S 20 j) (a t : Nat) : fitV Z a t = fitV S a t := by
  have e : ∀ k, fitB Z a t k = fitB S a t k := by
    intro k
    induction k with
    | zero => rfl
    | succ k ih =>
      unfold fitB
      rw [ih, thI_eq h7]
      cases thI S t k with
      | none => rfl
      | some x => simp only [fitG_eq h2 h9 h10 h11 h20]
  unfold fitV
  rw [e, fitG_eq h2 h9 h10 h11 h20, h2]
theorem costG_eq (h2 : ∀ j, Z 2 j = S 2 j) (h9 : ∀ j, Z 9 j = S 9 j) (h20 : ∀ j, Z 20 j = S 20 j) (a t : Nat) : ∀ k, costG Z a t k = costG S a t k := by
  intro k
  induction k with
  | zero => rfl
  | succ k ih => unfold costG; rw [ih, h2, h9, h20]
theorem costV_eq (h2 : ∀ j, Z 2 j = S 2 j) (h7 : ∀ j, Z 7 j = S 7 j) (h9 : ∀ j, Z 9 j = S 9 j) (h20 : ∀ j, Z 20 j = S 20 j) (a t : Nat) : costV Z a t = costV S a t := by
  have e : ∀ k, costB Z a t k = costB S a t k := by
    intro k
    induction k with
    | zero => rfl
    | succ k ih =>
      unfold costB
      rw [ih, thI_eq h7]
      cases thI S t k with
      | none => rfl
      | some x => simp only [costG_eq h2 h9 h20, h2]
  unfold costV
  rw [e, costG_eq h2 h9 h20, h2]
theorem minV_eq (h2 : ∀ j, Z 2 j = S 2 j) (h7 : ∀ j, Z 7 j = S 7 j) (t : Nat) : minV Z t = minV S t := by
  have e : ∀ k, minB Z t k = minB S t k := by
    intro k
    induction k with
    | zero => rfl
    | succ k ih =>
      unfold minB
      rw [ih, thI_eq h7]
      cases thI S t k with
      | none => rfl
      | some x => simp only [h2]
  unfold minV
  rw [e, h2]
theorem Wset_eq (h2 : ∀ j, Z 2 j = S 2 j) (h7 : ∀ j, Z 7 j = S 7 j) {T : Nat} (h : Wset S T) : Wset Z T := by
  intro t ht h4 k hk
  rw [h2] at h4
  rw [h7]
  rcases h t ht h4 k hk with q | ⟨x, q1, q2, c, q3, q4⟩
  · exact Or.inl q
  · exact Or.inr ⟨x, q1, q2, c, q3, by rw [h2]; exact q4⟩
theorem Ag_15 (h : Ag S Z) (x : Int32) : Ag S (sup Z 15 0 x) := ⟨fun f i a b c e => by rw [sup_f a]; exact h.1 f i a b c e, fun j hj => by rw [sup_j hj]; exact h.2 j hj⟩
theorem Ag_39 (h : Ag S Z) (j : Nat) (x : Int32) : Ag S (sup Z 39 j x) := ⟨fun f i a b c e => by rw [sup_f b]; exact h.1 f i a b c e, fun i hi => by rw [sup_f (by decide)]; exact h.2 i hi⟩
theorem Ag_40 (h : Ag S Z) (j : Nat) (x : Int32) : Ag S (sup Z 40 j x) := ⟨fun f i a b c e => by rw [sup_f c]; exact h.1 f i a b c e, fun i hi => by rw [sup_f (by decide)]; exact h.2 i hi⟩
theorem Ag_41 (h : Ag S Z) (j : Nat) (x : Int32) : Ag S (sup Z 41 j x) := ⟨fun f i a b c e => by rw [sup_f e]; exact h.1 f i a b c e, fun i hi => by rw [sup_f (by decide)]; exact h.2 i hi⟩
end MP0
section MP
variable {d o p pl n k : Nat} {S Z : St} {m0 : Mm} {s0 : Nat → Nat × Nat} {T R A : Nat}
theorem m203_hit {l1 : Option Value} {a kd : Int32} {t : Nat} {l4 l5 l6 : Option Value} (hp : Op o p) (ag : Ag S Z) (ws : Wset S T) (hT : T ≤ 200) (ht : t < T) (ha : a < 0 ∨ ∃ i, i < 40 ∧ a = nI i) : ex (d + 3) 203 113 [some (.ref o), l1, some (.int a), some (.int kd), l4, l5, l6, some (.int (nI t))] [] (mM o p Z m0, sM o p pl s0, n, k) = if hitB S a kd t = true then some (some (.int (nI t)), (mM o p Z m0, sM o p pl s0, n, k)) else ex (d + 3) 203 158 [some (.ref o), l1, some (.int a), some (.int kd), l4, l5, l6, some (.int (nI t))] [] (mM o p Z m0, sM o p pl s0, n, k) := by
  have g2 : ∀ j, Z 2 j = S 2 j := fun j => ag.1 2 j (by decide) (by decide) (by decide) (by decide)
  have g7 : ∀ j, Z 7 j = S 7 j := fun j => ag.1 7 j (by decide) (by decide) (by decide) (by decide)
  have g9 : ∀ j, Z 9 j = S 9 j := fun j => ag.1 9 j (by decide) (by decide) (by decide) (by decide)
  have g10 : ∀ j, Z 10 j = S 10 j := fun j => ag.1 10 j (by decide) (by decide) (by decide) (by decide)
  have g11 : ∀ j, Z 11 j = S 11 j := fun j => ag.1 11 j (by decide) (by decide) (by decide) (by decide)
  have g20 : ∀ j, Z 20 j = S 20 j := fun j => ag.1 20 j (by decide) (by decide) (by decide) (by decide)
  have ht2 : t < 200 := by omega
  have htb : t < 2147483648 := by omega
  have z00 : nI 0 = 0 := rfl
  have z10 : ¬ nI 1 = 0 := by decide
  by_cases h1 : kd < 0
  · simp only [hitB, h1, not_true, decide_false, Bool.false_and, Bool.false_eq_true, x203_113, x203_114, bnd_some, Option.toList_some, Option.toList_none, List.cons_append, List.nil_append, List.singleton_append, clr_i, clr_r, clr_n, clr_0, clr_q, clr_l, isR_r, isR_n, isR_q, cat1_i, cat1_r, b0, b1, if_true, if_false, not_true, not_false_eq_true, reduceCtorEq, ite_self, and_true, true_and, and_false, false_and, or_true, true_or, or_false, false_or]
  · by_cases h2 : nI 4 < S 2 t
    · simp only [hitB, h1, h2, not_true, decide_false, Bool.false_and, Bool.and_false, Bool.false_eq_true, x203_113, x203_114, x203_117, x203_118, x203_120, x203_123, bnd_some, Option.toList_some, Option.toList_none, List.cons_append, List.nil_append, List.singleton_append, clr_i, clr_r, clr_n, clr_0, clr_q, clr_l, isR_r, isR_n, isR_q, cat1_i, cat1_r, b0, b1, if_true, if_false, not_true, not_false_eq_true, reduceCtorEq, ite_self, and_true, true_and, and_false, false_and, or_true, true_or, or_false, false_or, mf_0, wr_0, mf_1, wr_1, mf_2, rd_2 hp, sh_2 hp, wr_2 hp, mf_3, rd_3 hp, sh_3 hp, wr_3 hp, mf_4, rd_4 hp, sh_4 hp, wr_4 hp, mf_5, rd_5 hp, sh_5 hp, wr_5 hp, mf_6, rd_6 hp, sh_6 hp, wr_6 hp, mf_7, rd_7 hp, sh_7 hp, wr_7 hp, mf_8, wr_8, mf_9, rd_9 hp, sh_9 hp, wr_9 hp, mf_10, rd_10 hp, sh_10 hp, wr_10 hp, mf_11, rd_11 hp, sh_11 hp, wr_11 hp, mf_12, rd_12 hp, sh_12 hp, wr_12 hp, mf_13, rd_13 hp, sh_13 hp, wr_13 hp, mf_14, wr_14, mf_15, wr_15, mf_16, mf_17, wr_17, mf_18, wr_18, mf_19, wr_19, mf_20, rd_20 hp, sh_20 hp, wr_20 hp, mf_21, wr_21, mf_22, rd_22 hp, sh_22 hp, wr_22 hp, mf_23, rd_23 hp, sh_23 hp, wr_23 hp, mf_24, rd_24 hp, sh_24 hp, wr_24 hp, mf_25, wr_25, mf_26, rd_26 hp, sh_26 hp, wr_26 hp, mf_27, rd_27 hp, sh_27 hp, wr_27 hp, mf_28, rd_28 hp, sh_28 hp, wr_28 hp, mf_29, rd_29 hp, sh_29 hp, wr_29 hp, mf_30, wr_30, mf_31, rd_31 hp, sh_31 hp, wr_31 hp, mf_32, wr_32, mf_33, rd_33 hp, sh_33 hp, wr_33 hp, mf_34, wr_34, mf_35, wr_35, mf_36, rd_36 hp, sh_36 hp, wr_36 hp, mf_37, rd_37 hp, sh_37 hp, wr_37 hp, mf_38, rd_38 hp, sh_38 hp, wr_38 hp, mf_39, rd_39 hp, sh_39 hp, wr_39 hp, mf_40, rd_40 hp, sh_40 hp, wr_40 hp, mf_41, wr_41, mM_p hp, sM_p hp, wM_p hp, sM_o, m139 hp ht2, g2, b2_0]
    · by_cases h3 : S 2 t = kd ∨ (kd = 0 ∧ S 2 t ≤ nI 2) ∨ (kd = nI 1 ∧ S 2 t = nI 2)
      · have M := m202 (d := d + 2) (is := S 2 t) (a := kd) (h := (mM o p Z m0, sM o p pl s0, n, k))
        rw [if_pos h3] at M
        by_cases h4 : a < 0
        · have e : hitB S a kd t = true := by simp only [hitB, h1, h2, h3, h4, not_false_eq_true, decide_true, Bool.true_and, Bool.true_or]
          rw [if_pos e]
          simp only [x203_113, x203_114, x203_117, x203_118, x203_120, x203_123, x203_126, x203_127, x203_130, x203_132, x203_133, x203_134, x203_137, x203_140, x203_141, x203_144, x203_145, x203_146, x203_148, x203_151, x203_152, x203_155, x203_157, bnd_some, Option.toList_some, Option.toList_none, List.cons_append, List.nil_append, List.singleton_append, clr_i, clr_r, clr_n, clr_0, clr_q, clr_l, isR_r, isR_n, isR_q, cat1_i, cat1_r, b0, b1, if_true, if_false, not_true, not_false_eq_true, reduceCtorEq, ite_self, and_true, true_and, and_false, false_and, or_true, true_or, or_false, false_or, mf_0, wr_0, mf_1, wr_1, mf_2, rd_2 hp, sh_2 hp, wr_2 hp, mf_3, rd_3 hp, sh_3 hp, wr_3 hp, mf_4, rd_4 hp, sh_4 hp, wr_4 hp, mf_5, rd_5 hp, sh_5 hp, wr_5 hp, mf_6, rd_6 hp, sh_6 hp, wr_6 hp, mf_7, rd_7 hp, sh_7 hp, wr_7 hp, mf_8, wr_8, mf_9, rd_9 hp, sh_9 hp, wr_9 hp, mf_10, rd_10 hp, sh_10 hp, wr_10 hp, mf_11, rd_11 hp, sh_11 hp, wr_11 hp, mf_12, rd_12 hp, sh_12 hp, wr_12 hp, mf_13, rd_13 hp, sh_13 hp, wr_13 hp, mf_14, wr_14, mf_15, wr_15, mf_16, mf_17, wr_17, mf_18, wr_18, mf_19, wr_19, mf_20, rd_20 hp, sh_20 hp, wr_20 hp, mf_21, wr_21, mf_22, rd_22 hp, sh_22 hp, wr_22 hp, mf_23, rd_23 hp, sh_23 hp, wr_23 hp, mf_24, rd_24 hp, sh_24 hp, wr_24 hp, mf_25, wr_25, mf_26, rd_26 hp, sh_26 hp, wr_26 hp, mf_27, rd_27 hp, sh_27 hp, wr_27 hp, mf_28, rd_28 hp, sh_28 hp, wr_28 hp, mf_29, rd_29 hp, sh_29 hp, wr_29 hp, mf_30, wr_30, mf_31, rd_31 hp, sh_31 hp, wr_31 hp, mf_32, wr_32, mf_33, rd_33 hp, sh_33 hp, wr_33 hp, mf_34, wr_34, mf_35, wr_35, mf_36, rd_36 hp, sh_36 hp, wr_36 hp, mf_37, rd_37 hp, sh_37 hp, wr_37 hp, mf_38, rd_38 hp, sh_38 hp, wr_38 hp, mf_39, rd_39 hp, sh_39 hp, wr_39 hp, mf_40, rd_40 hp, sh_40 hp, wr_40 hp, mf_41, wr_41, mM_p hp, sM_p hp, wM_p hp, sM_o, m139 hp ht2, g2, b2_0, h1, h2, ht2, htb, M, z10, h4]
        · rcases ha with ha | ⟨i, hi, rfl⟩
          · exact absurd ha h4
          · have Q := m179 (d := d) (o := o) (p := p) (pl := pl) (n := n) (k := k) (m0 := m0) (s0 := s0) (S := Z) (a := i) (t := t) (T := T) hp hi ht hT (Wset_eq g2 g7 ws)
            rw [fitV_eq g2 g7 g9 g10 g11 g20] at Q
            by_cases h5 : fitV S i t = nI 1
            · have e : hitB S (nI i) kd t = true := by simp only [hitB, h1, h2, h3, h4, nI_clamp (show i < 2 ^ 31 by omega), h5, not_false_eq_true, decide_true, Bool.true_and, Bool.or_true]
              rw [if_pos e]
              simp only [x203_113, x203_114, x203_117, x203_118, x203_120, x203_123, x203_126, x203_127, x203_130, x203_132, x203_133, x203_134, x203_137, x203_140, x203_141, x203_144, x203_145, x203_146, x203_148, x203_151, x203_152, x203_155, x203_157, bnd_some, Option.toList_some, Option.toList_none, List.cons_append, List.nil_append, List.singleton_append, clr_i, clr_r, clr_n, clr_0, clr_q, clr_l, isR_r, isR_n, isR_q, cat1_i, cat1_r, b0, b1, if_true, if_false, not_true, not_false_eq_true, reduceCtorEq, ite_self, and_true, true_and, and_false, false_and, or_true, true_or, or_false, false_or, mf_0, wr_0, mf_1, wr_1, mf_2, rd_2 hp, sh_2 hp, wr_2 hp, mf_3, rd_3 hp, sh_3 hp, wr_3 hp, mf_4, rd_4 hp, sh_4 hp, wr_4 hp, mf_5, rd_5 hp, sh_5 hp, wr_5 hp, mf_6, rd_6 hp, sh_6 hp, wr_6 hp, mf_7, rd_7 hp, sh_7 hp, wr_7 hp, mf_8, wr_8, mf_9, rd_9 hp, sh_9 hp, wr_9 hp, mf_10, rd_10 hp, sh_10 hp, wr_10 hp, mf_11, rd_11 hp, sh_11 hp, wr_11 hp, mf_12, rd_12 hp, sh_12 hp, wr_12 hp, mf_13, rd_13 hp, sh_13 hp, wr_13 hp, mf_14, wr_14, mf_15, wr_15, mf_16, mf_17, wr_17, mf_18, wr_18, mf_19, wr_19, mf_20, rd_20 hp, sh_20 hp, wr_20 hp, mf_21, wr_21, mf_22, rd_22 hp, sh_22 hp, wr_22 hp, mf_23, rd_23 hp, sh_23 hp, wr_23 hp, mf_24, rd_24 hp, sh_24 hp, wr_24 hp, mf_25, wr_25, mf_26, rd_26 hp, sh_26 hp, wr_26 hp, mf_27, rd_27 hp, sh_27 hp, wr_27 hp, mf_28, rd_28 hp, sh_28 hp, wr_28 hp, mf_29, rd_29 hp, sh_29 hp, wr_29 hp, mf_30, wr_30, mf_31, rd_31 hp, sh_31 hp, wr_31 hp, mf_32, wr_32, mf_33, rd_33 hp, sh_33 hp, wr_33 hp, mf_34, wr_34, mf_35, wr_35, mf_36, rd_36 hp, sh_36 hp, wr_36 hp, mf_37, rd_37 hp, sh_37 hp, wr_37 hp, mf_38, rd_38 hp, sh_38 hp, wr_38 hp, mf_39, rd_39 hp, sh_39 hp, wr_39 hp, mf_40, rd_40 hp, sh_40 hp, wr_40 hp, mf_41, wr_41, mM_p hp, sM_p hp, wM_p hp, sM_o, m139 hp ht2, g2, b2_0, h1, h2, ht2, htb, M, z10, h4, Q, h5]
            · have e : ¬ hitB S (nI i) kd t = true := by simp only [hitB, h4, nI_clamp (show i < 2 ^ 31 by omega), h5, decide_false, Bool.and_false, Bool.or_false, Bool.false_eq_true, not_false_eq_true]
              rw [if_neg e]
              simp only [x203_113, x203_114, x203_117, x203_118, x203_120, x203_123, x203_126, x203_127, x203_130, x203_132, x203_133, x203_134, x203_137, x203_140, x203_141, x203_144, x203_145, x203_146, x203_148, x203_151, x203_152, x203_155, x203_157, bnd_some, Option.toList_some, Option.toList_none, List.cons_append, List.nil_append, List.singleton_append, clr_i, clr_r, clr_n, clr_0, clr_q, clr_l, isR_r, isR_n, isR_q, cat1_i, cat1_r, b0, b1, if_true, if_false, not_true, not_false_eq_true, reduceCtorEq, ite_self, and_true, true_and, and_false, false_and, or_true, true_or, or_false, false_or, mf_0, wr_0, mf_1, wr_1, mf_2, rd_2 hp, sh_2 hp, wr_2 hp, mf_3, rd_3 hp, sh_3 hp, wr_3 hp, mf_4, rd_4 hp, sh_4 hp, wr_4 hp, mf_5, rd_5 hp, sh_5 hp, wr_5 hp, mf_6, rd_6 hp, sh_6 hp, wr_6 hp, mf_7, rd_7 hp, sh_7 hp, wr_7 hp, mf_8, wr_8, mf_9, rd_9 hp, sh_9 hp, wr_9 hp, mf_10, rd_10 hp, sh_10 hp, wr_10 hp, mf_11, rd_11 hp, sh_11 hp, wr_11 hp, mf_12, rd_12 hp, sh_12 hp, wr_12 hp, mf_13, rd_13 hp, sh_13 hp, wr_13 hp, mf_14, wr_14, mf_15, wr_15, mf_16, mf_17, wr_17, mf_18, wr_18, mf_19, wr_19, mf_20, rd_20 hp, sh_20 hp, wr_20 hp, mf_21, wr_21, mf_22, rd_22 hp, sh_22 hp, wr_22 hp, mf_23, rd_23 hp, sh_23 hp, wr_23 hp, mf_24, rd_24 hp, sh_24 hp, wr_24 hp, mf_25, wr_25, mf_26, rd_26 hp, sh_26 hp, wr_26 hp, mf_27, rd_27 hp, sh_27 hp, wr_27 hp, mf_28, rd_28 hp, sh_28 hp, wr_28 hp, mf_29, rd_29 hp, sh_29 hp, wr_29 hp, mf_30, wr_30, mf_31, rd_31 hp, sh_31 hp, wr_31 hp, mf_32, wr_32, mf_33, rd_33 hp, sh_33 hp, wr_33 hp, mf_34, wr_34, mf_35, wr_35, mf_36, rd_36 hp, sh_36 hp, wr_36 hp, mf_37, rd_37 hp, sh_37 hp, wr_37 hp, mf_38, rd_38 hp, sh_38 hp, wr_38 hp, mf_39, rd_39 hp, sh_39 hp, wr_39 hp, mf_40, rd_40 hp, sh_40 hp, wr_40 hp, mf_41, wr_41, mM_p hp, sM_p hp, wM_p hp, sM_o, m139 hp ht2, g2, b2_0, h1, h2, ht2, htb, M, z10, h4, Q, h5]
      · have M := m202 (d := d + 2) (is := S 2 t) (a := kd) (h := (mM o p Z m0, sM o p pl s0, n, k))
        rw [if_neg h3] at M
        have e : ¬ hitB S a kd t = true := by simp only [hitB, h3, decide_false, Bool.and_false, Bool.false_and, Bool.false_eq_true, not_false_eq_true]
        rw [if_neg e]
        simp only [x203_113, x203_114, x203_117, x203_118, x203_120, x203_123, x203_126, x203_127, x203_130, x203_132, x203_133, x203_134, x203_137, bnd_some, Option.toList_some, Option.toList_none, List.cons_append, List.nil_append, List.singleton_append, clr_i, clr_r, clr_n, clr_0, clr_q, clr_l, isR_r, isR_n, isR_q, cat1_i, cat1_r, b0, b1, if_true, if_false, not_true, not_false_eq_true, reduceCtorEq, ite_self, and_true, true_and, and_false, false_and, or_true, true_or, or_false, false_or, mf_0, wr_0, mf_1, wr_1, mf_2, rd_2 hp, sh_2 hp, wr_2 hp, mf_3, rd_3 hp, sh_3 hp, wr_3 hp, mf_4, rd_4 hp, sh_4 hp, wr_4 hp, mf_5, rd_5 hp, sh_5 hp, wr_5 hp, mf_6, rd_6 hp, sh_6 hp, wr_6 hp, mf_7, rd_7 hp, sh_7 hp, wr_7 hp, mf_8, wr_8, mf_9, rd_9 hp, sh_9 hp, wr_9 hp, mf_10, rd_10 hp, sh_10 hp, wr_10 hp, mf_11, rd_11 hp, sh_11 hp, wr_11 hp, mf_12, rd_12 hp, sh_12 hp, wr_12 hp, mf_13, rd_13 hp, sh_13 hp, wr_13 hp, mf_14, wr_14, mf_15, wr_15, mf_16, mf_17, wr_17, mf_18, wr_18, mf_19, wr_19, mf_20, rd_20 hp, sh_20 hp, wr_20 hp, mf_21, wr_21, mf_22, rd_22 hp, sh_22 hp, wr_22 hp, mf_23, rd_23 hp, sh_23 hp, wr_23 hp, mf_24, rd_24 hp, sh_24 hp, wr_24 hp, mf_25, wr_25, mf_26, rd_26 hp, sh_26 hp, wr_26 hp, mf_27, rd_27 hp, sh_27 hp, wr_27 hp, mf_28, rd_28 hp, sh_28 hp, wr_28 hp, mf_29, rd_29 hp, sh_29 hp, wr_29 hp, mf_30, wr_30, mf_31, rd_31 hp, sh_31 hp, wr_31 hp, mf_32, wr_32, mf_33, rd_33 hp, sh_33 hp, wr_33 hp, mf_34, wr_34, mf_35, wr_35, mf_36, rd_36 hp, sh_36 hp, wr_36 hp, mf_37, rd_37 hp, sh_37 hp, wr_37 hp, mf_38, rd_38 hp, sh_38 hp, wr_38 hp, mf_39, rd_39 hp, sh_39 hp, wr_39 hp, mf_40, rd_40 hp, sh_40 hp, wr_40 hp, mf_41, wr_41, mM_p hp, sM_p hp, wM_p hp, sM_o, m139 hp ht2, g2, b2_0, h1, h2, ht2, htb, M, z00]
end MP
