/-! ===== the reference: its steps; what notes them ===== -/
/-- what lies around the reference's own cells -/
def Fr : Type := Nat × Nat × Mm × (Nat → Nat × Nat) × Nat × Nat
def Fr.p (F : Fr) : Nat := F.1
def Fr.pl (F : Fr) : Nat := F.2.1
def Fr.m0 (F : Fr) : Mm := F.2.2.1
def Fr.s0 (F : Fr) : Nat → Nat × Nat := F.2.2.2.1
def Fr.n (F : Fr) : Nat := F.2.2.2.2.1
def Fr.k (F : Fr) : Nat := F.2.2.2.2.2
def mkFr (p pl : Nat) (m0 : Mm) (s0 : Nat → Nat × Nat) (n k : Nat) : Fr := (p, pl, m0, s0, n, k)
theorem fr1 {p pl n k : Nat} {m0 : Mm} {s0 : Nat → Nat × Nat} : (mkFr p pl m0 s0 n k).p = p := rfl
theorem fr2 {p pl n k : Nat} {m0 : Mm} {s0 : Nat → Nat × Nat} : (mkFr p pl m0 s0 n k).pl = pl := rfl
theorem fr3 {p pl n k : Nat} {m0 : Mm} {s0 : Nat → Nat × Nat} : (mkFr p pl m0 s0 n k).m0 = m0 := rfl
theorem fr4 {p pl n k : Nat} {m0 : Mm} {s0 : Nat → Nat × Nat} : (mkFr p pl m0 s0 n k).s0 = s0 := rfl
theorem fr5 {p pl n k : Nat} {m0 : Mm} {s0 : Nat → Nat × Nat} : (mkFr p pl m0 s0 n k).n = n := rfl
theorem fr6 {p pl n k : Nat} {m0 : Mm} {s0 : Nat → Nat × Nat} : (mkFr p pl m0 s0 n k).k = k := rfl
theorem ln20 : (20 ≤ 20 ∧ 20 ≤ 30) ↔ True := by decide
def hM (o : Nat) (F : Fr) (S : St) : Hp := (mM o F.p S F.m0, sM o F.p F.pl F.s0, F.n, F.k)
/-- m steps are noted, and the frame has room for them -/
def FrO (o : Nat) (F : Fr) (m : Nat) : Prop := Op o F.p ∧ F.p < F.n ∧ o + 27 < F.n ∧ 6 * m ≤ F.pl ∧ 60 ≤ F.pl ∧ F.pl ≤ 8000 ∧ m ≤ 600
def FrE (m : Nat) (F G : Fr) : Prop := G = F ∨ (G.p = F.n ∧ G.pl = 2 * F.pl ∧ (∀ a, a ≠ F.p → a ≠ F.n → G.m0 a = F.m0 a ∧ G.s0 a = F.s0 a) ∧ G.n = F.n + 1 ∧ G.k = F.k + 2 * F.pl ∧ F.pl < 6 * m + 6)
/-- numbers that say the same: the steps that are noted, all else but what is scratch -/
def scr (f : Nat) : Bool := ([25, 26, 27, 28, 29, 30, 31, 39, 40, 41] : List Nat).contains f
def Sq (m : Nat) (S Z : St) : Prop := (∀ f j, f ≠ 16 → scr f = false → Z f j = S f j) ∧ (∀ j, j < 6 * m → Z 16 j = S 16 j)
theorem Sq_rfl {m : Nat} {S : St} : Sq m S S := ⟨fun _ _ _ _ => rfl, fun _ _ => rfl⟩
theorem Sq_sup {m : Nat} {S Z : St} (h : Sq m S Z) (f j : Nat) (x : Int32) : Sq m (sup S f j x) (sup Z f j x) := by
  constructor
  · intro g i h1 h2
    unfold sup
    split
    · rfl
    · exact h.1 g i h1 h2
  · intro i hi
    unfold sup
    split
    · rfl
    · exact h.2 i hi
theorem Sq_trans {m : Nat} {S Z Y : St} (h : Sq m S Z) (q : Sq m Z Y) : Sq m S Y := ⟨fun f j h1 h2 => (q.1 f j h1 h2).trans (h.1 f j h1 h2), fun j hj => (q.2 j hj).trans (h.2 j hj)⟩
/-- a step is noted -/
def stS (S : St) (m : Nat) (w a b c d e : Int32) : St := sup (sup (sup (sup (sup (sup (sup S 16 (6 * m) w) 16 (6 * m + 1) a) 16 (6 * m + 2) b) 16 (6 * m + 3) c) 16 (6 * m + 4) d) 16 (6 * m + 5) e) 17 0 (nI (m + 1))
def gS (S : St) (m : Nat) : St := fun f j => if f = 16 ∧ 6 * m ≤ j then 0 else S f j
theorem Sq_gS {m : Nat} {S : St} : Sq m S (gS S m) := by
  constructor
  · intro f j h1 h2
    unfold gS
    rw [if_neg (fun q => h1 q.1)]
  · intro j hj
    unfold gS
    rw [if_neg (by omega)]
theorem Sq_st {m : Nat} {S Z : St} {w a b c d e : Int32} (h : Sq m S Z) : Sq (m + 1) (stS S m w a b c d e) (stS Z m w a b c d e) := by
  have h' : Sq m (stS S m w a b c d e) (stS Z m w a b c d e) := by
    unfold stS
    exact Sq_sup (Sq_sup (Sq_sup (Sq_sup (Sq_sup (Sq_sup (Sq_sup h _ _ _) _ _ _) _ _ _) _ _ _) _ _ _) _ _ _) _ _ _
  refine ⟨h'.1, fun j hj => ?_⟩
  by_cases q : j < 6 * m
  · exact h'.2 j q
  · have : j = 6 * m ∨ j = 6 * m + 1 ∨ j = 6 * m + 2 ∨ j = 6 * m + 3 ∨ j = 6 * m + 4 ∨ j = 6 * m + 5 := by omega
    rcases this with rfl | rfl | rfl | rfl | rfl | rfl <;> simp [stS, sup]
section MG
variable {d o p pl n k m : Nat} {S : St} {m0 : Mm} {s0 : Nat → Nat × Nat} {F : Fr}
theorem mM_nw (hn : o + 27 < n) (hpn : p < n) (f : Nat → Value) : mnw (mM o p S m0) n f = mM o p S (mnw m0 n f) := by
  funext a i
  unfold mnw mM
  by_cases h : a = n
  · subst h
    simp only [if_true]
    rw [if_neg (by omega), if_neg (by omega), if_neg (by omega)]
  · simp only [h, if_false]
theorem sM_nw (hn : o + 27 < n) (hpn : p < n) (f : Nat × Nat) : mnw (sM o p pl s0) n f = sM o p pl (mnw s0 n f) := by
  funext a
  unfold mnw sM
  by_cases h : a = n
  · subst h
    simp only [if_true]
    rw [if_neg (by omega), if_neg (by omega), if_neg (by omega)]
  · simp only [h, if_false]
theorem mM_up (hn : o + 27 < n) (hpn : p < n) (j : Nat) (v : Value) : mup (mM o p S m0) n j v = mM o p S (mup m0 n j v) := by
  funext a i
  unfold mup mM
  by_cases h : a = n
  · subst h
    simp only [true_and]
    rw [if_neg (show ¬ a = o by omega), if_neg (show ¬ a = p by omega), if_neg (show ¬ (o < a ∧ a ≤ o + 27 ∧ a ≠ o + 12) by omega), if_neg (show ¬ a = o by omega), if_neg (show ¬ a = p by omega), if_neg (show ¬ (o < a ∧ a ≤ o + 27 ∧ a ≠ o + 12) by omega)]
  · simp only [h, false_and, if_false]
def cpV (S : St) (i : Nat) : Nat → Value := fun j => .int (if j < i then S 16 j else 0)
theorem cpV_s (i : Nat) : mup (mnw m0 n (cpV S i)) n i (.int (S 16 i)) = mnw m0 n (cpV S (i + 1)) := by
  funext a j
  unfold mup mnw
  by_cases h : a = n
  · subst h
    simp only [true_and, if_true]
    unfold cpV
    by_cases q : j = i
    · subst q
      rw [if_pos rfl, if_pos (by omega)]
    · rw [if_neg q]
      congr 1
      by_cases z : j < i
      · rw [if_pos z, if_pos (by omega)]
      · rw [if_neg z, if_neg (by omega)]
  · simp only [h, false_and, if_false]
theorem mnw_at {α : Type} {m : Nat → α} {a : Nat} {f : α} : mnw m a f a = f := if_pos rfl
theorem mnw_ne {α : Type} {m : Nat → α} {a x : Nat} {f : α} (h : ¬ x = a) : mnw m a f x = m x := if_neg h
theorem mM_out (hn : o + 27 < n) (hpn : p < n) {j : Nat} : mM o p S m0 n j = m0 n j := by
  unfold mM
  rw [if_neg (by omega), if_neg (by omega), if_neg (by omega)]
theorem sM_out (hn : o + 27 < n) (hpn : p < n) : sM o p pl s0 n = s0 n := by
  unfold sM
  rw [if_neg (by omega), if_neg (by omega), if_neg (by omega)]
theorem grow_m (hp : Op o p) (hn : o + 27 < n) (hpn : p < n) : mup (mM o p S (mnw m0 n (cpV S (6 * m)))) o 16 (.ref n) = mM o n (gS S m) (mnw m0 p (fun j => .int (S 16 j))) := by
  funext a j
  unfold mup mM
  by_cases h : a = o
  · subst h
    simp only [true_and, if_true]
    by_cases q : j = 16
    · subst q
      rfl
    · rw [if_neg q]
      unfold mF gS
      simp only [q, false_and, if_false]
  · simp only [h, false_and, if_false]
    by_cases h1 : a = n
    · subst h1
      rw [if_neg (show ¬ a = p by omega), if_neg (by omega), if_pos rfl, mnw_at]
      unfold cpV gS
      congr 1
      by_cases q : j < 6 * m
      · rw [if_pos q, if_neg (by omega)]
      · rw [if_neg q, if_pos ⟨rfl, by omega⟩]
    · rw [if_neg h1]
      by_cases h2 : a = p
      · subst h2
        rw [if_pos rfl, if_neg (by omega), mnw_at]
      · rw [if_neg h2]
        by_cases h3 : o < a ∧ a ≤ o + 27 ∧ a ≠ o + 12
        · rw [if_pos h3, if_pos h3]
          have := (fA_ar (a - o) (by omega) (by omega)).2
          unfold gS
          rw [if_neg (fun q => absurd (this.mp q.1) (by omega))]
        · rw [if_neg h3, if_neg h3, mnw_ne h1, mnw_ne h2]
theorem grow_s (hp : Op o p) (hn : o + 27 < n) (hpn : p < n) {e : Nat} : sM o p pl (mnw s0 n (20, e)) = sM o n e (mnw s0 p (20, pl)) := by
  funext a
  unfold sM
  by_cases h : a = o
  · simp only [h, if_true]
  · simp only [h, if_false]
    by_cases h1 : a = n
    · subst h1
      rw [if_neg (show ¬ a = p by omega), if_neg (by omega), if_pos rfl, mnw_at]
    · rw [if_neg h1]
      by_cases h2 : a = p
      · subst h2
        rw [if_pos rfl, if_neg (by omega), mnw_at]
      · rw [if_neg h2]
        by_cases h3 : o < a ∧ a ≤ o + 27 ∧ a ≠ o + 12
        · rw [if_pos h3, if_pos h3]
        · rw [if_neg h3, if_neg h3, mnw_ne h1, mnw_ne h2]
theorem m164_loop {e : Nat} {l1 l2 l3 l4 l5 l6 : Option Value} (hp : Op o p) (hn : o + 27 < n) (hpn : p < n) (hm : S 17 0 = nI m) (hm2 : m ≤ 600) (hpl : 6 * m ≤ pl) (he : pl ≤ e) {n' : Nat} : ∀ r i, i + r = 6 * m → ex d 164 32 [some (.ref o), l1, l2, l3, l4, l5, l6, some (.ref n), some (.int (nI i))] [] (mM o p S (mnw m0 n (cpV S i)), sM o p pl (mnw s0 n (20, e)), n', k) = ex d 164 62 [some (.ref o), l1, l2, l3, l4, l5, l6, some (.ref n), some (.int (nI (6 * m)))] [] (mM o p S (mnw m0 n (cpV S (6 * m))), sM o p pl (mnw s0 n (20, e)), n', k) := by
  intro r
  induction r with
  | zero =>
    intro i hi
    have e : i = 6 * m := by omega
    subst e
    have h2 : nI (6 * m) ≤ nI (6 * m) := nI_le (Nat.le_refl _) (by omega)
    simp only [x164_32, x164_34, x164_36, x164_37, x164_40, x164_41, bnd_some, Option.toList_some, Option.toList_none, List.cons_append, List.nil_append, List.singleton_append, clr_i, clr_r, clr_n, clr_0, clr_q, clr_l, isR_r, isR_n, isR_q, cat1_i, cat1_r, b0, b1, if_true, if_false, not_true, not_false_eq_true, reduceCtorEq, ite_self, and_true, true_and, and_false, false_and, or_true, true_or, or_false, false_or, mf_0, wr_0, mf_1, wr_1, mf_2, rd_2 hp, sh_2 hp, wr_2 hp, mf_3, rd_3 hp, sh_3 hp, wr_3 hp, mf_4, rd_4 hp, sh_4 hp, wr_4 hp, mf_5, rd_5 hp, sh_5 hp, wr_5 hp, mf_6, rd_6 hp, sh_6 hp, wr_6 hp, mf_7, rd_7 hp, sh_7 hp, wr_7 hp, mf_8, wr_8, mf_9, rd_9 hp, sh_9 hp, wr_9 hp, mf_10, rd_10 hp, sh_10 hp, wr_10 hp, mf_11, rd_11 hp, sh_11 hp, wr_11 hp, mf_12, rd_12 hp, sh_12 hp, wr_12 hp, mf_13, rd_13 hp, sh_13 hp, wr_13 hp, mf_14, wr_14, mf_15, wr_15, mf_16, mf_17, wr_17, mf_18, wr_18, mf_19, wr_19, mf_20, rd_20 hp, sh_20 hp, wr_20 hp, mf_21, wr_21, mf_22, rd_22 hp, sh_22 hp, wr_22 hp, mf_23, rd_23 hp, sh_23 hp, wr_23 hp, mf_24, rd_24 hp, sh_24 hp, wr_24 hp, mf_25, wr_25, mf_26, rd_26 hp, sh_26 hp, wr_26 hp, mf_27, rd_27 hp, sh_27 hp, wr_27 hp, mf_28, rd_28 hp, sh_28 hp, wr_28 hp, mf_29, rd_29 hp, sh_29 hp, wr_29 hp, mf_30, wr_30, mf_31, rd_31 hp, sh_31 hp, wr_31 hp, mf_32, wr_32, mf_33, rd_33 hp, sh_33 hp, wr_33 hp, mf_34, wr_34, mf_35, wr_35, mf_36, rd_36 hp, sh_36 hp, wr_36 hp, mf_37, rd_37 hp, sh_37 hp, wr_37 hp, mf_38, rd_38 hp, sh_38 hp, wr_38 hp, mf_39, rd_39 hp, sh_39 hp, wr_39 hp, mf_40, rd_40 hp, sh_40 hp, wr_40 hp, mf_41, wr_41, mM_p hp, sM_p hp, wM_p hp, sM_o, hm, pk_mul, h2]
  | succ r ih =>
    intro i hi
    have h1 : i < pl := by omega
    have h1e : i < e := by omega
    have hb : i < 2147483648 := by omega
    have h2 : ¬ nI (6 * m) ≤ nI i := nI_ge (by omega) (by omega)
    simp only [x164_32, x164_34, x164_36, x164_37, x164_40, x164_41, bnd_some, Option.toList_some, Option.toList_none, List.cons_append, List.nil_append, List.singleton_append, clr_i, clr_r, clr_n, clr_0, clr_q, clr_l, isR_r, isR_n, isR_q, cat1_i, cat1_r, b0, b1, if_true, if_false, not_true, not_false_eq_true, reduceCtorEq, ite_self, and_true, true_and, and_false, false_and, or_true, true_or, or_false, false_or, mf_0, wr_0, mf_1, wr_1, mf_2, rd_2 hp, sh_2 hp, wr_2 hp, mf_3, rd_3 hp, sh_3 hp, wr_3 hp, mf_4, rd_4 hp, sh_4 hp, wr_4 hp, mf_5, rd_5 hp, sh_5 hp, wr_5 hp, mf_6, rd_6 hp, sh_6 hp, wr_6 hp, mf_7, rd_7 hp, sh_7 hp, wr_7 hp, mf_8, wr_8, mf_9, rd_9 hp, sh_9 hp, wr_9 hp, mf_10, rd_10 hp, sh_10 hp, wr_10 hp, mf_11, rd_11 hp, sh_11 hp, wr_11 hp, mf_12, rd_12 hp, sh_12 hp, wr_12 hp, mf_13, rd_13 hp, sh_13 hp, wr_13 hp, mf_14, wr_14, mf_15, wr_15, mf_16, mf_17, wr_17, mf_18, wr_18, mf_19, wr_19, mf_20, rd_20 hp, sh_20 hp, wr_20 hp, mf_21, wr_21, mf_22, rd_22 hp, sh_22 hp, wr_22 hp, mf_23, rd_23 hp, sh_23 hp, wr_23 hp, mf_24, rd_24 hp, sh_24 hp, wr_24 hp, mf_25, wr_25, mf_26, rd_26 hp, sh_26 hp, wr_26 hp, mf_27, rd_27 hp, sh_27 hp, wr_27 hp, mf_28, rd_28 hp, sh_28 hp, wr_28 hp, mf_29, rd_29 hp, sh_29 hp, wr_29 hp, mf_30, wr_30, mf_31, rd_31 hp, sh_31 hp, wr_31 hp, mf_32, wr_32, mf_33, rd_33 hp, sh_33 hp, wr_33 hp, mf_34, wr_34, mf_35, wr_35, mf_36, rd_36 hp, sh_36 hp, wr_36 hp, mf_37, rd_37 hp, sh_37 hp, wr_37 hp, mf_38, rd_38 hp, sh_38 hp, wr_38 hp, mf_39, rd_39 hp, sh_39 hp, wr_39 hp, mf_40, rd_40 hp, sh_40 hp, wr_40 hp, mf_41, wr_41, mM_p hp, sM_p hp, wM_p hp, sM_o, hm, pk_mul, h2]
    simp only [x164_44, x164_44n, x164_44q, x164_46, x164_48, x164_49, x164_52, x164_54, x164_55, x164_56, x164_59, bnd_some, Option.toList_some, Option.toList_none, List.cons_append, List.nil_append, List.singleton_append, clr_i, clr_r, clr_n, clr_0, clr_q, clr_l, isR_r, isR_n, isR_q, cat1_i, cat1_r, b0, b1, if_true, if_false, not_true, not_false_eq_true, reduceCtorEq, ite_self, and_true, true_and, and_false, false_and, or_true, true_or, or_false, false_or, mf_0, wr_0, mf_1, wr_1, mf_2, rd_2 hp, sh_2 hp, wr_2 hp, mf_3, rd_3 hp, sh_3 hp, wr_3 hp, mf_4, rd_4 hp, sh_4 hp, wr_4 hp, mf_5, rd_5 hp, sh_5 hp, wr_5 hp, mf_6, rd_6 hp, sh_6 hp, wr_6 hp, mf_7, rd_7 hp, sh_7 hp, wr_7 hp, mf_8, wr_8, mf_9, rd_9 hp, sh_9 hp, wr_9 hp, mf_10, rd_10 hp, sh_10 hp, wr_10 hp, mf_11, rd_11 hp, sh_11 hp, wr_11 hp, mf_12, rd_12 hp, sh_12 hp, wr_12 hp, mf_13, rd_13 hp, sh_13 hp, wr_13 hp, mf_14, wr_14, mf_15, wr_15, mf_16, mf_17, wr_17, mf_18, wr_18, mf_19, wr_19, mf_20, rd_20 hp, sh_20 hp, wr_20 hp, mf_21, wr_21, mf_22, rd_22 hp, sh_22 hp, wr_22 hp, mf_23, rd_23 hp, sh_23 hp, wr_23 hp, mf_24, rd_24 hp, sh_24 hp, wr_24 hp, mf_25, wr_25, mf_26, rd_26 hp, sh_26 hp, wr_26 hp, mf_27, rd_27 hp, sh_27 hp, wr_27 hp, mf_28, rd_28 hp, sh_28 hp, wr_28 hp, mf_29, rd_29 hp, sh_29 hp, wr_29 hp, mf_30, wr_30, mf_31, rd_31 hp, sh_31 hp, wr_31 hp, mf_32, wr_32, mf_33, rd_33 hp, sh_33 hp, wr_33 hp, mf_34, wr_34, mf_35, wr_35, mf_36, rd_36 hp, sh_36 hp, wr_36 hp, mf_37, rd_37 hp, sh_37 hp, wr_37 hp, mf_38, rd_38 hp, sh_38 hp, wr_38 hp, mf_39, rd_39 hp, sh_39 hp, wr_39 hp, mf_40, rd_40 hp, sh_40 hp, wr_40 hp, mf_41, wr_41, mM_p hp, sM_p hp, wM_p hp, sM_o, sM_out hn hpn, mnw_at, h1, h1e, hb, mM_up hn hpn, cpV_s, nI_add]
    exact ih (i + 1) (by omega)
/-- what Fr's parts are -/
theorem m164_end {w a b c e g : Int32} {l7 l8 : Option Value} (hp : Op o p) (hm : S 17 0 = nI m) (hm2 : m ≤ 600) (hpl : 6 * m + 6 ≤ pl) : ex d 164 68 [some (.ref o), some (.int w), some (.int a), some (.int b), some (.int c), some (.int e), some (.int g), l7, l8] [] (mM o p S m0, sM o p pl s0, n, k) = some (none, (mM o p (stS S m w a b c e g) m0, sM o p pl s0, n, k)) := by
  have h0 : 6 * m < pl := by omega
  have h1 : 6 * m + 1 < pl := by omega
  have h2 : 6 * m + 2 < pl := by omega
  have h3 : 6 * m + 3 < pl := by omega
  have h4 : 6 * m + 4 < pl := by omega
  have h5 : 6 * m + 5 < pl := by omega
  have b0 : 6 * m < 2147483648 := by omega
  have b1 : 6 * m + 1 < 2147483648 := by omega
  have b2 : 6 * m + 2 < 2147483648 := by omega
  have b3 : 6 * m + 3 < 2147483648 := by omega
  have b4 : 6 * m + 4 < 2147483648 := by omega
  have b5 : 6 * m + 5 < 2147483648 := by omega
  simp only [x164_68, x164_70, x164_71, x164_74, x164_75, x164_77, x164_78, x164_81, x164_83, x164_84, x164_85, x164_86, x164_89, x164_91, x164_92, x164_93, x164_94, x164_95, x164_96, x164_99, x164_101, x164_102, x164_103, x164_104, x164_105, x164_106, x164_109, x164_111, x164_112, x164_113, x164_115, x164_116, x164_117, x164_120, x164_122, x164_123, x164_124, x164_126, x164_127, x164_128, x164_131, x164_133, x164_134, x164_135, x164_137, x164_138, x164_139, x164_139i, x164_140, x164_143, x164_144, x164_145, x164_148, bnd_some, Option.toList_some, Option.toList_none, List.cons_append, List.nil_append, List.singleton_append, clr_i, clr_r, clr_n, clr_0, clr_q, clr_l, isR_r, isR_n, isR_q, cat1_i, cat1_r, b0, b1, if_true, if_false, not_true, not_false_eq_true, reduceCtorEq, ite_self, and_true, true_and, and_false, false_and, or_true, true_or, or_false, false_or, mf_0, wr_0, mf_1, wr_1, mf_2, rd_2 hp, sh_2 hp, wr_2 hp, mf_3, rd_3 hp, sh_3 hp, wr_3 hp, mf_4, rd_4 hp, sh_4 hp, wr_4 hp, mf_5, rd_5 hp, sh_5 hp, wr_5 hp, mf_6, rd_6 hp, sh_6 hp, wr_6 hp, mf_7, rd_7 hp, sh_7 hp, wr_7 hp, mf_8, wr_8, mf_9, rd_9 hp, sh_9 hp, wr_9 hp, mf_10, rd_10 hp, sh_10 hp, wr_10 hp, mf_11, rd_11 hp, sh_11 hp, wr_11 hp, mf_12, rd_12 hp, sh_12 hp, wr_12 hp, mf_13, rd_13 hp, sh_13 hp, wr_13 hp, mf_14, wr_14, mf_15, wr_15, mf_16, mf_17, wr_17, mf_18, wr_18, mf_19, wr_19, mf_20, rd_20 hp, sh_20 hp, wr_20 hp, mf_21, wr_21, mf_22, rd_22 hp, sh_22 hp, wr_22 hp, mf_23, rd_23 hp, sh_23 hp, wr_23 hp, mf_24, rd_24 hp, sh_24 hp, wr_24 hp, mf_25, wr_25, mf_26, rd_26 hp, sh_26 hp, wr_26 hp, mf_27, rd_27 hp, sh_27 hp, wr_27 hp, mf_28, rd_28 hp, sh_28 hp, wr_28 hp, mf_29, rd_29 hp, sh_29 hp, wr_29 hp, mf_30, wr_30, mf_31, rd_31 hp, sh_31 hp, wr_31 hp, mf_32, wr_32, mf_33, rd_33 hp, sh_33 hp, wr_33 hp, mf_34, wr_34, mf_35, wr_35, mf_36, rd_36 hp, sh_36 hp, wr_36 hp, mf_37, rd_37 hp, sh_37 hp, wr_37 hp, mf_38, rd_38 hp, sh_38 hp, wr_38 hp, mf_39, rd_39 hp, sh_39 hp, wr_39 hp, mf_40, rd_40 hp, sh_40 hp, wr_40 hp, mf_41, wr_41, mM_p hp, sM_p hp, wM_p hp, sM_o, sup_eq, sup_f, not_false_eq_true, Nat.reduceEqDiff, hm, pk_mul, nI_add, h0, h1, h2, h3, h4, h5, b0, b1, b2, b3, b4, b5, stS]
theorem m164 {w a b c e g : Int32} (hF : FrO o F m) (hm : S 17 0 = nI m) : ∃ G Z, ex d 164 0 [some (.ref o), some (.int w), some (.int a), some (.int b), some (.int c), some (.int e), some (.int g), none, none] [] (hM o F S) = some (none, hM o G Z) ∧ FrE m F G ∧ (m < 600 → FrO o G (m + 1)) ∧ Sq (m + 1) (stS S m w a b c e g) Z := by
  obtain ⟨hp, hpn, hn, hpl, hpl2, hpl8, hm2⟩ := hF
  by_cases h : 6 * m + 6 ≤ F.pl
  · refine ⟨F, stS S m w a b c e g, ?_, Or.inl rfl, fun _ => ⟨hp, hpn, hn, by omega, hpl2, hpl8, by omega⟩, Sq_rfl⟩
    have h1 : nI (6 * m + 6) ≤ nI F.pl := nI_le h (by omega)
    unfold hM
    simp only [x164_0, x164_2, x164_3, x164_6, x164_7, x164_9, x164_10, x164_11, x164_14, x164_15, bnd_some, Option.toList_some, Option.toList_none, List.cons_append, List.nil_append, List.singleton_append, clr_i, clr_r, clr_n, clr_0, clr_q, clr_l, isR_r, isR_n, isR_q, cat1_i, cat1_r, b0, b1, if_true, if_false, not_true, not_false_eq_true, reduceCtorEq, ite_self, and_true, true_and, and_false, false_and, or_true, true_or, or_false, false_or, mf_0, wr_0, mf_1, wr_1, mf_2, rd_2 hp, sh_2 hp, wr_2 hp, mf_3, rd_3 hp, sh_3 hp, wr_3 hp, mf_4, rd_4 hp, sh_4 hp, wr_4 hp, mf_5, rd_5 hp, sh_5 hp, wr_5 hp, mf_6, rd_6 hp, sh_6 hp, wr_6 hp, mf_7, rd_7 hp, sh_7 hp, wr_7 hp, mf_8, wr_8, mf_9, rd_9 hp, sh_9 hp, wr_9 hp, mf_10, rd_10 hp, sh_10 hp, wr_10 hp, mf_11, rd_11 hp, sh_11 hp, wr_11 hp, mf_12, rd_12 hp, sh_12 hp, wr_12 hp, mf_13, rd_13 hp, sh_13 hp, wr_13 hp, mf_14, wr_14, mf_15, wr_15, mf_16, mf_17, wr_17, mf_18, wr_18, mf_19, wr_19, mf_20, rd_20 hp, sh_20 hp, wr_20 hp, mf_21, wr_21, mf_22, rd_22 hp, sh_22 hp, wr_22 hp, mf_23, rd_23 hp, sh_23 hp, wr_23 hp, mf_24, rd_24 hp, sh_24 hp, wr_24 hp, mf_25, wr_25, mf_26, rd_26 hp, sh_26 hp, wr_26 hp, mf_27, rd_27 hp, sh_27 hp, wr_27 hp, mf_28, rd_28 hp, sh_28 hp, wr_28 hp, mf_29, rd_29 hp, sh_29 hp, wr_29 hp, mf_30, wr_30, mf_31, rd_31 hp, sh_31 hp, wr_31 hp, mf_32, wr_32, mf_33, rd_33 hp, sh_33 hp, wr_33 hp, mf_34, wr_34, mf_35, wr_35, mf_36, rd_36 hp, sh_36 hp, wr_36 hp, mf_37, rd_37 hp, sh_37 hp, wr_37 hp, mf_38, rd_38 hp, sh_38 hp, wr_38 hp, mf_39, rd_39 hp, sh_39 hp, wr_39 hp, mf_40, rd_40 hp, sh_40 hp, wr_40 hp, mf_41, wr_41, mM_p hp, sM_p hp, wM_p hp, sM_o, ln20, hm, pk_mul, nI_add, h1]
    exact m164_end hp hm hm2 h
  · have hpl3 : F.pl ≤ 4000 := by omega
    have h1 : ¬ nI (6 * m + 6) ≤ nI F.pl := nI_ge (by omega) (by omega)
    have h2 : 2 * F.pl ≤ 10000 := by omega
    refine ⟨mkFr F.n (2 * F.pl) (mnw F.m0 F.p (fun j => .int (S 16 j))) (mnw F.s0 F.p (20, F.pl)) (F.n + 1) (F.k + 2 * F.pl), stS (gS S m) m w a b c e g, ?_, Or.inr ⟨rfl, rfl, ?_, rfl, rfl, by omega⟩, fun _ => ⟨Or.inr hn, ?_, ?_, ?_, ?_, ?_, by omega⟩, Sq_st Sq_gS⟩
    · unfold hM
      simp only [fr1, fr2, fr3, fr4, fr5, fr6]
      simp only [x164_0, x164_2, x164_3, x164_6, x164_7, x164_9, x164_10, x164_11, x164_14, x164_15, x164_18, x164_19, x164_20, x164_23, x164_24, x164_25, x164_27, x164_27n, x164_27q, x164_29, x164_30, bnd_some, Option.toList_some, Option.toList_none, List.cons_append, List.nil_append, List.singleton_append, clr_i, clr_r, clr_n, clr_0, clr_q, clr_l, isR_r, isR_n, isR_q, cat1_i, cat1_r, b0, b1, if_true, if_false, not_true, not_false_eq_true, reduceCtorEq, ite_self, and_true, true_and, and_false, false_and, or_true, true_or, or_false, false_or, mf_0, wr_0, mf_1, wr_1, mf_2, rd_2 hp, sh_2 hp, wr_2 hp, mf_3, rd_3 hp, sh_3 hp, wr_3 hp, mf_4, rd_4 hp, sh_4 hp, wr_4 hp, mf_5, rd_5 hp, sh_5 hp, wr_5 hp, mf_6, rd_6 hp, sh_6 hp, wr_6 hp, mf_7, rd_7 hp, sh_7 hp, wr_7 hp, mf_8, wr_8, mf_9, rd_9 hp, sh_9 hp, wr_9 hp, mf_10, rd_10 hp, sh_10 hp, wr_10 hp, mf_11, rd_11 hp, sh_11 hp, wr_11 hp, mf_12, rd_12 hp, sh_12 hp, wr_12 hp, mf_13, rd_13 hp, sh_13 hp, wr_13 hp, mf_14, wr_14, mf_15, wr_15, mf_16, mf_17, wr_17, mf_18, wr_18, mf_19, wr_19, mf_20, rd_20 hp, sh_20 hp, wr_20 hp, mf_21, wr_21, mf_22, rd_22 hp, sh_22 hp, wr_22 hp, mf_23, rd_23 hp, sh_23 hp, wr_23 hp, mf_24, rd_24 hp, sh_24 hp, wr_24 hp, mf_25, wr_25, mf_26, rd_26 hp, sh_26 hp, wr_26 hp, mf_27, rd_27 hp, sh_27 hp, wr_27 hp, mf_28, rd_28 hp, sh_28 hp, wr_28 hp, mf_29, rd_29 hp, sh_29 hp, wr_29 hp, mf_30, wr_30, mf_31, rd_31 hp, sh_31 hp, wr_31 hp, mf_32, wr_32, mf_33, rd_33 hp, sh_33 hp, wr_33 hp, mf_34, wr_34, mf_35, wr_35, mf_36, rd_36 hp, sh_36 hp, wr_36 hp, mf_37, rd_37 hp, sh_37 hp, wr_37 hp, mf_38, rd_38 hp, sh_38 hp, wr_38 hp, mf_39, rd_39 hp, sh_39 hp, wr_39 hp, mf_40, rd_40 hp, sh_40 hp, wr_40 hp, mf_41, wr_41, mM_p hp, sM_p hp, wM_p hp, sM_o, ln20, hm, pk_mul, nI_add, h1, h2, mM_nw hn hpn, sM_nw hn hpn]
      have L := m164_loop (d := d) (o := o) (p := F.p) (pl := F.pl) (n := F.n) (k := F.k + 2 * F.pl) (S := S) (m0 := F.m0) (s0 := F.s0) (m := m) (e := 2 * F.pl) (n' := F.n + 1) (l1 := some (.int w)) (l2 := some (.int a)) (l3 := some (.int b)) (l4 := some (.int c)) (l5 := some (.int e)) (l6 := some (.int g)) hp hn hpn hm hm2 hpl (by omega) (6 * m) 0 (by omega)
      have e0 : cpV S 0 = fun _ => .int 0 := by
        funext j
        unfold cpV
        rw [if_neg (by omega)]
      rw [e0] at L
      rw [L]
      simp only [x164_62, x164_63, x164_63n, x164_63q, x164_65, x164_65n, x164_65q, bnd_some, Option.toList_some, Option.toList_none, List.cons_append, List.nil_append, List.singleton_append, clr_i, clr_r, clr_n, clr_0, clr_q, clr_l, isR_r, isR_n, isR_q, cat1_i, cat1_r, b0, b1, if_true, if_false, not_true, not_false_eq_true, reduceCtorEq, ite_self, and_true, true_and, and_false, false_and, or_true, true_or, or_false, false_or, mf_0, wr_0, mf_1, wr_1, mf_2, rd_2 hp, sh_2 hp, wr_2 hp, mf_3, rd_3 hp, sh_3 hp, wr_3 hp, mf_4, rd_4 hp, sh_4 hp, wr_4 hp, mf_5, rd_5 hp, sh_5 hp, wr_5 hp, mf_6, rd_6 hp, sh_6 hp, wr_6 hp, mf_7, rd_7 hp, sh_7 hp, wr_7 hp, mf_8, wr_8, mf_9, rd_9 hp, sh_9 hp, wr_9 hp, mf_10, rd_10 hp, sh_10 hp, wr_10 hp, mf_11, rd_11 hp, sh_11 hp, wr_11 hp, mf_12, rd_12 hp, sh_12 hp, wr_12 hp, mf_13, rd_13 hp, sh_13 hp, wr_13 hp, mf_14, wr_14, mf_15, wr_15, mf_16, mf_17, wr_17, mf_18, wr_18, mf_19, wr_19, mf_20, rd_20 hp, sh_20 hp, wr_20 hp, mf_21, wr_21, mf_22, rd_22 hp, sh_22 hp, wr_22 hp, mf_23, rd_23 hp, sh_23 hp, wr_23 hp, mf_24, rd_24 hp, sh_24 hp, wr_24 hp, mf_25, wr_25, mf_26, rd_26 hp, sh_26 hp, wr_26 hp, mf_27, rd_27 hp, sh_27 hp, wr_27 hp, mf_28, rd_28 hp, sh_28 hp, wr_28 hp, mf_29, rd_29 hp, sh_29 hp, wr_29 hp, mf_30, wr_30, mf_31, rd_31 hp, sh_31 hp, wr_31 hp, mf_32, wr_32, mf_33, rd_33 hp, sh_33 hp, wr_33 hp, mf_34, wr_34, mf_35, wr_35, mf_36, rd_36 hp, sh_36 hp, wr_36 hp, mf_37, rd_37 hp, sh_37 hp, wr_37 hp, mf_38, rd_38 hp, sh_38 hp, wr_38 hp, mf_39, rd_39 hp, sh_39 hp, wr_39 hp, mf_40, rd_40 hp, sh_40 hp, wr_40 hp, mf_41, wr_41, mM_p hp, sM_p hp, wM_p hp, sM_o, grow_m hp hn hpn, grow_s hp hn hpn]
      have hg : gS S m 17 0 = nI m := by
        unfold gS
        rw [if_neg (by omega), hm]
      exact m164_end (Or.inr hn) hg hm2 (by omega)
    · intro x hx hx2
      exact ⟨mnw_ne hx, mnw_ne hx⟩
    · show F.n < F.n + 1
      omega
    · show o + 27 < F.n + 1
      omega
    · show 6 * (m + 1) ≤ 2 * F.pl
      omega
    · show 60 ≤ 2 * F.pl
      omega
    · show 2 * F.pl ≤ 8000
      omega
end MG
