/-! ===== the reference, method by method (expanded by wip/whole/gen/pp.py out of wip/whole/src) ===== -/
theorem b0 : (nI 0 = 0 ∨ nI 0 = 1) ↔ True := ⟨fun _ => trivial, fun _ => Or.inl rfl⟩
theorem b1 : (nI 1 = 0 ∨ nI 1 = 1) ↔ True := ⟨fun _ => trivial, fun _ => Or.inr rfl⟩
def b2 (c : Prop) [Decidable c] : Int32 := if c then nI 1 else nI 0
theorem b2_0 {c : Prop} [Decidable c] : (b2 c = 0) ↔ ¬ c := by
  unfold b2
  split
  · rename_i h
    exact ⟨fun q => absurd q (by decide), fun q => absurd h q⟩
  · rename_i h
    exact ⟨fun _ => h, fun _ => rfl⟩
theorem b2_01 {c : Prop} [Decidable c] : (b2 c = 0 ∨ b2 c = 1) ↔ True := by
  unfold b2
  split <;> simp [b0, b1]
/-- a number below T, as a place -/
def ixI (T : Nat) (t : Int32) : Option Nat := if t < 0 then none else if nI T ≤ t then none else some t.toNatClampNeg
theorem ixI_some {T : Nat} {t : Int32} {j : Nat} (hT : T < 2147483648) (h : ixI T t = some j) : t = nI j ∧ j < T := by
  unfold ixI at h
  split at h
  · cases h
  · split at h
    · cases h
    · rename_i h1 h2
      rcases pk_ix t (n := T) hT with q | q | ⟨i, hi, rfl⟩
      · exact absurd q h1
      · exact absurd q h2
      · rw [nI_clamp (by omega)] at h
        cases h
        exact ⟨rfl, hi⟩
theorem ixI_nI {T j : Nat} (hj : j < T) (hT : T < 2147483648) : ixI T (nI j) = some j := by
  unfold ixI
  rw [if_neg (nI_pos (by omega)), if_neg (nI_ge hj hT), nI_clamp (by omega)]
theorem ixI_b {T : Nat} {t : Int32} : (¬ t < 0 ∧ ¬ nI T ≤ t) ↔ ¬ ixI T t = none := by
  unfold ixI
  split
  · rename_i h; simp [h]
  · split
    · rename_i h; simp [h]
    · rename_i h1 h2; simp [h1, h2]
/-- what a call of the reference gives: its answer, its numbers behind it -/
def rt (o p pl : Nat) (m0 : Mm) (s0 : Nat → Nat × Nat) (n k : Nat) (r : Int32 × St) : Option Rs := some (some (.int r.1), (mM o p r.2 m0, sM o p pl s0, n, k))
def bdS (S : St) (w : Nat) : Int32 × St := (-1, sup S 0 0 (nI w))
def fnS (S : St) (x : Int32) : Int32 × St := (x, sup S 0 0 (nI 0))
def filS (S : St) (f b n : Nat) (v : Int32) : St := fun g i => if g = f ∧ b ≤ i ∧ i < b + n then v else S g i
theorem filS_0 {S : St} {f b : Nat} {v : Int32} : filS S f b 0 v = S := by
  funext g i
  unfold filS
  rw [if_neg (by omega)]
theorem filS_s {S : St} {f b n : Nat} {v : Int32} : sup (filS S f b n v) f (b + n) v = filS S f b (n + 1) v := by
  funext g i
  unfold sup filS
  by_cases h : g = f ∧ i = b + n
  · rw [if_pos h, if_pos (by omega)]
  · rw [if_neg h]
    by_cases h2 : g = f ∧ b ≤ i ∧ i < b + n
    · rw [if_pos h2, if_pos (by omega)]
    · rw [if_neg h2, if_neg (by omega)]
def nT (S : St) : Nat := (S 1 0).toNatClampNeg
def nR (S : St) : Nat := (S 8 0).toNatClampNeg
def nA (S : St) : Nat := (S 19 0).toNatClampNeg
section MA
variable {d o p pl n k : Nat} {S : St} {m0 : Mm} {s0 : Nat → Nat × Nat}
/-- fine(v) -/
theorem m134 {v : Int32} : ex d 134 0 [some (.ref o), some (.int v)] [] (mM o p S m0, sM o p pl s0, n, k) = some (some (.int v), (mM o p (sup S 0 0 (nI 0)) m0, sM o p pl s0, n, k)) := by
  simp only [x134_0, x134_1, x134_2, x134_5, x134_6, sM_o, wr_0]
/-- bad(why) -/
theorem m135 {v : Int32} : ex d 135 0 [some (.ref o), some (.int v)] [] (mM o p S m0, sM o p pl s0, n, k) = some (some (.int (-1)), (mM o p (sup S 0 0 v) m0, sM o p pl s0, n, k)) := by
  simp only [x135_0, x135_1, x135_2, x135_5, x135_6, sM_o, wr_0]
/-- isThing(t) -/
theorem m136 {t : Int32} : ex d 136 0 [some (.ref o), some (.int t)] [] (mM o p S m0, sM o p pl s0, n, k) = some (some (.int (b2 (¬ t < 0 ∧ ¬ S 1 0 ≤ t))), (mM o p S m0, sM o p pl s0, n, k)) := by
  simp only [x136_0, x136_1, x136_4, x136_5, x136_6, x136_9, x136_12, x136_13, x136_16, x136_17, sM_o, mf_1, bnd_some, Option.toList_some, Option.toList_none, List.cons_append, List.nil_append, List.singleton_append, clr_i, clr_r, clr_n, clr_0, clr_q, clr_l, isR_r, isR_n, isR_q, cat1_i, cat1_r, b0, b1, if_true, if_false, not_true, not_false_eq_true, reduceCtorEq]
  (repeat' split) <;> simp_all [b2]
/-- isIn(v, low, high) -/
theorem m137 {v a b : Int32} {h : Hp} : ex d 137 0 [some (.int v), some (.int a), some (.int b)] [] h = some (some (.int (b2 (¬ v < a ∧ ¬ b < v))), h) := by
  simp only [x137_0, x137_1, x137_2, x137_5, x137_6, x137_7, x137_10, x137_11, x137_14, x137_15, bnd_some, Option.toList_some, Option.toList_none, List.cons_append, List.nil_append, List.singleton_append, clr_i, clr_r, clr_n, clr_0, clr_q, clr_l, isR_r, isR_n, isR_q, cat1_i, cat1_r, b0, b1, if_true, if_false, not_true, not_false_eq_true, reduceCtorEq]
  (repeat' split) <;> simp_all [b2]
/-- isGarment(t) -/
theorem m138 {t : Nat} (hp : Op o p) (ht : t < 200) : ex d 138 0 [some (.ref o), some (.int (nI t))] [] (mM o p S m0, sM o p pl s0, n, k) = some (some (.int (b2 (¬ nI 3 < S 2 t))), (mM o p S m0, sM o p pl s0, n, k)) := by
  have hb : t < 2147483648 := by omega
  simp only [x138_0, x138_1, x138_4, x138_5, x138_6, x138_7, x138_10, x138_11, x138_14, x138_15, mf_0, wr_0, mf_1, wr_1, mf_2, rd_2 hp, sh_2 hp, wr_2 hp, mf_3, rd_3 hp, sh_3 hp, wr_3 hp, mf_4, rd_4 hp, sh_4 hp, wr_4 hp, mf_5, rd_5 hp, sh_5 hp, wr_5 hp, mf_6, rd_6 hp, sh_6 hp, wr_6 hp, mf_7, rd_7 hp, sh_7 hp, wr_7 hp, mf_8, wr_8, mf_9, rd_9 hp, sh_9 hp, wr_9 hp, mf_10, rd_10 hp, sh_10 hp, wr_10 hp, mf_11, rd_11 hp, sh_11 hp, wr_11 hp, mf_12, rd_12 hp, sh_12 hp, wr_12 hp, mf_13, rd_13 hp, sh_13 hp, wr_13 hp, mf_14, wr_14, mf_15, wr_15, mf_16, mf_17, wr_17, mf_18, wr_18, mf_19, wr_19, mf_20, rd_20 hp, sh_20 hp, wr_20 hp, mf_21, wr_21, mf_22, rd_22 hp, sh_22 hp, wr_22 hp, mf_23, rd_23 hp, sh_23 hp, wr_23 hp, mf_24, rd_24 hp, sh_24 hp, wr_24 hp, mf_25, wr_25, mf_26, rd_26 hp, sh_26 hp, wr_26 hp, mf_27, rd_27 hp, sh_27 hp, wr_27 hp, mf_28, rd_28 hp, sh_28 hp, wr_28 hp, mf_29, rd_29 hp, sh_29 hp, wr_29 hp, mf_30, wr_30, mf_31, rd_31 hp, sh_31 hp, wr_31 hp, mf_32, wr_32, mf_33, rd_33 hp, sh_33 hp, wr_33 hp, mf_34, wr_34, mf_35, wr_35, mf_36, rd_36 hp, sh_36 hp, wr_36 hp, mf_37, rd_37 hp, sh_37 hp, wr_37 hp, mf_38, rd_38 hp, sh_38 hp, wr_38 hp, mf_39, rd_39 hp, sh_39 hp, wr_39 hp, mf_40, rd_40 hp, sh_40 hp, wr_40 hp, mf_41, wr_41, mM_p hp, sM_p hp, wM_p hp, sM_o, bnd_some, Option.toList_some, Option.toList_none, List.cons_append, List.nil_append, List.singleton_append, clr_i, clr_r, clr_n, clr_0, clr_q, clr_l, isR_r, isR_n, isR_q, cat1_i, cat1_r, b0, b1, if_true, if_false, not_true, not_false_eq_true, reduceCtorEq, ht, hb]
  (repeat' split) <;> simp_all [b2]
/-- isWear(t) -/
theorem m139 {t : Nat} (hp : Op o p) (ht : t < 200) : ex d 139 0 [some (.ref o), some (.int (nI t))] [] (mM o p S m0, sM o p pl s0, n, k) = some (some (.int (b2 (¬ nI 4 < S 2 t))), (mM o p S m0, sM o p pl s0, n, k)) := by
  have hb : t < 2147483648 := by omega
  simp only [x139_0, x139_1, x139_4, x139_5, x139_6, x139_7, x139_10, x139_11, x139_14, x139_15, mf_0, wr_0, mf_1, wr_1, mf_2, rd_2 hp, sh_2 hp, wr_2 hp, mf_3, rd_3 hp, sh_3 hp, wr_3 hp, mf_4, rd_4 hp, sh_4 hp, wr_4 hp, mf_5, rd_5 hp, sh_5 hp, wr_5 hp, mf_6, rd_6 hp, sh_6 hp, wr_6 hp, mf_7, rd_7 hp, sh_7 hp, wr_7 hp, mf_8, wr_8, mf_9, rd_9 hp, sh_9 hp, wr_9 hp, mf_10, rd_10 hp, sh_10 hp, wr_10 hp, mf_11, rd_11 hp, sh_11 hp, wr_11 hp, mf_12, rd_12 hp, sh_12 hp, wr_12 hp, mf_13, rd_13 hp, sh_13 hp, wr_13 hp, mf_14, wr_14, mf_15, wr_15, mf_16, mf_17, wr_17, mf_18, wr_18, mf_19, wr_19, mf_20, rd_20 hp, sh_20 hp, wr_20 hp, mf_21, wr_21, mf_22, rd_22 hp, sh_22 hp, wr_22 hp, mf_23, rd_23 hp, sh_23 hp, wr_23 hp, mf_24, rd_24 hp, sh_24 hp, wr_24 hp, mf_25, wr_25, mf_26, rd_26 hp, sh_26 hp, wr_26 hp, mf_27, rd_27 hp, sh_27 hp, wr_27 hp, mf_28, rd_28 hp, sh_28 hp, wr_28 hp, mf_29, rd_29 hp, sh_29 hp, wr_29 hp, mf_30, wr_30, mf_31, rd_31 hp, sh_31 hp, wr_31 hp, mf_32, wr_32, mf_33, rd_33 hp, sh_33 hp, wr_33 hp, mf_34, wr_34, mf_35, wr_35, mf_36, rd_36 hp, sh_36 hp, wr_36 hp, mf_37, rd_37 hp, sh_37 hp, wr_37 hp, mf_38, rd_38 hp, sh_38 hp, wr_38 hp, mf_39, rd_39 hp, sh_39 hp, wr_39 hp, mf_40, rd_40 hp, sh_40 hp, wr_40 hp, mf_41, wr_41, mM_p hp, sM_p hp, wM_p hp, sM_o, bnd_some, Option.toList_some, Option.toList_none, List.cons_append, List.nil_append, List.singleton_append, clr_i, clr_r, clr_n, clr_0, clr_q, clr_l, isR_r, isR_n, isR_q, cat1_i, cat1_r, b0, b1, if_true, if_false, not_true, not_false_eq_true, reduceCtorEq, ht, hb]
  (repeat' split) <;> simp_all [b2]
/-- lockOne() -/
theorem m153 : ex d 153 0 [some (.ref o)] [] (mM o p S m0, sM o p pl s0, n, k) = some (none, (mM o p (sup (sup S 14 0 (S 14 0 + nI 1)) 15 0 (S 15 0 + nI 1)) m0, sM o p pl s0, n, k)) := by
  simp only [x153_0, x153_1, x153_1i, x153_2, x153_5, x153_6, x153_7, x153_10, x153_11, x153_11i, x153_12, x153_15, x153_16, x153_17, x153_20, sM_o, mf_14, mf_15, wr_14, wr_15, bnd_some, Option.toList_some, Option.toList_none, List.cons_append, List.nil_append, List.singleton_append, clr_i, clr_r, clr_n, clr_0, clr_q, clr_l, isR_r, isR_n, isR_q, cat1_i, cat1_r, b0, b1, if_true, if_false, not_true, not_false_eq_true, reduceCtorEq, sup_eq, sup_f, not_false_eq_true, Nat.reduceEqDiff]
/-- thingIn(row, s) -/
theorem m154 {r s : Nat} (hp : Op o p) (hr : r < 212) (hs : s < 40) : ex d 154 0 [some (.ref o), some (.int (nI r)), some (.int (nI s))] [] (mM o p S m0, sM o p pl s0, n, k) = some (some (.int (S 7 (40 * r + s))), (mM o p S m0, sM o p pl s0, n, k)) := by
  have h1 : 40 * r + s < 8480 := by omega
  have hb : 40 * r + s < 2147483648 := by omega
  simp only [x154_0, x154_1, x154_4, x154_6, x154_7, x154_8, x154_9, x154_10, x154_11, mf_0, wr_0, mf_1, wr_1, mf_2, rd_2 hp, sh_2 hp, wr_2 hp, mf_3, rd_3 hp, sh_3 hp, wr_3 hp, mf_4, rd_4 hp, sh_4 hp, wr_4 hp, mf_5, rd_5 hp, sh_5 hp, wr_5 hp, mf_6, rd_6 hp, sh_6 hp, wr_6 hp, mf_7, rd_7 hp, sh_7 hp, wr_7 hp, mf_8, wr_8, mf_9, rd_9 hp, sh_9 hp, wr_9 hp, mf_10, rd_10 hp, sh_10 hp, wr_10 hp, mf_11, rd_11 hp, sh_11 hp, wr_11 hp, mf_12, rd_12 hp, sh_12 hp, wr_12 hp, mf_13, rd_13 hp, sh_13 hp, wr_13 hp, mf_14, wr_14, mf_15, wr_15, mf_16, mf_17, wr_17, mf_18, wr_18, mf_19, wr_19, mf_20, rd_20 hp, sh_20 hp, wr_20 hp, mf_21, wr_21, mf_22, rd_22 hp, sh_22 hp, wr_22 hp, mf_23, rd_23 hp, sh_23 hp, wr_23 hp, mf_24, rd_24 hp, sh_24 hp, wr_24 hp, mf_25, wr_25, mf_26, rd_26 hp, sh_26 hp, wr_26 hp, mf_27, rd_27 hp, sh_27 hp, wr_27 hp, mf_28, rd_28 hp, sh_28 hp, wr_28 hp, mf_29, rd_29 hp, sh_29 hp, wr_29 hp, mf_30, wr_30, mf_31, rd_31 hp, sh_31 hp, wr_31 hp, mf_32, wr_32, mf_33, rd_33 hp, sh_33 hp, wr_33 hp, mf_34, wr_34, mf_35, wr_35, mf_36, rd_36 hp, sh_36 hp, wr_36 hp, mf_37, rd_37 hp, sh_37 hp, wr_37 hp, mf_38, rd_38 hp, sh_38 hp, wr_38 hp, mf_39, rd_39 hp, sh_39 hp, wr_39 hp, mf_40, rd_40 hp, sh_40 hp, wr_40 hp, mf_41, wr_41, mM_p hp, sM_p hp, wM_p hp, sM_o, bnd_some, Option.toList_some, Option.toList_none, List.cons_append, List.nil_append, List.singleton_append, clr_i, clr_r, clr_n, clr_0, clr_q, clr_l, isR_r, isR_n, isR_q, cat1_i, cat1_r, b0, b1, if_true, if_false, not_true, not_false_eq_true, reduceCtorEq, pk_mul, nI_add, h1, hb]
/-- purse(), spent(), status() -/
theorem m199 : ex d 199 0 [some (.ref o)] [] (mM o p S m0, sM o p pl s0, n, k) = some (some (.int (S 34 0)), (mM o p S m0, sM o p pl s0, n, k)) := by
  simp only [x199_0, x199_1, x199_4, sM_o, mf_34, bnd_some, Option.toList_some, Option.toList_none, List.cons_append, List.nil_append, List.singleton_append, clr_i, clr_r, clr_n, clr_0, clr_q, clr_l, isR_r, isR_n, isR_q, cat1_i, cat1_r, b0, b1, if_true, if_false, not_true, not_false_eq_true, reduceCtorEq]
theorem m200 : ex d 200 0 [some (.ref o)] [] (mM o p S m0, sM o p pl s0, n, k) = some (some (.int (S 18 0)), (mM o p S m0, sM o p pl s0, n, k)) := by
  simp only [x200_0, x200_1, x200_4, sM_o, mf_18, bnd_some, Option.toList_some, Option.toList_none, List.cons_append, List.nil_append, List.singleton_append, clr_i, clr_r, clr_n, clr_0, clr_q, clr_l, isR_r, isR_n, isR_q, cat1_i, cat1_r, b0, b1, if_true, if_false, not_true, not_false_eq_true, reduceCtorEq]
theorem m207 : ex d 207 0 [some (.ref o)] [] (mM o p S m0, sM o p pl s0, n, k) = some (some (.int (S 0 0)), (mM o p S m0, sM o p pl s0, n, k)) := by
  simp only [x207_0, x207_1, x207_4, sM_o, mf_0, bnd_some, Option.toList_some, Option.toList_none, List.cons_append, List.nil_append, List.singleton_append, clr_i, clr_r, clr_n, clr_0, clr_q, clr_l, isR_r, isR_n, isR_q, cat1_i, cat1_r, b0, b1, if_true, if_false, not_true, not_false_eq_true, reduceCtorEq]
end MA
