/-! ===== the reference: what stands in what; put ===== -/
/-- the box in which a thing is -/
def par (S : St) (u : Nat) : Option Nat := if S 3 u = nI 1 ∧ nI 1000 ≤ S 4 u then some ((S 4 u).toNatClampNeg - 1000) else none
def tkN (S : St) (u : Nat) : Nat := if S 2 u = nI 5 then 1 else 0
/-- the way up from a thing ends -/
def trm (S : St) : Nat → Nat → Prop
  | 0, _ => False
  | f + 1, u => u < 200 ∧ (match par S u with | none => True | some v => trm S f v)
def upW (S : St) : Nat → Nat → Nat → Nat
  | 0, _, _ => 0
  | f + 1, t, u => (if u = t then 100 else tkN S u) + (match par S u with | none => 0 | some v => upW S f t v)
def dn (S : St) : Nat → Nat → Nat → Option Nat
  | 0, _, _ => none
  | f + 1, t, a => if a = t then some (tkN S a) else (match par S a with | none => none | some v => (match dn S f t v with | none => none | some c => some (tkN S a + c)))
def dnM (S : St) (f t : Nat) : Nat → Nat
  | 0 => 0
  | x + 1 => if S 2 x = nI 5 then (match dn S f t x with | none => dnM S f t x | some c => if dnM S f t x < c then c else dnM S f t x) else dnM S f t x
def lyF (S : St) (T r s t : Nat) : Nat := if 0 ≤ S 7 (40 * r + s) then 5 else if r < 200 ∧ S 2 r = nI 4 ∧ nI 3 < S 2 t then 4 else if 6 < (if r < 200 then upW S 8 t r else 0) + dnM S 8 t T then 9 else 0
def Wtrm (S : St) (T : Nat) : Prop := ∀ u, u < T → trm S 8 u
def ptS (R T : Nat) (S : St) (m : Nat) (h s t : Int32) : Int32 × St := match rowI R T S h with
  | none => bdS S 1
  | some r => match ixI T t with
    | none => bdS S 10
    | some j => match ixI (sN S r) s with
      | none => bdS (lkd S) 2
      | some q => if S 3 j = 0 then (if lyF S T r q j = 0 then fnS (stS (layS (lkd S) r q j h) m (nI 0) t (nI 0) (nI 0) (nI 0) (nI 0)) (nI 1) else bdS (lkd S) (lyF S T r q j)) else bdS (lkd S) 8
theorem par_some {S : St} {u v : Nat} (h : par S u = some v) : S 3 u = nI 1 ∧ S 4 u = nI (1000 + v) ∧ v < 2147483648 - 1000 := by
  unfold par at h
  split at h
  · rename_i q
    have h0 : ¬ S 4 u < 0 := by
      intro z
      have h1 := q.2
      rw [Int32.le_iff_toInt_le, nI_toInt (by omega)] at h1
      rw [Int32.lt_iff_toInt_lt] at z
      simp at z
      omega
    obtain ⟨j, hj, e⟩ := nI_of h0
    have hv := (Option.some.inj h).symm
    rw [e, nI_clamp hj] at hv
    have h2 := q.2
    rw [e, nI_leI (by omega) hj] at h2
    refine ⟨q.1, ?_, by omega⟩
    rw [e]
    exact congrArg nI (by omega)
  · cases h
theorem par_none {S : St} {u : Nat} (h : par S u = none) : ¬ (S 3 u = nI 1 ∧ nI 1000 ≤ S 4 u) := by
  unfold par at h
  split at h
  · cases h
  · assumption
theorem rowI_inv {R T : Nat} {S : St} {h : Int32} {r : Nat} (hR : R ≤ 12) (hT : T ≤ 200) (q : rowI R T S h = some r) : (r < T ∧ h = nI (1000 + r) ∧ (S 2 r = nI 4 ∨ S 2 r = nI 5)) ∨ (200 ≤ r ∧ r < 200 + R ∧ h = nI (r - 200)) := by
  unfold rowI at q
  split at q
  · rename_i x hx
    cases q
    obtain ⟨e, h2⟩ := ixI_some (by omega) hx
    exact Or.inr ⟨by omega, by omega, by rw [e]; exact congrArg nI (by omega)⟩
  · split at q
    · cases q
    · split at q
      · rename_i t ht
        split at q
        · rename_i hk
          cases q
          obtain ⟨e, h2⟩ := ixI_some (by omega) ht
          refine Or.inl ⟨h2, ?_, hk⟩
          have : h = (h - nI 1000) + nI 1000 := by rw [Int32.sub_add_cancel]
          rw [this, e, nI_add]
          exact congrArg nI (by omega)
        · cases q
      · cases q
theorem upW_le {S : St} {t : Nat} : ∀ f u, upW S f t u ≤ 100 * f := by
  intro f
  induction f with
  | zero => intro u; simp [upW]
  | succ f ih =>
    intro u
    unfold upW
    have h1 : (if u = t then 100 else tkN S u) ≤ 100 := by
      unfold tkN
      split
      · omega
      · split <;> omega
    cases hv : par S u with
    | none => simp only; omega
    | some v =>
      have := ih v
      simp only
      omega
theorem dn_le {S : St} {t : Nat} : ∀ f a c, dn S f t a = some c → c ≤ f := by
  intro f
  induction f with
  | zero => intro a c h; simp [dn] at h
  | succ f ih =>
    intro a c h
    unfold dn at h
    have h1 : tkN S a ≤ 1 := by unfold tkN; split <;> omega
    split at h
    · cases h; omega
    · split at h
      · cases h
      · split at h
        · cases h
        · rename_i v _ e he
          cases h
          have := ih _ _ he
          omega
theorem dnM_le {S : St} {f t : Nat} : ∀ x, dnM S f t x ≤ f := by
  intro x
  induction x with
  | zero => simp [dnM]
  | succ x ih =>
    unfold dnM
    split
    · split
      · exact ih
      · rename_i c hc
        split
        · exact dn_le _ _ _ hc
        · exact ih
    · exact ih
section MJ
variable {d o p pl n k m : Nat} {S : St} {m0 : Mm} {s0 : Nat → Nat × Nat} {F : Fr} {T R A : Nat}
theorem nI_tk {u : Nat} : (if S 2 u = nI 5 then nI 1 else nI 0) = nI (tkN S u) := by
  unfold tkN
  split <;> rfl
theorem m157_loop {h : Int32} {t : Nat} (hp : Op o p) (ht : t < 200) : ∀ f u c l5, trm S f u → ex d 157 5 [some (.ref o), some (.int h), some (.int (nI t)), some (.int (nI c)), some (.int (nI (1000 + u))), l5] [] (mM o p S m0, sM o p pl s0, n, k) = some (some (.int (nI (c + upW S f t u))), (mM o p S m0, sM o p pl s0, n, k)) := by
  intro f
  induction f with
  | zero => intro u c l5 h; exact absurd h (by simp [trm])
  | succ f ih =>
    intro u c l5 hu
    unfold trm at hu
    obtain ⟨hu2, hu3⟩ := hu
    have hb : u < 2147483648 := by omega
    have e1 : ¬ nI (1000 + u) < nI 1000 := by rw [nI_ltI (by omega) (by omega)]; omega
    have e2 : nI (1000 + u) - nI 1000 = nI u := by rw [pk_sub (by omega)]; exact congrArg nI (by omega)
    have e3 : (nI u = nI t) ↔ u = t := nI_eq hb (by omega)
    have e4 : ∀ x, ex d 157 5 [some (.ref o), some (.int h), some (.int (nI t)), some (.int x), some (.int (if S 3 u = nI 1 then S 4 u else -1)), some (.int (nI u))] [] (mM o p S m0, sM o p pl s0, n, k) = match par S u with | none => some (some (.int x), (mM o p S m0, sM o p pl s0, n, k)) | some v => ex d 157 5 [some (.ref o), some (.int h), some (.int (nI t)), some (.int x), some (.int (nI (1000 + v))), some (.int (nI u))] [] (mM o p S m0, sM o p pl s0, n, k) := by
      intro x
      cases hv : par S u with
      | none =>
        have hn := par_none hv
        by_cases h3 : S 3 u = nI 1
        · have h4 : S 4 u < nI 1000 := Int32.not_le.mp (fun z => hn ⟨h3, z⟩)
          simp only [h3, if_true, x157_5, x157_7, x157_10, x157_78, x157_79, h4]
        · have h4 : (-1 : Int32) < nI 1000 := by decide
          simp only [h3, if_false, x157_5, x157_7, x157_10, x157_78, x157_79, h4, if_true]
      | some v =>
        obtain ⟨h3, h4, h5⟩ := par_some hv
        simp only [h3, if_true, h4]
    have e5 : upW S (f + 1) t u = (if u = t then 100 else tkN S u) + (match par S u with | none => 0 | some v => upW S f t v) := rfl
    rw [e5]
    have e6 : ∀ x, ex d 157 51 [some (.ref o), some (.int h), some (.int (nI t)), some (.int x), some (.int (nI (1000 + u))), some (.int (nI u))] [] (mM o p S m0, sM o p pl s0, n, k) = ex d 157 5 [some (.ref o), some (.int h), some (.int (nI t)), some (.int x), some (.int (if S 3 u = nI 1 then S 4 u else -1)), some (.int (nI u))] [] (mM o p S m0, sM o p pl s0, n, k) := by
      intro x
      by_cases h3 : S 3 u = nI 1
      · simp only [x157_51, x157_52, x157_55, x157_57, x157_58, x157_59, x157_62, x157_63, x157_66, x157_68, x157_69, x157_72, x157_73, x157_75, bnd_some, Option.toList_some, Option.toList_none, List.cons_append, List.nil_append, List.singleton_append, clr_i, clr_r, clr_n, clr_0, clr_q, clr_l, isR_r, isR_n, isR_q, cat1_i, cat1_r, b0, b1, if_true, if_false, not_true, not_false_eq_true, reduceCtorEq, ite_self, and_true, true_and, and_false, false_and, or_true, true_or, or_false, false_or, mf_0, wr_0, mf_1, wr_1, mf_2, rd_2 hp, sh_2 hp, wr_2 hp, mf_3, rd_3 hp, sh_3 hp, wr_3 hp, mf_4, rd_4 hp, sh_4 hp, wr_4 hp, mf_5, rd_5 hp, sh_5 hp, wr_5 hp, mf_6, rd_6 hp, sh_6 hp, wr_6 hp, mf_7, rd_7 hp, sh_7 hp, wr_7 hp, mf_8, wr_8, mf_9, rd_9 hp, sh_9 hp, wr_9 hp, mf_10, rd_10 hp, sh_10 hp, wr_10 hp, mf_11, rd_11 hp, sh_11 hp, wr_11 hp, mf_12, rd_12 hp, sh_12 hp, wr_12 hp, mf_13, rd_13 hp, sh_13 hp, wr_13 hp, mf_14, wr_14, mf_15, wr_15, mf_16, mf_17, wr_17, mf_18, wr_18, mf_19, wr_19, mf_20, rd_20 hp, sh_20 hp, wr_20 hp, mf_21, wr_21, mf_22, rd_22 hp, sh_22 hp, wr_22 hp, mf_23, rd_23 hp, sh_23 hp, wr_23 hp, mf_24, rd_24 hp, sh_24 hp, wr_24 hp, mf_25, wr_25, mf_26, rd_26 hp, sh_26 hp, wr_26 hp, mf_27, rd_27 hp, sh_27 hp, wr_27 hp, mf_28, rd_28 hp, sh_28 hp, wr_28 hp, mf_29, rd_29 hp, sh_29 hp, wr_29 hp, mf_30, wr_30, mf_31, rd_31 hp, sh_31 hp, wr_31 hp, mf_32, wr_32, mf_33, rd_33 hp, sh_33 hp, wr_33 hp, mf_34, wr_34, mf_35, wr_35, mf_36, rd_36 hp, sh_36 hp, wr_36 hp, mf_37, rd_37 hp, sh_37 hp, wr_37 hp, mf_38, rd_38 hp, sh_38 hp, wr_38 hp, mf_39, rd_39 hp, sh_39 hp, wr_39 hp, mf_40, rd_40 hp, sh_40 hp, wr_40 hp, mf_41, wr_41, mM_p hp, sM_p hp, wM_p hp, sM_o, hu2, hb, h3]
      · simp only [x157_51, x157_52, x157_55, x157_57, x157_58, x157_59, x157_62, x157_63, x157_66, x157_68, x157_69, x157_72, x157_73, x157_75, bnd_some, Option.toList_some, Option.toList_none, List.cons_append, List.nil_append, List.singleton_append, clr_i, clr_r, clr_n, clr_0, clr_q, clr_l, isR_r, isR_n, isR_q, cat1_i, cat1_r, b0, b1, if_true, if_false, not_true, not_false_eq_true, reduceCtorEq, ite_self, and_true, true_and, and_false, false_and, or_true, true_or, or_false, false_or, mf_0, wr_0, mf_1, wr_1, mf_2, rd_2 hp, sh_2 hp, wr_2 hp, mf_3, rd_3 hp, sh_3 hp, wr_3 hp, mf_4, rd_4 hp, sh_4 hp, wr_4 hp, mf_5, rd_5 hp, sh_5 hp, wr_5 hp, mf_6, rd_6 hp, sh_6 hp, wr_6 hp, mf_7, rd_7 hp, sh_7 hp, wr_7 hp, mf_8, wr_8, mf_9, rd_9 hp, sh_9 hp, wr_9 hp, mf_10, rd_10 hp, sh_10 hp, wr_10 hp, mf_11, rd_11 hp, sh_11 hp, wr_11 hp, mf_12, rd_12 hp, sh_12 hp, wr_12 hp, mf_13, rd_13 hp, sh_13 hp, wr_13 hp, mf_14, wr_14, mf_15, wr_15, mf_16, mf_17, wr_17, mf_18, wr_18, mf_19, wr_19, mf_20, rd_20 hp, sh_20 hp, wr_20 hp, mf_21, wr_21, mf_22, rd_22 hp, sh_22 hp, wr_22 hp, mf_23, rd_23 hp, sh_23 hp, wr_23 hp, mf_24, rd_24 hp, sh_24 hp, wr_24 hp, mf_25, wr_25, mf_26, rd_26 hp, sh_26 hp, wr_26 hp, mf_27, rd_27 hp, sh_27 hp, wr_27 hp, mf_28, rd_28 hp, sh_28 hp, wr_28 hp, mf_29, rd_29 hp, sh_29 hp, wr_29 hp, mf_30, wr_30, mf_31, rd_31 hp, sh_31 hp, wr_31 hp, mf_32, wr_32, mf_33, rd_33 hp, sh_33 hp, wr_33 hp, mf_34, wr_34, mf_35, wr_35, mf_36, rd_36 hp, sh_36 hp, wr_36 hp, mf_37, rd_37 hp, sh_37 hp, wr_37 hp, mf_38, rd_38 hp, sh_38 hp, wr_38 hp, mf_39, rd_39 hp, sh_39 hp, wr_39 hp, mf_40, rd_40 hp, sh_40 hp, wr_40 hp, mf_41, wr_41, mM_p hp, sM_p hp, wM_p hp, sM_o, hu2, hb, h3]
    have e7 : ex d 157 5 [some (.ref o), some (.int h), some (.int (nI t)), some (.int (nI c)), some (.int (nI (1000 + u))), l5] [] (mM o p S m0, sM o p pl s0, n, k) = ex d 157 51 [some (.ref o), some (.int h), some (.int (nI t)), some (.int (nI (c + if u = t then 100 else tkN S u))), some (.int (nI (1000 + u))), some (.int (nI u))] [] (mM o p S m0, sM o p pl s0, n, k) := by
      by_cases ht2 : u = t
      · subst ht2
        simp only [x157_5, x157_7, x157_10, x157_13, x157_15, x157_18, x157_19, x157_21, x157_22, x157_24, x157_25, x157_28, x157_30, x157_33, x157_34, x157_37, x157_39, x157_40, x157_41, x157_44, x157_45, x157_48, x157_49, x157_50, bnd_some, Option.toList_some, Option.toList_none, List.cons_append, List.nil_append, List.singleton_append, clr_i, clr_r, clr_n, clr_0, clr_q, clr_l, isR_r, isR_n, isR_q, cat1_i, cat1_r, b0, b1, if_true, if_false, not_true, not_false_eq_true, reduceCtorEq, ite_self, and_true, true_and, and_false, false_and, or_true, true_or, or_false, false_or, mf_0, wr_0, mf_1, wr_1, mf_2, rd_2 hp, sh_2 hp, wr_2 hp, mf_3, rd_3 hp, sh_3 hp, wr_3 hp, mf_4, rd_4 hp, sh_4 hp, wr_4 hp, mf_5, rd_5 hp, sh_5 hp, wr_5 hp, mf_6, rd_6 hp, sh_6 hp, wr_6 hp, mf_7, rd_7 hp, sh_7 hp, wr_7 hp, mf_8, wr_8, mf_9, rd_9 hp, sh_9 hp, wr_9 hp, mf_10, rd_10 hp, sh_10 hp, wr_10 hp, mf_11, rd_11 hp, sh_11 hp, wr_11 hp, mf_12, rd_12 hp, sh_12 hp, wr_12 hp, mf_13, rd_13 hp, sh_13 hp, wr_13 hp, mf_14, wr_14, mf_15, wr_15, mf_16, mf_17, wr_17, mf_18, wr_18, mf_19, wr_19, mf_20, rd_20 hp, sh_20 hp, wr_20 hp, mf_21, wr_21, mf_22, rd_22 hp, sh_22 hp, wr_22 hp, mf_23, rd_23 hp, sh_23 hp, wr_23 hp, mf_24, rd_24 hp, sh_24 hp, wr_24 hp, mf_25, wr_25, mf_26, rd_26 hp, sh_26 hp, wr_26 hp, mf_27, rd_27 hp, sh_27 hp, wr_27 hp, mf_28, rd_28 hp, sh_28 hp, wr_28 hp, mf_29, rd_29 hp, sh_29 hp, wr_29 hp, mf_30, wr_30, mf_31, rd_31 hp, sh_31 hp, wr_31 hp, mf_32, wr_32, mf_33, rd_33 hp, sh_33 hp, wr_33 hp, mf_34, wr_34, mf_35, wr_35, mf_36, rd_36 hp, sh_36 hp, wr_36 hp, mf_37, rd_37 hp, sh_37 hp, wr_37 hp, mf_38, rd_38 hp, sh_38 hp, wr_38 hp, mf_39, rd_39 hp, sh_39 hp, wr_39 hp, mf_40, rd_40 hp, sh_40 hp, wr_40 hp, mf_41, wr_41, mM_p hp, sM_p hp, wM_p hp, sM_o, e1, e2, nI_add]
      · by_cases h5 : S 2 u = nI 5
        · simp only [x157_5, x157_7, x157_10, x157_13, x157_15, x157_18, x157_19, x157_21, x157_22, x157_24, x157_25, x157_28, x157_30, x157_33, x157_34, x157_37, x157_39, x157_40, x157_41, x157_44, x157_45, x157_48, x157_49, x157_50, bnd_some, Option.toList_some, Option.toList_none, List.cons_append, List.nil_append, List.singleton_append, clr_i, clr_r, clr_n, clr_0, clr_q, clr_l, isR_r, isR_n, isR_q, cat1_i, cat1_r, b0, b1, if_true, if_false, not_true, not_false_eq_true, reduceCtorEq, ite_self, and_true, true_and, and_false, false_and, or_true, true_or, or_false, false_or, mf_0, wr_0, mf_1, wr_1, mf_2, rd_2 hp, sh_2 hp, wr_2 hp, mf_3, rd_3 hp, sh_3 hp, wr_3 hp, mf_4, rd_4 hp, sh_4 hp, wr_4 hp, mf_5, rd_5 hp, sh_5 hp, wr_5 hp, mf_6, rd_6 hp, sh_6 hp, wr_6 hp, mf_7, rd_7 hp, sh_7 hp, wr_7 hp, mf_8, wr_8, mf_9, rd_9 hp, sh_9 hp, wr_9 hp, mf_10, rd_10 hp, sh_10 hp, wr_10 hp, mf_11, rd_11 hp, sh_11 hp, wr_11 hp, mf_12, rd_12 hp, sh_12 hp, wr_12 hp, mf_13, rd_13 hp, sh_13 hp, wr_13 hp, mf_14, wr_14, mf_15, wr_15, mf_16, mf_17, wr_17, mf_18, wr_18, mf_19, wr_19, mf_20, rd_20 hp, sh_20 hp, wr_20 hp, mf_21, wr_21, mf_22, rd_22 hp, sh_22 hp, wr_22 hp, mf_23, rd_23 hp, sh_23 hp, wr_23 hp, mf_24, rd_24 hp, sh_24 hp, wr_24 hp, mf_25, wr_25, mf_26, rd_26 hp, sh_26 hp, wr_26 hp, mf_27, rd_27 hp, sh_27 hp, wr_27 hp, mf_28, rd_28 hp, sh_28 hp, wr_28 hp, mf_29, rd_29 hp, sh_29 hp, wr_29 hp, mf_30, wr_30, mf_31, rd_31 hp, sh_31 hp, wr_31 hp, mf_32, wr_32, mf_33, rd_33 hp, sh_33 hp, wr_33 hp, mf_34, wr_34, mf_35, wr_35, mf_36, rd_36 hp, sh_36 hp, wr_36 hp, mf_37, rd_37 hp, sh_37 hp, wr_37 hp, mf_38, rd_38 hp, sh_38 hp, wr_38 hp, mf_39, rd_39 hp, sh_39 hp, wr_39 hp, mf_40, rd_40 hp, sh_40 hp, wr_40 hp, mf_41, wr_41, mM_p hp, sM_p hp, wM_p hp, sM_o, e1, e2, e3, ht2, hu2, hb, h5, nI_add, tkN]
        · simp only [x157_5, x157_7, x157_10, x157_13, x157_15, x157_18, x157_19, x157_21, x157_22, x157_24, x157_25, x157_28, x157_30, x157_33, x157_34, x157_37, x157_39, x157_40, x157_41, x157_44, x157_45, x157_48, x157_49, x157_50, bnd_some, Option.toList_some, Option.toList_none, List.cons_append, List.nil_append, List.singleton_append, clr_i, clr_r, clr_n, clr_0, clr_q, clr_l, isR_r, isR_n, isR_q, cat1_i, cat1_r, b0, b1, if_true, if_false, not_true, not_false_eq_true, reduceCtorEq, ite_self, and_true, true_and, and_false, false_and, or_true, true_or, or_false, false_or, mf_0, wr_0, mf_1, wr_1, mf_2, rd_2 hp, sh_2 hp, wr_2 hp, mf_3, rd_3 hp, sh_3 hp, wr_3 hp, mf_4, rd_4 hp, sh_4 hp, wr_4 hp, mf_5, rd_5 hp, sh_5 hp, wr_5 hp, mf_6, rd_6 hp, sh_6 hp, wr_6 hp, mf_7, rd_7 hp, sh_7 hp, wr_7 hp, mf_8, wr_8, mf_9, rd_9 hp, sh_9 hp, wr_9 hp, mf_10, rd_10 hp, sh_10 hp, wr_10 hp, mf_11, rd_11 hp, sh_11 hp, wr_11 hp, mf_12, rd_12 hp, sh_12 hp, wr_12 hp, mf_13, rd_13 hp, sh_13 hp, wr_13 hp, mf_14, wr_14, mf_15, wr_15, mf_16, mf_17, wr_17, mf_18, wr_18, mf_19, wr_19, mf_20, rd_20 hp, sh_20 hp, wr_20 hp, mf_21, wr_21, mf_22, rd_22 hp, sh_22 hp, wr_22 hp, mf_23, rd_23 hp, sh_23 hp, wr_23 hp, mf_24, rd_24 hp, sh_24 hp, wr_24 hp, mf_25, wr_25, mf_26, rd_26 hp, sh_26 hp, wr_26 hp, mf_27, rd_27 hp, sh_27 hp, wr_27 hp, mf_28, rd_28 hp, sh_28 hp, wr_28 hp, mf_29, rd_29 hp, sh_29 hp, wr_29 hp, mf_30, wr_30, mf_31, rd_31 hp, sh_31 hp, wr_31 hp, mf_32, wr_32, mf_33, rd_33 hp, sh_33 hp, wr_33 hp, mf_34, wr_34, mf_35, wr_35, mf_36, rd_36 hp, sh_36 hp, wr_36 hp, mf_37, rd_37 hp, sh_37 hp, wr_37 hp, mf_38, rd_38 hp, sh_38 hp, wr_38 hp, mf_39, rd_39 hp, sh_39 hp, wr_39 hp, mf_40, rd_40 hp, sh_40 hp, wr_40 hp, mf_41, wr_41, mM_p hp, sM_p hp, wM_p hp, sM_o, e1, e2, e3, ht2, hu2, hb, h5, nI_add, tkN]
    rw [e7, e6, e4]
    cases hv : par S u with
    | none => rfl
    | some v =>
      rw [hv] at hu3
      simp only
      rw [ih v _ _ hu3, Nat.add_assoc]
theorem m157 {h : Int32} {r t : Nat} (hp : Op o p) (ht : t < 200) (hR : R ≤ 12) (hT : T ≤ 200) (hr : rowI R T S h = some r) (wt : Wtrm S T) : ex d 157 0 [some (.ref o), some (.int h), some (.int (nI t)), none, none, none] [] (mM o p S m0, sM o p pl s0, n, k) = some (some (.int (nI (if r < 200 then upW S 8 t r else 0))), (mM o p S m0, sM o p pl s0, n, k)) := by
  rcases rowI_inv hR hT hr with ⟨h1, h2, h3⟩ | ⟨h1, h2, h3⟩
  · rw [if_pos (by omega), h2]
    simp only [x157_0, x157_1, x157_2, x157_3, bnd_some, Option.toList_some, Option.toList_none, List.cons_append, List.nil_append, List.singleton_append, clr_i, clr_r, clr_n, clr_0, clr_q, clr_l, isR_r, isR_n, isR_q, cat1_i, cat1_r, b0, b1, if_true, if_false, not_true, not_false_eq_true, reduceCtorEq, ite_self, and_true, true_and, and_false, false_and, or_true, true_or, or_false, false_or]
    rw [m157_loop hp ht 8 r 0 none (wt r h1), Nat.zero_add]
  · rw [if_neg (by omega), h3]
    have h4 : nI (r - 200) < nI 1000 := by rw [nI_ltI (by omega) (by omega)]; omega
    simp only [x157_0, x157_1, x157_2, x157_3, x157_5, x157_7, x157_10, x157_78, x157_79, bnd_some, Option.toList_some, Option.toList_none, List.cons_append, List.nil_append, List.singleton_append, clr_i, clr_r, clr_n, clr_0, clr_q, clr_l, isR_r, isR_n, isR_q, cat1_i, cat1_r, b0, b1, if_true, if_false, not_true, not_false_eq_true, reduceCtorEq, ite_self, and_true, true_and, and_false, false_and, or_true, true_or, or_false, false_or, h4]
theorem m158_in {t : Nat} {l2 : Option Value} {l3 : Int32} (hp : Op o p) (ht : t < 200) : ∀ f a c, trm S f a → ∃ b e, ex d 158 34 [some (.ref o), some (.int (nI t)), l2, some (.int l3), some (.int (nI c)), some (.int (nI a)), some (.int (nI 1))] [] (mM o p S m0, sM o p pl s0, n, k) = ex d 158 123 [some (.ref o), some (.int (nI t)), l2, some (.int l3), some (.int (nI e)), some (.int (nI b)), some (.int (nI 0))] [] (mM o p S m0, sM o p pl s0, n, k) ∧ b < 200 ∧ c ≤ e ∧ e ≤ c + f ∧ (b = t → dn S f t a = some (e - c)) ∧ (b ≠ t → dn S f t a = none) := by
  intro f
  induction f with
  | zero => intro u c h; exact absurd h (by simp [trm])
  | succ f ih =>
    intro a c ha
    unfold trm at ha
    obtain ⟨ha2, ha3⟩ := ha
    have hb : a < 2147483648 := by omega
    have h10 : ¬ nI 1 = 0 := by decide
    have h00 : nI 0 = 0 := rfl
    have htk : tkN S a ≤ 1 := by unfold tkN; split <;> omega
    have hat : (nI a = nI t) ↔ a = t := nI_eq hb (by omega)
    have e1 : ex d 158 34 [some (.ref o), some (.int (nI t)), l2, some (.int l3), some (.int (nI c)), some (.int (nI a)), some (.int (nI 1))] [] (mM o p S m0, sM o p pl s0, n, k) = ex d 158 60 [some (.ref o), some (.int (nI t)), l2, some (.int l3), some (.int (nI (c + tkN S a))), some (.int (nI a)), some (.int (nI 1))] [] (mM o p S m0, sM o p pl s0, n, k) := by
      by_cases h5 : S 2 a = nI 5
      · simp only [x158_34, x158_36, x158_39, x158_41, x158_42, x158_45, x158_47, x158_48, x158_49, x158_52, x158_53, x158_56, x158_57, x158_58, bnd_some, Option.toList_some, Option.toList_none, List.cons_append, List.nil_append, List.singleton_append, clr_i, clr_r, clr_n, clr_0, clr_q, clr_l, isR_r, isR_n, isR_q, cat1_i, cat1_r, b0, b1, if_true, if_false, not_true, not_false_eq_true, reduceCtorEq, ite_self, and_true, true_and, and_false, false_and, or_true, true_or, or_false, false_or, mf_0, wr_0, mf_1, wr_1, mf_2, rd_2 hp, sh_2 hp, wr_2 hp, mf_3, rd_3 hp, sh_3 hp, wr_3 hp, mf_4, rd_4 hp, sh_4 hp, wr_4 hp, mf_5, rd_5 hp, sh_5 hp, wr_5 hp, mf_6, rd_6 hp, sh_6 hp, wr_6 hp, mf_7, rd_7 hp, sh_7 hp, wr_7 hp, mf_8, wr_8, mf_9, rd_9 hp, sh_9 hp, wr_9 hp, mf_10, rd_10 hp, sh_10 hp, wr_10 hp, mf_11, rd_11 hp, sh_11 hp, wr_11 hp, mf_12, rd_12 hp, sh_12 hp, wr_12 hp, mf_13, rd_13 hp, sh_13 hp, wr_13 hp, mf_14, wr_14, mf_15, wr_15, mf_16, mf_17, wr_17, mf_18, wr_18, mf_19, wr_19, mf_20, rd_20 hp, sh_20 hp, wr_20 hp, mf_21, wr_21, mf_22, rd_22 hp, sh_22 hp, wr_22 hp, mf_23, rd_23 hp, sh_23 hp, wr_23 hp, mf_24, rd_24 hp, sh_24 hp, wr_24 hp, mf_25, wr_25, mf_26, rd_26 hp, sh_26 hp, wr_26 hp, mf_27, rd_27 hp, sh_27 hp, wr_27 hp, mf_28, rd_28 hp, sh_28 hp, wr_28 hp, mf_29, rd_29 hp, sh_29 hp, wr_29 hp, mf_30, wr_30, mf_31, rd_31 hp, sh_31 hp, wr_31 hp, mf_32, wr_32, mf_33, rd_33 hp, sh_33 hp, wr_33 hp, mf_34, wr_34, mf_35, wr_35, mf_36, rd_36 hp, sh_36 hp, wr_36 hp, mf_37, rd_37 hp, sh_37 hp, wr_37 hp, mf_38, rd_38 hp, sh_38 hp, wr_38 hp, mf_39, rd_39 hp, sh_39 hp, wr_39 hp, mf_40, rd_40 hp, sh_40 hp, wr_40 hp, mf_41, wr_41, mM_p hp, sM_p hp, wM_p hp, sM_o, h10, ha2, hb, h5, nI_add, tkN]
      · simp only [x158_34, x158_36, x158_39, x158_41, x158_42, x158_45, x158_47, x158_48, x158_49, x158_52, x158_53, x158_56, x158_57, x158_58, bnd_some, Option.toList_some, Option.toList_none, List.cons_append, List.nil_append, List.singleton_append, clr_i, clr_r, clr_n, clr_0, clr_q, clr_l, isR_r, isR_n, isR_q, cat1_i, cat1_r, b0, b1, if_true, if_false, not_true, not_false_eq_true, reduceCtorEq, ite_self, and_true, true_and, and_false, false_and, or_true, true_or, or_false, false_or, mf_0, wr_0, mf_1, wr_1, mf_2, rd_2 hp, sh_2 hp, wr_2 hp, mf_3, rd_3 hp, sh_3 hp, wr_3 hp, mf_4, rd_4 hp, sh_4 hp, wr_4 hp, mf_5, rd_5 hp, sh_5 hp, wr_5 hp, mf_6, rd_6 hp, sh_6 hp, wr_6 hp, mf_7, rd_7 hp, sh_7 hp, wr_7 hp, mf_8, wr_8, mf_9, rd_9 hp, sh_9 hp, wr_9 hp, mf_10, rd_10 hp, sh_10 hp, wr_10 hp, mf_11, rd_11 hp, sh_11 hp, wr_11 hp, mf_12, rd_12 hp, sh_12 hp, wr_12 hp, mf_13, rd_13 hp, sh_13 hp, wr_13 hp, mf_14, wr_14, mf_15, wr_15, mf_16, mf_17, wr_17, mf_18, wr_18, mf_19, wr_19, mf_20, rd_20 hp, sh_20 hp, wr_20 hp, mf_21, wr_21, mf_22, rd_22 hp, sh_22 hp, wr_22 hp, mf_23, rd_23 hp, sh_23 hp, wr_23 hp, mf_24, rd_24 hp, sh_24 hp, wr_24 hp, mf_25, wr_25, mf_26, rd_26 hp, sh_26 hp, wr_26 hp, mf_27, rd_27 hp, sh_27 hp, wr_27 hp, mf_28, rd_28 hp, sh_28 hp, wr_28 hp, mf_29, rd_29 hp, sh_29 hp, wr_29 hp, mf_30, wr_30, mf_31, rd_31 hp, sh_31 hp, wr_31 hp, mf_32, wr_32, mf_33, rd_33 hp, sh_33 hp, wr_33 hp, mf_34, wr_34, mf_35, wr_35, mf_36, rd_36 hp, sh_36 hp, wr_36 hp, mf_37, rd_37 hp, sh_37 hp, wr_37 hp, mf_38, rd_38 hp, sh_38 hp, wr_38 hp, mf_39, rd_39 hp, sh_39 hp, wr_39 hp, mf_40, rd_40 hp, sh_40 hp, wr_40 hp, mf_41, wr_41, mM_p hp, sM_p hp, wM_p hp, sM_o, h10, ha2, hb, h5, nI_add, tkN]
    rw [e1]
    by_cases h : a = t
    · refine ⟨a, c + tkN S a, ?_, ha2, by omega, by omega, fun _ => ?_, fun q => absurd h q⟩
      · subst h
        simp only [x158_34, x158_36, x158_60, x158_62, x158_63, x158_66, x158_67, x158_70, x158_72, x158_73, x158_74, x158_77, x158_78, x158_81, x158_83, x158_84, x158_87, x158_90, x158_91, x158_94, x158_95, x158_97, x158_99, x158_102, x158_103, x158_106, x158_108, x158_109, x158_112, x158_113, x158_116, x158_118, x158_120, bnd_some, Option.toList_some, Option.toList_none, List.cons_append, List.nil_append, List.singleton_append, clr_i, clr_r, clr_n, clr_0, clr_q, clr_l, isR_r, isR_n, isR_q, cat1_i, cat1_r, b0, b1, if_true, if_false, not_true, not_false_eq_true, reduceCtorEq, ite_self, and_true, true_and, and_false, false_and, or_true, true_or, or_false, false_or, mf_0, wr_0, mf_1, wr_1, mf_2, rd_2 hp, sh_2 hp, wr_2 hp, mf_3, rd_3 hp, sh_3 hp, wr_3 hp, mf_4, rd_4 hp, sh_4 hp, wr_4 hp, mf_5, rd_5 hp, sh_5 hp, wr_5 hp, mf_6, rd_6 hp, sh_6 hp, wr_6 hp, mf_7, rd_7 hp, sh_7 hp, wr_7 hp, mf_8, wr_8, mf_9, rd_9 hp, sh_9 hp, wr_9 hp, mf_10, rd_10 hp, sh_10 hp, wr_10 hp, mf_11, rd_11 hp, sh_11 hp, wr_11 hp, mf_12, rd_12 hp, sh_12 hp, wr_12 hp, mf_13, rd_13 hp, sh_13 hp, wr_13 hp, mf_14, wr_14, mf_15, wr_15, mf_16, mf_17, wr_17, mf_18, wr_18, mf_19, wr_19, mf_20, rd_20 hp, sh_20 hp, wr_20 hp, mf_21, wr_21, mf_22, rd_22 hp, sh_22 hp, wr_22 hp, mf_23, rd_23 hp, sh_23 hp, wr_23 hp, mf_24, rd_24 hp, sh_24 hp, wr_24 hp, mf_25, wr_25, mf_26, rd_26 hp, sh_26 hp, wr_26 hp, mf_27, rd_27 hp, sh_27 hp, wr_27 hp, mf_28, rd_28 hp, sh_28 hp, wr_28 hp, mf_29, rd_29 hp, sh_29 hp, wr_29 hp, mf_30, wr_30, mf_31, rd_31 hp, sh_31 hp, wr_31 hp, mf_32, wr_32, mf_33, rd_33 hp, sh_33 hp, wr_33 hp, mf_34, wr_34, mf_35, wr_35, mf_36, rd_36 hp, sh_36 hp, wr_36 hp, mf_37, rd_37 hp, sh_37 hp, wr_37 hp, mf_38, rd_38 hp, sh_38 hp, wr_38 hp, mf_39, rd_39 hp, sh_39 hp, wr_39 hp, mf_40, rd_40 hp, sh_40 hp, wr_40 hp, mf_41, wr_41, mM_p hp, sM_p hp, wM_p hp, sM_o, h00]
      · unfold dn
        rw [if_pos h]
        congr 1
        omega
    · cases hv : par S a with
      | none =>
        refine ⟨a, c + tkN S a, ?_, ha2, by omega, by omega, fun q => absurd q h, fun _ => ?_⟩
        · have hn := par_none hv
          by_cases h3 : S 3 a = nI 1
          · have h4 : S 4 a < nI 1000 := Int32.not_le.mp (fun z => hn ⟨h3, z⟩)
            simp only [x158_34, x158_36, x158_60, x158_62, x158_63, x158_66, x158_67, x158_70, x158_72, x158_73, x158_74, x158_77, x158_78, x158_81, x158_83, x158_84, x158_87, x158_90, x158_91, x158_94, x158_95, x158_97, x158_99, x158_102, x158_103, x158_106, x158_108, x158_109, x158_112, x158_113, x158_116, x158_118, x158_120, bnd_some, Option.toList_some, Option.toList_none, List.cons_append, List.nil_append, List.singleton_append, clr_i, clr_r, clr_n, clr_0, clr_q, clr_l, isR_r, isR_n, isR_q, cat1_i, cat1_r, b0, b1, if_true, if_false, not_true, not_false_eq_true, reduceCtorEq, ite_self, and_true, true_and, and_false, false_and, or_true, true_or, or_false, false_or, mf_0, wr_0, mf_1, wr_1, mf_2, rd_2 hp, sh_2 hp, wr_2 hp, mf_3, rd_3 hp, sh_3 hp, wr_3 hp, mf_4, rd_4 hp, sh_4 hp, wr_4 hp, mf_5, rd_5 hp, sh_5 hp, wr_5 hp, mf_6, rd_6 hp, sh_6 hp, wr_6 hp, mf_7, rd_7 hp, sh_7 hp, wr_7 hp, mf_8, wr_8, mf_9, rd_9 hp, sh_9 hp, wr_9 hp, mf_10, rd_10 hp, sh_10 hp, wr_10 hp, mf_11, rd_11 hp, sh_11 hp, wr_11 hp, mf_12, rd_12 hp, sh_12 hp, wr_12 hp, mf_13, rd_13 hp, sh_13 hp, wr_13 hp, mf_14, wr_14, mf_15, wr_15, mf_16, mf_17, wr_17, mf_18, wr_18, mf_19, wr_19, mf_20, rd_20 hp, sh_20 hp, wr_20 hp, mf_21, wr_21, mf_22, rd_22 hp, sh_22 hp, wr_22 hp, mf_23, rd_23 hp, sh_23 hp, wr_23 hp, mf_24, rd_24 hp, sh_24 hp, wr_24 hp, mf_25, wr_25, mf_26, rd_26 hp, sh_26 hp, wr_26 hp, mf_27, rd_27 hp, sh_27 hp, wr_27 hp, mf_28, rd_28 hp, sh_28 hp, wr_28 hp, mf_29, rd_29 hp, sh_29 hp, wr_29 hp, mf_30, wr_30, mf_31, rd_31 hp, sh_31 hp, wr_31 hp, mf_32, wr_32, mf_33, rd_33 hp, sh_33 hp, wr_33 hp, mf_34, wr_34, mf_35, wr_35, mf_36, rd_36 hp, sh_36 hp, wr_36 hp, mf_37, rd_37 hp, sh_37 hp, wr_37 hp, mf_38, rd_38 hp, sh_38 hp, wr_38 hp, mf_39, rd_39 hp, sh_39 hp, wr_39 hp, mf_40, rd_40 hp, sh_40 hp, wr_40 hp, mf_41, wr_41, mM_p hp, sM_p hp, wM_p hp, sM_o, h00, hat, h, ha2, hb, h3, h4]
          · simp only [x158_34, x158_36, x158_60, x158_62, x158_63, x158_66, x158_67, x158_70, x158_72, x158_73, x158_74, x158_77, x158_78, x158_81, x158_83, x158_84, x158_87, x158_90, x158_91, x158_94, x158_95, x158_97, x158_99, x158_102, x158_103, x158_106, x158_108, x158_109, x158_112, x158_113, x158_116, x158_118, x158_120, bnd_some, Option.toList_some, Option.toList_none, List.cons_append, List.nil_append, List.singleton_append, clr_i, clr_r, clr_n, clr_0, clr_q, clr_l, isR_r, isR_n, isR_q, cat1_i, cat1_r, b0, b1, if_true, if_false, not_true, not_false_eq_true, reduceCtorEq, ite_self, and_true, true_and, and_false, false_and, or_true, true_or, or_false, false_or, mf_0, wr_0, mf_1, wr_1, mf_2, rd_2 hp, sh_2 hp, wr_2 hp, mf_3, rd_3 hp, sh_3 hp, wr_3 hp, mf_4, rd_4 hp, sh_4 hp, wr_4 hp, mf_5, rd_5 hp, sh_5 hp, wr_5 hp, mf_6, rd_6 hp, sh_6 hp, wr_6 hp, mf_7, rd_7 hp, sh_7 hp, wr_7 hp, mf_8, wr_8, mf_9, rd_9 hp, sh_9 hp, wr_9 hp, mf_10, rd_10 hp, sh_10 hp, wr_10 hp, mf_11, rd_11 hp, sh_11 hp, wr_11 hp, mf_12, rd_12 hp, sh_12 hp, wr_12 hp, mf_13, rd_13 hp, sh_13 hp, wr_13 hp, mf_14, wr_14, mf_15, wr_15, mf_16, mf_17, wr_17, mf_18, wr_18, mf_19, wr_19, mf_20, rd_20 hp, sh_20 hp, wr_20 hp, mf_21, wr_21, mf_22, rd_22 hp, sh_22 hp, wr_22 hp, mf_23, rd_23 hp, sh_23 hp, wr_23 hp, mf_24, rd_24 hp, sh_24 hp, wr_24 hp, mf_25, wr_25, mf_26, rd_26 hp, sh_26 hp, wr_26 hp, mf_27, rd_27 hp, sh_27 hp, wr_27 hp, mf_28, rd_28 hp, sh_28 hp, wr_28 hp, mf_29, rd_29 hp, sh_29 hp, wr_29 hp, mf_30, wr_30, mf_31, rd_31 hp, sh_31 hp, wr_31 hp, mf_32, wr_32, mf_33, rd_33 hp, sh_33 hp, wr_33 hp, mf_34, wr_34, mf_35, wr_35, mf_36, rd_36 hp, sh_36 hp, wr_36 hp, mf_37, rd_37 hp, sh_37 hp, wr_37 hp, mf_38, rd_38 hp, sh_38 hp, wr_38 hp, mf_39, rd_39 hp, sh_39 hp, wr_39 hp, mf_40, rd_40 hp, sh_40 hp, wr_40 hp, mf_41, wr_41, mM_p hp, sM_p hp, wM_p hp, sM_o, h00, hat, h, ha2, hb, h3]
        · unfold dn
          rw [if_neg h, hv]
      | some v =>
        obtain ⟨h3, h4, h5⟩ := par_some hv
        rw [hv] at ha3
        obtain ⟨b, e, q1, q2, q3, q4, q5, q6⟩ := ih v (c + tkN S a) ha3
        have h6 : ¬ nI (1000 + v) < nI 1000 := by rw [nI_ltI (by omega) (by omega)]; omega
        have e2 : nI (1000 + v) - nI 1000 = nI v := by rw [pk_sub (by omega)]; exact congrArg nI (by omega)
        refine ⟨b, e, ?_, q2, by omega, by omega, fun z => ?_, fun z => ?_⟩
        · rw [← q1]
          simp only [x158_60, x158_62, x158_63, x158_66, x158_67, x158_70, x158_72, x158_73, x158_74, x158_77, x158_78, x158_81, x158_83, x158_84, x158_87, x158_90, x158_91, x158_94, x158_95, x158_97, x158_99, x158_102, x158_103, x158_106, x158_108, x158_109, x158_112, x158_113, x158_116, x158_118, x158_120, bnd_some, Option.toList_some, Option.toList_none, List.cons_append, List.nil_append, List.singleton_append, clr_i, clr_r, clr_n, clr_0, clr_q, clr_l, isR_r, isR_n, isR_q, cat1_i, cat1_r, b0, b1, if_true, if_false, not_true, not_false_eq_true, reduceCtorEq, ite_self, and_true, true_and, and_false, false_and, or_true, true_or, or_false, false_or, mf_0, wr_0, mf_1, wr_1, mf_2, rd_2 hp, sh_2 hp, wr_2 hp, mf_3, rd_3 hp, sh_3 hp, wr_3 hp, mf_4, rd_4 hp, sh_4 hp, wr_4 hp, mf_5, rd_5 hp, sh_5 hp, wr_5 hp, mf_6, rd_6 hp, sh_6 hp, wr_6 hp, mf_7, rd_7 hp, sh_7 hp, wr_7 hp, mf_8, wr_8, mf_9, rd_9 hp, sh_9 hp, wr_9 hp, mf_10, rd_10 hp, sh_10 hp, wr_10 hp, mf_11, rd_11 hp, sh_11 hp, wr_11 hp, mf_12, rd_12 hp, sh_12 hp, wr_12 hp, mf_13, rd_13 hp, sh_13 hp, wr_13 hp, mf_14, wr_14, mf_15, wr_15, mf_16, mf_17, wr_17, mf_18, wr_18, mf_19, wr_19, mf_20, rd_20 hp, sh_20 hp, wr_20 hp, mf_21, wr_21, mf_22, rd_22 hp, sh_22 hp, wr_22 hp, mf_23, rd_23 hp, sh_23 hp, wr_23 hp, mf_24, rd_24 hp, sh_24 hp, wr_24 hp, mf_25, wr_25, mf_26, rd_26 hp, sh_26 hp, wr_26 hp, mf_27, rd_27 hp, sh_27 hp, wr_27 hp, mf_28, rd_28 hp, sh_28 hp, wr_28 hp, mf_29, rd_29 hp, sh_29 hp, wr_29 hp, mf_30, wr_30, mf_31, rd_31 hp, sh_31 hp, wr_31 hp, mf_32, wr_32, mf_33, rd_33 hp, sh_33 hp, wr_33 hp, mf_34, wr_34, mf_35, wr_35, mf_36, rd_36 hp, sh_36 hp, wr_36 hp, mf_37, rd_37 hp, sh_37 hp, wr_37 hp, mf_38, rd_38 hp, sh_38 hp, wr_38 hp, mf_39, rd_39 hp, sh_39 hp, wr_39 hp, mf_40, rd_40 hp, sh_40 hp, wr_40 hp, mf_41, wr_41, mM_p hp, sM_p hp, wM_p hp, sM_o, h10, hat, h, ha2, hb, h3, h4, h6, e2]
        · unfold dn
          rw [if_neg h, hv]
          simp only
          rw [q5 z]
          simp only
          congr 1
          omega
        · unfold dn
          rw [if_neg h, hv]
          simp only
          rw [q6 z]
theorem m158_out {t : Nat} (hp : Op o p) (ht : t < 200) (hT : S 1 0 = nI T) (hT2 : T ≤ 200) (wt : Wtrm S T) : ∀ r x l4 l5 l6, x + r = T → ex d 158 4 [some (.ref o), some (.int (nI t)), some (.int (nI (dnM S 8 t x))), some (.int (nI x)), l4, l5, l6] [] (mM o p S m0, sM o p pl s0, n, k) = some (some (.int (nI (dnM S 8 t T))), (mM o p S m0, sM o p pl s0, n, k)) := by
  intro r
  induction r with
  | zero =>
    intro x l4 l5 l6 hx
    have e : x = T := by omega
    subst e
    have h1 : nI x ≤ nI x := nI_le (Nat.le_refl _) (by omega)
    simp only [x158_4, x158_5, x158_6, x158_9, x158_148, x158_149, bnd_some, Option.toList_some, Option.toList_none, List.cons_append, List.nil_append, List.singleton_append, clr_i, clr_r, clr_n, clr_0, clr_q, clr_l, isR_r, isR_n, isR_q, cat1_i, cat1_r, b0, b1, if_true, if_false, not_true, not_false_eq_true, reduceCtorEq, ite_self, and_true, true_and, and_false, false_and, or_true, true_or, or_false, false_or, mf_0, wr_0, mf_1, wr_1, mf_2, rd_2 hp, sh_2 hp, wr_2 hp, mf_3, rd_3 hp, sh_3 hp, wr_3 hp, mf_4, rd_4 hp, sh_4 hp, wr_4 hp, mf_5, rd_5 hp, sh_5 hp, wr_5 hp, mf_6, rd_6 hp, sh_6 hp, wr_6 hp, mf_7, rd_7 hp, sh_7 hp, wr_7 hp, mf_8, wr_8, mf_9, rd_9 hp, sh_9 hp, wr_9 hp, mf_10, rd_10 hp, sh_10 hp, wr_10 hp, mf_11, rd_11 hp, sh_11 hp, wr_11 hp, mf_12, rd_12 hp, sh_12 hp, wr_12 hp, mf_13, rd_13 hp, sh_13 hp, wr_13 hp, mf_14, wr_14, mf_15, wr_15, mf_16, mf_17, wr_17, mf_18, wr_18, mf_19, wr_19, mf_20, rd_20 hp, sh_20 hp, wr_20 hp, mf_21, wr_21, mf_22, rd_22 hp, sh_22 hp, wr_22 hp, mf_23, rd_23 hp, sh_23 hp, wr_23 hp, mf_24, rd_24 hp, sh_24 hp, wr_24 hp, mf_25, wr_25, mf_26, rd_26 hp, sh_26 hp, wr_26 hp, mf_27, rd_27 hp, sh_27 hp, wr_27 hp, mf_28, rd_28 hp, sh_28 hp, wr_28 hp, mf_29, rd_29 hp, sh_29 hp, wr_29 hp, mf_30, wr_30, mf_31, rd_31 hp, sh_31 hp, wr_31 hp, mf_32, wr_32, mf_33, rd_33 hp, sh_33 hp, wr_33 hp, mf_34, wr_34, mf_35, wr_35, mf_36, rd_36 hp, sh_36 hp, wr_36 hp, mf_37, rd_37 hp, sh_37 hp, wr_37 hp, mf_38, rd_38 hp, sh_38 hp, wr_38 hp, mf_39, rd_39 hp, sh_39 hp, wr_39 hp, mf_40, rd_40 hp, sh_40 hp, wr_40 hp, mf_41, wr_41, mM_p hp, sM_p hp, wM_p hp, sM_o, hT, h1]
  | succ r ih =>
    intro x l4 l5 l6 hx
    have h1 : ¬ nI T ≤ nI x := nI_ge (by omega) (by omega)
    have hx2 : x < 200 := by omega
    have hb : x < 2147483648 := by omega
    by_cases h5 : S 2 x = nI 5
    · obtain ⟨b, e, q1, q2, q3, q4, q5, q6⟩ := m158_in (d := d) (o := o) (p := p) (pl := pl) (n := n) (k := k) (m0 := m0) (s0 := s0) (S := S) (t := t) (l2 := some (.int (nI (dnM S 8 t x)))) (l3 := nI x) hp ht 8 x 0 (wt x (by omega))
      simp only [x158_4, x158_5, x158_6, x158_9, x158_12, x158_13, x158_16, x158_17, x158_18, x158_19, x158_22, x158_25, x158_26, x158_28, x158_29, x158_31, x158_32, bnd_some, Option.toList_some, Option.toList_none, List.cons_append, List.nil_append, List.singleton_append, clr_i, clr_r, clr_n, clr_0, clr_q, clr_l, isR_r, isR_n, isR_q, cat1_i, cat1_r, b0, b1, if_true, if_false, not_true, not_false_eq_true, reduceCtorEq, ite_self, and_true, true_and, and_false, false_and, or_true, true_or, or_false, false_or, mf_0, wr_0, mf_1, wr_1, mf_2, rd_2 hp, sh_2 hp, wr_2 hp, mf_3, rd_3 hp, sh_3 hp, wr_3 hp, mf_4, rd_4 hp, sh_4 hp, wr_4 hp, mf_5, rd_5 hp, sh_5 hp, wr_5 hp, mf_6, rd_6 hp, sh_6 hp, wr_6 hp, mf_7, rd_7 hp, sh_7 hp, wr_7 hp, mf_8, wr_8, mf_9, rd_9 hp, sh_9 hp, wr_9 hp, mf_10, rd_10 hp, sh_10 hp, wr_10 hp, mf_11, rd_11 hp, sh_11 hp, wr_11 hp, mf_12, rd_12 hp, sh_12 hp, wr_12 hp, mf_13, rd_13 hp, sh_13 hp, wr_13 hp, mf_14, wr_14, mf_15, wr_15, mf_16, mf_17, wr_17, mf_18, wr_18, mf_19, wr_19, mf_20, rd_20 hp, sh_20 hp, wr_20 hp, mf_21, wr_21, mf_22, rd_22 hp, sh_22 hp, wr_22 hp, mf_23, rd_23 hp, sh_23 hp, wr_23 hp, mf_24, rd_24 hp, sh_24 hp, wr_24 hp, mf_25, wr_25, mf_26, rd_26 hp, sh_26 hp, wr_26 hp, mf_27, rd_27 hp, sh_27 hp, wr_27 hp, mf_28, rd_28 hp, sh_28 hp, wr_28 hp, mf_29, rd_29 hp, sh_29 hp, wr_29 hp, mf_30, wr_30, mf_31, rd_31 hp, sh_31 hp, wr_31 hp, mf_32, wr_32, mf_33, rd_33 hp, sh_33 hp, wr_33 hp, mf_34, wr_34, mf_35, wr_35, mf_36, rd_36 hp, sh_36 hp, wr_36 hp, mf_37, rd_37 hp, sh_37 hp, wr_37 hp, mf_38, rd_38 hp, sh_38 hp, wr_38 hp, mf_39, rd_39 hp, sh_39 hp, wr_39 hp, mf_40, rd_40 hp, sh_40 hp, wr_40 hp, mf_41, wr_41, mM_p hp, sM_p hp, wM_p hp, sM_o, hT, h1, hx2, hb, h5]
      rw [q1]
      have hbt : (nI b = nI t) ↔ b = t := nI_eq (by omega) (by omega)
      have hle : (nI e ≤ nI (dnM S 8 t x)) ↔ e ≤ dnM S 8 t x := nI_leI (by omega) (by have := dnM_le (S := S) (f := 8) (t := t) x; omega)
      by_cases h : b = t
      · by_cases h2 : e ≤ dnM S 8 t x
        · have e8 : dnM S 8 t (x + 1) = dnM S 8 t x := by
            rw [dnM, if_pos h5, q5 h]
            simp only
            rw [if_neg (by omega)]
          simp only [x158_123, x158_125, x158_126, x158_129, x158_131, x158_132, x158_135, x158_137, x158_140, x158_141, x158_142, x158_145, bnd_some, Option.toList_some, Option.toList_none, List.cons_append, List.nil_append, List.singleton_append, clr_i, clr_r, clr_n, clr_0, clr_q, clr_l, isR_r, isR_n, isR_q, cat1_i, cat1_r, b0, b1, if_true, if_false, not_true, not_false_eq_true, reduceCtorEq, ite_self, and_true, true_and, and_false, false_and, or_true, true_or, or_false, false_or, hbt, h, hle, h2, nI_add]
          rw [← e8]
          exact ih (x + 1) _ _ _ (by omega)
        · have e8 : dnM S 8 t (x + 1) = e := by
            rw [dnM, if_pos h5, q5 h]
            simp only
            rw [if_pos (by omega)]
            omega
          simp only [x158_123, x158_125, x158_126, x158_129, x158_131, x158_132, x158_135, x158_137, x158_140, x158_141, x158_142, x158_145, bnd_some, Option.toList_some, Option.toList_none, List.cons_append, List.nil_append, List.singleton_append, clr_i, clr_r, clr_n, clr_0, clr_q, clr_l, isR_r, isR_n, isR_q, cat1_i, cat1_r, b0, b1, if_true, if_false, not_true, not_false_eq_true, reduceCtorEq, ite_self, and_true, true_and, and_false, false_and, or_true, true_or, or_false, false_or, hbt, h, hle, h2, nI_add]
          rw [← e8]
          exact ih (x + 1) _ _ _ (by omega)
      · have e8 : dnM S 8 t (x + 1) = dnM S 8 t x := by rw [dnM, if_pos h5, q6 h]
        simp only [x158_123, x158_125, x158_126, x158_129, x158_131, x158_132, x158_135, x158_137, x158_140, x158_141, x158_142, x158_145, bnd_some, Option.toList_some, Option.toList_none, List.cons_append, List.nil_append, List.singleton_append, clr_i, clr_r, clr_n, clr_0, clr_q, clr_l, isR_r, isR_n, isR_q, cat1_i, cat1_r, b0, b1, if_true, if_false, not_true, not_false_eq_true, reduceCtorEq, ite_self, and_true, true_and, and_false, false_and, or_true, true_or, or_false, false_or, hbt, h, nI_add]
        rw [← e8]
        exact ih (x + 1) _ _ _ (by omega)
    · have e8 : dnM S 8 t (x + 1) = dnM S 8 t x := by rw [dnM, if_neg h5]
      simp only [x158_4, x158_5, x158_6, x158_9, x158_12, x158_13, x158_16, x158_17, x158_18, x158_19, x158_22, bnd_some, Option.toList_some, Option.toList_none, List.cons_append, List.nil_append, List.singleton_append, clr_i, clr_r, clr_n, clr_0, clr_q, clr_l, isR_r, isR_n, isR_q, cat1_i, cat1_r, b0, b1, if_true, if_false, not_true, not_false_eq_true, reduceCtorEq, ite_self, and_true, true_and, and_false, false_and, or_true, true_or, or_false, false_or, mf_0, wr_0, mf_1, wr_1, mf_2, rd_2 hp, sh_2 hp, wr_2 hp, mf_3, rd_3 hp, sh_3 hp, wr_3 hp, mf_4, rd_4 hp, sh_4 hp, wr_4 hp, mf_5, rd_5 hp, sh_5 hp, wr_5 hp, mf_6, rd_6 hp, sh_6 hp, wr_6 hp, mf_7, rd_7 hp, sh_7 hp, wr_7 hp, mf_8, wr_8, mf_9, rd_9 hp, sh_9 hp, wr_9 hp, mf_10, rd_10 hp, sh_10 hp, wr_10 hp, mf_11, rd_11 hp, sh_11 hp, wr_11 hp, mf_12, rd_12 hp, sh_12 hp, wr_12 hp, mf_13, rd_13 hp, sh_13 hp, wr_13 hp, mf_14, wr_14, mf_15, wr_15, mf_16, mf_17, wr_17, mf_18, wr_18, mf_19, wr_19, mf_20, rd_20 hp, sh_20 hp, wr_20 hp, mf_21, wr_21, mf_22, rd_22 hp, sh_22 hp, wr_22 hp, mf_23, rd_23 hp, sh_23 hp, wr_23 hp, mf_24, rd_24 hp, sh_24 hp, wr_24 hp, mf_25, wr_25, mf_26, rd_26 hp, sh_26 hp, wr_26 hp, mf_27, rd_27 hp, sh_27 hp, wr_27 hp, mf_28, rd_28 hp, sh_28 hp, wr_28 hp, mf_29, rd_29 hp, sh_29 hp, wr_29 hp, mf_30, wr_30, mf_31, rd_31 hp, sh_31 hp, wr_31 hp, mf_32, wr_32, mf_33, rd_33 hp, sh_33 hp, wr_33 hp, mf_34, wr_34, mf_35, wr_35, mf_36, rd_36 hp, sh_36 hp, wr_36 hp, mf_37, rd_37 hp, sh_37 hp, wr_37 hp, mf_38, rd_38 hp, sh_38 hp, wr_38 hp, mf_39, rd_39 hp, sh_39 hp, wr_39 hp, mf_40, rd_40 hp, sh_40 hp, wr_40 hp, mf_41, wr_41, mM_p hp, sM_p hp, wM_p hp, sM_o, hT, h1, hx2, hb, h5]
      simp only [x158_142, x158_145, bnd_some, Option.toList_some, Option.toList_none, List.cons_append, List.nil_append, List.singleton_append, clr_i, clr_r, clr_n, clr_0, clr_q, clr_l, isR_r, isR_n, isR_q, cat1_i, cat1_r, b0, b1, if_true, if_false, not_true, not_false_eq_true, reduceCtorEq, ite_self, and_true, true_and, and_false, false_and, or_true, true_or, or_false, false_or, nI_add]
      rw [← e8]
      exact ih (x + 1) _ _ _ (by omega)
theorem m158 {t : Nat} (hp : Op o p) (ht : t < 200) (hT : S 1 0 = nI T) (hT2 : T ≤ 200) (wt : Wtrm S T) : ex d 158 0 [some (.ref o), some (.int (nI t)), none, none, none, none, none] [] (mM o p S m0, sM o p pl s0, n, k) = some (some (.int (nI (dnM S 8 t T))), (mM o p S m0, sM o p pl s0, n, k)) := by
  simp only [x158_0, x158_1, x158_2, x158_3, bnd_some, Option.toList_some, Option.toList_none, List.cons_append, List.nil_append, List.singleton_append, clr_i, clr_r, clr_n, clr_0, clr_q, clr_l, isR_r, isR_n, isR_q, cat1_i, cat1_r, b0, b1, if_true, if_false, not_true, not_false_eq_true, reduceCtorEq, ite_self, and_true, true_and, and_false, false_and, or_true, true_or, or_false, false_or]
  exact m158_out hp ht hT hT2 wt T 0 _ _ _ (by omega)
theorem m159 {h : Int32} {r s t : Nat} (hp : Op o p) (w : WfT S T R) (hr : rowI R T S h = some r) (hs : s < 40) (ht : t < T) (wt : Wtrm S T) : ex (d + 2) 159 0 [some (.ref o), some (.int h), some (.int (nI s)), some (.int (nI t))] [] (mM o p S m0, sM o p pl s0, n, k) = some (some (.int (nI (lyF S T r s t))), (mM o p S m0, sM o p pl s0, n, k)) := by
  have hr2 := rowI_lt w.2.2.2 w.2.1 hr
  have ht2 : t < 200 := by have := w.2.1; omega
  have U := m157 (d := d + 1) (o := o) (p := p) (pl := pl) (n := n) (k := k) (m0 := m0) (s0 := s0) (S := S) hp ht2 w.2.2.2 w.2.1 hr wt
  have D := m158 (d := d + 1) (o := o) (p := p) (pl := pl) (n := n) (k := k) (m0 := m0) (s0 := s0) (S := S) hp ht2 w.1 w.2.1 wt
  have hsum : (nI ((if r < 200 then upW S 8 t r else 0) + dnM S 8 t T) ≤ nI 6) ↔ ¬ 6 < (if r < 200 then upW S 8 t r else 0) + dnM S 8 t T := by
    rw [nI_leI ?_ (by omega)]
    · omega
    · have h1 := upW_le (S := S) (t := t) 8 r
      have h2 := dnM_le (S := S) (f := 8) (t := t) T
      split <;> omega
  by_cases h7 : 0 ≤ S 7 (40 * r + s)
  · have h7' : ¬ S 7 (40 * r + s) < 0 := Int32.not_lt.mpr h7
    simp only [x159_0, x159_1, x159_2, x159_3, x159_6, x159_7, x159_10, x159_13, x159_14, bnd_some, Option.toList_some, Option.toList_none, List.cons_append, List.nil_append, List.singleton_append, clr_i, clr_r, clr_n, clr_0, clr_q, clr_l, isR_r, isR_n, isR_q, cat1_i, cat1_r, b0, b1, if_true, if_false, not_true, not_false_eq_true, reduceCtorEq, ite_self, and_true, true_and, and_false, false_and, or_true, true_or, or_false, false_or, mf_0, wr_0, mf_1, wr_1, mf_2, rd_2 hp, sh_2 hp, wr_2 hp, mf_3, rd_3 hp, sh_3 hp, wr_3 hp, mf_4, rd_4 hp, sh_4 hp, wr_4 hp, mf_5, rd_5 hp, sh_5 hp, wr_5 hp, mf_6, rd_6 hp, sh_6 hp, wr_6 hp, mf_7, rd_7 hp, sh_7 hp, wr_7 hp, mf_8, wr_8, mf_9, rd_9 hp, sh_9 hp, wr_9 hp, mf_10, rd_10 hp, sh_10 hp, wr_10 hp, mf_11, rd_11 hp, sh_11 hp, wr_11 hp, mf_12, rd_12 hp, sh_12 hp, wr_12 hp, mf_13, rd_13 hp, sh_13 hp, wr_13 hp, mf_14, wr_14, mf_15, wr_15, mf_16, mf_17, wr_17, mf_18, wr_18, mf_19, wr_19, mf_20, rd_20 hp, sh_20 hp, wr_20 hp, mf_21, wr_21, mf_22, rd_22 hp, sh_22 hp, wr_22 hp, mf_23, rd_23 hp, sh_23 hp, wr_23 hp, mf_24, rd_24 hp, sh_24 hp, wr_24 hp, mf_25, wr_25, mf_26, rd_26 hp, sh_26 hp, wr_26 hp, mf_27, rd_27 hp, sh_27 hp, wr_27 hp, mf_28, rd_28 hp, sh_28 hp, wr_28 hp, mf_29, rd_29 hp, sh_29 hp, wr_29 hp, mf_30, wr_30, mf_31, rd_31 hp, sh_31 hp, wr_31 hp, mf_32, wr_32, mf_33, rd_33 hp, sh_33 hp, wr_33 hp, mf_34, wr_34, mf_35, wr_35, mf_36, rd_36 hp, sh_36 hp, wr_36 hp, mf_37, rd_37 hp, sh_37 hp, wr_37 hp, mf_38, rd_38 hp, sh_38 hp, wr_38 hp, mf_39, rd_39 hp, sh_39 hp, wr_39 hp, mf_40, rd_40 hp, sh_40 hp, wr_40 hp, mf_41, wr_41, mM_p hp, sM_p hp, wM_p hp, sM_o, m140 hp w, hr, opI, m154 hp hr2 hs, h7', h7, lyF]
  · have h7' : S 7 (40 * r + s) < 0 := Int32.not_le.mp h7
    have tail : ex (d + 2) 159 46 [some (.ref o), some (.int h), some (.int (nI s)), some (.int (nI t))] [] (mM o p S m0, sM o p pl s0, n, k) = some (some (.int (nI (if 6 < (if r < 200 then upW S 8 t r else 0) + dnM S 8 t T then 9 else 0))), (mM o p S m0, sM o p pl s0, n, k)) := by
      by_cases h9 : 6 < (if r < 200 then upW S 8 t r else 0) + dnM S 8 t T
      · have hs2 : ¬ nI ((if r < 200 then upW S 8 t r else 0) + dnM S 8 t T) ≤ nI 6 := fun z => hsum.mp z h9
        simp only [x159_46, x159_47, x159_48, x159_49, x159_52, x159_53, x159_54, x159_57, x159_58, x159_60, x159_63, x159_65, x159_68, x159_69, bnd_some, Option.toList_some, Option.toList_none, List.cons_append, List.nil_append, List.singleton_append, clr_i, clr_r, clr_n, clr_0, clr_q, clr_l, isR_r, isR_n, isR_q, cat1_i, cat1_r, b0, b1, if_true, if_false, not_true, not_false_eq_true, reduceCtorEq, ite_self, and_true, true_and, and_false, false_and, or_true, true_or, or_false, false_or, mf_0, wr_0, mf_1, wr_1, mf_2, rd_2 hp, sh_2 hp, wr_2 hp, mf_3, rd_3 hp, sh_3 hp, wr_3 hp, mf_4, rd_4 hp, sh_4 hp, wr_4 hp, mf_5, rd_5 hp, sh_5 hp, wr_5 hp, mf_6, rd_6 hp, sh_6 hp, wr_6 hp, mf_7, rd_7 hp, sh_7 hp, wr_7 hp, mf_8, wr_8, mf_9, rd_9 hp, sh_9 hp, wr_9 hp, mf_10, rd_10 hp, sh_10 hp, wr_10 hp, mf_11, rd_11 hp, sh_11 hp, wr_11 hp, mf_12, rd_12 hp, sh_12 hp, wr_12 hp, mf_13, rd_13 hp, sh_13 hp, wr_13 hp, mf_14, wr_14, mf_15, wr_15, mf_16, mf_17, wr_17, mf_18, wr_18, mf_19, wr_19, mf_20, rd_20 hp, sh_20 hp, wr_20 hp, mf_21, wr_21, mf_22, rd_22 hp, sh_22 hp, wr_22 hp, mf_23, rd_23 hp, sh_23 hp, wr_23 hp, mf_24, rd_24 hp, sh_24 hp, wr_24 hp, mf_25, wr_25, mf_26, rd_26 hp, sh_26 hp, wr_26 hp, mf_27, rd_27 hp, sh_27 hp, wr_27 hp, mf_28, rd_28 hp, sh_28 hp, wr_28 hp, mf_29, rd_29 hp, sh_29 hp, wr_29 hp, mf_30, wr_30, mf_31, rd_31 hp, sh_31 hp, wr_31 hp, mf_32, wr_32, mf_33, rd_33 hp, sh_33 hp, wr_33 hp, mf_34, wr_34, mf_35, wr_35, mf_36, rd_36 hp, sh_36 hp, wr_36 hp, mf_37, rd_37 hp, sh_37 hp, wr_37 hp, mf_38, rd_38 hp, sh_38 hp, wr_38 hp, mf_39, rd_39 hp, sh_39 hp, wr_39 hp, mf_40, rd_40 hp, sh_40 hp, wr_40 hp, mf_41, wr_41, mM_p hp, sM_p hp, wM_p hp, sM_o, U, D, nI_add, hs2, h9]
      · have hs2 := hsum.mpr h9
        simp only [x159_46, x159_47, x159_48, x159_49, x159_52, x159_53, x159_54, x159_57, x159_58, x159_60, x159_63, x159_65, x159_68, x159_69, bnd_some, Option.toList_some, Option.toList_none, List.cons_append, List.nil_append, List.singleton_append, clr_i, clr_r, clr_n, clr_0, clr_q, clr_l, isR_r, isR_n, isR_q, cat1_i, cat1_r, b0, b1, if_true, if_false, not_true, not_false_eq_true, reduceCtorEq, ite_self, and_true, true_and, and_false, false_and, or_true, true_or, or_false, false_or, mf_0, wr_0, mf_1, wr_1, mf_2, rd_2 hp, sh_2 hp, wr_2 hp, mf_3, rd_3 hp, sh_3 hp, wr_3 hp, mf_4, rd_4 hp, sh_4 hp, wr_4 hp, mf_5, rd_5 hp, sh_5 hp, wr_5 hp, mf_6, rd_6 hp, sh_6 hp, wr_6 hp, mf_7, rd_7 hp, sh_7 hp, wr_7 hp, mf_8, wr_8, mf_9, rd_9 hp, sh_9 hp, wr_9 hp, mf_10, rd_10 hp, sh_10 hp, wr_10 hp, mf_11, rd_11 hp, sh_11 hp, wr_11 hp, mf_12, rd_12 hp, sh_12 hp, wr_12 hp, mf_13, rd_13 hp, sh_13 hp, wr_13 hp, mf_14, wr_14, mf_15, wr_15, mf_16, mf_17, wr_17, mf_18, wr_18, mf_19, wr_19, mf_20, rd_20 hp, sh_20 hp, wr_20 hp, mf_21, wr_21, mf_22, rd_22 hp, sh_22 hp, wr_22 hp, mf_23, rd_23 hp, sh_23 hp, wr_23 hp, mf_24, rd_24 hp, sh_24 hp, wr_24 hp, mf_25, wr_25, mf_26, rd_26 hp, sh_26 hp, wr_26 hp, mf_27, rd_27 hp, sh_27 hp, wr_27 hp, mf_28, rd_28 hp, sh_28 hp, wr_28 hp, mf_29, rd_29 hp, sh_29 hp, wr_29 hp, mf_30, wr_30, mf_31, rd_31 hp, sh_31 hp, wr_31 hp, mf_32, wr_32, mf_33, rd_33 hp, sh_33 hp, wr_33 hp, mf_34, wr_34, mf_35, wr_35, mf_36, rd_36 hp, sh_36 hp, wr_36 hp, mf_37, rd_37 hp, sh_37 hp, wr_37 hp, mf_38, rd_38 hp, sh_38 hp, wr_38 hp, mf_39, rd_39 hp, sh_39 hp, wr_39 hp, mf_40, rd_40 hp, sh_40 hp, wr_40 hp, mf_41, wr_41, mM_p hp, sM_p hp, wM_p hp, sM_o, U, D, nI_add, hs2, h9]
    have tail2 : ex (d + 2) 159 0 [some (.ref o), some (.int h), some (.int (nI s)), some (.int (nI t))] [] (mM o p S m0, sM o p pl s0, n, k) = ex (d + 2) 159 15 [some (.ref o), some (.int h), some (.int (nI s)), some (.int (nI t))] [] (mM o p S m0, sM o p pl s0, n, k) := by
      simp only [x159_0, x159_1, x159_2, x159_3, x159_6, x159_7, x159_10, bnd_some, Option.toList_some, Option.toList_none, List.cons_append, List.nil_append, List.singleton_append, clr_i, clr_r, clr_n, clr_0, clr_q, clr_l, isR_r, isR_n, isR_q, cat1_i, cat1_r, b0, b1, if_true, if_false, not_true, not_false_eq_true, reduceCtorEq, ite_self, and_true, true_and, and_false, false_and, or_true, true_or, or_false, false_or, mf_0, wr_0, mf_1, wr_1, mf_2, rd_2 hp, sh_2 hp, wr_2 hp, mf_3, rd_3 hp, sh_3 hp, wr_3 hp, mf_4, rd_4 hp, sh_4 hp, wr_4 hp, mf_5, rd_5 hp, sh_5 hp, wr_5 hp, mf_6, rd_6 hp, sh_6 hp, wr_6 hp, mf_7, rd_7 hp, sh_7 hp, wr_7 hp, mf_8, wr_8, mf_9, rd_9 hp, sh_9 hp, wr_9 hp, mf_10, rd_10 hp, sh_10 hp, wr_10 hp, mf_11, rd_11 hp, sh_11 hp, wr_11 hp, mf_12, rd_12 hp, sh_12 hp, wr_12 hp, mf_13, rd_13 hp, sh_13 hp, wr_13 hp, mf_14, wr_14, mf_15, wr_15, mf_16, mf_17, wr_17, mf_18, wr_18, mf_19, wr_19, mf_20, rd_20 hp, sh_20 hp, wr_20 hp, mf_21, wr_21, mf_22, rd_22 hp, sh_22 hp, wr_22 hp, mf_23, rd_23 hp, sh_23 hp, wr_23 hp, mf_24, rd_24 hp, sh_24 hp, wr_24 hp, mf_25, wr_25, mf_26, rd_26 hp, sh_26 hp, wr_26 hp, mf_27, rd_27 hp, sh_27 hp, wr_27 hp, mf_28, rd_28 hp, sh_28 hp, wr_28 hp, mf_29, rd_29 hp, sh_29 hp, wr_29 hp, mf_30, wr_30, mf_31, rd_31 hp, sh_31 hp, wr_31 hp, mf_32, wr_32, mf_33, rd_33 hp, sh_33 hp, wr_33 hp, mf_34, wr_34, mf_35, wr_35, mf_36, rd_36 hp, sh_36 hp, wr_36 hp, mf_37, rd_37 hp, sh_37 hp, wr_37 hp, mf_38, rd_38 hp, sh_38 hp, wr_38 hp, mf_39, rd_39 hp, sh_39 hp, wr_39 hp, mf_40, rd_40 hp, sh_40 hp, wr_40 hp, mf_41, wr_41, mM_p hp, sM_p hp, wM_p hp, sM_o, m140 hp w, hr, opI, m154 hp hr2 hs, h7']
    rw [tail2]
    have el : lyF S T r s t = if r < 200 ∧ S 2 r = nI 4 ∧ nI 3 < S 2 t then 4 else if 6 < (if r < 200 then upW S 8 t r else 0) + dnM S 8 t T then 9 else 0 := by
      unfold lyF
      rw [if_neg h7]
    rw [el]
    rcases rowI_inv w.2.2.2 w.2.1 hr with ⟨h1, h2, h3⟩ | ⟨h1, h2, h3⟩
    · have hr3 : r < 200 := by have := w.2.1; omega
      have hrb : r < 2147483648 := by omega
      have e1 : ¬ nI (1000 + r) < nI 1000 := by rw [nI_ltI (by omega) (by omega)]; omega
      have e2 : nI (1000 + r) - nI 1000 = nI r := by rw [pk_sub (by omega)]; exact congrArg nI (by omega)
      subst h2
      by_cases h4 : S 2 r = nI 4
      · by_cases hg : nI 3 < S 2 t
        · rw [if_pos ⟨hr3, h4, hg⟩]
          simp only [x159_15, x159_16, x159_19, x159_22, x159_23, x159_26, x159_27, x159_30, x159_31, x159_32, x159_33, x159_36, x159_37, x159_38, x159_41, x159_44, x159_45, bnd_some, Option.toList_some, Option.toList_none, List.cons_append, List.nil_append, List.singleton_append, clr_i, clr_r, clr_n, clr_0, clr_q, clr_l, isR_r, isR_n, isR_q, cat1_i, cat1_r, b0, b1, if_true, if_false, not_true, not_false_eq_true, reduceCtorEq, ite_self, and_true, true_and, and_false, false_and, or_true, true_or, or_false, false_or, mf_0, wr_0, mf_1, wr_1, mf_2, rd_2 hp, sh_2 hp, wr_2 hp, mf_3, rd_3 hp, sh_3 hp, wr_3 hp, mf_4, rd_4 hp, sh_4 hp, wr_4 hp, mf_5, rd_5 hp, sh_5 hp, wr_5 hp, mf_6, rd_6 hp, sh_6 hp, wr_6 hp, mf_7, rd_7 hp, sh_7 hp, wr_7 hp, mf_8, wr_8, mf_9, rd_9 hp, sh_9 hp, wr_9 hp, mf_10, rd_10 hp, sh_10 hp, wr_10 hp, mf_11, rd_11 hp, sh_11 hp, wr_11 hp, mf_12, rd_12 hp, sh_12 hp, wr_12 hp, mf_13, rd_13 hp, sh_13 hp, wr_13 hp, mf_14, wr_14, mf_15, wr_15, mf_16, mf_17, wr_17, mf_18, wr_18, mf_19, wr_19, mf_20, rd_20 hp, sh_20 hp, wr_20 hp, mf_21, wr_21, mf_22, rd_22 hp, sh_22 hp, wr_22 hp, mf_23, rd_23 hp, sh_23 hp, wr_23 hp, mf_24, rd_24 hp, sh_24 hp, wr_24 hp, mf_25, wr_25, mf_26, rd_26 hp, sh_26 hp, wr_26 hp, mf_27, rd_27 hp, sh_27 hp, wr_27 hp, mf_28, rd_28 hp, sh_28 hp, wr_28 hp, mf_29, rd_29 hp, sh_29 hp, wr_29 hp, mf_30, wr_30, mf_31, rd_31 hp, sh_31 hp, wr_31 hp, mf_32, wr_32, mf_33, rd_33 hp, sh_33 hp, wr_33 hp, mf_34, wr_34, mf_35, wr_35, mf_36, rd_36 hp, sh_36 hp, wr_36 hp, mf_37, rd_37 hp, sh_37 hp, wr_37 hp, mf_38, rd_38 hp, sh_38 hp, wr_38 hp, mf_39, rd_39 hp, sh_39 hp, wr_39 hp, mf_40, rd_40 hp, sh_40 hp, wr_40 hp, mf_41, wr_41, mM_p hp, sM_p hp, wM_p hp, sM_o, m138 hp ht2, b2_0, e1, e2, hr3, hrb, h4, hg]
        · rw [if_neg (fun z => hg z.2.2), ← tail]
          simp only [x159_15, x159_16, x159_19, x159_22, x159_23, x159_26, x159_27, x159_30, x159_31, x159_32, x159_33, x159_36, x159_37, x159_38, x159_41, x159_44, x159_45, bnd_some, Option.toList_some, Option.toList_none, List.cons_append, List.nil_append, List.singleton_append, clr_i, clr_r, clr_n, clr_0, clr_q, clr_l, isR_r, isR_n, isR_q, cat1_i, cat1_r, b0, b1, if_true, if_false, not_true, not_false_eq_true, reduceCtorEq, ite_self, and_true, true_and, and_false, false_and, or_true, true_or, or_false, false_or, mf_0, wr_0, mf_1, wr_1, mf_2, rd_2 hp, sh_2 hp, wr_2 hp, mf_3, rd_3 hp, sh_3 hp, wr_3 hp, mf_4, rd_4 hp, sh_4 hp, wr_4 hp, mf_5, rd_5 hp, sh_5 hp, wr_5 hp, mf_6, rd_6 hp, sh_6 hp, wr_6 hp, mf_7, rd_7 hp, sh_7 hp, wr_7 hp, mf_8, wr_8, mf_9, rd_9 hp, sh_9 hp, wr_9 hp, mf_10, rd_10 hp, sh_10 hp, wr_10 hp, mf_11, rd_11 hp, sh_11 hp, wr_11 hp, mf_12, rd_12 hp, sh_12 hp, wr_12 hp, mf_13, rd_13 hp, sh_13 hp, wr_13 hp, mf_14, wr_14, mf_15, wr_15, mf_16, mf_17, wr_17, mf_18, wr_18, mf_19, wr_19, mf_20, rd_20 hp, sh_20 hp, wr_20 hp, mf_21, wr_21, mf_22, rd_22 hp, sh_22 hp, wr_22 hp, mf_23, rd_23 hp, sh_23 hp, wr_23 hp, mf_24, rd_24 hp, sh_24 hp, wr_24 hp, mf_25, wr_25, mf_26, rd_26 hp, sh_26 hp, wr_26 hp, mf_27, rd_27 hp, sh_27 hp, wr_27 hp, mf_28, rd_28 hp, sh_28 hp, wr_28 hp, mf_29, rd_29 hp, sh_29 hp, wr_29 hp, mf_30, wr_30, mf_31, rd_31 hp, sh_31 hp, wr_31 hp, mf_32, wr_32, mf_33, rd_33 hp, sh_33 hp, wr_33 hp, mf_34, wr_34, mf_35, wr_35, mf_36, rd_36 hp, sh_36 hp, wr_36 hp, mf_37, rd_37 hp, sh_37 hp, wr_37 hp, mf_38, rd_38 hp, sh_38 hp, wr_38 hp, mf_39, rd_39 hp, sh_39 hp, wr_39 hp, mf_40, rd_40 hp, sh_40 hp, wr_40 hp, mf_41, wr_41, mM_p hp, sM_p hp, wM_p hp, sM_o, m138 hp ht2, b2_0, e1, e2, hr3, hrb, h4, hg]
      · rw [if_neg (fun z => h4 z.2.1), ← tail]
        simp only [x159_15, x159_16, x159_19, x159_22, x159_23, x159_26, x159_27, x159_30, x159_31, x159_32, x159_33, x159_36, x159_37, x159_38, x159_41, x159_44, x159_45, bnd_some, Option.toList_some, Option.toList_none, List.cons_append, List.nil_append, List.singleton_append, clr_i, clr_r, clr_n, clr_0, clr_q, clr_l, isR_r, isR_n, isR_q, cat1_i, cat1_r, b0, b1, if_true, if_false, not_true, not_false_eq_true, reduceCtorEq, ite_self, and_true, true_and, and_false, false_and, or_true, true_or, or_false, false_or, mf_0, wr_0, mf_1, wr_1, mf_2, rd_2 hp, sh_2 hp, wr_2 hp, mf_3, rd_3 hp, sh_3 hp, wr_3 hp, mf_4, rd_4 hp, sh_4 hp, wr_4 hp, mf_5, rd_5 hp, sh_5 hp, wr_5 hp, mf_6, rd_6 hp, sh_6 hp, wr_6 hp, mf_7, rd_7 hp, sh_7 hp, wr_7 hp, mf_8, wr_8, mf_9, rd_9 hp, sh_9 hp, wr_9 hp, mf_10, rd_10 hp, sh_10 hp, wr_10 hp, mf_11, rd_11 hp, sh_11 hp, wr_11 hp, mf_12, rd_12 hp, sh_12 hp, wr_12 hp, mf_13, rd_13 hp, sh_13 hp, wr_13 hp, mf_14, wr_14, mf_15, wr_15, mf_16, mf_17, wr_17, mf_18, wr_18, mf_19, wr_19, mf_20, rd_20 hp, sh_20 hp, wr_20 hp, mf_21, wr_21, mf_22, rd_22 hp, sh_22 hp, wr_22 hp, mf_23, rd_23 hp, sh_23 hp, wr_23 hp, mf_24, rd_24 hp, sh_24 hp, wr_24 hp, mf_25, wr_25, mf_26, rd_26 hp, sh_26 hp, wr_26 hp, mf_27, rd_27 hp, sh_27 hp, wr_27 hp, mf_28, rd_28 hp, sh_28 hp, wr_28 hp, mf_29, rd_29 hp, sh_29 hp, wr_29 hp, mf_30, wr_30, mf_31, rd_31 hp, sh_31 hp, wr_31 hp, mf_32, wr_32, mf_33, rd_33 hp, sh_33 hp, wr_33 hp, mf_34, wr_34, mf_35, wr_35, mf_36, rd_36 hp, sh_36 hp, wr_36 hp, mf_37, rd_37 hp, sh_37 hp, wr_37 hp, mf_38, rd_38 hp, sh_38 hp, wr_38 hp, mf_39, rd_39 hp, sh_39 hp, wr_39 hp, mf_40, rd_40 hp, sh_40 hp, wr_40 hp, mf_41, wr_41, mM_p hp, sM_p hp, wM_p hp, sM_o, e1, e2, hr3, hrb, h4]
    · have h4 : nI (r - 200) < nI 1000 := by rw [nI_ltI (by omega) (by omega)]; omega
      rw [if_neg (by omega), ← tail, h3]
      simp only [x159_15, x159_16, x159_19, bnd_some, Option.toList_some, Option.toList_none, List.cons_append, List.nil_append, List.singleton_append, clr_i, clr_r, clr_n, clr_0, clr_q, clr_l, isR_r, isR_n, isR_q, cat1_i, cat1_r, b0, b1, if_true, if_false, not_true, not_false_eq_true, reduceCtorEq, ite_self, and_true, true_and, and_false, false_and, or_true, true_or, or_false, false_or, h4]
end MJ
