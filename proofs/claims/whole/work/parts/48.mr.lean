/-! ===== the reference: find, count ===== -/
def fdF (S : St) (P : Nat → Bool) (f : Nat) : Nat → Nat → Int32 → Int32 → Option Nat × Int32 × Int32
  | 0, _, l, c => (none, l, c)
  | n + 1, r, l, c => match wkF S P f (200 + r) (l + nI 1) c with
    | (some x, l', c') => (some x, l', c')
    | (none, l', c') => fdF S P f n (r + 1) l' c'
def fdG (S : St) (r : Option Nat × Int32 × Int32) : Int32 × St := match r.1 with
  | some x => fnS (sup (sup S 14 0 (S 14 0 + nI 1)) 15 0 r.2.1) (nI x)
  | none => bdS (sup (sup S 14 0 (S 14 0 + nI 1)) 15 0 r.2.1) 3
def fdS (A R : Nat) (S : St) (a kd : Int32) : Int32 × St := if ¬ a = -1 ∧ ixI A a = none then bdS S 10 else if ixR 0 4 kd = none then bdS S 6 else fdG S (fdF S (hitB S a kd) 8 R 0 (S 15 0) (S 41 0))
def ctG (S : St) (r : Option Nat × Int32 × Int32) : Int32 × St := fnS (sup (sup S 14 0 (S 14 0 + nI 1)) 15 0 r.2.1) r.2.2
def ctS (R T : Nat) (S : St) (h : Int32) : Int32 × St := match rowI R T S h with
  | none => bdS S 1
  | some r => ctG S (wkF S (hitB S (-1) (-1)) 8 r (S 15 0 + nI 1) (nI 0))
def Wdep (S : St) (T R : Nat) : Prop := ∀ h r, rowI R T S h = some r → dep S T 8 r
theorem wkS_lt {S : St} {P : Nat → Bool} {T f r : Nat} {g : Nat → Int32 → Int32 → Option Nat × Int32 × Int32} (hT : T ≤ 200) (hd : dep S T (f + 1) r) (hg : ∀ t, dep S T f t → ∀ l c x, (g t l c).1 = some x → x < T) : ∀ q s l c x, s + q = sN S r → (wkS g S P r q s l c).1 = some x → x < T := by
  unfold dep at hd
  obtain ⟨hr, h6, h62, hs⟩ := hd
  intro q
  induction q with
  | zero => intro s l c x hsq h; simp [wkS] at h
  | succ q ih =>
    intro s l c x hsq h
    unfold wkS at h
    rcases hs s (by omega) with h7 | ⟨t, ht, h7, hdt⟩
    · rw [thI_n h7] at h
      exact ih (s + 1) l c x (by omega) h
    · rw [thI_s h7 (by omega)] at h
      simp only at h
      split at h
      · cases h; exact ht
      · split at h
        · rename_i hb
          split at h
          · rename_i y l' c' he
            cases h
            exact hg t (hdt hb) _ _ _ (by rw [he])
          · exact ih (s + 1) _ _ x (by omega) h
        · exact ih (s + 1) _ _ x (by omega) h
theorem wkF_lt {S : St} {P : Nat → Bool} {T : Nat} (hT : T ≤ 200) : ∀ f r, dep S T f r → ∀ l c x, (wkF S P f r l c).1 = some x → x < T := by
  intro f
  induction f with
  | zero => intro r h; exact absurd h (by simp [dep])
  | succ f ih =>
    intro r hd l c x h
    unfold wkF at h
    exact wkS_lt hT hd (fun t h => ih t h) _ _ _ _ _ (by omega) h
/-- numbers that agree on what a walk reads -/
def Aw (S Z : St) : Prop := ∀ f, f = 2 ∨ f = 6 ∨ f = 7 ∨ f = 9 ∨ f = 10 ∨ f = 11 ∨ f = 20 → ∀ j, Z f j = S f j
section MR0
variable {S Z : St}
theorem hitB_eq (h : Aw S Z) (a kd : Int32) : hitB Z a kd = hitB S a kd := by
  funext t
  unfold hitB
  rw [fitV_eq (h 2 (by decide)) (h 7 (by decide)) (h 9 (by decide)) (h 10 (by decide)) (h 11 (by decide)) (h 20 (by decide)), h 2 (by decide)]
theorem sN_eq (h6 : ∀ j, Z 6 j = S 6 j) (r : Nat) : sN Z r = sN S r := by
  unfold sN
  rw [h6]
theorem wkS_eq (h : Aw S Z) (g : Nat → Int32 → Int32 → Option Nat × Int32 × Int32) (P : Nat → Bool) (r : Nat) : ∀ q s l c, wkS g Z P r q s l c = wkS g S P r q s l c := by
  intro q
  induction q with
  | zero => intro s l c; rfl
  | succ q ih =>
    intro s l c
    unfold wkS
    rw [thI_eq (h 7 (by decide))]
    cases thI S r s with
    | none => exact ih _ _ _
    | some t => simp only [h 2 (by decide), ih]
theorem wkF_eq (h : Aw S Z) (P : Nat → Bool) : ∀ f, wkF Z P f = wkF S P f := by
  intro f
  induction f with
  | zero => rfl
  | succ f ih =>
    funext r l c
    unfold wkF
    rw [ih, wkS_eq h, sN_eq (h 6 (by decide))]
theorem fdF_eq (h : Aw S Z) (P : Nat → Bool) (f : Nat) : ∀ q r l c, fdF Z P f q r l c = fdF S P f q r l c := by
  intro q
  induction q with
  | zero => intro r l c; rfl
  | succ q ih =>
    intro r l c
    unfold fdF
    rw [wkF_eq h]
    simp only [ih]
theorem dep_eq (h : Aw S Z) {T : Nat} : ∀ f r, dep S T f r → dep Z T f r := by
  intro f
  induction f with
  | zero => intro r h; exact h
  | succ f ih =>
    intro r hd
    unfold dep at hd ⊢
    obtain ⟨h1, h2, h3, h4⟩ := hd
    rw [sN_eq (h 6 (by decide))]
    refine ⟨h1, by rw [h 6 (by decide)]; exact h2, h3, fun s hs => ?_⟩
    rw [h 7 (by decide)]
    rcases h4 s hs with q | ⟨t, q1, q2, q3⟩
    · exact Or.inl q
    · exact Or.inr ⟨t, q1, q2, fun hb => ih t (q3 (by rw [h 2 (by decide)] at hb; exact hb))⟩
theorem Wdep_eq (h : Aw S Z) {T R : Nat} (wd : Wdep S T R) : Wdep Z T R := fun x r hr => dep_eq h 8 r (wd x r (by rw [rowI_eq (h 2 (by decide))] at hr; exact hr))
theorem Aw_sup {f j : Nat} {x : Int32} (h : ¬ (f = 2 ∨ f = 6 ∨ f = 7 ∨ f = 9 ∨ f = 10 ∨ f = 11 ∨ f = 20)) : Aw S (sup S f j x) := fun g hg i => sup_f (fun e => h (e ▸ hg))
end MR0
section MR
variable {d o m : Nat} {S : St} {F : Fr} {T R A : Nat}
theorem Md_sc {X : Option Rs} {r : Int32 × St} {Z : St} (hX : X = some (some (.int r.1), (mM o F.p Z F.m0, sM o F.p F.pl F.s0, F.n, F.k))) (hF : FrO o F m) (hm : r.2 17 0 = nI m) (hs : Sq m r.2 Z) : Md o m F X r := by
  have : stM r.2 = m := by
    unfold stM
    rw [hm, nI_clamp (by obtain ⟨-, -, -, -, -, -, h⟩ := hF; omega)]
  exact ⟨F, Z, hX, Or.inl rfl, by rw [this]; exact hF, by rw [this]; exact hs⟩
/-- numbers that agree but for the walk's own, and the locks that it took -/
theorem Sq_Ag {Z : St} {l : Int32} (ag : Ag S Z) (h15 : Z 15 0 = l) : Sq m (sup S 15 0 l) (sup Z 15 0 l) := by
  constructor
  · intro f j h1 h2
    unfold sup
    split
    · rfl
    · rename_i hn
      by_cases e : f = 15
      · subst e
        exact ag.2 j (fun q => hn ⟨rfl, q⟩)
      · exact ag.1 f j e (by intro q; subst q; exact absurd h2 (by decide)) (by intro q; subst q; exact absurd h2 (by decide)) (by intro q; subst q; exact absurd h2 (by decide))
  · intro j hj
    rw [sup_f (by decide), sup_f (by decide)]
    exact ag.1 16 j (by decide) (by decide) (by decide) (by decide)
theorem sup_idem {Z : St} {f j : Nat} : sup Z f j (Z f j) = Z := by
  funext g i
  unfold sup
  split
  · rename_i h
    rw [h.1, h.2]
  · rfl
theorem Sq_Ag2 {Z : St} (ag : Ag S Z) : Sq m (sup S 15 0 (Z 15 0)) Z := by
  have h := Sq_Ag (m := m) (l := Z 15 0) ag rfl
  rw [sup_idem] at h
  exact h
theorem hit_n {t : Nat} : hitB S (-1) (-1) t = false := by
  have h : (-1 : Int32) < 0 := by decide
  simp only [hitB, h, not_true, decide_false, Bool.false_and]
/-- the racks, one after the other -/
theorem m204_L {a kd : Int32} {S1 : St} (hp : Op o F.p) (w : WfT S1 T R) (ws : Wset S1 T) (wd : Wdep S1 T R) (ha : a < 0 ∨ ∃ i, i < 40 ∧ a = nI i) : ∀ q r Z l4, r + q = R → Ag S1 Z → ∃ Z' y, ex (d + 4) 204 48 [some (.ref o), some (.int a), some (.int kd), some (.int (nI r)), l4] [] (mM o F.p Z F.m0, sM o F.p F.pl F.s0, F.n, F.k) = some (some (.int (match (fdF S1 (hitB S1 a kd) 8 q r (Z 15 0) (Z 41 0)).1 with | some x => nI x | none => -1)), (mM o F.p (sup Z' 0 0 (nI y)) F.m0, sM o F.p F.pl F.s0, F.n, F.k)) ∧ y = (match (fdF S1 (hitB S1 a kd) 8 q r (Z 15 0) (Z 41 0)).1 with | some _ => 0 | none => 3) ∧ Ag S1 Z' ∧ Z' 15 0 = (fdF S1 (hitB S1 a kd) 8 q r (Z 15 0) (Z 41 0)).2.1 := by
  have hR2 := w.2.2.2
  intro q
  induction q with
  | zero =>
    intro r Z l4 hr ag
    have e : r = R := by omega
    subst e
    have h1 : nI r ≤ nI r := nI_le (Nat.le_refl _) (by omega)
    have z8 : Z 8 0 = nI r := by rw [ag.1 8 0 (by decide) (by decide) (by decide) (by decide)]; exact w.2.2.1
    refine ⟨Z, 3, ?_, rfl, ag, rfl⟩
    simp only [x204_48, x204_49, x204_50, x204_53, x204_87, x204_88, x204_89, x204_92, bnd_some, Option.toList_some, Option.toList_none, List.cons_append, List.nil_append, List.singleton_append, clr_i, clr_r, clr_n, clr_0, clr_q, clr_l, isR_r, isR_n, isR_q, cat1_i, cat1_r, b0, b1, if_true, if_false, not_true, not_false_eq_true, reduceCtorEq, ite_self, and_true, true_and, and_false, false_and, or_true, true_or, or_false, false_or, mf_0, wr_0, mf_1, wr_1, mf_2, rd_2 hp, sh_2 hp, wr_2 hp, mf_3, rd_3 hp, sh_3 hp, wr_3 hp, mf_4, rd_4 hp, sh_4 hp, wr_4 hp, mf_5, rd_5 hp, sh_5 hp, wr_5 hp, mf_6, rd_6 hp, sh_6 hp, wr_6 hp, mf_7, rd_7 hp, sh_7 hp, wr_7 hp, mf_8, wr_8, mf_9, rd_9 hp, sh_9 hp, wr_9 hp, mf_10, rd_10 hp, sh_10 hp, wr_10 hp, mf_11, rd_11 hp, sh_11 hp, wr_11 hp, mf_12, rd_12 hp, sh_12 hp, wr_12 hp, mf_13, rd_13 hp, sh_13 hp, wr_13 hp, mf_14, wr_14, mf_15, wr_15, mf_16, mf_17, wr_17, mf_18, wr_18, mf_19, wr_19, mf_20, rd_20 hp, sh_20 hp, wr_20 hp, mf_21, wr_21, mf_22, rd_22 hp, sh_22 hp, wr_22 hp, mf_23, rd_23 hp, sh_23 hp, wr_23 hp, mf_24, rd_24 hp, sh_24 hp, wr_24 hp, mf_25, wr_25, mf_26, rd_26 hp, sh_26 hp, wr_26 hp, mf_27, rd_27 hp, sh_27 hp, wr_27 hp, mf_28, rd_28 hp, sh_28 hp, wr_28 hp, mf_29, rd_29 hp, sh_29 hp, wr_29 hp, mf_30, wr_30, mf_31, rd_31 hp, sh_31 hp, wr_31 hp, mf_32, wr_32, mf_33, rd_33 hp, sh_33 hp, wr_33 hp, mf_34, wr_34, mf_35, wr_35, mf_36, rd_36 hp, sh_36 hp, wr_36 hp, mf_37, rd_37 hp, sh_37 hp, wr_37 hp, mf_38, rd_38 hp, sh_38 hp, wr_38 hp, mf_39, rd_39 hp, sh_39 hp, wr_39 hp, mf_40, rd_40 hp, sh_40 hp, wr_40 hp, mf_41, wr_41, mM_p hp, sM_p hp, wM_p hp, sM_o, z8, h1, m135, fdF]
  | succ q ih =>
    intro r Z l4 hr ag
    have h1 : ¬ nI R ≤ nI r := nI_ge (by omega) (by omega)
    have z8 : Z 8 0 = nI R := by rw [ag.1 8 0 (by decide) (by decide) (by decide) (by decide)]; exact w.2.2.1
    obtain ⟨Z1, g1, g2, g3, g4⟩ := m203 (d := d) (o := o) (p := F.p) (pl := F.pl) (n := F.n) (k := F.k) (m0 := F.m0) (s0 := F.s0) (a := a) (kd := kd) (f := 8) (r := 200 + r) (S := S1) (Z := Z) hp ws w.2.1 ha (wd (nI r) (200 + r) (rowI_rack (by omega) hR2)) (by omega) ag
    have e1 : ex (d + 4) 204 48 [some (.ref o), some (.int a), some (.int kd), some (.int (nI r)), l4] [] (mM o F.p Z F.m0, sM o F.p F.pl F.s0, F.n, F.k) = ex (d + 4) 204 69 [some (.ref o), some (.int a), some (.int kd), some (.int (nI r)), some (.int (opI (wkF S1 (hitB S1 a kd) 8 (200 + r) (Z 15 0 + nI 1) (Z 41 0)).1))] [] (mM o F.p Z1 F.m0, sM o F.p F.pl F.s0, F.n, F.k) := by
      conv => lhs; simp only [x204_48, x204_49, x204_50, x204_53, x204_56, x204_57, x204_60, x204_61, x204_62, x204_63, x204_64, x204_67, bnd_some, Option.toList_some, Option.toList_none, List.cons_append, List.nil_append, List.singleton_append, clr_i, clr_r, clr_n, clr_0, clr_q, clr_l, isR_r, isR_n, isR_q, cat1_i, cat1_r, b0, b1, if_true, if_false, not_true, not_false_eq_true, reduceCtorEq, ite_self, and_true, true_and, and_false, false_and, or_true, true_or, or_false, false_or, mf_0, wr_0, mf_1, wr_1, mf_2, rd_2 hp, sh_2 hp, wr_2 hp, mf_3, rd_3 hp, sh_3 hp, wr_3 hp, mf_4, rd_4 hp, sh_4 hp, wr_4 hp, mf_5, rd_5 hp, sh_5 hp, wr_5 hp, mf_6, rd_6 hp, sh_6 hp, wr_6 hp, mf_7, rd_7 hp, sh_7 hp, wr_7 hp, mf_8, wr_8, mf_9, rd_9 hp, sh_9 hp, wr_9 hp, mf_10, rd_10 hp, sh_10 hp, wr_10 hp, mf_11, rd_11 hp, sh_11 hp, wr_11 hp, mf_12, rd_12 hp, sh_12 hp, wr_12 hp, mf_13, rd_13 hp, sh_13 hp, wr_13 hp, mf_14, wr_14, mf_15, wr_15, mf_16, mf_17, wr_17, mf_18, wr_18, mf_19, wr_19, mf_20, rd_20 hp, sh_20 hp, wr_20 hp, mf_21, wr_21, mf_22, rd_22 hp, sh_22 hp, wr_22 hp, mf_23, rd_23 hp, sh_23 hp, wr_23 hp, mf_24, rd_24 hp, sh_24 hp, wr_24 hp, mf_25, wr_25, mf_26, rd_26 hp, sh_26 hp, wr_26 hp, mf_27, rd_27 hp, sh_27 hp, wr_27 hp, mf_28, rd_28 hp, sh_28 hp, wr_28 hp, mf_29, rd_29 hp, sh_29 hp, wr_29 hp, mf_30, wr_30, mf_31, rd_31 hp, sh_31 hp, wr_31 hp, mf_32, wr_32, mf_33, rd_33 hp, sh_33 hp, wr_33 hp, mf_34, wr_34, mf_35, wr_35, mf_36, rd_36 hp, sh_36 hp, wr_36 hp, mf_37, rd_37 hp, sh_37 hp, wr_37 hp, mf_38, rd_38 hp, sh_38 hp, wr_38 hp, mf_39, rd_39 hp, sh_39 hp, wr_39 hp, mf_40, rd_40 hp, sh_40 hp, wr_40 hp, mf_41, wr_41, mM_p hp, sM_p hp, wM_p hp, sM_o, z8, h1, nI_add, g1]
    rw [e1]
    unfold fdF
    have hlt := wkF_lt (S := S1) (P := hitB S1 a kd) w.2.1 8 (200 + r) (wd (nI r) (200 + r) (rowI_rack (by omega) hR2)) (Z 15 0 + nI 1) (Z 41 0)
    revert g3 g4 hlt
    generalize wkF S1 (hitB S1 a kd) 8 (200 + r) (Z 15 0 + nI 1) (Z 41 0) = res
    obtain ⟨r1, r2, r3⟩ := res
    intro g3 g4 hlt
    cases r1 with
    | some x =>
      have hxT := hlt x rfl
      have hT2 := w.2.1
      have hx0 : ¬ nI x < 0 := nI_pos (by omega)
      refine ⟨Z1, 0, ?_, rfl, g2, g3⟩
      simp only [x204_69, x204_71, x204_74, x204_75, x204_77, x204_80, bnd_some, Option.toList_some, Option.toList_none, List.cons_append, List.nil_append, List.singleton_append, clr_i, clr_r, clr_n, clr_0, clr_q, clr_l, isR_r, isR_n, isR_q, cat1_i, cat1_r, b0, b1, if_true, if_false, not_true, not_false_eq_true, reduceCtorEq, ite_self, and_true, true_and, and_false, false_and, or_true, true_or, or_false, false_or, mf_0, wr_0, mf_1, wr_1, mf_2, rd_2 hp, sh_2 hp, wr_2 hp, mf_3, rd_3 hp, sh_3 hp, wr_3 hp, mf_4, rd_4 hp, sh_4 hp, wr_4 hp, mf_5, rd_5 hp, sh_5 hp, wr_5 hp, mf_6, rd_6 hp, sh_6 hp, wr_6 hp, mf_7, rd_7 hp, sh_7 hp, wr_7 hp, mf_8, wr_8, mf_9, rd_9 hp, sh_9 hp, wr_9 hp, mf_10, rd_10 hp, sh_10 hp, wr_10 hp, mf_11, rd_11 hp, sh_11 hp, wr_11 hp, mf_12, rd_12 hp, sh_12 hp, wr_12 hp, mf_13, rd_13 hp, sh_13 hp, wr_13 hp, mf_14, wr_14, mf_15, wr_15, mf_16, mf_17, wr_17, mf_18, wr_18, mf_19, wr_19, mf_20, rd_20 hp, sh_20 hp, wr_20 hp, mf_21, wr_21, mf_22, rd_22 hp, sh_22 hp, wr_22 hp, mf_23, rd_23 hp, sh_23 hp, wr_23 hp, mf_24, rd_24 hp, sh_24 hp, wr_24 hp, mf_25, wr_25, mf_26, rd_26 hp, sh_26 hp, wr_26 hp, mf_27, rd_27 hp, sh_27 hp, wr_27 hp, mf_28, rd_28 hp, sh_28 hp, wr_28 hp, mf_29, rd_29 hp, sh_29 hp, wr_29 hp, mf_30, wr_30, mf_31, rd_31 hp, sh_31 hp, wr_31 hp, mf_32, wr_32, mf_33, rd_33 hp, sh_33 hp, wr_33 hp, mf_34, wr_34, mf_35, wr_35, mf_36, rd_36 hp, sh_36 hp, wr_36 hp, mf_37, rd_37 hp, sh_37 hp, wr_37 hp, mf_38, rd_38 hp, sh_38 hp, wr_38 hp, mf_39, rd_39 hp, sh_39 hp, wr_39 hp, mf_40, rd_40 hp, sh_40 hp, wr_40 hp, mf_41, wr_41, mM_p hp, sM_p hp, wM_p hp, sM_o, opI, hx0, m134]
    | none =>
      have hlt : (-1 : Int32) < 0 := by decide
      obtain ⟨Z', y, i1, i2, i3, i4⟩ := ih (r + 1) Z1 (some (.int (-1))) (by omega) g2
      simp only at g3 g4
      rw [g3, g4] at i1 i2 i4
      refine ⟨Z', y, ?_, i2, i3, i4⟩
      rw [← i1]
      conv => lhs; simp only [x204_69, x204_71, x204_74, x204_75, x204_77, x204_80, x204_81, x204_84, bnd_some, Option.toList_some, Option.toList_none, List.cons_append, List.nil_append, List.singleton_append, clr_i, clr_r, clr_n, clr_0, clr_q, clr_l, isR_r, isR_n, isR_q, cat1_i, cat1_r, b0, b1, if_true, if_false, not_true, not_false_eq_true, reduceCtorEq, ite_self, and_true, true_and, and_false, false_and, or_true, true_or, or_false, false_or, opI, hlt, nI_add]
theorem m204 {a kd : Int32} (hF : FrO o F m) (hm : S 17 0 = nI m) (w : WfT S T R) (ws : Wset S T) (wd : Wdep S T R) (hA : S 19 0 = nI A) (hA2 : A ≤ 40) : Md o m F (ex (d + 4) 204 0 [some (.ref o), some (.int a), some (.int kd), none, none] [] (hM o F S)) (fdS A R S a kd) := by
  have hp := hF.1
  have z00 : nI 0 = 0 := rfl
  have hlt1 : (-1 : Int32) < 0 := by decide
  by_cases h1 : ¬ a = -1 ∧ ixI A a = none
  · exact Md_bd (u := 10) (by unfold fdS; rw [if_pos h1]) (by simp only [hM, x204_0, x204_1, x204_2, x204_5, x204_6, x204_7, x204_10, x204_13, x204_14, x204_16, x204_19, bnd_some, Option.toList_some, Option.toList_none, List.cons_append, List.nil_append, List.singleton_append, clr_i, clr_r, clr_n, clr_0, clr_q, clr_l, isR_r, isR_n, isR_q, cat1_i, cat1_r, b0, b1, if_true, if_false, not_true, not_false_eq_true, reduceCtorEq, ite_self, and_true, true_and, and_false, false_and, or_true, true_or, or_false, false_or, mf_0, wr_0, mf_1, wr_1, mf_2, rd_2 hp, sh_2 hp, wr_2 hp, mf_3, rd_3 hp, sh_3 hp, wr_3 hp, mf_4, rd_4 hp, sh_4 hp, wr_4 hp, mf_5, rd_5 hp, sh_5 hp, wr_5 hp, mf_6, rd_6 hp, sh_6 hp, wr_6 hp, mf_7, rd_7 hp, sh_7 hp, wr_7 hp, mf_8, wr_8, mf_9, rd_9 hp, sh_9 hp, wr_9 hp, mf_10, rd_10 hp, sh_10 hp, wr_10 hp, mf_11, rd_11 hp, sh_11 hp, wr_11 hp, mf_12, rd_12 hp, sh_12 hp, wr_12 hp, mf_13, rd_13 hp, sh_13 hp, wr_13 hp, mf_14, wr_14, mf_15, wr_15, mf_16, mf_17, wr_17, mf_18, wr_18, mf_19, wr_19, mf_20, rd_20 hp, sh_20 hp, wr_20 hp, mf_21, wr_21, mf_22, rd_22 hp, sh_22 hp, wr_22 hp, mf_23, rd_23 hp, sh_23 hp, wr_23 hp, mf_24, rd_24 hp, sh_24 hp, wr_24 hp, mf_25, wr_25, mf_26, rd_26 hp, sh_26 hp, wr_26 hp, mf_27, rd_27 hp, sh_27 hp, wr_27 hp, mf_28, rd_28 hp, sh_28 hp, wr_28 hp, mf_29, rd_29 hp, sh_29 hp, wr_29 hp, mf_30, wr_30, mf_31, rd_31 hp, sh_31 hp, wr_31 hp, mf_32, wr_32, mf_33, rd_33 hp, sh_33 hp, wr_33 hp, mf_34, wr_34, mf_35, wr_35, mf_36, rd_36 hp, sh_36 hp, wr_36 hp, mf_37, rd_37 hp, sh_37 hp, wr_37 hp, mf_38, rd_38 hp, sh_38 hp, wr_38 hp, mf_39, rd_39 hp, sh_39 hp, wr_39 hp, mf_40, rd_40 hp, sh_40 hp, wr_40 hp, mf_41, wr_41, mM_p hp, sM_p hp, wM_p hp, sM_o, h1.1, m173 hA, b2_0, h1.2, m135, bdS, rt]) hF hm
  · have e1 : ex (d + 4) 204 0 [some (.ref o), some (.int a), some (.int kd), none, none] [] (hM o F S) = ex (d + 4) 204 20 [some (.ref o), some (.int a), some (.int kd), none, none] [] (mM o F.p S F.m0, sM o F.p F.pl F.s0, F.n, F.k) := by
      by_cases ha : a = -1
      · subst ha
        simp only [hM, x204_0, x204_1, x204_2, x204_5, x204_6, x204_7, x204_10, x204_13, x204_14, x204_16, x204_19, bnd_some, Option.toList_some, Option.toList_none, List.cons_append, List.nil_append, List.singleton_append, clr_i, clr_r, clr_n, clr_0, clr_q, clr_l, isR_r, isR_n, isR_q, cat1_i, cat1_r, b0, b1, if_true, if_false, not_true, not_false_eq_true, reduceCtorEq, ite_self, and_true, true_and, and_false, false_and, or_true, true_or, or_false, false_or]
      · have hn : ¬ ixI A a = none := fun z => h1 ⟨ha, z⟩
        simp only [hM, x204_0, x204_1, x204_2, x204_5, x204_6, x204_7, x204_10, x204_13, x204_14, x204_16, x204_19, bnd_some, Option.toList_some, Option.toList_none, List.cons_append, List.nil_append, List.singleton_append, clr_i, clr_r, clr_n, clr_0, clr_q, clr_l, isR_r, isR_n, isR_q, cat1_i, cat1_r, b0, b1, if_true, if_false, not_true, not_false_eq_true, reduceCtorEq, ite_self, and_true, true_and, and_false, false_and, or_true, true_or, or_false, false_or, mf_0, wr_0, mf_1, wr_1, mf_2, rd_2 hp, sh_2 hp, wr_2 hp, mf_3, rd_3 hp, sh_3 hp, wr_3 hp, mf_4, rd_4 hp, sh_4 hp, wr_4 hp, mf_5, rd_5 hp, sh_5 hp, wr_5 hp, mf_6, rd_6 hp, sh_6 hp, wr_6 hp, mf_7, rd_7 hp, sh_7 hp, wr_7 hp, mf_8, wr_8, mf_9, rd_9 hp, sh_9 hp, wr_9 hp, mf_10, rd_10 hp, sh_10 hp, wr_10 hp, mf_11, rd_11 hp, sh_11 hp, wr_11 hp, mf_12, rd_12 hp, sh_12 hp, wr_12 hp, mf_13, rd_13 hp, sh_13 hp, wr_13 hp, mf_14, wr_14, mf_15, wr_15, mf_16, mf_17, wr_17, mf_18, wr_18, mf_19, wr_19, mf_20, rd_20 hp, sh_20 hp, wr_20 hp, mf_21, wr_21, mf_22, rd_22 hp, sh_22 hp, wr_22 hp, mf_23, rd_23 hp, sh_23 hp, wr_23 hp, mf_24, rd_24 hp, sh_24 hp, wr_24 hp, mf_25, wr_25, mf_26, rd_26 hp, sh_26 hp, wr_26 hp, mf_27, rd_27 hp, sh_27 hp, wr_27 hp, mf_28, rd_28 hp, sh_28 hp, wr_28 hp, mf_29, rd_29 hp, sh_29 hp, wr_29 hp, mf_30, wr_30, mf_31, rd_31 hp, sh_31 hp, wr_31 hp, mf_32, wr_32, mf_33, rd_33 hp, sh_33 hp, wr_33 hp, mf_34, wr_34, mf_35, wr_35, mf_36, rd_36 hp, sh_36 hp, wr_36 hp, mf_37, rd_37 hp, sh_37 hp, wr_37 hp, mf_38, rd_38 hp, sh_38 hp, wr_38 hp, mf_39, rd_39 hp, sh_39 hp, wr_39 hp, mf_40, rd_40 hp, sh_40 hp, wr_40 hp, mf_41, wr_41, mM_p hp, sM_p hp, wM_p hp, sM_o, ha, m173 hA, b2_0, hn]
    rw [e1]
    have er : fdS A R S a kd = if ixR 0 4 kd = none then bdS S 6 else fdG S (fdF S (hitB S a kd) 8 R 0 (S 15 0) (S 41 0)) := by
      unfold fdS
      rw [if_neg h1]
    rw [er]
    by_cases hk : ixR 0 4 kd = none
    · exact Md_bd (u := 6) (by rw [if_pos hk]) (by simp only [x204_20, x204_21, x204_22, x204_23, x204_26, x204_29, x204_30, x204_32, x204_35, bnd_some, Option.toList_some, Option.toList_none, List.cons_append, List.nil_append, List.singleton_append, clr_i, clr_r, clr_n, clr_0, clr_q, clr_l, isR_r, isR_n, isR_q, cat1_i, cat1_r, b0, b1, if_true, if_false, not_true, not_false_eq_true, reduceCtorEq, ite_self, and_true, true_and, and_false, false_and, or_true, true_or, or_false, false_or, mf_0, wr_0, mf_1, wr_1, mf_2, rd_2 hp, sh_2 hp, wr_2 hp, mf_3, rd_3 hp, sh_3 hp, wr_3 hp, mf_4, rd_4 hp, sh_4 hp, wr_4 hp, mf_5, rd_5 hp, sh_5 hp, wr_5 hp, mf_6, rd_6 hp, sh_6 hp, wr_6 hp, mf_7, rd_7 hp, sh_7 hp, wr_7 hp, mf_8, wr_8, mf_9, rd_9 hp, sh_9 hp, wr_9 hp, mf_10, rd_10 hp, sh_10 hp, wr_10 hp, mf_11, rd_11 hp, sh_11 hp, wr_11 hp, mf_12, rd_12 hp, sh_12 hp, wr_12 hp, mf_13, rd_13 hp, sh_13 hp, wr_13 hp, mf_14, wr_14, mf_15, wr_15, mf_16, mf_17, wr_17, mf_18, wr_18, mf_19, wr_19, mf_20, rd_20 hp, sh_20 hp, wr_20 hp, mf_21, wr_21, mf_22, rd_22 hp, sh_22 hp, wr_22 hp, mf_23, rd_23 hp, sh_23 hp, wr_23 hp, mf_24, rd_24 hp, sh_24 hp, wr_24 hp, mf_25, wr_25, mf_26, rd_26 hp, sh_26 hp, wr_26 hp, mf_27, rd_27 hp, sh_27 hp, wr_27 hp, mf_28, rd_28 hp, sh_28 hp, wr_28 hp, mf_29, rd_29 hp, sh_29 hp, wr_29 hp, mf_30, wr_30, mf_31, rd_31 hp, sh_31 hp, wr_31 hp, mf_32, wr_32, mf_33, rd_33 hp, sh_33 hp, wr_33 hp, mf_34, wr_34, mf_35, wr_35, mf_36, rd_36 hp, sh_36 hp, wr_36 hp, mf_37, rd_37 hp, sh_37 hp, wr_37 hp, mf_38, rd_38 hp, sh_38 hp, wr_38 hp, mf_39, rd_39 hp, sh_39 hp, wr_39 hp, mf_40, rd_40 hp, sh_40 hp, wr_40 hp, mf_41, wr_41, mM_p hp, sM_p hp, wM_p hp, sM_o, m137, b2_R, b2_0, hk, m135, bdS, rt]) hF hm
    · rw [if_neg hk]
      have ha : a < 0 ∨ ∃ i, i < 40 ∧ a = nI i := by
        by_cases ha : a = -1
        · exact Or.inl (by rw [ha]; exact hlt1)
        · cases hx : ixI A a with
          | none => exact absurd ⟨ha, hx⟩ h1
          | some i =>
            obtain ⟨e, hi⟩ := ixI_some (by omega) hx
            exact Or.inr ⟨i, by omega, e⟩
      have aw : Aw S (sup S 14 0 (S 14 0 + nI 1)) := Aw_sup (by decide)
      obtain ⟨Z', y, i1, i2, i3, i4⟩ := m204_L (d := d) (o := o) (F := F) (a := a) (kd := kd) (S1 := sup S 14 0 (S 14 0 + nI 1)) hp (WfT_eq w (sup_f (by decide)) (sup_f (by decide))) (Wset_eq (aw 2 (by decide)) (aw 7 (by decide)) ws) (Wdep_eq aw wd) ha R 0 (sup S 14 0 (S 14 0 + nI 1)) none (by omega) ⟨fun _ _ _ _ _ _ => rfl, fun _ _ => rfl⟩
      rw [hitB_eq aw, fdF_eq aw, sup_f (by decide), sup_f (by decide)] at i1 i2 i4
      have e2 : ex (d + 4) 204 20 [some (.ref o), some (.int a), some (.int kd), none, none] [] (mM o F.p S F.m0, sM o F.p F.pl F.s0, F.n, F.k) = ex (d + 4) 204 48 [some (.ref o), some (.int a), some (.int kd), some (.int (nI 0)), none] [] (mM o F.p (sup S 14 0 (S 14 0 + nI 1)) F.m0, sM o F.p F.pl F.s0, F.n, F.k) := by
        conv => lhs; simp only [x204_20, x204_21, x204_22, x204_23, x204_26, x204_29, x204_30, x204_32, x204_35, x204_36, x204_37, x204_37i, x204_38, x204_41, x204_42, x204_43, x204_46, x204_47, bnd_some, Option.toList_some, Option.toList_none, List.cons_append, List.nil_append, List.singleton_append, clr_i, clr_r, clr_n, clr_0, clr_q, clr_l, isR_r, isR_n, isR_q, cat1_i, cat1_r, b0, b1, if_true, if_false, not_true, not_false_eq_true, reduceCtorEq, ite_self, and_true, true_and, and_false, false_and, or_true, true_or, or_false, false_or, mf_0, wr_0, mf_1, wr_1, mf_2, rd_2 hp, sh_2 hp, wr_2 hp, mf_3, rd_3 hp, sh_3 hp, wr_3 hp, mf_4, rd_4 hp, sh_4 hp, wr_4 hp, mf_5, rd_5 hp, sh_5 hp, wr_5 hp, mf_6, rd_6 hp, sh_6 hp, wr_6 hp, mf_7, rd_7 hp, sh_7 hp, wr_7 hp, mf_8, wr_8, mf_9, rd_9 hp, sh_9 hp, wr_9 hp, mf_10, rd_10 hp, sh_10 hp, wr_10 hp, mf_11, rd_11 hp, sh_11 hp, wr_11 hp, mf_12, rd_12 hp, sh_12 hp, wr_12 hp, mf_13, rd_13 hp, sh_13 hp, wr_13 hp, mf_14, wr_14, mf_15, wr_15, mf_16, mf_17, wr_17, mf_18, wr_18, mf_19, wr_19, mf_20, rd_20 hp, sh_20 hp, wr_20 hp, mf_21, wr_21, mf_22, rd_22 hp, sh_22 hp, wr_22 hp, mf_23, rd_23 hp, sh_23 hp, wr_23 hp, mf_24, rd_24 hp, sh_24 hp, wr_24 hp, mf_25, wr_25, mf_26, rd_26 hp, sh_26 hp, wr_26 hp, mf_27, rd_27 hp, sh_27 hp, wr_27 hp, mf_28, rd_28 hp, sh_28 hp, wr_28 hp, mf_29, rd_29 hp, sh_29 hp, wr_29 hp, mf_30, wr_30, mf_31, rd_31 hp, sh_31 hp, wr_31 hp, mf_32, wr_32, mf_33, rd_33 hp, sh_33 hp, wr_33 hp, mf_34, wr_34, mf_35, wr_35, mf_36, rd_36 hp, sh_36 hp, wr_36 hp, mf_37, rd_37 hp, sh_37 hp, wr_37 hp, mf_38, rd_38 hp, sh_38 hp, wr_38 hp, mf_39, rd_39 hp, sh_39 hp, wr_39 hp, mf_40, rd_40 hp, sh_40 hp, wr_40 hp, mf_41, wr_41, mM_p hp, sM_p hp, wM_p hp, sM_o, m137, b2_R, b2_0, hk]
      rw [e2, i1]
      have q := Sq_Ag2 (m := m) i3
      rw [i4] at q
      revert q i2
      generalize fdF S (hitB S a kd) 8 R 0 (S 15 0) (S 41 0) = res
      obtain ⟨r1, r2, r3⟩ := res
      intro i2 q
      cases r1 with
      | some x =>
        simp only at i2
        subst i2
        exact Md_sc rfl hF (by simp only [fdG, fnS, sup_eq, sup_f, not_false_eq_true, Nat.reduceEqDiff, hm]) (Sq_sup q _ _ _)
      | none =>
        simp only at i2
        subst i2
        exact Md_sc rfl hF (by simp only [fdG, bdS, sup_eq, sup_f, not_false_eq_true, Nat.reduceEqDiff, hm]) (Sq_sup q _ _ _)
theorem m205 {h : Int32} (hF : FrO o F m) (hm : S 17 0 = nI m) (w : WfT S T R) (ws : Wset S T) (wd : Wdep S T R) : Md o m F (ex (d + 4) 205 0 [some (.ref o), some (.int h), none, none] [] (hM o F S)) (ctS R T S h) := by
  have hp := hF.1
  have hlt1 : (-1 : Int32) < 0 := by decide
  cases hr : rowI R T S h with
  | none => exact Md_bd (u := 1) (by simp only [ctS, hr]) (by simp only [hM, x205_0, x205_1, x205_2, x205_5, x205_6, x205_7, x205_10, x205_11, x205_12, x205_15, bnd_some, Option.toList_some, Option.toList_none, List.cons_append, List.nil_append, List.singleton_append, clr_i, clr_r, clr_n, clr_0, clr_q, clr_l, isR_r, isR_n, isR_q, cat1_i, cat1_r, b0, b1, if_true, if_false, not_true, not_false_eq_true, reduceCtorEq, ite_self, and_true, true_and, and_false, false_and, or_true, true_or, or_false, false_or, mf_0, wr_0, mf_1, wr_1, mf_2, rd_2 hp, sh_2 hp, wr_2 hp, mf_3, rd_3 hp, sh_3 hp, wr_3 hp, mf_4, rd_4 hp, sh_4 hp, wr_4 hp, mf_5, rd_5 hp, sh_5 hp, wr_5 hp, mf_6, rd_6 hp, sh_6 hp, wr_6 hp, mf_7, rd_7 hp, sh_7 hp, wr_7 hp, mf_8, wr_8, mf_9, rd_9 hp, sh_9 hp, wr_9 hp, mf_10, rd_10 hp, sh_10 hp, wr_10 hp, mf_11, rd_11 hp, sh_11 hp, wr_11 hp, mf_12, rd_12 hp, sh_12 hp, wr_12 hp, mf_13, rd_13 hp, sh_13 hp, wr_13 hp, mf_14, wr_14, mf_15, wr_15, mf_16, mf_17, wr_17, mf_18, wr_18, mf_19, wr_19, mf_20, rd_20 hp, sh_20 hp, wr_20 hp, mf_21, wr_21, mf_22, rd_22 hp, sh_22 hp, wr_22 hp, mf_23, rd_23 hp, sh_23 hp, wr_23 hp, mf_24, rd_24 hp, sh_24 hp, wr_24 hp, mf_25, wr_25, mf_26, rd_26 hp, sh_26 hp, wr_26 hp, mf_27, rd_27 hp, sh_27 hp, wr_27 hp, mf_28, rd_28 hp, sh_28 hp, wr_28 hp, mf_29, rd_29 hp, sh_29 hp, wr_29 hp, mf_30, wr_30, mf_31, rd_31 hp, sh_31 hp, wr_31 hp, mf_32, wr_32, mf_33, rd_33 hp, sh_33 hp, wr_33 hp, mf_34, wr_34, mf_35, wr_35, mf_36, rd_36 hp, sh_36 hp, wr_36 hp, mf_37, rd_37 hp, sh_37 hp, wr_37 hp, mf_38, rd_38 hp, sh_38 hp, wr_38 hp, mf_39, rd_39 hp, sh_39 hp, wr_39 hp, mf_40, rd_40 hp, sh_40 hp, wr_40 hp, mf_41, wr_41, mM_p hp, sM_p hp, wM_p hp, sM_o, m140 hp w, hr, opI, neg1_lt, m135, bdS, rt]) hF hm
  | some r =>
    have hr2 := rowI_lt w.2.2.2 w.2.1 hr
    have h0 : (0 : Int32) ≤ nI r := nI_0le (by omega)
    have er : ctS R T S h = ctG S (wkF S (hitB S (-1) (-1)) 8 r (S 15 0 + nI 1) (nI 0)) := by simp only [ctS, hr]
    rw [er]
    have aw : Aw S (sup (sup S 14 0 (S 14 0 + nI 1)) 41 0 (nI 0)) := fun f hf j => by
      rw [sup_f (by rintro rfl; revert hf; decide), sup_f (by rintro rfl; revert hf; decide)]
    obtain ⟨Z1, g1, g2, g3, g4⟩ := m203 (d := d) (o := o) (p := F.p) (pl := F.pl) (n := F.n) (k := F.k) (m0 := F.m0) (s0 := F.s0) (a := -1) (kd := -1) (f := 8) (r := r) (S := sup (sup S 14 0 (S 14 0 + nI 1)) 41 0 (nI 0)) (Z := sup (sup S 14 0 (S 14 0 + nI 1)) 41 0 (nI 0)) hp (Wset_eq (aw 2 (by decide)) (aw 7 (by decide)) ws) w.2.1 (Or.inl hlt1) (dep_eq aw 8 r (wd h r hr)) (by omega) ⟨fun _ _ _ _ _ _ => rfl, fun _ _ => rfl⟩
    rw [hitB_eq aw, wkF_eq aw, sup_eq, sup_f (by decide), sup_f (by decide)] at g1 g3 g4
    have q := Sq_Ag2 (m := m) g2
    rw [g3] at q
    have q2 : Sq m (sup (sup S 14 0 (S 14 0 + nI 1)) 15 0 (wkF S (hitB S (-1) (-1)) 8 r (S 15 0 + nI 1) (nI 0)).2.1) Z1 := by
      refine ⟨fun f j a b => ?_, fun j hj => ?_⟩
      · have hf : ¬ f = 41 := by rintro rfl; exact absurd b (by decide)
        rw [q.1 f j a b]
        unfold sup
        simp only [hf, false_and, if_false]
      · rw [q.2 j hj]
        simp only [sup_eq, sup_f, not_false_eq_true, Nat.reduceEqDiff]
    refine Md_sc (Z := sup Z1 0 0 (nI 0)) ?_ hF (by simp only [ctG, fnS, sup_eq, sup_f, not_false_eq_true, Nat.reduceEqDiff, hm]) (Sq_sup q2 _ _ _)
    simp only [hM, x205_0, x205_1, x205_2, x205_5, x205_6, x205_7, x205_10, x205_11, x205_12, x205_15, x205_16, x205_17, x205_17i, x205_18, x205_21, x205_22, x205_23, x205_26, x205_27, x205_28, x205_31, x205_32, x205_33, x205_34, x205_35, x205_38, x205_39, x205_40, x205_41, x205_44, x205_47, bnd_some, Option.toList_some, Option.toList_none, List.cons_append, List.nil_append, List.singleton_append, clr_i, clr_r, clr_n, clr_0, clr_q, clr_l, isR_r, isR_n, isR_q, cat1_i, cat1_r, b0, b1, if_true, if_false, not_true, not_false_eq_true, reduceCtorEq, ite_self, and_true, true_and, and_false, false_and, or_true, true_or, or_false, false_or, mf_0, wr_0, mf_1, wr_1, mf_2, rd_2 hp, sh_2 hp, wr_2 hp, mf_3, rd_3 hp, sh_3 hp, wr_3 hp, mf_4, rd_4 hp, sh_4 hp, wr_4 hp, mf_5, rd_5 hp, sh_5 hp, wr_5 hp, mf_6, rd_6 hp, sh_6 hp, wr_6 hp, mf_7, rd_7 hp, sh_7 hp, wr_7 hp, mf_8, wr_8, mf_9, rd_9 hp, sh_9 hp, wr_9 hp, mf_10, rd_10 hp, sh_10 hp, wr_10 hp, mf_11, rd_11 hp, sh_11 hp, wr_11 hp, mf_12, rd_12 hp, sh_12 hp, wr_12 hp, mf_13, rd_13 hp, sh_13 hp, wr_13 hp, mf_14, wr_14, mf_15, wr_15, mf_16, mf_17, wr_17, mf_18, wr_18, mf_19, wr_19, mf_20, rd_20 hp, sh_20 hp, wr_20 hp, mf_21, wr_21, mf_22, rd_22 hp, sh_22 hp, wr_22 hp, mf_23, rd_23 hp, sh_23 hp, wr_23 hp, mf_24, rd_24 hp, sh_24 hp, wr_24 hp, mf_25, wr_25, mf_26, rd_26 hp, sh_26 hp, wr_26 hp, mf_27, rd_27 hp, sh_27 hp, wr_27 hp, mf_28, rd_28 hp, sh_28 hp, wr_28 hp, mf_29, rd_29 hp, sh_29 hp, wr_29 hp, mf_30, wr_30, mf_31, rd_31 hp, sh_31 hp, wr_31 hp, mf_32, wr_32, mf_33, rd_33 hp, sh_33 hp, wr_33 hp, mf_34, wr_34, mf_35, wr_35, mf_36, rd_36 hp, sh_36 hp, wr_36 hp, mf_37, rd_37 hp, sh_37 hp, wr_37 hp, mf_38, rd_38 hp, sh_38 hp, wr_38 hp, mf_39, rd_39 hp, sh_39 hp, wr_39 hp, mf_40, rd_40 hp, sh_40 hp, wr_40 hp, mf_41, wr_41, mM_p hp, sM_p hp, wM_p hp, sM_o, m140 hp w, hr, opI, h0, g1, g4, m134, ctG, fnS]
end MR
