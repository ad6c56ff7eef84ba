/-! ===== the reference: plan ===== -/
theorem srM_al {C : Nat} {al al' : Nat → Nat → Bool} {pr : Nat → Nat → Nat} {ag : Nat → Nat → Nat → Nat → Bool} : ∀ k r tr s, (∀ i c, i < r + k → al i c = al' i c) → srM C al pr ag k r tr s = srM C al' pr ag k r tr s := by
  intro k
  induction k with
  | zero => intro r tr s _; rfl
  | succ k ih =>
    intro r tr s h
    unfold srM
    have : (fun c => if (al r c && agA ag r c tr r) = true then srM C al pr ag k (r + 1) (upN tr r c) (s + pr r c) else 100000000) = (fun c => if (al' r c && agA ag r c tr r) = true then srM C al' pr ag k (r + 1) (upN tr r c) (s + pr r c) else 100000000) := by
      funext c
      rw [h r c (by omega), ih (r + 1) (upN tr r c) (s + pr r c) (fun i c hi => h i c (by omega))]
    rw [this]
theorem lcF_fx {C nr : Nat} {fx fx' : Nat → Int32} {pr : Nat → Nat → Nat} {ag : Nat → Nat → Nat → Nat → Bool} (h : ∀ x, x < nr → fx x = fx' x) : lcF C nr fx pr ag = lcF C nr fx' pr ag := by
  unfold lcF
  rw [srM_al (al' := alB fx' pr) nr 0 (fun _ => 0) 0 (fun i c hi => by unfold alB; rw [h i (by omega)])]
def SZ2 (Z0 Z : St) : Prop := ∀ f j, f ≠ 28 → f ≠ 29 → f ≠ 30 → f ≠ 31 → f ≠ 33 → Z f j = Z0 f j
section MW
variable {d o p pl n k : Nat} {Z0 : St} {m0 : Mm} {s0 : Nat → Nat × Nat} {T nr C : Nat} {pr : Nat → Nat → Nat}
theorem PY_eq {Z : St} (py : PY Z0 T nr C pr) (h : SZ2 Z0 Z) : PY Z T nr C pr ∧ agB Z nr = agB Z0 nr := by
  obtain ⟨ws, hT, hn, hn7, h25, hC, h23, h26, h27⟩ := py
  have zz : ∀ f, f ≠ 28 → f ≠ 29 → f ≠ 30 → f ≠ 31 → f ≠ 33 → ∀ j, Z f j = Z0 f j := fun f a b c e g j => h f j a b c e g
  refine ⟨⟨Wset_eq (zz 2 (by decide) (by decide) (by decide) (by decide) (by decide)) (zz 7 (by decide) (by decide) (by decide) (by decide) (by decide)) ws, hT, ?_, hn7, ?_, hC, ?_, ?_, ?_⟩, ?_⟩
  · rw [zz 21 (by decide) (by decide) (by decide) (by decide) (by decide)]; exact hn
  · rw [zz 25 (by decide) (by decide) (by decide) (by decide) (by decide)]; exact h25
  · intro r hr; rw [zz 23 (by decide) (by decide) (by decide) (by decide) (by decide)]; exact h23 r hr
  · intro r hr; rw [zz 26 (by decide) (by decide) (by decide) (by decide) (by decide)]; exact h26 r hr
  · intro r c hr hc; rw [zz 27 (by decide) (by decide) (by decide) (by decide) (by decide)]; exact h27 r c hr hc
  · funext a b c e
    exact agB_eq (zz 2 (by decide) (by decide) (by decide) (by decide) (by decide)) (zz 7 (by decide) (by decide) (by decide) (by decide) (by decide)) (zz 22 (by decide) (by decide) (by decide) (by decide) (by decide)) (zz 23 (by decide) (by decide) (by decide) (by decide) (by decide)) (zz 24 (by decide) (by decide) (by decide) (by decide) (by decide)) (zz 26 (by decide) (by decide) (by decide) (by decide) (by decide)) _ _ _ _ _
theorem lc_193 {Z : St} (hp : Op o p) (py : PY Z0 T nr C pr) (h : SZ2 Z0 Z) : ∃ Z', (∀ f j, f ≠ 29 → f ≠ 30 → f ≠ 31 → Z' f j = Z f j) ∧ ex (d + 11) 193 0 [some (.ref o), none, none, none] [] (mM o p Z m0, sM o p pl s0, n, k) = some (some (.int (nI (lcF C nr (Z 28) pr (agB Z0 nr)))), (mM o p Z' m0, sM o p pl s0, n, k)) := by
  obtain ⟨py', eg⟩ := PY_eq py h
  obtain ⟨Z', h1, h2⟩ := m193 (d := d) (o := o) (p := p) (pl := pl) (n := n) (k := k) (m0 := m0) (s0 := s0) hp py'
  refine ⟨Z', h2, ?_⟩
  rw [h1]
  unfold lcM lcF
  rw [eg]
/-- a role's choice goes up until the cost is the least -/
theorem m194_w {h : Nat → Nat} {r c : Nat} {best : Nat} (hp : Op o p) (py : PY Z0 T nr C pr) (hr : r < nr) (hc : c < C) (hb : best < 100000000) (h1 : lcF C nr (fxR (Z0 28) (upN h r c) (r + 1)) pr (agB Z0 nr) = best) (h2 : ∀ e, e < c → best < lcF C nr (fxR (Z0 28) (upN h r e) (r + 1)) pr (agB Z0 nr)) : ∀ u e Z, e + u = c → SZ2 Z0 Z → (∀ x, x < nr → Z 28 x = fxR (Z0 28) (upN h r e) (r + 1) x) → ∃ Z', SZ2 Z0 Z' ∧ (∀ x, x < nr → Z' 28 x = fxR (Z0 28) (upN h r c) (r + 1) x) ∧ (∀ j, Z' 33 j = Z 33 j) ∧ ex (d + 12) 194 44 [some (.ref o), some (.int (nI best)), some (.int (nI r))] [] (mM o p Z m0, sM o p pl s0, n, k) = ex (d + 12) 194 65 [some (.ref o), some (.int (nI best)), some (.int (nI r))] [] (mM o p Z' m0, sM o p pl s0, n, k) := by
  have hn7 := py.2.2.2.1
  have hC8 := py.2.2.2.2.2.1
  have r7 : r < 7 := by omega
  have rb : r < 2147483648 := by omega
  intro u
  induction u with
  | zero =>
    intro e Z he sz hz
    have ee : e = c := by omega
    subst ee
    obtain ⟨Z', z1, z2⟩ := lc_193 (d := d) (o := o) (p := p) (pl := pl) (n := n) (k := k) (m0 := m0) (s0 := s0) hp py sz
    rw [lcF_fx hz, h1] at z2
    have g : nI best ≤ nI best := nI_le (Nat.le_refl _) (by omega)
    refine ⟨Z', fun f j a b c e g => by rw [z1 f j b c e]; exact sz f j a b c e g, fun x hx => by rw [z1 28 x (by decide) (by decide) (by decide)]; exact hz x hx, fun j => z1 33 j (by decide) (by decide) (by decide), ?_⟩
    conv => lhs; simp only [x194_44, x194_45, x194_48, x194_49, bnd_some, Option.toList_some, Option.toList_none, List.cons_append, List.nil_append, List.singleton_append, clr_i, clr_r, clr_n, clr_0, clr_q, clr_l, isR_r, isR_n, isR_q, cat1_i, cat1_r, b0, b1, if_true, if_false, not_true, not_false_eq_true, reduceCtorEq, ite_self, and_true, true_and, and_false, false_and, or_true, true_or, or_false, false_or, mf_0, wr_0, mf_1, wr_1, mf_2, rd_2 hp, sh_2 hp, wr_2 hp, mf_3, rd_3 hp, sh_3 hp, wr_3 hp, mf_4, rd_4 hp, sh_4 hp, wr_4 hp, mf_5, rd_5 hp, sh_5 hp, wr_5 hp, mf_6, rd_6 hp, sh_6 hp, wr_6 hp, mf_7, rd_7 hp, sh_7 hp, wr_7 hp, mf_8, wr_8, mf_9, rd_9 hp, sh_9 hp, wr_9 hp, mf_10, rd_10 hp, sh_10 hp, wr_10 hp, mf_11, rd_11 hp, sh_11 hp, wr_11 hp, mf_12, rd_12 hp, sh_12 hp, wr_12 hp, mf_13, rd_13 hp, sh_13 hp, wr_13 hp, mf_14, wr_14, mf_15, wr_15, mf_16, mf_17, wr_17, mf_18, wr_18, mf_19, wr_19, mf_20, rd_20 hp, sh_20 hp, wr_20 hp, mf_21, wr_21, mf_22, rd_22 hp, sh_22 hp, wr_22 hp, mf_23, rd_23 hp, sh_23 hp, wr_23 hp, mf_24, rd_24 hp, sh_24 hp, wr_24 hp, mf_25, wr_25, mf_26, rd_26 hp, sh_26 hp, wr_26 hp, mf_27, rd_27 hp, sh_27 hp, wr_27 hp, mf_28, rd_28 hp, sh_28 hp, wr_28 hp, mf_29, rd_29 hp, sh_29 hp, wr_29 hp, mf_30, wr_30, mf_31, rd_31 hp, sh_31 hp, wr_31 hp, mf_32, wr_32, mf_33, rd_33 hp, sh_33 hp, wr_33 hp, mf_34, wr_34, mf_35, wr_35, mf_36, rd_36 hp, sh_36 hp, wr_36 hp, mf_37, rd_37 hp, sh_37 hp, wr_37 hp, mf_38, rd_38 hp, sh_38 hp, wr_38 hp, mf_39, rd_39 hp, sh_39 hp, wr_39 hp, mf_40, rd_40 hp, sh_40 hp, wr_40 hp, mf_41, wr_41, mM_p hp, sM_p hp, wM_p hp, sM_o, z2, g]
  | succ u ih =>
    intro e Z he sz hz
    obtain ⟨Z1, z1, z2⟩ := lc_193 (d := d) (o := o) (p := p) (pl := pl) (n := n) (k := k) (m0 := m0) (s0 := s0) hp py sz
    rw [lcF_fx hz] at z2
    have hlt := h2 e (by omega)
    have hle : lcF C nr (fxR (Z0 28) (upN h r e) (r + 1)) pr (agB Z0 nr) ≤ 100000000 := by unfold lcF; omega
    have g : ¬ nI (lcF C nr (fxR (Z0 28) (upN h r e) (r + 1)) pr (agB Z0 nr)) ≤ nI best := nI_ge hlt (by omega)
    have e28 : Z1 28 r = nI e := by
      rw [z1 28 r (by decide) (by decide) (by decide), hz r hr]
      unfold fxR upN
      rw [if_pos (by omega), if_pos rfl]
    obtain ⟨Z', y1, y2, y3, y4⟩ := ih (e + 1) (sup Z1 28 r (nI (e + 1))) (by omega) (fun f j a b c e g => by rw [sup_f a, z1 f j b c e]; exact sz f j a b c e g) (fun x hx => by
      by_cases q : x = r
      · subst q
        rw [sup_eq]
        unfold fxR upN
        rw [if_pos (by omega), if_pos rfl]
      · rw [sup_j q, z1 28 x (by decide) (by decide) (by decide), hz x hx]
        unfold fxR upN
        by_cases w : x < r + 1
        · rw [if_pos w, if_pos w, if_neg q, if_neg q]
        · rw [if_neg w, if_neg w])
    refine ⟨Z', y1, y2, fun j => by rw [y3 j, sup_f (by decide), z1 33 j (by decide) (by decide) (by decide)], ?_⟩
    rw [← y4]
    conv => lhs; simp only [x194_44, x194_45, x194_48, x194_49, bnd_some, Option.toList_some, Option.toList_none, List.cons_append, List.nil_append, List.singleton_append, clr_i, clr_r, clr_n, clr_0, clr_q, clr_l, isR_r, isR_n, isR_q, cat1_i, cat1_r, b0, b1, if_true, if_false, not_true, not_false_eq_true, reduceCtorEq, ite_self, and_true, true_and, and_false, false_and, or_true, true_or, or_false, false_or, mf_0, wr_0, mf_1, wr_1, mf_2, rd_2 hp, sh_2 hp, wr_2 hp, mf_3, rd_3 hp, sh_3 hp, wr_3 hp, mf_4, rd_4 hp, sh_4 hp, wr_4 hp, mf_5, rd_5 hp, sh_5 hp, wr_5 hp, mf_6, rd_6 hp, sh_6 hp, wr_6 hp, mf_7, rd_7 hp, sh_7 hp, wr_7 hp, mf_8, wr_8, mf_9, rd_9 hp, sh_9 hp, wr_9 hp, mf_10, rd_10 hp, sh_10 hp, wr_10 hp, mf_11, rd_11 hp, sh_11 hp, wr_11 hp, mf_12, rd_12 hp, sh_12 hp, wr_12 hp, mf_13, rd_13 hp, sh_13 hp, wr_13 hp, mf_14, wr_14, mf_15, wr_15, mf_16, mf_17, wr_17, mf_18, wr_18, mf_19, wr_19, mf_20, rd_20 hp, sh_20 hp, wr_20 hp, mf_21, wr_21, mf_22, rd_22 hp, sh_22 hp, wr_22 hp, mf_23, rd_23 hp, sh_23 hp, wr_23 hp, mf_24, rd_24 hp, sh_24 hp, wr_24 hp, mf_25, wr_25, mf_26, rd_26 hp, sh_26 hp, wr_26 hp, mf_27, rd_27 hp, sh_27 hp, wr_27 hp, mf_28, rd_28 hp, sh_28 hp, wr_28 hp, mf_29, rd_29 hp, sh_29 hp, wr_29 hp, mf_30, wr_30, mf_31, rd_31 hp, sh_31 hp, wr_31 hp, mf_32, wr_32, mf_33, rd_33 hp, sh_33 hp, wr_33 hp, mf_34, wr_34, mf_35, wr_35, mf_36, rd_36 hp, sh_36 hp, wr_36 hp, mf_37, rd_37 hp, sh_37 hp, wr_37 hp, mf_38, rd_38 hp, sh_38 hp, wr_38 hp, mf_39, rd_39 hp, sh_39 hp, wr_39 hp, mf_40, rd_40 hp, sh_40 hp, wr_40 hp, mf_41, wr_41, mM_p hp, sM_p hp, wM_p hp, sM_o, z2, g]
    conv => lhs; simp only [x194_52, x194_53, x194_56, x194_57, x194_58, x194_59, x194_60, x194_61, x194_62, bnd_some, Option.toList_some, Option.toList_none, List.cons_append, List.nil_append, List.singleton_append, clr_i, clr_r, clr_n, clr_0, clr_q, clr_l, isR_r, isR_n, isR_q, cat1_i, cat1_r, b0, b1, if_true, if_false, not_true, not_false_eq_true, reduceCtorEq, ite_self, and_true, true_and, and_false, false_and, or_true, true_or, or_false, false_or, mf_0, wr_0, mf_1, wr_1, mf_2, rd_2 hp, sh_2 hp, wr_2 hp, mf_3, rd_3 hp, sh_3 hp, wr_3 hp, mf_4, rd_4 hp, sh_4 hp, wr_4 hp, mf_5, rd_5 hp, sh_5 hp, wr_5 hp, mf_6, rd_6 hp, sh_6 hp, wr_6 hp, mf_7, rd_7 hp, sh_7 hp, wr_7 hp, mf_8, wr_8, mf_9, rd_9 hp, sh_9 hp, wr_9 hp, mf_10, rd_10 hp, sh_10 hp, wr_10 hp, mf_11, rd_11 hp, sh_11 hp, wr_11 hp, mf_12, rd_12 hp, sh_12 hp, wr_12 hp, mf_13, rd_13 hp, sh_13 hp, wr_13 hp, mf_14, wr_14, mf_15, wr_15, mf_16, mf_17, wr_17, mf_18, wr_18, mf_19, wr_19, mf_20, rd_20 hp, sh_20 hp, wr_20 hp, mf_21, wr_21, mf_22, rd_22 hp, sh_22 hp, wr_22 hp, mf_23, rd_23 hp, sh_23 hp, wr_23 hp, mf_24, rd_24 hp, sh_24 hp, wr_24 hp, mf_25, wr_25, mf_26, rd_26 hp, sh_26 hp, wr_26 hp, mf_27, rd_27 hp, sh_27 hp, wr_27 hp, mf_28, rd_28 hp, sh_28 hp, wr_28 hp, mf_29, rd_29 hp, sh_29 hp, wr_29 hp, mf_30, wr_30, mf_31, rd_31 hp, sh_31 hp, wr_31 hp, mf_32, wr_32, mf_33, rd_33 hp, sh_33 hp, wr_33 hp, mf_34, wr_34, mf_35, wr_35, mf_36, rd_36 hp, sh_36 hp, wr_36 hp, mf_37, rd_37 hp, sh_37 hp, wr_37 hp, mf_38, rd_38 hp, sh_38 hp, wr_38 hp, mf_39, rd_39 hp, sh_39 hp, wr_39 hp, mf_40, rd_40 hp, sh_40 hp, wr_40 hp, mf_41, wr_41, mM_p hp, sM_p hp, wM_p hp, sM_o, r7, rb, e28, nI_add]
theorem m194_r {best : Nat} (hp : Op o p) (py : PY Z0 T nr C pr) (hf : ∀ x, x < nr → Z0 28 x < 0) (hb : best < 100000000) (hl : lcF C nr (Z0 28) pr (agB Z0 nr) = best) : ∀ u r h Z, r + u = nr → (∀ x, x < r → h x < C) → lcF C nr (fxR (Z0 28) h r) pr (agB Z0 nr) = best → Lex C nr (Z0 28) pr (agB Z0 nr) h r → SZ2 Z0 Z → (∀ x, x < nr → Z 28 x = fxR (Z0 28) h r x) → (∀ j, Z 33 j = if j < r then Z0 26 (h j) else Z0 33 j) → ∃ h' Z', (∀ x, x < nr → h' x < C) ∧ lcF C nr (fxR (Z0 28) h' nr) pr (agB Z0 nr) = best ∧ Lex C nr (Z0 28) pr (agB Z0 nr) h' nr ∧ SZ2 Z0 Z' ∧ (∀ j, Z' 33 j = if j < nr then Z0 26 (h' j) else Z0 33 j) ∧ ex (d + 12) 194 29 [some (.ref o), some (.int (nI best)), some (.int (nI r))] [] (mM o p Z m0, sM o p pl s0, n, k) = ex (d + 12) 194 88 [some (.ref o), some (.int (nI best)), some (.int (nI nr))] [] (mM o p Z' m0, sM o p pl s0, n, k) := by
  have py' := py
  obtain ⟨ws, hT, hn, hn7, h25, hC, h23, h26, h27⟩ := py'
  intro u
  induction u with
  | zero =>
    intro r h Z hr hh hl2 lx sz hz h33
    have e : r = nr := by omega
    subst e
    have g : nI r ≤ nI r := nI_le (Nat.le_refl _) (by omega)
    have z21 : Z 21 0 = nI r := by rw [sz 21 0 (by decide) (by decide) (by decide) (by decide) (by decide)]; exact hn
    exact ⟨h, Z, hh, hl2, lx, sz, h33, by conv => lhs; simp only [x194_29, x194_30, x194_31, x194_34, bnd_some, Option.toList_some, Option.toList_none, List.cons_append, List.nil_append, List.singleton_append, clr_i, clr_r, clr_n, clr_0, clr_q, clr_l, isR_r, isR_n, isR_q, cat1_i, cat1_r, b0, b1, if_true, if_false, not_true, not_false_eq_true, reduceCtorEq, ite_self, and_true, true_and, and_false, false_and, or_true, true_or, or_false, false_or, mf_0, wr_0, mf_1, wr_1, mf_2, rd_2 hp, sh_2 hp, wr_2 hp, mf_3, rd_3 hp, sh_3 hp, wr_3 hp, mf_4, rd_4 hp, sh_4 hp, wr_4 hp, mf_5, rd_5 hp, sh_5 hp, wr_5 hp, mf_6, rd_6 hp, sh_6 hp, wr_6 hp, mf_7, rd_7 hp, sh_7 hp, wr_7 hp, mf_8, wr_8, mf_9, rd_9 hp, sh_9 hp, wr_9 hp, mf_10, rd_10 hp, sh_10 hp, wr_10 hp, mf_11, rd_11 hp, sh_11 hp, wr_11 hp, mf_12, rd_12 hp, sh_12 hp, wr_12 hp, mf_13, rd_13 hp, sh_13 hp, wr_13 hp, mf_14, wr_14, mf_15, wr_15, mf_16, mf_17, wr_17, mf_18, wr_18, mf_19, wr_19, mf_20, rd_20 hp, sh_20 hp, wr_20 hp, mf_21, wr_21, mf_22, rd_22 hp, sh_22 hp, wr_22 hp, mf_23, rd_23 hp, sh_23 hp, wr_23 hp, mf_24, rd_24 hp, sh_24 hp, wr_24 hp, mf_25, wr_25, mf_26, rd_26 hp, sh_26 hp, wr_26 hp, mf_27, rd_27 hp, sh_27 hp, wr_27 hp, mf_28, rd_28 hp, sh_28 hp, wr_28 hp, mf_29, rd_29 hp, sh_29 hp, wr_29 hp, mf_30, wr_30, mf_31, rd_31 hp, sh_31 hp, wr_31 hp, mf_32, wr_32, mf_33, rd_33 hp, sh_33 hp, wr_33 hp, mf_34, wr_34, mf_35, wr_35, mf_36, rd_36 hp, sh_36 hp, wr_36 hp, mf_37, rd_37 hp, sh_37 hp, wr_37 hp, mf_38, rd_38 hp, sh_38 hp, wr_38 hp, mf_39, rd_39 hp, sh_39 hp, wr_39 hp, mf_40, rd_40 hp, sh_40 hp, wr_40 hp, mf_41, wr_41, mM_p hp, sM_p hp, wM_p hp, sM_o, z21, g]⟩
  | succ u ih =>
    intro r h Z hr hh hl2 lx sz hz h33
    have hr' : r < nr := by omega
    have r7 : r < 7 := by omega
    have rb : r < 2147483648 := by omega
    have g : ¬ nI nr ≤ nI r := nI_ge hr' (by omega)
    have z21 : Z 21 0 = nI nr := by rw [sz 21 0 (by decide) (by decide) (by decide) (by decide) (by decide)]; exact hn
    obtain ⟨c, c1, c2, c3, c4⟩ := lex_step (C := C) (nr := nr) (fx := Z0 28) (pr := pr) (ag := agB Z0 nr) (h := h) (r := r) hr' hC hh hf (by rw [hl2, hl]) (by rw [hl]; exact hb) lx
    rw [hl] at c2 c3
    obtain ⟨Z1, y1, y2, y3, y4⟩ := m194_w (d := d) (o := o) (p := p) (pl := pl) (n := n) (k := k) (m0 := m0) (s0 := s0) (h := h) (r := r) (c := c) (best := best) hp py hr' c1 hb c2 c3 c 0 (sup Z 28 r (nI 0)) (by omega) (fun f j a b c e g => by rw [sup_f a]; exact sz f j a b c e g) (fun x hx => by
      by_cases q : x = r
      · subst q
        rw [sup_eq]
        unfold fxR upN
        rw [if_pos (by omega), if_pos rfl]
      · rw [sup_j q, hz x hx]
        unfold fxR upN
        by_cases w : x < r
        · rw [if_pos w, if_pos (by omega), if_neg q]
        · rw [if_neg w, if_neg (by omega)])
    have e28 : Z1 28 r = nI c := by
      rw [y2 r hr']
      unfold fxR upN
      rw [if_pos (by omega), if_pos rfl]
    have c8 : c < 8 := by omega
    have cb : c < 2147483648 := by omega
    have e26 : Z1 26 c = Z0 26 c := y1 26 c (by decide) (by decide) (by decide) (by decide) (by decide)
    obtain ⟨h', Z', w1, w2, w3, w4, w5, w6⟩ := ih (r + 1) (upN h r c) (sup Z1 33 r (Z0 26 c)) (by omega) (fun x hx => by
      unfold upN
      split
      · exact c1
      · exact hh x (by omega)) c2 c4 (fun f j a b c e g => by rw [sup_f g]; exact y1 f j a b c e g) (fun x hx => by rw [sup_f (by decide)]; exact y2 x hx) (fun j => by
      by_cases q : j = r
      · subst q
        rw [sup_eq, if_pos (by omega)]
        unfold upN
        rw [if_pos rfl]
      · rw [sup_j q, y3 j, sup_f (by decide), h33 j]
        unfold upN
        by_cases w : j < r
        · rw [if_pos w, if_pos (by omega), if_neg q]
        · rw [if_neg w, if_neg (by omega)])
    refine ⟨h', Z', w1, w2, w3, w4, w5, ?_⟩
    rw [← w6]
    conv => lhs; simp only [x194_29, x194_30, x194_31, x194_34, bnd_some, Option.toList_some, Option.toList_none, List.cons_append, List.nil_append, List.singleton_append, clr_i, clr_r, clr_n, clr_0, clr_q, clr_l, isR_r, isR_n, isR_q, cat1_i, cat1_r, b0, b1, if_true, if_false, not_true, not_false_eq_true, reduceCtorEq, ite_self, and_true, true_and, and_false, false_and, or_true, true_or, or_false, false_or, mf_0, wr_0, mf_1, wr_1, mf_2, rd_2 hp, sh_2 hp, wr_2 hp, mf_3, rd_3 hp, sh_3 hp, wr_3 hp, mf_4, rd_4 hp, sh_4 hp, wr_4 hp, mf_5, rd_5 hp, sh_5 hp, wr_5 hp, mf_6, rd_6 hp, sh_6 hp, wr_6 hp, mf_7, rd_7 hp, sh_7 hp, wr_7 hp, mf_8, wr_8, mf_9, rd_9 hp, sh_9 hp, wr_9 hp, mf_10, rd_10 hp, sh_10 hp, wr_10 hp, mf_11, rd_11 hp, sh_11 hp, wr_11 hp, mf_12, rd_12 hp, sh_12 hp, wr_12 hp, mf_13, rd_13 hp, sh_13 hp, wr_13 hp, mf_14, wr_14, mf_15, wr_15, mf_16, mf_17, wr_17, mf_18, wr_18, mf_19, wr_19, mf_20, rd_20 hp, sh_20 hp, wr_20 hp, mf_21, wr_21, mf_22, rd_22 hp, sh_22 hp, wr_22 hp, mf_23, rd_23 hp, sh_23 hp, wr_23 hp, mf_24, rd_24 hp, sh_24 hp, wr_24 hp, mf_25, wr_25, mf_26, rd_26 hp, sh_26 hp, wr_26 hp, mf_27, rd_27 hp, sh_27 hp, wr_27 hp, mf_28, rd_28 hp, sh_28 hp, wr_28 hp, mf_29, rd_29 hp, sh_29 hp, wr_29 hp, mf_30, wr_30, mf_31, rd_31 hp, sh_31 hp, wr_31 hp, mf_32, wr_32, mf_33, rd_33 hp, sh_33 hp, wr_33 hp, mf_34, wr_34, mf_35, wr_35, mf_36, rd_36 hp, sh_36 hp, wr_36 hp, mf_37, rd_37 hp, sh_37 hp, wr_37 hp, mf_38, rd_38 hp, sh_38 hp, wr_38 hp, mf_39, rd_39 hp, sh_39 hp, wr_39 hp, mf_40, rd_40 hp, sh_40 hp, wr_40 hp, mf_41, wr_41, mM_p hp, sM_p hp, wM_p hp, sM_o, z21, g]
    conv => lhs; simp only [x194_37, x194_38, x194_41, x194_42, x194_43, bnd_some, Option.toList_some, Option.toList_none, List.cons_append, List.nil_append, List.singleton_append, clr_i, clr_r, clr_n, clr_0, clr_q, clr_l, isR_r, isR_n, isR_q, cat1_i, cat1_r, b0, b1, if_true, if_false, not_true, not_false_eq_true, reduceCtorEq, ite_self, and_true, true_and, and_false, false_and, or_true, true_or, or_false, false_or, mf_0, wr_0, mf_1, wr_1, mf_2, rd_2 hp, sh_2 hp, wr_2 hp, mf_3, rd_3 hp, sh_3 hp, wr_3 hp, mf_4, rd_4 hp, sh_4 hp, wr_4 hp, mf_5, rd_5 hp, sh_5 hp, wr_5 hp, mf_6, rd_6 hp, sh_6 hp, wr_6 hp, mf_7, rd_7 hp, sh_7 hp, wr_7 hp, mf_8, wr_8, mf_9, rd_9 hp, sh_9 hp, wr_9 hp, mf_10, rd_10 hp, sh_10 hp, wr_10 hp, mf_11, rd_11 hp, sh_11 hp, wr_11 hp, mf_12, rd_12 hp, sh_12 hp, wr_12 hp, mf_13, rd_13 hp, sh_13 hp, wr_13 hp, mf_14, wr_14, mf_15, wr_15, mf_16, mf_17, wr_17, mf_18, wr_18, mf_19, wr_19, mf_20, rd_20 hp, sh_20 hp, wr_20 hp, mf_21, wr_21, mf_22, rd_22 hp, sh_22 hp, wr_22 hp, mf_23, rd_23 hp, sh_23 hp, wr_23 hp, mf_24, rd_24 hp, sh_24 hp, wr_24 hp, mf_25, wr_25, mf_26, rd_26 hp, sh_26 hp, wr_26 hp, mf_27, rd_27 hp, sh_27 hp, wr_27 hp, mf_28, rd_28 hp, sh_28 hp, wr_28 hp, mf_29, rd_29 hp, sh_29 hp, wr_29 hp, mf_30, wr_30, mf_31, rd_31 hp, sh_31 hp, wr_31 hp, mf_32, wr_32, mf_33, rd_33 hp, sh_33 hp, wr_33 hp, mf_34, wr_34, mf_35, wr_35, mf_36, rd_36 hp, sh_36 hp, wr_36 hp, mf_37, rd_37 hp, sh_37 hp, wr_37 hp, mf_38, rd_38 hp, sh_38 hp, wr_38 hp, mf_39, rd_39 hp, sh_39 hp, wr_39 hp, mf_40, rd_40 hp, sh_40 hp, wr_40 hp, mf_41, wr_41, mM_p hp, sM_p hp, wM_p hp, sM_o, r7, rb]
    rw [y4]
    conv => lhs; simp only [x194_65, x194_66, x194_69, x194_70, x194_71, x194_74, x194_75, x194_78, x194_79, x194_80, x194_81, x194_82, x194_85, bnd_some, Option.toList_some, Option.toList_none, List.cons_append, List.nil_append, List.singleton_append, clr_i, clr_r, clr_n, clr_0, clr_q, clr_l, isR_r, isR_n, isR_q, cat1_i, cat1_r, b0, b1, if_true, if_false, not_true, not_false_eq_true, reduceCtorEq, ite_self, and_true, true_and, and_false, false_and, or_true, true_or, or_false, false_or, mf_0, wr_0, mf_1, wr_1, mf_2, rd_2 hp, sh_2 hp, wr_2 hp, mf_3, rd_3 hp, sh_3 hp, wr_3 hp, mf_4, rd_4 hp, sh_4 hp, wr_4 hp, mf_5, rd_5 hp, sh_5 hp, wr_5 hp, mf_6, rd_6 hp, sh_6 hp, wr_6 hp, mf_7, rd_7 hp, sh_7 hp, wr_7 hp, mf_8, wr_8, mf_9, rd_9 hp, sh_9 hp, wr_9 hp, mf_10, rd_10 hp, sh_10 hp, wr_10 hp, mf_11, rd_11 hp, sh_11 hp, wr_11 hp, mf_12, rd_12 hp, sh_12 hp, wr_12 hp, mf_13, rd_13 hp, sh_13 hp, wr_13 hp, mf_14, wr_14, mf_15, wr_15, mf_16, mf_17, wr_17, mf_18, wr_18, mf_19, wr_19, mf_20, rd_20 hp, sh_20 hp, wr_20 hp, mf_21, wr_21, mf_22, rd_22 hp, sh_22 hp, wr_22 hp, mf_23, rd_23 hp, sh_23 hp, wr_23 hp, mf_24, rd_24 hp, sh_24 hp, wr_24 hp, mf_25, wr_25, mf_26, rd_26 hp, sh_26 hp, wr_26 hp, mf_27, rd_27 hp, sh_27 hp, wr_27 hp, mf_28, rd_28 hp, sh_28 hp, wr_28 hp, mf_29, rd_29 hp, sh_29 hp, wr_29 hp, mf_30, wr_30, mf_31, rd_31 hp, sh_31 hp, wr_31 hp, mf_32, wr_32, mf_33, rd_33 hp, sh_33 hp, wr_33 hp, mf_34, wr_34, mf_35, wr_35, mf_36, rd_36 hp, sh_36 hp, wr_36 hp, mf_37, rd_37 hp, sh_37 hp, wr_37 hp, mf_38, rd_38 hp, sh_38 hp, wr_38 hp, mf_39, rd_39 hp, sh_39 hp, wr_39 hp, mf_40, rd_40 hp, sh_40 hp, wr_40 hp, mf_41, wr_41, mM_p hp, sM_p hp, wM_p hp, sM_o, r7, rb, c8, cb, e28, e26, nI_add]
end MW
def prN (S : St) (L : List Nat) (r c : Nat) : Nat := (paV S (aR S r) (L.getD c 0)).toNatClampNeg
def plS (S : St) (nr : Nat) (L : List Nat) (h : Nat → Nat) : St := fun f j => if f = 33 ∧ j < nr then nI (L.getD (h j) 0) else sup (gS1 S) 32 0 (nI nr) f j
theorem scr_iff {f : Nat} : scr f = false ↔ (f ≠ 25 ∧ f ≠ 26 ∧ f ≠ 27 ∧ f ≠ 28 ∧ f ≠ 29 ∧ f ≠ 30 ∧ f ≠ 31 ∧ f ≠ 39 ∧ f ≠ 40 ∧ f ≠ 41) := by
  unfold scr
  simp only [List.contains_eq_mem, List.mem_cons, List.not_mem_nil, or_false, decide_eq_false_iff_not, not_or]
section MW2
variable {d o m : Nat} {S : St} {F : Fr} {T R A nr : Nat}
/-- what plan asks of the numbers -/
def Wpl (S : St) (T nr : Nat) : Prop := S 1 0 = nI T ∧ T ≤ 200 ∧ Wset S T ∧ S 21 0 = nI nr ∧ nr ≤ 7 ∧ (∀ r, r < nr → ∃ a, a < 40 ∧ S 22 r = nI a) ∧ (∀ r, r < nr → ∃ i, i ≤ 9 ∧ S 23 r = nI i) ∧ (∀ r x, r < nr → x ∈ gat S T → ∃ y, (y = 100000000 ∨ y ≤ 1000000) ∧ paV S (aR S r) x = nI y)
theorem gz_py {Z : St} (w : Wpl S T nr) (gz : Gz S (gat S T) nr Z) (x : Int32) : PY (sup Z 32 0 x) T nr (gat S T).length (prN S (gat S T)) ∧ (∀ r, r < nr → sup Z 32 0 x 28 r < 0) := by
  obtain ⟨hT, hT2, ws, hn, hn7, ha, hs, hpx⟩ := w
  obtain ⟨g1, g2, g3, g4, g5⟩ := gz
  have zS : ∀ f, f ≠ 14 → f ≠ 15 → f ≠ 25 → f ≠ 26 → f ≠ 27 → f ≠ 28 → f ≠ 32 → ∀ j, sup Z 32 0 x f j = S f j := by
    intro f a1 a2 a3 a4 a5 a6 a7 j
    rw [sup_f a7, g1 f j a3 a4 a5 a6]
    unfold gS1
    rw [sup_f a2, sup_f a1]
  refine ⟨⟨Wset_eq (zS 2 (by decide) (by decide) (by decide) (by decide) (by decide) (by decide) (by decide)) (zS 7 (by decide) (by decide) (by decide) (by decide) (by decide) (by decide) (by decide)) ws, hT2, ?_, hn7, ?_, gat_len S T, ?_, ?_, ?_⟩, ?_⟩
  · rw [zS 21 (by decide) (by decide) (by decide) (by decide) (by decide) (by decide) (by decide)]; exact hn
  · rw [sup_f (by decide)]; exact g2
  · intro r hr; rw [zS 23 (by decide) (by decide) (by decide) (by decide) (by decide) (by decide) (by decide)]; exact hs r hr
  · intro c hc
    refine ⟨(gat S T).getD c 0, (gat_mem T _ (getD_mem hc)).1, ?_⟩
    rw [sup_f (by decide)]
    exact g3 c hc
  · intro r c hr hc
    obtain ⟨y, y1, y2⟩ := hpx r _ hr (getD_mem hc)
    have yb : y < 2147483648 := by omega
    have e : prN S (gat S T) r c = y := by unfold prN; rw [y2, nI_clamp yb]
    rw [sup_f (by decide), g5 r c hr hc, e, y2]
    exact ⟨rfl, y1⟩
  · intro r hr
    rw [sup_f (by decide), g4 r hr]
    exact m1_0
theorem gS1_f {f j : Nat} (h : f ≠ 14) (h2 : f ≠ 15) : gS1 S f j = S f j := by
  unfold gS1
  rw [sup_f h2, sup_f h]
theorem m194 (hF : FrO o F m) (hm : S 17 0 = nI m) (w : Wpl S T nr) : ∃ fx ag, (∀ r, r < nr → fx r < 0) ∧ (∃ Z, Gz S (gat S T) nr Z ∧ fx = sup Z 32 0 (nI 0) 28 ∧ ag = agB (sup Z 32 0 (nI 0)) nr) ∧ ((¬ lcF (gat S T).length nr fx (prN S (gat S T)) ag < 100000000 ∧ Md o m F (ex (d + 12) 194 0 [some (.ref o), none, none] [] (hM o F S)) (bdS (sup (gS1 S) 32 0 (nI 0)) 12)) ∨ ∃ h, (∀ x, x < nr → h x < (gat S T).length) ∧ lcF (gat S T).length nr fx (prN S (gat S T)) ag < 100000000 ∧ lcF (gat S T).length nr (fxR fx h nr) (prN S (gat S T)) ag = lcF (gat S T).length nr fx (prN S (gat S T)) ag ∧ Lex (gat S T).length nr fx (prN S (gat S T)) ag h nr ∧ Md o m F (ex (d + 12) 194 0 [some (.ref o), none, none] [] (hM o F S)) (fnS (plS S nr (gat S T) h) (nI (lcF (gat S T).length nr fx (prN S (gat S T)) ag)))) := by
  have hp := hF.1
  have w' := w
  obtain ⟨hT, hT2, ws, hn, hn7, ha, hs, hpx⟩ := w'
  obtain ⟨Z, q1, gz⟩ := m190 (d := d + 8) (o := o) (p := F.p) (pl := F.pl) (n := F.n) (k := F.k) (m0 := F.m0) (s0 := F.s0) (S := S) hp hT hT2 ws hn hn7 ha
  obtain ⟨py, hf⟩ := gz_py w gz (nI 0)
  obtain ⟨Z1, y1, y2⟩ := lc_193 (d := d) (o := o) (p := F.p) (pl := F.pl) (n := F.n) (k := F.k) (m0 := F.m0) (s0 := F.s0) (Z := sup Z 32 0 (nI 0)) hp py (fun _ _ _ _ _ _ _ => rfl)
  refine ⟨sup Z 32 0 (nI 0) 28, agB (sup Z 32 0 (nI 0)) nr, hf, ⟨Z, gz, rfl, rfl⟩, ?_⟩
  have zN : ∀ Z' : St, SZ2 (sup Z 32 0 (nI 0)) Z' → ∀ f j, f ≠ 32 → f ≠ 33 → scr f = false → Z' f j = gS1 S f j := by
    intro Z' sz f j a32 a33 hsc
    obtain ⟨b25, b26, b27, b28, b29, b30, b31, -, -, -⟩ := scr_iff.mp hsc
    rw [sz f j b28 b29 b30 b31 a33, sup_f a32, gz.1 f j b25 b26 b27 b28]
  have z32 : ∀ Z' : St, SZ2 (sup Z 32 0 (nI 0)) Z' → ∀ j, j ≠ 0 → Z' 32 j = S 32 j := by
    intro Z' sz j hj
    rw [sz 32 j (by decide) (by decide) (by decide) (by decide) (by decide), sup_j hj, gz.1 32 j (by decide) (by decide) (by decide) (by decide), gS1_f (by decide) (by decide)]
  have sz1 : SZ2 (sup Z 32 0 (nI 0)) Z1 := fun f j a b c e g => y1 f j b c e
  have z33 : ∀ j, sup Z 32 0 (nI 0) 33 j = S 33 j := fun j => by
    rw [sup_f (by decide), gz.1 33 j (by decide) (by decide) (by decide) (by decide), gS1_f (by decide) (by decide)]
  have z1_33 : ∀ j, Z1 33 j = S 33 j := fun j => by rw [y1 33 j (by decide) (by decide) (by decide)]; exact z33 j
  generalize hbest : lcF (gat S T).length nr (sup Z 32 0 (nI 0) 28) (prN S (gat S T)) (agB (sup Z 32 0 (nI 0)) nr) = best at *
  have hbl : best ≤ 100000000 := by rw [← hbest]; unfold lcF; omega
  by_cases hb : best < 100000000
  · have g : ¬ nI 100000000 ≤ nI best := nI_ge hb (by omega)
    have g' : nI best < nI 100000000 := (nI_ltI (by omega) (by omega)).mpr hb
    have e28 : ∀ x, x < nr → Z1 28 x = fxR (sup Z 32 0 (nI 0) 28) (fun _ => 0) 0 x := fun x hx => by
      unfold fxR
      rw [if_neg (by omega), y1 28 x (by decide) (by decide) (by decide)]
    obtain ⟨h', Z', w1, w2, w3, w4, w5, w6⟩ := m194_r (d := d) (o := o) (p := F.p) (pl := F.pl) (n := F.n) (k := F.k) (m0 := F.m0) (s0 := F.s0) (best := best) hp py hf hb hbest nr 0 (fun _ => 0) Z1 (by omega) (fun x hx => by omega) (by
      rw [← hbest]
      exact lcF_fx (fun x hx => by unfold fxR; rw [if_neg (by omega)])) (fun g _ _ => Or.inl (fun x hx => by omega)) sz1 e28 (fun j => by rw [if_neg (by omega), z1_33, z33])
    refine Or.inr ⟨h', w1, hb, w2, w3, ?_⟩
    have e21 : Z' 21 0 = nI nr := by
      rw [w4 21 0 (by decide) (by decide) (by decide) (by decide) (by decide)]
      exact py.2.2.1
    refine Md_sc (Z := sup (sup Z' 32 0 (nI nr)) 0 0 (nI 0)) ?_ hF ?_ ?_
    · unfold hM
      conv => lhs; simp only [x194_0, x194_1, x194_4, x194_5, x194_6, x194_9, x194_10, bnd_some, Option.toList_some, Option.toList_none, List.cons_append, List.nil_append, List.singleton_append, clr_i, clr_r, clr_n, clr_0, clr_q, clr_l, isR_r, isR_n, isR_q, cat1_i, cat1_r, b0, b1, if_true, if_false, not_true, not_false_eq_true, reduceCtorEq, ite_self, and_true, true_and, and_false, false_and, or_true, true_or, or_false, false_or, mf_0, wr_0, mf_1, wr_1, mf_2, rd_2 hp, sh_2 hp, wr_2 hp, mf_3, rd_3 hp, sh_3 hp, wr_3 hp, mf_4, rd_4 hp, sh_4 hp, wr_4 hp, mf_5, rd_5 hp, sh_5 hp, wr_5 hp, mf_6, rd_6 hp, sh_6 hp, wr_6 hp, mf_7, rd_7 hp, sh_7 hp, wr_7 hp, mf_8, wr_8, mf_9, rd_9 hp, sh_9 hp, wr_9 hp, mf_10, rd_10 hp, sh_10 hp, wr_10 hp, mf_11, rd_11 hp, sh_11 hp, wr_11 hp, mf_12, rd_12 hp, sh_12 hp, wr_12 hp, mf_13, rd_13 hp, sh_13 hp, wr_13 hp, mf_14, wr_14, mf_15, wr_15, mf_16, mf_17, wr_17, mf_18, wr_18, mf_19, wr_19, mf_20, rd_20 hp, sh_20 hp, wr_20 hp, mf_21, wr_21, mf_22, rd_22 hp, sh_22 hp, wr_22 hp, mf_23, rd_23 hp, sh_23 hp, wr_23 hp, mf_24, rd_24 hp, sh_24 hp, wr_24 hp, mf_25, wr_25, mf_26, rd_26 hp, sh_26 hp, wr_26 hp, mf_27, rd_27 hp, sh_27 hp, wr_27 hp, mf_28, rd_28 hp, sh_28 hp, wr_28 hp, mf_29, rd_29 hp, sh_29 hp, wr_29 hp, mf_30, wr_30, mf_31, rd_31 hp, sh_31 hp, wr_31 hp, mf_32, wr_32, mf_33, rd_33 hp, sh_33 hp, wr_33 hp, mf_34, wr_34, mf_35, wr_35, mf_36, rd_36 hp, sh_36 hp, wr_36 hp, mf_37, rd_37 hp, sh_37 hp, wr_37 hp, mf_38, rd_38 hp, sh_38 hp, wr_38 hp, mf_39, rd_39 hp, sh_39 hp, wr_39 hp, mf_40, rd_40 hp, sh_40 hp, wr_40 hp, mf_41, wr_41, mM_p hp, sM_p hp, wM_p hp, sM_o, q1, y2]
      conv => lhs; simp only [x194_13, x194_14, x194_15, x194_17, x194_20, x194_21, x194_23, x194_26, x194_27, x194_28, bnd_some, Option.toList_some, Option.toList_none, List.cons_append, List.nil_append, List.singleton_append, clr_i, clr_r, clr_n, clr_0, clr_q, clr_l, isR_r, isR_n, isR_q, cat1_i, cat1_r, b0, b1, if_true, if_false, not_true, not_false_eq_true, reduceCtorEq, ite_self, and_true, true_and, and_false, false_and, or_true, true_or, or_false, false_or, g']
      rw [w6]
      simp only [x194_88, x194_89, x194_90, x194_93, x194_96, x194_97, x194_98, x194_101, bnd_some, Option.toList_some, Option.toList_none, List.cons_append, List.nil_append, List.singleton_append, clr_i, clr_r, clr_n, clr_0, clr_q, clr_l, isR_r, isR_n, isR_q, cat1_i, cat1_r, b0, b1, if_true, if_false, not_true, not_false_eq_true, reduceCtorEq, ite_self, and_true, true_and, and_false, false_and, or_true, true_or, or_false, false_or, mf_0, wr_0, mf_1, wr_1, mf_2, rd_2 hp, sh_2 hp, wr_2 hp, mf_3, rd_3 hp, sh_3 hp, wr_3 hp, mf_4, rd_4 hp, sh_4 hp, wr_4 hp, mf_5, rd_5 hp, sh_5 hp, wr_5 hp, mf_6, rd_6 hp, sh_6 hp, wr_6 hp, mf_7, rd_7 hp, sh_7 hp, wr_7 hp, mf_8, wr_8, mf_9, rd_9 hp, sh_9 hp, wr_9 hp, mf_10, rd_10 hp, sh_10 hp, wr_10 hp, mf_11, rd_11 hp, sh_11 hp, wr_11 hp, mf_12, rd_12 hp, sh_12 hp, wr_12 hp, mf_13, rd_13 hp, sh_13 hp, wr_13 hp, mf_14, wr_14, mf_15, wr_15, mf_16, mf_17, wr_17, mf_18, wr_18, mf_19, wr_19, mf_20, rd_20 hp, sh_20 hp, wr_20 hp, mf_21, wr_21, mf_22, rd_22 hp, sh_22 hp, wr_22 hp, mf_23, rd_23 hp, sh_23 hp, wr_23 hp, mf_24, rd_24 hp, sh_24 hp, wr_24 hp, mf_25, wr_25, mf_26, rd_26 hp, sh_26 hp, wr_26 hp, mf_27, rd_27 hp, sh_27 hp, wr_27 hp, mf_28, rd_28 hp, sh_28 hp, wr_28 hp, mf_29, rd_29 hp, sh_29 hp, wr_29 hp, mf_30, wr_30, mf_31, rd_31 hp, sh_31 hp, wr_31 hp, mf_32, wr_32, mf_33, rd_33 hp, sh_33 hp, wr_33 hp, mf_34, wr_34, mf_35, wr_35, mf_36, rd_36 hp, sh_36 hp, wr_36 hp, mf_37, rd_37 hp, sh_37 hp, wr_37 hp, mf_38, rd_38 hp, sh_38 hp, wr_38 hp, mf_39, rd_39 hp, sh_39 hp, wr_39 hp, mf_40, rd_40 hp, sh_40 hp, wr_40 hp, mf_41, wr_41, mM_p hp, sM_p hp, wM_p hp, sM_o, e21, m134, fnS]
    · show sup (plS S nr (gat S T) h') 0 0 (nI 0) 17 0 = nI m
      rw [sup_f (by decide)]
      unfold plS
      rw [if_neg (by omega), sup_f (by decide), gS1_f (by decide) (by decide)]
      exact hm
    · refine ⟨fun f j h16 hsc => ?_, fun j hj => ?_⟩
      · show sup (sup Z' 32 0 (nI nr)) 0 0 (nI 0) f j = sup (plS S nr (gat S T) h') 0 0 (nI 0) f j
        unfold sup
        by_cases q0 : f = 0 ∧ j = 0
        · rw [if_pos q0, if_pos q0]
        · rw [if_neg q0, if_neg q0]
          unfold plS sup
          by_cases q33 : f = 33
          · subst q33
            rw [if_neg (by omega), w5 j]
            by_cases qj : j < nr
            · rw [if_pos qj, if_pos ⟨rfl, qj⟩, sup_f (by decide)]
              exact gz.2.2.1 _ (w1 j qj)
            · rw [if_neg qj, if_neg (fun z => qj z.2), if_neg (by omega), z33, gS1_f (by decide) (by decide)]
          · rw [if_neg (show ¬ (f = 33 ∧ j < nr) from fun z => q33 z.1)]
            by_cases q32 : f = 32 ∧ j = 0
            · rw [if_pos q32, if_pos q32]
            · rw [if_neg q32, if_neg q32]
              by_cases f32 : f = 32
              · subst f32
                rw [z32 Z' w4 j (fun z => q32 ⟨rfl, z⟩), gS1_f (by decide) (by decide)]
              · exact zN Z' w4 f j f32 q33 hsc
      · show sup (sup Z' 32 0 (nI nr)) 0 0 (nI 0) 16 j = sup (plS S nr (gat S T) h') 0 0 (nI 0) 16 j
        rw [sup_f (by decide), sup_f (by decide), sup_f (by decide)]
        unfold plS
        rw [if_neg (by omega), sup_f (by decide)]
        exact zN Z' w4 16 j (by decide) (by decide) (by decide)
  · have eb : best = 100000000 := by omega
    have g' : ¬ nI best < nI 100000000 := by rw [eb]; decide
    refine Or.inl ⟨hb, ?_⟩
    refine Md_sc (Z := sup Z1 0 0 (nI 12)) ?_ hF ?_ ?_
    · unfold hM
      conv => lhs; simp only [x194_0, x194_1, x194_4, x194_5, x194_6, x194_9, x194_10, bnd_some, Option.toList_some, Option.toList_none, List.cons_append, List.nil_append, List.singleton_append, clr_i, clr_r, clr_n, clr_0, clr_q, clr_l, isR_r, isR_n, isR_q, cat1_i, cat1_r, b0, b1, if_true, if_false, not_true, not_false_eq_true, reduceCtorEq, ite_self, and_true, true_and, and_false, false_and, or_true, true_or, or_false, false_or, mf_0, wr_0, mf_1, wr_1, mf_2, rd_2 hp, sh_2 hp, wr_2 hp, mf_3, rd_3 hp, sh_3 hp, wr_3 hp, mf_4, rd_4 hp, sh_4 hp, wr_4 hp, mf_5, rd_5 hp, sh_5 hp, wr_5 hp, mf_6, rd_6 hp, sh_6 hp, wr_6 hp, mf_7, rd_7 hp, sh_7 hp, wr_7 hp, mf_8, wr_8, mf_9, rd_9 hp, sh_9 hp, wr_9 hp, mf_10, rd_10 hp, sh_10 hp, wr_10 hp, mf_11, rd_11 hp, sh_11 hp, wr_11 hp, mf_12, rd_12 hp, sh_12 hp, wr_12 hp, mf_13, rd_13 hp, sh_13 hp, wr_13 hp, mf_14, wr_14, mf_15, wr_15, mf_16, mf_17, wr_17, mf_18, wr_18, mf_19, wr_19, mf_20, rd_20 hp, sh_20 hp, wr_20 hp, mf_21, wr_21, mf_22, rd_22 hp, sh_22 hp, wr_22 hp, mf_23, rd_23 hp, sh_23 hp, wr_23 hp, mf_24, rd_24 hp, sh_24 hp, wr_24 hp, mf_25, wr_25, mf_26, rd_26 hp, sh_26 hp, wr_26 hp, mf_27, rd_27 hp, sh_27 hp, wr_27 hp, mf_28, rd_28 hp, sh_28 hp, wr_28 hp, mf_29, rd_29 hp, sh_29 hp, wr_29 hp, mf_30, wr_30, mf_31, rd_31 hp, sh_31 hp, wr_31 hp, mf_32, wr_32, mf_33, rd_33 hp, sh_33 hp, wr_33 hp, mf_34, wr_34, mf_35, wr_35, mf_36, rd_36 hp, sh_36 hp, wr_36 hp, mf_37, rd_37 hp, sh_37 hp, wr_37 hp, mf_38, rd_38 hp, sh_38 hp, wr_38 hp, mf_39, rd_39 hp, sh_39 hp, wr_39 hp, mf_40, rd_40 hp, sh_40 hp, wr_40 hp, mf_41, wr_41, mM_p hp, sM_p hp, wM_p hp, sM_o, q1, y2]
      simp only [x194_13, x194_14, x194_15, x194_17, x194_20, x194_21, x194_23, x194_26, bnd_some, Option.toList_some, Option.toList_none, List.cons_append, List.nil_append, List.singleton_append, clr_i, clr_r, clr_n, clr_0, clr_q, clr_l, isR_r, isR_n, isR_q, cat1_i, cat1_r, b0, b1, if_true, if_false, not_true, not_false_eq_true, reduceCtorEq, ite_self, and_true, true_and, and_false, false_and, or_true, true_or, or_false, false_or, mf_0, wr_0, mf_1, wr_1, mf_2, mf_3, mf_4, mf_5, mf_6, mf_7, mf_8, wr_8, mf_9, mf_10, mf_11, mf_12, mf_13, mf_14, wr_14, mf_15, wr_15, mf_16, mf_17, wr_17, mf_18, wr_18, mf_19, wr_19, mf_20, mf_21, wr_21, mf_22, mf_23, mf_24, mf_25, wr_25, mf_26, mf_27, mf_28, mf_29, mf_30, wr_30, mf_31, mf_32, wr_32, mf_33, mf_34, wr_34, mf_35, wr_35, mf_36, mf_37, mf_38, mf_39, mf_40, mf_41, wr_41, sM_o, g', m135, bdS]
    · show sup (sup (gS1 S) 32 0 (nI 0)) 0 0 (nI 12) 17 0 = nI m
      rw [sup_f (by decide), sup_f (by decide), gS1_f (by decide) (by decide)]
      exact hm
    · refine ⟨fun f j h16 hsc => ?_, fun j hj => ?_⟩
      · show sup Z1 0 0 (nI 12) f j = sup (sup (gS1 S) 32 0 (nI 0)) 0 0 (nI 12) f j
        unfold sup
        by_cases q0 : f = 0 ∧ j = 0
        · rw [if_pos q0, if_pos q0]
        · rw [if_neg q0, if_neg q0]
          by_cases q32 : f = 32 ∧ j = 0
          · rw [if_pos q32, q32.1, q32.2, sz1 32 0 (by decide) (by decide) (by decide) (by decide) (by decide), sup_eq]
          · rw [if_neg q32]
            by_cases f33 : f = 33
            · subst f33
              rw [z1_33, gS1_f (by decide) (by decide)]
            · by_cases f32 : f = 32
              · subst f32
                rw [z32 Z1 sz1 j (fun z => q32 ⟨rfl, z⟩), gS1_f (by decide) (by decide)]
              · exact zN Z1 sz1 f j f32 f33 hsc
      · show sup Z1 0 0 (nI 12) 16 j = sup (sup (gS1 S) 32 0 (nI 0)) 0 0 (nI 12) 16 j
        rw [sup_f (by decide), sup_f (by decide), sup_f (by decide)]
        exact zN Z1 sz1 16 j (by decide) (by decide) (by decide)
end MW2
