/-! ===== the class: find ===== -/
/-- is it of a kind, and does it fit -/
def isB (C : St) (a : Option Nat) (kd : Int32) (t : Nat) : Bool := decide (C 2 t = kd ∨ (¬ nI 2 < C 2 t ∧ ¬ C 2 t < kd)) && (match a with | none => true | some i => decide (fitV C i t = nI 1))
section CT
variable {d n k : Nat} {G : Gh} {C : St} {m0 : Mm} {s0 : Nat → Nat × Nat}
theorem Wset_lw {l y : Int32} {T : Nat} (h : Wset C T) : Wset (lw C l y) T := Wset_eq (fun j => lw_f (by decide) (by decide)) (fun j => lw_f (by decide) (by decide)) h
theorem fit_lw {l y : Int32} {a t : Nat} : fitV (lw C l y) a t = fitV C a t := fitV_eq (fun j => lw_f (by decide) (by decide)) (fun j => lw_f (by decide) (by decide)) (fun j => lw_f (by decide) (by decide)) (fun j => lw_f (by decide) (by decide)) (fun j => lw_f (by decide) (by decide)) (fun j => lw_f (by decide) (by decide)) a t
theorem acO_cs {a : Option Nat} : acO G a = .null ∨ ∃ b, acO G a = .ref b := by
  cases a with
  | none => exact Or.inl rfl
  | some i => exact Or.inr ⟨_, rfl⟩
theorem c129_p {a : Option Nat} {kd t : Nat} {l y : Int32} {dp : Int32} {l5 l6 l8 : Option Value} {b : Nat} (hG : OKG G) (hK : OKC G C) (ws : Wset C G.T) (w4 : W4 G) (ha : ∀ i, a = some i → i < G.A) (hkd : kd ≤ 4) (ht : t < G.T) : ex (d + 4) 129 52 [some (.ref (G.ad 1)), some (.ref b), some (acO G a), some (.int (nI kd)), some (.int dp), l5, l6, some (.ref (aT G t)), l8] [] (cM G (lw C l y) m0, cS G s0, n, k) = ex (d + 4) 129 82 [some (.ref (G.ad 1)), some (.ref b), some (acO G a), some (.int (nI kd)), some (.int dp), l5, l6, some (.ref (aT G t)), some (.int (b2 (isB C a (nI kd) t = true)))] [] (cM G (lw C l y) m0, cS G s0, n, k) := by
  have M := c40 (d := d + 3) (G := G) (C := lw C l y) (m0 := m0) (s0 := s0) (n := n) (k := k) (w := nI kd) hG ht
  unfold rtC at M
  simp only [lw2] at M
  unfold isB
  by_cases h1 : C 2 t = nI kd ∨ (¬ nI 2 < C 2 t ∧ ¬ C 2 t < nI kd)
  · rw [decide_eq_true h1, Bool.true_and]
    cases a with
    | none =>
      simp only [acO]
      conv => lhs; simp only [x129_52, x129_52n, x129_52q, x129_54, x129_55, x129_58, x129_61, x129_61n, x129_61q, x129_62n, x129_62, x129_65, x129_65n, x129_65q, x129_66, x129_66n, x129_66q, x129_68 (hv0 := isR_r) (hv1 := isR_r), x129_68 (hv0 := isR_r) (hv1 := isR_n), x129_68 (hv0 := isR_n) (hv1 := isR_r), x129_68 (hv0 := isR_n) (hv1 := isR_n), x129_71, x129_72, x129_75, x129_76, x129_79, x129_80, bnd_some, Option.toList_some, Option.toList_none, List.cons_append, List.nil_append, List.singleton_append, clr_i, clr_r, clr_n, clr_0, clr_q, clr_l, isR_r, isR_n, isR_q, cat1_i, cat1_r, b0, b1, if_true, if_false, not_true, not_false_eq_true, reduceCtorEq, ite_self, and_true, true_and, and_false, false_and, or_true, true_or, or_false, false_or, k_sT hG, isTh_tg, ht, M, b2_0, h1, not_true]
      rfl
    | some i =>
      have hi := ha i rfl
      have k4 : G.kd t ≤ 4 := by
        have k1 := kdE (x := kd) hG hK ht (by omega)
        have k2 := kdL (x := 2) hG hK ht (by omega)
        rcases h1 with h | h
        · have := k1.mp h
          omega
        · have : ¬ 2 < G.kd t := fun z => h.1 (k2.mpr z)
          omega
      have F := c116 (d := d) (m0 := m0) (s0 := s0) (n := n) (k := k) hG (OKC_lw (l := l) (y := y) hK) (Wset_lw ws) w4 hi ht k4
      rw [fit_lw] at F
      simp only [acO]
      by_cases hf : fitV C i t = nI 1
      · have e1 : b2 (decide (fitV C i t = nI 1) = true) = nI 1 := by
          unfold b2
          rw [if_pos (by simpa using hf)]
        rw [hf] at F
        rw [e1]
        conv => lhs; simp only [x129_52, x129_52n, x129_52q, x129_54, x129_55, x129_58, x129_61, x129_61n, x129_61q, x129_62n, x129_62, x129_65, x129_65n, x129_65q, x129_66, x129_66n, x129_66q, x129_68 (hv0 := isR_r) (hv1 := isR_r), x129_68 (hv0 := isR_r) (hv1 := isR_n), x129_68 (hv0 := isR_n) (hv1 := isR_r), x129_68 (hv0 := isR_n) (hv1 := isR_n), x129_71, x129_72, x129_75, x129_76, x129_79, x129_80, bnd_some, Option.toList_some, Option.toList_none, List.cons_append, List.nil_append, List.singleton_append, clr_i, clr_r, clr_n, clr_0, clr_q, clr_l, isR_r, isR_n, isR_q, cat1_i, cat1_r, b0, b1, if_true, if_false, not_true, not_false_eq_true, reduceCtorEq, ite_self, and_true, true_and, and_false, false_and, or_true, true_or, or_false, false_or, k_sT hG, isTh_tg, ht, M, b2_0, h1, not_true, F]
      · have e : b2 (decide (fitV C i t = nI 1) = true) = nI 0 := by
          unfold b2
          rw [if_neg (by simpa using hf)]
        rw [e]
        conv => lhs; simp only [x129_52, x129_52n, x129_52q, x129_54, x129_55, x129_58, x129_61, x129_61n, x129_61q, x129_62n, x129_62, x129_65, x129_65n, x129_65q, x129_66, x129_66n, x129_66q, x129_68 (hv0 := isR_r) (hv1 := isR_r), x129_68 (hv0 := isR_r) (hv1 := isR_n), x129_68 (hv0 := isR_n) (hv1 := isR_r), x129_68 (hv0 := isR_n) (hv1 := isR_n), x129_71, x129_72, x129_75, x129_76, x129_79, x129_80, bnd_some, Option.toList_some, Option.toList_none, List.cons_append, List.nil_append, List.singleton_append, clr_i, clr_r, clr_n, clr_0, clr_q, clr_l, isR_r, isR_n, isR_q, cat1_i, cat1_r, b0, b1, if_true, if_false, not_true, not_false_eq_true, reduceCtorEq, ite_self, and_true, true_and, and_false, false_and, or_true, true_or, or_false, false_or, k_sT hG, isTh_tg, ht, M, b2_0, h1, not_true, F, hf, not_false_eq_true]
  · have e : ∀ x : Bool, b2 ((decide (C 2 t = nI kd ∨ (¬ nI 2 < C 2 t ∧ ¬ C 2 t < nI kd)) && x) = true) = nI 0 := by
      intro x
      rw [decide_eq_false h1, Bool.false_and]
      rfl
    rw [e]
    rcases acO_cs (G := G) (a := a) with ha' | ⟨b', ha'⟩ <;> rw [ha'] <;> (conv => lhs; simp only [x129_52, x129_52n, x129_52q, x129_54, x129_55, x129_58, x129_61, x129_61n, x129_61q, x129_62n, x129_62, x129_65, x129_65n, x129_65q, x129_66, x129_66n, x129_66q, x129_68 (hv0 := isR_r) (hv1 := isR_r), x129_68 (hv0 := isR_r) (hv1 := isR_n), x129_68 (hv0 := isR_n) (hv1 := isR_r), x129_68 (hv0 := isR_n) (hv1 := isR_n), x129_71, x129_72, x129_75, x129_76, x129_79, x129_80, bnd_some, Option.toList_some, Option.toList_none, List.cons_append, List.nil_append, List.singleton_append, clr_i, clr_r, clr_n, clr_0, clr_q, clr_l, isR_r, isR_n, isR_q, cat1_i, cat1_r, b0, b1, if_true, if_false, not_true, not_false_eq_true, reduceCtorEq, ite_self, and_true, true_and, and_false, false_and, or_true, true_or, or_false, false_or, k_sT hG, isTh_tg, ht, M, b2_0, h1, not_false_eq_true])
theorem c129 {a : Option Nat} {kd : Nat} (hG : OKG G) (hK : OKC G C) (ws : Wset C G.T) (w4 : W4 G) (ha : ∀ i, a = some i → i < G.A) (hkd : kd ≤ 4) : ∀ f dp r, dp + f = 9 → dep C G.T f r → lvR G r → ∀ l y, ex (d + 4 + f) 129 0 [some (.ref (G.ad 1)), some (.ref (aH G r)), some (acO G a), some (.int (nI kd)), some (.int (nI dp)), none, none, none, none] [] (cM G (lw C l y) m0, cS G s0, n, k) = some (some (thO G (fnF G C (isB C a (nI kd)) f r l).1), (cM G (lw C (fnF G C (isB C a (nI kd)) f r l).2 y) m0, cS G s0, n, k)) := by
  have hT := okT hG
  intro f
  induction f with
  | zero => intro dp r _ h; exact h.elim
  | succ f ih =>
    intro dp r hd hp lv l y
    obtain ⟨h212, -, -, hs⟩ := hp
    have s4 := hG.2.2.2.2.1 r lv
    have sn := sN_c hG hK lv
    have g8 : nI dp ≤ nI 8 := nI_le (by omega) (by omega)
    have ed : d + 4 + (f + 1) = d + 4 + f + 1 := rfl
    have NN : ∀ dp2 l y, ex (d + 4 + f) 129 0 [some (.ref (G.ad 1)), some .null, some (acO G a), some (.int (nI kd)), some (.int dp2), none, none, none, none] [] (cM G (lw C l y) m0, cS G s0, n, k) = some (some .null, (cM G (lw C l y) m0, cS G s0, n, k)) := fun dp2 l y => by
      simp only [x129_0, x129_0n, x129_0q, x129_1n, x129_1, x129_4, x129_6, x129_8, x129_11, x129_12, x129_12n, x129_12q, bnd_some, Option.toList_some, Option.toList_none, List.cons_append, List.nil_append, List.singleton_append, clr_i, clr_r, clr_n, clr_0, clr_q, clr_l, isR_r, isR_n, isR_q, cat1_i, cat1_r, b0, b1, if_true, if_false, not_true, not_false_eq_true, reduceCtorEq, ite_self, and_true, true_and, and_false, false_and, or_true, true_or, or_false, false_or]
    have AR : isR (acO G a) = true := by cases a <;> rfl
    have A2 : ∀ dp2 b l5 l6 l7 l8 st h, ex (d + 4 + f + 1) 129 98 [some (.ref (G.ad 1)), some (.ref b), some (acO G a), some (.int (nI kd)), some (.int dp2), l5, l6, l7, l8] st h = ex (d + 4 + f + 1) 129 99 [some (.ref (G.ad 1)), some (.ref b), some (acO G a), some (.int (nI kd)), some (.int dp2), l5, l6, l7, l8] (acO G a :: st) h := by
      intro dp2 b l5 l6 l7 l8 st h
      rcases acO_cs (G := G) (a := a) with ha' | ⟨b', ha'⟩ <;> rw [ha'] <;> simp only [x129_98, x129_98n, x129_98q]
    -- the end of a loop: what was found
    have E : ∀ (fo : Option Nat) l s l7 l8, ex (d + 4 + f + 1) 129 115 [some (.ref (G.ad 1)), some (.ref (aH G r)), some (acO G a), some (.int (nI kd)), some (.int (nI dp)), some (thO G fo), some (.int (nI s)), l7, l8] [] (cM G (lw C l (y + nI 1)) m0, cS G s0, n, k) = some (some (thO G fo), (cM G (lw C l y) m0, cS G s0, n, k)) := by
      intro fo l s l7 l8
      cases fo with
      | none => simp only [x129_115, x129_116, x129_119, x129_119n, x129_119q, x129_121, x129_121n, x129_121q, bnd_some, Option.toList_some, Option.toList_none, List.cons_append, List.nil_append, List.singleton_append, clr_i, clr_r, clr_n, clr_0, clr_q, clr_l, isR_r, isR_n, isR_q, cat1_i, cat1_r, b0, b1, if_true, if_false, not_true, not_false_eq_true, reduceCtorEq, ite_self, and_true, true_and, and_false, false_and, or_true, true_or, or_false, false_or, thO, k_s1 hG, c101w hG, i_as]
      | some x => simp only [x129_115, x129_116, x129_119, x129_119n, x129_119q, x129_121, x129_121n, x129_121q, bnd_some, Option.toList_some, Option.toList_none, List.cons_append, List.nil_append, List.singleton_append, clr_i, clr_r, clr_n, clr_0, clr_q, clr_l, isR_r, isR_n, isR_q, cat1_i, cat1_r, b0, b1, if_true, if_false, not_true, not_false_eq_true, reduceCtorEq, ite_self, and_true, true_and, and_false, false_and, or_true, true_or, or_false, false_or, thO, k_s1 hG, c101w hG, i_as]
    have L : ∀ u s l l7 l8, s + u = G.sl r → ex (d + 4 + f + 1) 129 23 [some (.ref (G.ad 1)), some (.ref (aH G r)), some (acO G a), some (.int (nI kd)), some (.int (nI dp)), some .null, some (.int (nI s)), l7, l8] [] (cM G (lw C l (y + nI 1)) m0, cS G s0, n, k) = some (some (thO G (fnS' (fnF G C (isB C a (nI kd)) f) G C (isB C a (nI kd)) r u s l).1), (cM G (lw C (fnS' (fnF G C (isB C a (nI kd)) f) G C (isB C a (nI kd)) r u s l).2 y) m0, cS G s0, n, k)) := by
      intro u
      induction u with
      | zero =>
        intro s l l7 l8 hsu
        have e : s = G.sl r := by omega
        subst e
        have h2 : nI (G.sl r) ≤ nI (G.sl r) := nI_le (Nat.le_refl _) (by omega)
        have E0 := E none l (G.sl r) l7 l8
        unfold fnS'
        rw [← E0]
        conv => lhs; simp only [x129_23, x129_25, x129_25n, x129_25q, x129_26, x129_29, x129_30, bnd_some, Option.toList_some, Option.toList_none, List.cons_append, List.nil_append, List.singleton_append, clr_i, clr_r, clr_n, clr_0, clr_q, clr_l, isR_r, isR_n, isR_q, cat1_i, cat1_r, b0, b1, if_true, if_false, not_true, not_false_eq_true, reduceCtorEq, ite_self, and_true, true_and, and_false, false_and, or_true, true_or, or_false, false_or, k_sH hG, k_H_2 hG, k_sS hG, lv, tb21, h2]
        rfl
      | succ u ihu =>
        intro s l l7 l8 hsu
        have h1 : s < G.sl r := by omega
        have sb : s < 2147483648 := by omega
        have h2 : ¬ nI (G.sl r) ≤ nI s := nI_ge (by omega) (by omega)
        have e : fnS' (fnF G C (isB C a (nI kd)) f) G C (isB C a (nI kd)) r (u + 1) s l = match thI C r s with | none => fnS' (fnF G C (isB C a (nI kd)) f) G C (isB C a (nI kd)) r u (s + 1) l | some t => if isB C a (nI kd) t = true then (some t, l) else if G.kd t = 4 ∨ G.kd t = 5 then (match fnF G C (isB C a (nI kd)) f t l with | (some x, l') => (some x, l') | (none, l') => fnS' (fnF G C (isB C a (nI kd)) f) G C (isB C a (nI kd)) r u (s + 1) l') else fnS' (fnF G C (isB C a (nI kd)) f) G C (isB C a (nI kd)) r u (s + 1) l := rfl
        -- what was found ends the loop at its head
        have F1 : ∀ x l7 l8 l, ex (d + 4 + f + 1) 129 109 [some (.ref (G.ad 1)), some (.ref (aH G r)), some (acO G a), some (.int (nI kd)), some (.int (nI dp)), some (.ref (aT G x)), some (.int (nI s)), l7, l8] [] (cM G (lw C l (y + nI 1)) m0, cS G s0, n, k) = some (some (.ref (aT G x)), (cM G (lw C l y) m0, cS G s0, n, k)) := by
          intro x l7 l8 l
          have E1 := E (some x) l (s + 1) l7 l8
          simp only [thO] at E1
          by_cases q : s + 1 = G.sl r
          · have g : nI (G.sl r) ≤ nI (s + 1) := nI_le (by omega) (by omega)
            rw [← E1]
            conv => lhs; simp only [x129_109, x129_112, bnd_some, Option.toList_some, Option.toList_none, List.cons_append, List.nil_append, List.singleton_append, clr_i, clr_r, clr_n, clr_0, clr_q, clr_l, isR_r, isR_n, isR_q, cat1_i, cat1_r, b0, b1, if_true, if_false, not_true, not_false_eq_true, reduceCtorEq, ite_self, and_true, true_and, and_false, false_and, or_true, true_or, or_false, false_or, nI_add]
            conv => lhs; simp only [x129_23, x129_25, x129_25n, x129_25q, x129_26, x129_29, x129_30, bnd_some, Option.toList_some, Option.toList_none, List.cons_append, List.nil_append, List.singleton_append, clr_i, clr_r, clr_n, clr_0, clr_q, clr_l, isR_r, isR_n, isR_q, cat1_i, cat1_r, b0, b1, if_true, if_false, not_true, not_false_eq_true, reduceCtorEq, ite_self, and_true, true_and, and_false, false_and, or_true, true_or, or_false, false_or, k_sH hG, k_H_2 hG, k_sS hG, lv, tb21, g]
          · have g : ¬ nI (G.sl r) ≤ nI (s + 1) := nI_ge (by omega) (by omega)
            rw [← E1]
            conv => lhs; simp only [x129_109, x129_112, bnd_some, Option.toList_some, Option.toList_none, List.cons_append, List.nil_append, List.singleton_append, clr_i, clr_r, clr_n, clr_0, clr_q, clr_l, isR_r, isR_n, isR_q, cat1_i, cat1_r, b0, b1, if_true, if_false, not_true, not_false_eq_true, reduceCtorEq, ite_self, and_true, true_and, and_false, false_and, or_true, true_or, or_false, false_or, nI_add]
            conv => lhs; simp only [x129_23, x129_25, x129_25n, x129_25q, x129_26, x129_29, x129_30, x129_33, x129_33n, x129_33q, x129_35n, x129_35, bnd_some, Option.toList_some, Option.toList_none, List.cons_append, List.nil_append, List.singleton_append, clr_i, clr_r, clr_n, clr_0, clr_q, clr_l, isR_r, isR_n, isR_q, cat1_i, cat1_r, b0, b1, if_true, if_false, not_true, not_false_eq_true, reduceCtorEq, ite_self, and_true, true_and, and_false, false_and, or_true, true_or, or_false, false_or, k_sH hG, k_H_2 hG, k_sS hG, lv, tb21, g]
        rw [e]
        rcases hs s (by rw [sn]; exact h1) with h7 | ⟨t, ht, h7, hb⟩
        · rw [thI_n h7]
          simp only []
          rw [← ihu (s + 1) l (some .null) l8 (by omega)]
          conv => lhs; simp only [x129_23, x129_25, x129_25n, x129_25q, x129_26, x129_29, x129_30, x129_33, x129_33n, x129_33q, x129_35n, x129_35, bnd_some, Option.toList_some, Option.toList_none, List.cons_append, List.nil_append, List.singleton_append, clr_i, clr_r, clr_n, clr_0, clr_q, clr_l, isR_r, isR_n, isR_q, cat1_i, cat1_r, b0, b1, if_true, if_false, not_true, not_false_eq_true, reduceCtorEq, ite_self, and_true, true_and, and_false, false_and, or_true, true_or, or_false, false_or, k_sH hG, k_H_2 hG, k_sS hG, lv, tb21, h2]
          conv => lhs; simp only [x129_38, x129_38n, x129_38q, x129_39, x129_42, x129_44, x129_45, x129_45n, x129_45q, x129_47, x129_47n, x129_47q, x129_49n, x129_49, bnd_some, Option.toList_some, Option.toList_none, List.cons_append, List.nil_append, List.singleton_append, clr_i, clr_r, clr_n, clr_0, clr_q, clr_l, isR_r, isR_n, isR_q, cat1_i, cat1_r, b0, b1, if_true, if_false, not_true, not_false_eq_true, reduceCtorEq, ite_self, and_true, true_and, and_false, false_and, or_true, true_or, or_false, false_or, k_sH hG, k_H_2 hG, k_sS hG, k_S hG, lv, ta21, h1, sb, lw7, h7, rfT_n m1_0]
          conv => lhs; simp only [x129_109, x129_112, bnd_some, Option.toList_some, Option.toList_none, List.cons_append, List.nil_append, List.singleton_append, clr_i, clr_r, clr_n, clr_0, clr_q, clr_l, isR_r, isR_n, isR_q, cat1_i, cat1_r, b0, b1, if_true, if_false, not_true, not_false_eq_true, reduceCtorEq, ite_self, and_true, true_and, and_false, false_and, or_true, true_or, or_false, false_or, nI_add]
        · have tb : t < 2147483648 := by omega
          rw [thI_s h7 tb]
          simp only []
          have go : ex (d + 4 + f + 1) 129 23 [some (.ref (G.ad 1)), some (.ref (aH G r)), some (acO G a), some (.int (nI kd)), some (.int (nI dp)), some .null, some (.int (nI s)), l7, l8] [] (cM G (lw C l (y + nI 1)) m0, cS G s0, n, k) = ex (d + 4 + f + 1) 129 82 [some (.ref (G.ad 1)), some (.ref (aH G r)), some (acO G a), some (.int (nI kd)), some (.int (nI dp)), some .null, some (.int (nI s)), some (.ref (aT G t)), some (.int (b2 (isB C a (nI kd) t = true)))] [] (cM G (lw C l (y + nI 1)) m0, cS G s0, n, k) := by
            have Q := c129_p (d := d + f + 1) (m0 := m0) (s0 := s0) (n := n) (k := k) (l := l) (y := y + nI 1) (dp := nI dp) (l5 := some .null) (l6 := some (.int (nI s))) (l8 := l8) (b := aH G r) hG hK ws w4 ha hkd ht
            have ed2 : d + f + 1 + 4 = d + 4 + f + 1 := by omega
            rw [ed2] at Q
            rw [← Q]
            conv => lhs; simp only [x129_23, x129_25, x129_25n, x129_25q, x129_26, x129_29, x129_30, x129_33, x129_33n, x129_33q, x129_35n, x129_35, bnd_some, Option.toList_some, Option.toList_none, List.cons_append, List.nil_append, List.singleton_append, clr_i, clr_r, clr_n, clr_0, clr_q, clr_l, isR_r, isR_n, isR_q, cat1_i, cat1_r, b0, b1, if_true, if_false, not_true, not_false_eq_true, reduceCtorEq, ite_self, and_true, true_and, and_false, false_and, or_true, true_or, or_false, false_or, k_sH hG, k_H_2 hG, k_sS hG, lv, tb21, h2]
            conv => lhs; simp only [x129_38, x129_38n, x129_38q, x129_39, x129_42, x129_44, x129_45, x129_45n, x129_45q, x129_47, x129_47n, x129_47q, x129_49n, x129_49, bnd_some, Option.toList_some, Option.toList_none, List.cons_append, List.nil_append, List.singleton_append, clr_i, clr_r, clr_n, clr_0, clr_q, clr_l, isR_r, isR_n, isR_q, cat1_i, cat1_r, b0, b1, if_true, if_false, not_true, not_false_eq_true, reduceCtorEq, ite_self, and_true, true_and, and_false, false_and, or_true, true_or, or_false, false_or, k_sH hG, k_H_2 hG, k_sS hG, k_S hG, lv, ta21, h1, sb, lw7, h7, rfT_r tb]
          rw [go]
          by_cases hP : isB C a (nI kd) t = true
          · rw [if_pos hP]
            have E1 := F1 t (some (.ref (aT G t))) (some (.int (nI 1))) l
            simp only [thO]
            rw [← E1, hP]
            conv => lhs; simp only [x129_82, x129_84, x129_87, x129_87n, x129_87q, x129_89, x129_92, x129_93, x129_93n, x129_93q, x129_95, x129_98, x129_98n, x129_98q, x129_99, x129_100, x129_102, x129_103, x129_104 (hv0 := isR_r) (hv1 := isR_r), x129_104 (hv0 := isR_r) (hv1 := isR_n), x129_104 (hv0 := isR_n) (hv1 := isR_r), x129_104 (hv0 := isR_n) (hv1 := isR_n), x129_107, x129_107n, x129_107q, bnd_some, Option.toList_some, Option.toList_none, List.cons_append, List.nil_append, List.singleton_append, clr_i, clr_r, clr_n, clr_0, clr_q, clr_l, isR_r, isR_n, isR_q, cat1_i, cat1_r, b0, b1, if_true, if_false, not_true, not_false_eq_true, reduceCtorEq, ite_self, and_true, true_and, and_false, false_and, or_true, true_or, or_false, false_or, b2T, oF]
          · have hP' : b2 (isB C a (nI kd) t = true) = nI 0 := by unfold b2; rw [if_neg hP]
            rw [if_neg hP, hP']
            by_cases hq : G.kd t = 4 ∨ G.kd t = 5
            · rw [if_pos hq]
              have hb' := hb (by rw [kdE hG hK ht (by omega), kdE hG hK ht (by omega)]; exact hq)
              have lvt : lvR G t := Or.inl ⟨ht, hq⟩
              have I := ih (dp + 1) t (by omega) hb' lvt l (y + nI 1)
              rw [x129_82, x129_84, if_pos (show nI 0 = 0 from rfl)]
              conv => lhs; simp only [x129_92, x129_93, x129_93n, x129_93q, x129_95, bnd_some, Option.toList_some, Option.toList_none, List.cons_append, List.nil_append, List.singleton_append, clr_i, clr_r, clr_n, clr_0, clr_q, clr_l, isR_r, isR_n, isR_q, cat1_i, cat1_r, b0, b1, if_true, if_false, not_true, not_false_eq_true, reduceCtorEq, ite_self, and_true, true_and, and_false, false_and, or_true, true_or, or_false, false_or, k_sT hG, k_T_5 hG, isTh_tg, ht, hq]
              rw [A2]
              conv => lhs; simp only [x129_99, x129_100, x129_102, x129_103, bnd_some, Option.toList_some, Option.toList_none, List.cons_append, List.nil_append, List.singleton_append, clr_i, clr_r, clr_n, clr_0, clr_q, clr_l, isR_r, isR_n, isR_q, cat1_i, cat1_r, b0, b1, if_true, if_false, not_true, not_false_eq_true, reduceCtorEq, ite_self, and_true, true_and, and_false, false_and, or_true, true_or, or_false, false_or, nI_add]
              rw [x129_104 (hv0 := isR_r) (hv1 := AR) (ht := by show (cS G s0 (G.ad 1)).1 = 10; rw [k_s1 hG]), I, bnd_some]
              cases hfo : fnF G C (isB C a (nI kd)) f t l with
              | mk fo l' =>
                cases fo with
                | none =>
                  simp only []
                  rw [← ihu (s + 1) l' (some (.ref (aT G t))) (some (.int (nI 0))) (by omega)]
                  conv => lhs; simp only [x129_107, x129_107n, x129_107q, x129_109, x129_112, bnd_some, Option.toList_some, Option.toList_none, List.cons_append, List.nil_append, List.singleton_append, clr_i, clr_r, clr_n, clr_0, clr_q, clr_l, isR_r, isR_n, isR_q, cat1_i, cat1_r, b0, b1, if_true, if_false, not_true, not_false_eq_true, reduceCtorEq, ite_self, and_true, true_and, and_false, false_and, or_true, true_or, or_false, false_or, thO, nI_add]
                | some x =>
                  simp only [thO]
                  rw [← F1 x (some (.ref (aT G t))) (some (.int (nI 0))) l']
                  conv => lhs; simp only [x129_107, x129_107n, x129_107q, bnd_some, Option.toList_some, Option.toList_none, List.cons_append, List.nil_append, List.singleton_append, clr_i, clr_r, clr_n, clr_0, clr_q, clr_l, isR_r, isR_n, isR_q, cat1_i, cat1_r, b0, b1, if_true, if_false, not_true, not_false_eq_true, reduceCtorEq, ite_self, and_true, true_and, and_false, false_and, or_true, true_or, or_false, false_or, thO]
            · rw [if_neg hq]
              rw [x129_82, x129_84, if_pos (show nI 0 = 0 from rfl)]
              conv => lhs; simp only [x129_92, x129_93, x129_93n, x129_93q, x129_95, bnd_some, Option.toList_some, Option.toList_none, List.cons_append, List.nil_append, List.singleton_append, clr_i, clr_r, clr_n, clr_0, clr_q, clr_l, isR_r, isR_n, isR_q, cat1_i, cat1_r, b0, b1, if_true, if_false, not_true, not_false_eq_true, reduceCtorEq, ite_self, and_true, true_and, and_false, false_and, or_true, true_or, or_false, false_or, k_sT hG, k_T_5 hG, isTh_tg, ht, hq]
              rw [A2]
              conv => lhs; simp only [x129_99, x129_100, x129_102, x129_103, bnd_some, Option.toList_some, Option.toList_none, List.cons_append, List.nil_append, List.singleton_append, clr_i, clr_r, clr_n, clr_0, clr_q, clr_l, isR_r, isR_n, isR_q, cat1_i, cat1_r, b0, b1, if_true, if_false, not_true, not_false_eq_true, reduceCtorEq, ite_self, and_true, true_and, and_false, false_and, or_true, true_or, or_false, false_or, nI_add]
              rw [x129_104 (hv0 := isR_n) (hv1 := AR) (ht := by show (cS G s0 (G.ad 1)).1 = 10; rw [k_s1 hG]), NN, bnd_some]
              rw [← ihu (s + 1) l (some (.ref (aT G t))) (some (.int (nI 0))) (by omega)]
              conv => lhs; simp only [x129_107, x129_107n, x129_107q, x129_109, x129_112, bnd_some, Option.toList_some, Option.toList_none, List.cons_append, List.nil_append, List.singleton_append, clr_i, clr_r, clr_n, clr_0, clr_q, clr_l, isR_r, isR_n, isR_q, cat1_i, cat1_r, b0, b1, if_true, if_false, not_true, not_false_eq_true, reduceCtorEq, ite_self, and_true, true_and, and_false, false_and, or_true, true_or, or_false, false_or, nI_add]
    rw [ed]
    have L0 := L (G.sl r) 0 (l + nI 1) none none (by omega)
    unfold fnF
    rw [← L0]
    conv => lhs; simp only [x129_0, x129_0n, x129_0q, x129_1n, x129_1, x129_4, x129_6, x129_8, x129_11, x129_12, x129_12n, x129_12q, x129_13, x129_14, x129_17, x129_18, x129_18n, x129_18q, x129_20, x129_21, bnd_some, Option.toList_some, Option.toList_none, List.cons_append, List.nil_append, List.singleton_append, clr_i, clr_r, clr_n, clr_0, clr_q, clr_l, isR_r, isR_n, isR_q, cat1_i, cat1_r, b0, b1, if_true, if_false, not_true, not_false_eq_true, reduceCtorEq, ite_self, and_true, true_and, and_false, false_and, or_true, true_or, or_false, false_or, k_s1 hG, g8, c100w hG]
end CT
