/-! ===== what is made at the start: the reference, the class ===== -/
section EG
variable {d o k : Nat} {m : Mm} {s : Nat → Nat × Nat}
theorem c133 : ex d 133 0 [some (.ref o)] [] (mnw m o (fun j => dfv (pty 11 j)), mnw s o (11, 42), o + 1, k) = some (none, (pmM o m 27, psS o s 27, o + (26 + 1 + 1), k + 200 + 200 + 200 + 200 + 212 + 8480 + 1200 + 1200 + 1200 + 8000 + 200 + 60 + 240 + 7 + 7 + 10 + 8 + 56 + 7 + 7 + 8 + 7 + 300 + 300 + 300 + 201 + 201)) := by
  rw [pm_0, ps_0]
  conv => lhs; simp only [x133_0, x133_1, bnd_some, Option.toList_some, Option.toList_none, List.cons_append, List.nil_append, List.singleton_append, clr_i, clr_r, clr_n, clr_0, clr_q, clr_l, isR_r, isR_n, isR_q, cat1_i, cat1_r, b0, b1, if_true, if_false, not_true, not_false_eq_true, reduceCtorEq, ite_self, and_true, true_and, and_false, false_and, or_true, true_or, or_false, false_or]
  exact (i133_0 (d := d) (o := o) (m := m) (s := s) (k := k)).trans ((i133_1 (d := d) (o := o) (m := m) (s := s) (k := k + 200)).trans ((i133_2 (d := d) (o := o) (m := m) (s := s) (k := k + 200 + 200)).trans ((i133_3 (d := d) (o := o) (m := m) (s := s) (k := k + 200 + 200 + 200)).trans ((i133_4 (d := d) (o := o) (m := m) (s := s) (k := k + 200 + 200 + 200 + 200)).trans ((i133_5 (d := d) (o := o) (m := m) (s := s) (k := k + 200 + 200 + 200 + 200 + 212)).trans ((i133_6 (d := d) (o := o) (m := m) (s := s) (k := k + 200 + 200 + 200 + 200 + 212 + 8480)).trans ((i133_7 (d := d) (o := o) (m := m) (s := s) (k := k + 200 + 200 + 200 + 200 + 212 + 8480 + 1200)).trans ((i133_8 (d := d) (o := o) (m := m) (s := s) (k := k + 200 + 200 + 200 + 200 + 212 + 8480 + 1200 + 1200)).trans ((i133_9 (d := d) (o := o) (m := m) (s := s) (k := k + 200 + 200 + 200 + 200 + 212 + 8480 + 1200 + 1200 + 1200)).trans ((i133_10 (d := d) (o := o) (m := m) (s := s) (k := k + 200 + 200 + 200 + 200 + 212 + 8480 + 1200 + 1200 + 1200 + 8000)).trans ((i133_11 (d := d) (o := o) (m := m) (s := s) (k := k + 200 + 200 + 200 + 200 + 212 + 8480 + 1200 + 1200 + 1200 + 8000 + 200)).trans ((i133_12 (d := d) (o := o) (m := m) (s := s) (k := k + 200 + 200 + 200 + 200 + 212 + 8480 + 1200 + 1200 + 1200 + 8000 + 200 + 60)).trans ((i133_13 (d := d) (o := o) (m := m) (s := s) (k := k + 200 + 200 + 200 + 200 + 212 + 8480 + 1200 + 1200 + 1200 + 8000 + 200 + 60 + 240)).trans ((i133_14 (d := d) (o := o) (m := m) (s := s) (k := k + 200 + 200 + 200 + 200 + 212 + 8480 + 1200 + 1200 + 1200 + 8000 + 200 + 60 + 240 + 7)).trans ((i133_15 (d := d) (o := o) (m := m) (s := s) (k := k + 200 + 200 + 200 + 200 + 212 + 8480 + 1200 + 1200 + 1200 + 8000 + 200 + 60 + 240 + 7 + 7)).trans ((i133_16 (d := d) (o := o) (m := m) (s := s) (k := k + 200 + 200 + 200 + 200 + 212 + 8480 + 1200 + 1200 + 1200 + 8000 + 200 + 60 + 240 + 7 + 7 + 10)).trans ((i133_17 (d := d) (o := o) (m := m) (s := s) (k := k + 200 + 200 + 200 + 200 + 212 + 8480 + 1200 + 1200 + 1200 + 8000 + 200 + 60 + 240 + 7 + 7 + 10 + 8)).trans ((i133_18 (d := d) (o := o) (m := m) (s := s) (k := k + 200 + 200 + 200 + 200 + 212 + 8480 + 1200 + 1200 + 1200 + 8000 + 200 + 60 + 240 + 7 + 7 + 10 + 8 + 56)).trans ((i133_19 (d := d) (o := o) (m := m) (s := s) (k := k + 200 + 200 + 200 + 200 + 212 + 8480 + 1200 + 1200 + 1200 + 8000 + 200 + 60 + 240 + 7 + 7 + 10 + 8 + 56 + 7)).trans ((i133_20 (d := d) (o := o) (m := m) (s := s) (k := k + 200 + 200 + 200 + 200 + 212 + 8480 + 1200 + 1200 + 1200 + 8000 + 200 + 60 + 240 + 7 + 7 + 10 + 8 + 56 + 7 + 7)).trans ((i133_21 (d := d) (o := o) (m := m) (s := s) (k := k + 200 + 200 + 200 + 200 + 212 + 8480 + 1200 + 1200 + 1200 + 8000 + 200 + 60 + 240 + 7 + 7 + 10 + 8 + 56 + 7 + 7 + 8)).trans ((i133_22 (d := d) (o := o) (m := m) (s := s) (k := k + 200 + 200 + 200 + 200 + 212 + 8480 + 1200 + 1200 + 1200 + 8000 + 200 + 60 + 240 + 7 + 7 + 10 + 8 + 56 + 7 + 7 + 8 + 7)).trans ((i133_23 (d := d) (o := o) (m := m) (s := s) (k := k + 200 + 200 + 200 + 200 + 212 + 8480 + 1200 + 1200 + 1200 + 8000 + 200 + 60 + 240 + 7 + 7 + 10 + 8 + 56 + 7 + 7 + 8 + 7 + 300)).trans ((i133_24 (d := d) (o := o) (m := m) (s := s) (k := k + 200 + 200 + 200 + 200 + 212 + 8480 + 1200 + 1200 + 1200 + 8000 + 200 + 60 + 240 + 7 + 7 + 10 + 8 + 56 + 7 + 7 + 8 + 7 + 300 + 300)).trans ((i133_25 (d := d) (o := o) (m := m) (s := s) (k := k + 200 + 200 + 200 + 200 + 212 + 8480 + 1200 + 1200 + 1200 + 8000 + 200 + 60 + 240 + 7 + 7 + 10 + 8 + 56 + 7 + 7 + 8 + 7 + 300 + 300 + 300)).trans ((i133_26 (d := d) (o := o) (m := m) (s := s) (k := k + 200 + 200 + 200 + 200 + 212 + 8480 + 1200 + 1200 + 1200 + 8000 + 200 + 60 + 240 + 7 + 7 + 10 + 8 + 56 + 7 + 7 + 8 + 7 + 300 + 300 + 300 + 201)).trans (x133_237)))))))))))))))))))))))))))
end EG
def pO (j : Nat) : Nat := ([1, 2, 0, 3, 4, 0, 5, 6, 14, 22, 23, 31, 32, 33, 34, 0, 35, 0] : List Nat).getD j 0
def pvC (P c j : Nat) : Value := if c = 1 ∨ c = 4 then .null else if c = 6 ∨ c = 14 ∨ c = 23 then (if j < 7 then .ref (P + c + 1 + j) else .null) else .int 0
def psC (c : Nat) : Nat × Nat := ([(5, 18), (23, 7), (20, 7), (20, 10), (21, 8), (20, 8), (26, 7), (20, 8), (20, 8), (20, 8), (20, 8), (20, 8), (20, 8), (20, 8), (26, 7), (20, 8), (20, 8), (20, 8), (20, 8), (20, 8), (20, 8), (20, 8), (20, 7), (26, 7), (20, 7), (20, 7), (20, 7), (20, 7), (20, 7), (20, 7), (20, 7), (20, 7), (20, 7), (20, 8), (20, 7), (20, 7)] : List (Nat × Nat)).getD c (0, 0)
def pnM (P : Nat) (m : Mm) (q : Nat) : Mm := fun a j => if a = P then (if pO j ≠ 0 ∧ pO j ≤ q then .ref (P + pO j) else dfv (pty 5 j)) else if P < a ∧ a ≤ P + q then pvC P (a - P) j else m a j
def pnS (P : Nat) (s : Nat → Nat × Nat) (q : Nat) : Nat → Nat × Nat := fun a => if a = P then (5, 18) else if P < a ∧ a ≤ P + q then psC (a - P) else s a
theorem pO_big {j : Nat} (h : ¬ j < 18) : pO j = 0 := by
  unfold pO
  rw [List.getD_eq_getElem?_getD, List.getElem?_eq_none (by simp; omega)]
  rfl
theorem pnS_P {P q : Nat} {s : Nat → Nat × Nat} : pnS P s q P = (5, 18) := if_pos rfl
theorem pl_g {P q u f c : Nat} {m M : Mm} (hu : 0 < u) (hc : c = q + 1) (hf : pO f = c) (h1 : ∀ a, ¬ (P + q < a ∧ a ≤ P + q + u) → M a = pnM P m q a) (h2 : ∀ c j, q < c → c ≤ q + u → M (P + c) j = pvC P c j) (hg : ∀ j, j < 18 → q < pO j → pO j ≤ q + u → j = f) : mup M P f (.ref (P + c)) = pnM P m (q + u) := by
  funext a j
  unfold mup
  by_cases ha : a = P
  · subst ha
    by_cases hj : j = f
    · rw [if_pos ⟨rfl, hj⟩]
      unfold pnM
      rw [if_pos rfl, hj, hf, if_pos (by omega)]
    · rw [if_neg (fun y => hj y.2), h1 a (by omega)]
      unfold pnM
      rw [if_pos rfl, if_pos rfl]
      by_cases w : pO j ≠ 0 ∧ pO j ≤ q
      · rw [if_pos w, if_pos (by omega)]
      · rw [if_neg w, if_neg (fun y => by
          by_cases h18 : j < 18
          · exact hj (hg j h18 (by omega) y.2)
          · exact y.1 (pO_big h18))]
  · rw [if_neg (fun y => ha y.1)]
    by_cases hb : P + q < a ∧ a ≤ P + q + u
    · have e : a = P + (a - P) := by omega
      rw [e, h2 (a - P) j (by omega) (by omega)]
      unfold pnM
      rw [if_neg (by omega), if_pos (by omega), ← e]
    · rw [h1 a hb]
      unfold pnM
      rw [if_neg ha, if_neg ha]
      by_cases w : P < a ∧ a ≤ P + q
      · rw [if_pos w, if_pos (by omega)]
      · rw [if_neg w, if_neg (by omega)]
theorem ps_g {P q u : Nat} {s S : Nat → Nat × Nat} (h1 : ∀ a, ¬ (P + q < a ∧ a ≤ P + q + u) → S a = pnS P s q a) (h2 : ∀ c, q < c → c ≤ q + u → S (P + c) = psC c) : S = pnS P s (q + u) := by
  funext a
  by_cases hb : P + q < a ∧ a ≤ P + q + u
  · have e : a = P + (a - P) := by omega
    rw [e, h2 (a - P) (by omega) (by omega)]
    unfold pnS
    rw [if_neg (by omega), if_pos (by omega), ← e]
  · rw [h1 a hb]
    unfold pnS
    by_cases ha : a = P
    · rw [if_pos ha, if_pos ha]
    · rw [if_neg ha, if_neg ha]
      by_cases w : P < a ∧ a ≤ P + q
      · rw [if_pos w, if_pos (by omega)]
      · rw [if_neg w, if_neg (by omega)]
theorem pl_1 {P q f c : Nat} {m : Mm} {g : Nat → Value} (hc : c = q + 1) (hf : pO f = c) (hv : ∀ j, g j = pvC P c j) (hg : ∀ j, j < 18 → q < pO j → pO j ≤ q + 1 → j = f) : mup (mnw (pnM P m q) (P + c) g) P f (.ref (P + c)) = pnM P m (q + 1) :=
  pl_g (by decide) hc hf (fun a h => mnw_ne (by omega)) (fun e j h1 h2 => by
    have ee : e = c := by omega
    rw [ee, mnw_at]
    exact hv j) hg
theorem ps_1 {P q c : Nat} {s : Nat → Nat × Nat} (hc : c = q + 1) : mnw (pnS P s q) (P + c) (psC c) = pnS P s (q + 1) :=
  ps_g (fun a h => mnw_ne (by omega)) (fun e h1 h2 => by
    have ee : e = c := by omega
    rw [ee, mnw_at])
theorem pl_2 {P q f c : Nat} {m : Mm} (hc : c = q + 1) (hf : pO f = c) (hv : c = 6 ∨ c = 14 ∨ c = 23) (hg : ∀ j, j < 18 → q < pO j → pO j ≤ q + 8 → j = f) : mup (fun x => if x = P + c then (fun j => if j < 7 then Value.ref (P + c + 1 + j) else .null) else if P + c < x ∧ x ≤ P + c + 7 then (fun _ => .int 0) else pnM P m q x) P f (.ref (P + c)) = pnM P m (q + 8) :=
  pl_g (by decide) hc hf (fun a h => by
    show (if a = P + c then _ else _) = _
    rw [if_neg (by omega), if_neg (by omega)]) (fun e j h1 h2 => by
    show (if P + e = P + c then (fun j => if j < 7 then Value.ref (P + c + 1 + j) else .null) else if P + c < P + e ∧ P + e ≤ P + c + 7 then (fun _ => .int 0) else pnM P m q (P + e)) j = _
    by_cases ee : e = c
    · rw [ee, if_pos rfl]
      unfold pvC
      rw [if_neg (show ¬ (c = 1 ∨ c = 4) by omega), if_pos hv]
    · rw [if_neg (by omega), if_pos (by omega)]
      unfold pvC
      rw [if_neg (by omega), if_neg (by omega)]) hg
theorem ps_2 {P q c u : Nat} {s : Nat → Nat × Nat} (hc : c = q + 1) (h0 : psC c = (26, 7)) (hv : ∀ e, c < e → e ≤ c + 7 → psC e = (20, u)) : (fun x => if x = P + c then (26, 7) else if P + c < x ∧ x ≤ P + c + 7 then (20, u) else pnS P s q x) = pnS P s (q + 8) :=
  ps_g (fun a h => by
    show (if a = P + c then _ else _) = _
    rw [if_neg (by omega), if_neg (by omega)]) (fun e h1 h2 => by
    show (if P + e = P + c then _ else if P + c < P + e ∧ P + e ≤ P + c + 7 then _ else _) = _
    by_cases ee : e = c
    · rw [ee, if_pos rfl, h0]
    · rw [if_neg (by omega), if_pos (by omega), hv e (by omega) (by omega)])
section EH
variable {d P k : Nat} {m : Mm} {s : Nat → Nat × Nat}
theorem j13_0 : ex d 13 4 [some (.ref P)] [] (pnM P m 0, pnS P s 0, P + 1, k) = ex d 13 13 [some (.ref P)] [] (pnM P m 1, pnS P s 1, P + 2, k + 7) := by
  have l : 7 ≤ 10000 := by decide
  have X := pl_1 (P := P) (q := 0) (f := 0) (c := 1) (m := m) (g := fun _ => .null) rfl rfl (fun j => rfl) (by decide)
  have Y := ps_1 (P := P) (q := 0) (c := 1) (s := s) rfl
  have e : psC 1 = (23, 7) := rfl
  rw [e] at Y
  have ne : ¬ P = P + 1 := by omega
  have ea : P + 1 + 1 = P + 2 := by omega
  conv => lhs; simp only [x13_4, x13_5, x13_7, x13_10, x13_10n, x13_10q, bnd_some, Option.toList_some, Option.toList_none, List.cons_append, List.nil_append, List.singleton_append, clr_i, clr_r, clr_n, clr_0, clr_q, clr_l, isR_r, isR_n, isR_q, cat1_i, cat1_r, b0, b1, if_true, if_false, not_true, not_false_eq_true, reduceCtorEq, ite_self, and_true, true_and, and_false, false_and, or_true, true_or, or_false, false_or, l, pnS_P, mnw_ne ne, X, Y, ea]
theorem j13_1 : ex d 13 13 [some (.ref P)] [] (pnM P m 1, pnS P s 1, P + 2, k) = ex d 13 21 [some (.ref P)] [] (pnM P m 2, pnS P s 2, P + 3, k + 7) := by
  have l : 7 ≤ 10000 := by decide
  have X := pl_1 (P := P) (q := 1) (f := 1) (c := 2) (m := m) (g := fun _ => .int 0) rfl rfl (fun j => rfl) (by decide)
  have Y := ps_1 (P := P) (q := 1) (c := 2) (s := s) rfl
  have e : psC 2 = (20, 7) := rfl
  rw [e] at Y
  have ne : ¬ P = P + 2 := by omega
  have ea : P + 2 + 1 = P + 3 := by omega
  conv => lhs; simp only [x13_13, x13_14, x13_16, x13_18, x13_18n, x13_18q, bnd_some, Option.toList_some, Option.toList_none, List.cons_append, List.nil_append, List.singleton_append, clr_i, clr_r, clr_n, clr_0, clr_q, clr_l, isR_r, isR_n, isR_q, cat1_i, cat1_r, b0, b1, if_true, if_false, not_true, not_false_eq_true, reduceCtorEq, ite_self, and_true, true_and, and_false, false_and, or_true, true_or, or_false, false_or, l, pnS_P, mnw_ne ne, X, Y, ea]
theorem j13_2 : ex d 13 21 [some (.ref P)] [] (pnM P m 2, pnS P s 2, P + 3, k) = ex d 13 29 [some (.ref P)] [] (pnM P m 3, pnS P s 3, P + 4, k + 10) := by
  have l : 10 ≤ 10000 := by decide
  have X := pl_1 (P := P) (q := 2) (f := 3) (c := 3) (m := m) (g := fun _ => .int 0) rfl rfl (fun j => rfl) (by decide)
  have Y := ps_1 (P := P) (q := 2) (c := 3) (s := s) rfl
  have e : psC 3 = (20, 10) := rfl
  rw [e] at Y
  have ne : ¬ P = P + 3 := by omega
  have ea : P + 3 + 1 = P + 4 := by omega
  conv => lhs; simp only [x13_21, x13_22, x13_24, x13_26, x13_26n, x13_26q, bnd_some, Option.toList_some, Option.toList_none, List.cons_append, List.nil_append, List.singleton_append, clr_i, clr_r, clr_n, clr_0, clr_q, clr_l, isR_r, isR_n, isR_q, cat1_i, cat1_r, b0, b1, if_true, if_false, not_true, not_false_eq_true, reduceCtorEq, ite_self, and_true, true_and, and_false, false_and, or_true, true_or, or_false, false_or, l, pnS_P, mnw_ne ne, X, Y, ea]
theorem j13_3 : ex d 13 29 [some (.ref P)] [] (pnM P m 3, pnS P s 3, P + 4, k) = ex d 13 38 [some (.ref P)] [] (pnM P m 4, pnS P s 4, P + 5, k + 8) := by
  have l : 8 ≤ 10000 := by decide
  have X := pl_1 (P := P) (q := 3) (f := 4) (c := 4) (m := m) (g := fun _ => .null) rfl rfl (fun j => rfl) (by decide)
  have Y := ps_1 (P := P) (q := 3) (c := 4) (s := s) rfl
  have e : psC 4 = (21, 8) := rfl
  rw [e] at Y
  have ne : ¬ P = P + 4 := by omega
  have ea : P + 4 + 1 = P + 5 := by omega
  conv => lhs; simp only [x13_29, x13_30, x13_32, x13_35, x13_35n, x13_35q, bnd_some, Option.toList_some, Option.toList_none, List.cons_append, List.nil_append, List.singleton_append, clr_i, clr_r, clr_n, clr_0, clr_q, clr_l, isR_r, isR_n, isR_q, cat1_i, cat1_r, b0, b1, if_true, if_false, not_true, not_false_eq_true, reduceCtorEq, ite_self, and_true, true_and, and_false, false_and, or_true, true_or, or_false, false_or, l, pnS_P, mnw_ne ne, X, Y, ea]
theorem j13_4 : ex d 13 38 [some (.ref P)] [] (pnM P m 4, pnS P s 4, P + 5, k) = ex d 13 46 [some (.ref P)] [] (pnM P m 5, pnS P s 5, P + 6, k + 8) := by
  have l : 8 ≤ 10000 := by decide
  have X := pl_1 (P := P) (q := 4) (f := 6) (c := 5) (m := m) (g := fun _ => .int 0) rfl rfl (fun j => rfl) (by decide)
  have Y := ps_1 (P := P) (q := 4) (c := 5) (s := s) rfl
  have e : psC 5 = (20, 8) := rfl
  rw [e] at Y
  have ne : ¬ P = P + 5 := by omega
  have ea : P + 5 + 1 = P + 6 := by omega
  conv => lhs; simp only [x13_38, x13_39, x13_41, x13_43, x13_43n, x13_43q, bnd_some, Option.toList_some, Option.toList_none, List.cons_append, List.nil_append, List.singleton_append, clr_i, clr_r, clr_n, clr_0, clr_q, clr_l, isR_r, isR_n, isR_q, cat1_i, cat1_r, b0, b1, if_true, if_false, not_true, not_false_eq_true, reduceCtorEq, ite_self, and_true, true_and, and_false, false_and, or_true, true_or, or_false, false_or, l, pnS_P, mnw_ne ne, X, Y, ea]
theorem j13_5 : ex d 13 46 [some (.ref P)] [] (pnM P m 5, pnS P s 5, P + 6, k) = ex d 13 58 [some (.ref P)] [] (pnM P m 13, pnS P s 13, P + 14, k + 7 + 7 * 8) := by
  have l7 : 7 ≤ 1000 := by decide
  have l8 : 8 ≤ 1000 := by decide
  have X := pl_2 (P := P) (q := 5) (f := 7) (c := 6) (m := m) rfl rfl (by decide) (by decide)
  have Y := ps_2 (P := P) (q := 5) (c := 6) (u := 8) (s := s) rfl rfl (fun e h1 h2 => by
    have : e = 7 ∨ e = 8 ∨ e = 9 ∨ e = 10 ∨ e = 11 ∨ e = 12 ∨ e = 13 := by omega
    rcases this with h | h | h | h | h | h | h <;> subst h <;> rfl)
  have ne : ¬ P = P + 6 := by omega
  have nl : ¬ (P + 6 < P ∧ P ≤ P + 6 + 7) := by omega
  have ea : P + 6 + 1 + 7 = P + 14 := by omega
  conv => lhs; simp only [x13_46, x13_47, x13_49, x13_51, x13_55, x13_55n, x13_55q, bnd_some, Option.toList_some, Option.toList_none, List.cons_append, List.nil_append, List.singleton_append, clr_i, clr_r, clr_n, clr_0, clr_q, clr_l, isR_r, isR_n, isR_q, cat1_i, cat1_r, b0, b1, if_true, if_false, not_true, not_false_eq_true, reduceCtorEq, ite_self, and_true, true_and, and_false, false_and, or_true, true_or, or_false, false_or, l7, l8, pnS_P, ne, nl, X, Y, ea]
theorem j13_6 : ex d 13 58 [some (.ref P)] [] (pnM P m 13, pnS P s 13, P + 14, k) = ex d 13 70 [some (.ref P)] [] (pnM P m 21, pnS P s 21, P + 22, k + 7 + 7 * 8) := by
  have l7 : 7 ≤ 1000 := by decide
  have l8 : 8 ≤ 1000 := by decide
  have X := pl_2 (P := P) (q := 13) (f := 8) (c := 14) (m := m) rfl rfl (by decide) (by decide)
  have Y := ps_2 (P := P) (q := 13) (c := 14) (u := 8) (s := s) rfl rfl (fun e h1 h2 => by
    have : e = 15 ∨ e = 16 ∨ e = 17 ∨ e = 18 ∨ e = 19 ∨ e = 20 ∨ e = 21 := by omega
    rcases this with h | h | h | h | h | h | h <;> subst h <;> rfl)
  have ne : ¬ P = P + 14 := by omega
  have nl : ¬ (P + 14 < P ∧ P ≤ P + 14 + 7) := by omega
  have ea : P + 14 + 1 + 7 = P + 22 := by omega
  conv => lhs; simp only [x13_58, x13_59, x13_61, x13_63, x13_67, x13_67n, x13_67q, bnd_some, Option.toList_some, Option.toList_none, List.cons_append, List.nil_append, List.singleton_append, clr_i, clr_r, clr_n, clr_0, clr_q, clr_l, isR_r, isR_n, isR_q, cat1_i, cat1_r, b0, b1, if_true, if_false, not_true, not_false_eq_true, reduceCtorEq, ite_self, and_true, true_and, and_false, false_and, or_true, true_or, or_false, false_or, l7, l8, pnS_P, ne, nl, X, Y, ea]
theorem j13_7 : ex d 13 70 [some (.ref P)] [] (pnM P m 21, pnS P s 21, P + 22, k) = ex d 13 78 [some (.ref P)] [] (pnM P m 22, pnS P s 22, P + 23, k + 7) := by
  have l : 7 ≤ 10000 := by decide
  have X := pl_1 (P := P) (q := 21) (f := 9) (c := 22) (m := m) (g := fun _ => .int 0) rfl rfl (fun j => rfl) (by decide)
  have Y := ps_1 (P := P) (q := 21) (c := 22) (s := s) rfl
  have e : psC 22 = (20, 7) := rfl
  rw [e] at Y
  have ne : ¬ P = P + 22 := by omega
  have ea : P + 22 + 1 = P + 23 := by omega
  conv => lhs; simp only [x13_70, x13_71, x13_73, x13_75, x13_75n, x13_75q, bnd_some, Option.toList_some, Option.toList_none, List.cons_append, List.nil_append, List.singleton_append, clr_i, clr_r, clr_n, clr_0, clr_q, clr_l, isR_r, isR_n, isR_q, cat1_i, cat1_r, b0, b1, if_true, if_false, not_true, not_false_eq_true, reduceCtorEq, ite_self, and_true, true_and, and_false, false_and, or_true, true_or, or_false, false_or, l, pnS_P, mnw_ne ne, X, Y, ea]
theorem j13_8 : ex d 13 78 [some (.ref P)] [] (pnM P m 22, pnS P s 22, P + 23, k) = ex d 13 90 [some (.ref P)] [] (pnM P m 30, pnS P s 30, P + 31, k + 7 + 7 * 7) := by
  have l7 : 7 ≤ 1000 := by decide
  have l8 : 7 ≤ 1000 := by decide
  have X := pl_2 (P := P) (q := 22) (f := 10) (c := 23) (m := m) rfl rfl (by decide) (by decide)
  have Y := ps_2 (P := P) (q := 22) (c := 23) (u := 7) (s := s) rfl rfl (fun e h1 h2 => by
    have : e = 24 ∨ e = 25 ∨ e = 26 ∨ e = 27 ∨ e = 28 ∨ e = 29 ∨ e = 30 := by omega
    rcases this with h | h | h | h | h | h | h <;> subst h <;> rfl)
  have ne : ¬ P = P + 23 := by omega
  have nl : ¬ (P + 23 < P ∧ P ≤ P + 23 + 7) := by omega
  have ea : P + 23 + 1 + 7 = P + 31 := by omega
  conv => lhs; simp only [x13_78, x13_79, x13_81, x13_83, x13_87, x13_87n, x13_87q, bnd_some, Option.toList_some, Option.toList_none, List.cons_append, List.nil_append, List.singleton_append, clr_i, clr_r, clr_n, clr_0, clr_q, clr_l, isR_r, isR_n, isR_q, cat1_i, cat1_r, b0, b1, if_true, if_false, not_true, not_false_eq_true, reduceCtorEq, ite_self, and_true, true_and, and_false, false_and, or_true, true_or, or_false, false_or, l7, l8, pnS_P, ne, nl, X, Y, ea]
theorem j13_9 : ex d 13 90 [some (.ref P)] [] (pnM P m 30, pnS P s 30, P + 31, k) = ex d 13 98 [some (.ref P)] [] (pnM P m 31, pnS P s 31, P + 32, k + 7) := by
  have l : 7 ≤ 10000 := by decide
  have X := pl_1 (P := P) (q := 30) (f := 11) (c := 31) (m := m) (g := fun _ => .int 0) rfl rfl (fun j => rfl) (by decide)
  have Y := ps_1 (P := P) (q := 30) (c := 31) (s := s) rfl
  have e : psC 31 = (20, 7) := rfl
  rw [e] at Y
  have ne : ¬ P = P + 31 := by omega
  have ea : P + 31 + 1 = P + 32 := by omega
  conv => lhs; simp only [x13_90, x13_91, x13_93, x13_95, x13_95n, x13_95q, bnd_some, Option.toList_some, Option.toList_none, List.cons_append, List.nil_append, List.singleton_append, clr_i, clr_r, clr_n, clr_0, clr_q, clr_l, isR_r, isR_n, isR_q, cat1_i, cat1_r, b0, b1, if_true, if_false, not_true, not_false_eq_true, reduceCtorEq, ite_self, and_true, true_and, and_false, false_and, or_true, true_or, or_false, false_or, l, pnS_P, mnw_ne ne, X, Y, ea]
theorem j13_10 : ex d 13 98 [some (.ref P)] [] (pnM P m 31, pnS P s 31, P + 32, k) = ex d 13 106 [some (.ref P)] [] (pnM P m 32, pnS P s 32, P + 33, k + 7) := by
  have l : 7 ≤ 10000 := by decide
  have X := pl_1 (P := P) (q := 31) (f := 12) (c := 32) (m := m) (g := fun _ => .int 0) rfl rfl (fun j => rfl) (by decide)
  have Y := ps_1 (P := P) (q := 31) (c := 32) (s := s) rfl
  have e : psC 32 = (20, 7) := rfl
  rw [e] at Y
  have ne : ¬ P = P + 32 := by omega
  have ea : P + 32 + 1 = P + 33 := by omega
  conv => lhs; simp only [x13_98, x13_99, x13_101, x13_103, x13_103n, x13_103q, bnd_some, Option.toList_some, Option.toList_none, List.cons_append, List.nil_append, List.singleton_append, clr_i, clr_r, clr_n, clr_0, clr_q, clr_l, isR_r, isR_n, isR_q, cat1_i, cat1_r, b0, b1, if_true, if_false, not_true, not_false_eq_true, reduceCtorEq, ite_self, and_true, true_and, and_false, false_and, or_true, true_or, or_false, false_or, l, pnS_P, mnw_ne ne, X, Y, ea]
theorem j13_11 : ex d 13 106 [some (.ref P)] [] (pnM P m 32, pnS P s 32, P + 33, k) = ex d 13 114 [some (.ref P)] [] (pnM P m 33, pnS P s 33, P + 34, k + 8) := by
  have l : 8 ≤ 10000 := by decide
  have X := pl_1 (P := P) (q := 32) (f := 13) (c := 33) (m := m) (g := fun _ => .int 0) rfl rfl (fun j => rfl) (by decide)
  have Y := ps_1 (P := P) (q := 32) (c := 33) (s := s) rfl
  have e : psC 33 = (20, 8) := rfl
  rw [e] at Y
  have ne : ¬ P = P + 33 := by omega
  have ea : P + 33 + 1 = P + 34 := by omega
  conv => lhs; simp only [x13_106, x13_107, x13_109, x13_111, x13_111n, x13_111q, bnd_some, Option.toList_some, Option.toList_none, List.cons_append, List.nil_append, List.singleton_append, clr_i, clr_r, clr_n, clr_0, clr_q, clr_l, isR_r, isR_n, isR_q, cat1_i, cat1_r, b0, b1, if_true, if_false, not_true, not_false_eq_true, reduceCtorEq, ite_self, and_true, true_and, and_false, false_and, or_true, true_or, or_false, false_or, l, pnS_P, mnw_ne ne, X, Y, ea]
theorem j13_12 : ex d 13 114 [some (.ref P)] [] (pnM P m 33, pnS P s 33, P + 34, k) = ex d 13 122 [some (.ref P)] [] (pnM P m 34, pnS P s 34, P + 35, k + 7) := by
  have l : 7 ≤ 10000 := by decide
  have X := pl_1 (P := P) (q := 33) (f := 14) (c := 34) (m := m) (g := fun _ => .int 0) rfl rfl (fun j => rfl) (by decide)
  have Y := ps_1 (P := P) (q := 33) (c := 34) (s := s) rfl
  have e : psC 34 = (20, 7) := rfl
  rw [e] at Y
  have ne : ¬ P = P + 34 := by omega
  have ea : P + 34 + 1 = P + 35 := by omega
  conv => lhs; simp only [x13_114, x13_115, x13_117, x13_119, x13_119n, x13_119q, bnd_some, Option.toList_some, Option.toList_none, List.cons_append, List.nil_append, List.singleton_append, clr_i, clr_r, clr_n, clr_0, clr_q, clr_l, isR_r, isR_n, isR_q, cat1_i, cat1_r, b0, b1, if_true, if_false, not_true, not_false_eq_true, reduceCtorEq, ite_self, and_true, true_and, and_false, false_and, or_true, true_or, or_false, false_or, l, pnS_P, mnw_ne ne, X, Y, ea]
theorem j13_13 : ex d 13 122 [some (.ref P)] [] (pnM P m 34, pnS P s 34, P + 35, k) = ex d 13 130 [some (.ref P)] [] (pnM P m 35, pnS P s 35, P + 36, k + 7) := by
  have l : 7 ≤ 10000 := by decide
  have X := pl_1 (P := P) (q := 34) (f := 16) (c := 35) (m := m) (g := fun _ => .int 0) rfl rfl (fun j => rfl) (by decide)
  have Y := ps_1 (P := P) (q := 34) (c := 35) (s := s) rfl
  have e : psC 35 = (20, 7) := rfl
  rw [e] at Y
  have ne : ¬ P = P + 35 := by omega
  have ea : P + 35 + 1 = P + 36 := by omega
  conv => lhs; simp only [x13_122, x13_123, x13_125, x13_127, x13_127n, x13_127q, bnd_some, Option.toList_some, Option.toList_none, List.cons_append, List.nil_append, List.singleton_append, clr_i, clr_r, clr_n, clr_0, clr_q, clr_l, isR_r, isR_n, isR_q, cat1_i, cat1_r, b0, b1, if_true, if_false, not_true, not_false_eq_true, reduceCtorEq, ite_self, and_true, true_and, and_false, false_and, or_true, true_or, or_false, false_or, l, pnS_P, mnw_ne ne, X, Y, ea]
theorem pl_0 : mnw m P (fun j => dfv (pty 5 j)) = pnM P m 0 := by
  funext a j
  by_cases ha : a = P
  · rw [ha, mnw_at]
    unfold pnM
    rw [if_pos rfl, if_neg (by omega)]
  · rw [mnw_ne ha]
    unfold pnM
    rw [if_neg ha, if_neg (by omega)]
theorem ps0 : mnw s P (5, 18) = pnS P s 0 := by
  funext a
  by_cases ha : a = P
  · rw [ha, mnw_at]
    unfold pnS
    rw [if_pos rfl]
  · rw [mnw_ne ha]
    unfold pnS
    rw [if_neg ha, if_neg (by omega)]
theorem c13 : ex d 13 0 [some (.ref P)] [] (pnM P m 0, pnS P s 0, P + 1, k) = some (none, (pnM P m 35, pnS P s 35, P + 36, k + 7 + 7 + 10 + 8 + 8 + 7 + 7 * 8 + 7 + 7 * 8 + 7 + 7 + 7 * 7 + 7 + 7 + 8 + 7 + 7)) := by
  conv => lhs; simp only [x13_0, x13_1, bnd_some, Option.toList_some, Option.toList_none, List.cons_append, List.nil_append, List.singleton_append, clr_i, clr_r, clr_n, clr_0, clr_q, clr_l, isR_r, isR_n, isR_q, cat1_i, cat1_r, b0, b1, if_true, if_false, not_true, not_false_eq_true, reduceCtorEq, ite_self, and_true, true_and, and_false, false_and, or_true, true_or, or_false, false_or]
  exact (j13_0 (d := d) (P := P) (m := m) (s := s) (k := k)).trans ((j13_1 (d := d) (P := P) (m := m) (s := s) (k := k + 7)).trans ((j13_2 (d := d) (P := P) (m := m) (s := s) (k := k + 7 + 7)).trans ((j13_3 (d := d) (P := P) (m := m) (s := s) (k := k + 7 + 7 + 10)).trans ((j13_4 (d := d) (P := P) (m := m) (s := s) (k := k + 7 + 7 + 10 + 8)).trans ((j13_5 (d := d) (P := P) (m := m) (s := s) (k := k + 7 + 7 + 10 + 8 + 8)).trans ((j13_6 (d := d) (P := P) (m := m) (s := s) (k := k + 7 + 7 + 10 + 8 + 8 + 7 + 7 * 8)).trans ((j13_7 (d := d) (P := P) (m := m) (s := s) (k := k + 7 + 7 + 10 + 8 + 8 + 7 + 7 * 8 + 7 + 7 * 8)).trans ((j13_8 (d := d) (P := P) (m := m) (s := s) (k := k + 7 + 7 + 10 + 8 + 8 + 7 + 7 * 8 + 7 + 7 * 8 + 7)).trans ((j13_9 (d := d) (P := P) (m := m) (s := s) (k := k + 7 + 7 + 10 + 8 + 8 + 7 + 7 * 8 + 7 + 7 * 8 + 7 + 7 + 7 * 7)).trans ((j13_10 (d := d) (P := P) (m := m) (s := s) (k := k + 7 + 7 + 10 + 8 + 8 + 7 + 7 * 8 + 7 + 7 * 8 + 7 + 7 + 7 * 7 + 7)).trans ((j13_11 (d := d) (P := P) (m := m) (s := s) (k := k + 7 + 7 + 10 + 8 + 8 + 7 + 7 * 8 + 7 + 7 * 8 + 7 + 7 + 7 * 7 + 7 + 7)).trans ((j13_12 (d := d) (P := P) (m := m) (s := s) (k := k + 7 + 7 + 10 + 8 + 8 + 7 + 7 * 8 + 7 + 7 * 8 + 7 + 7 + 7 * 7 + 7 + 7 + 8)).trans ((j13_13 (d := d) (P := P) (m := m) (s := s) (k := k + 7 + 7 + 10 + 8 + 8 + 7 + 7 * 8 + 7 + 7 * 8 + 7 + 7 + 7 * 7 + 7 + 7 + 8 + 7)).trans (x13_130))))))))))))))
end EH
def sO (j : Nat) : Nat := ([1, 0, 2, 0, 3, 0, 4, 0, 5, 0, 6] : List Nat).getD j 0
def ssC (c : Nat) : Nat × Nat := ([(10, 17), (21, 200), (22, 12), (23, 40), (24, 300), (25, 512)] : List (Nat × Nat)).getD c (0, 0)
def stM1 (o : Nat) (m : Mm) (q : Nat) : Mm := fun a j => if a = o then (if sO j ≠ 0 ∧ sO j ≤ q then .ref (o + sO j) else dfv (pty 10 j)) else if o < a ∧ a ≤ o + q then .null else m a j
def stS1 (o : Nat) (s : Nat → Nat × Nat) (q : Nat) : Nat → Nat × Nat := fun a => if a = o then (10, 17) else if o < a ∧ a ≤ o + q then ssC (a - o) else s a
theorem sO_big {j : Nat} (h : ¬ j < 11) : sO j = 0 := by
  unfold sO
  rw [List.getD_eq_getElem?_getD, List.getElem?_eq_none (by simp; omega)]
  rfl
theorem stS1_o {o q : Nat} {s : Nat → Nat × Nat} : stS1 o s q o = (10, 17) := if_pos rfl
theorem st_1 {o q f c : Nat} {m : Mm} (hc : c = q + 1) (hf : sO f = c) (hg : ∀ j, j < 11 → sO j = q + 1 → j = f) : mup (mnw (stM1 o m q) (o + c) (fun _ => .null)) o f (.ref (o + c)) = stM1 o m (q + 1) := by
  funext a j
  unfold mup
  by_cases ha : a = o
  · subst ha
    by_cases hj : j = f
    · rw [if_pos ⟨rfl, hj⟩]
      unfold stM1
      rw [if_pos rfl, hj, hf, if_pos (by omega)]
    · rw [if_neg (fun y => hj y.2), mnw_ne (by omega)]
      unfold stM1
      rw [if_pos rfl, if_pos rfl]
      by_cases w : sO j ≠ 0 ∧ sO j ≤ q
      · rw [if_pos w, if_pos (by omega)]
      · rw [if_neg w, if_neg (fun y => by
          by_cases h18 : j < 11
          · exact hj (hg j h18 (by omega))
          · exact y.1 (sO_big h18))]
  · rw [if_neg (fun y => ha y.1)]
    by_cases hb : a = o + c
    · rw [hb, mnw_at]
      unfold stM1
      rw [if_neg (by omega), if_pos (by omega)]
    · rw [mnw_ne hb]
      unfold stM1
      rw [if_neg ha, if_neg ha]
      by_cases w : o < a ∧ a ≤ o + q
      · rw [if_pos w, if_pos (by omega)]
      · rw [if_neg w, if_neg (by omega)]
theorem ss_1 {o q c : Nat} {s : Nat → Nat × Nat} (hc : c = q + 1) : mnw (stS1 o s q) (o + c) (ssC c) = stS1 o s (q + 1) := by
  funext a
  by_cases hb : a = o + c
  · rw [hb, mnw_at]
    unfold stS1
    rw [if_neg (by omega), if_pos (by omega), Nat.add_sub_cancel_left]
  · rw [mnw_ne hb]
    unfold stS1
    by_cases ha : a = o
    · rw [if_pos ha, if_pos ha]
    · rw [if_neg ha, if_neg ha]
      by_cases w : o < a ∧ a ≤ o + q
      · rw [if_pos w, if_pos (by omega)]
      · rw [if_neg w, if_neg (by omega)]
section EI
variable {d o k : Nat} {m : Mm} {s : Nat → Nat × Nat}
theorem st_0 : mnw m o (fun j => dfv (pty 10 j)) = stM1 o m 0 := by
  funext a j
  by_cases ha : a = o
  · rw [ha, mnw_at]
    unfold stM1
    rw [if_pos rfl, if_neg (by omega)]
  · rw [mnw_ne ha]
    unfold stM1
    rw [if_neg ha, if_neg (by omega)]
theorem ss0 : mnw s o (10, 17) = stS1 o s 0 := by
  funext a
  by_cases ha : a = o
  · rw [ha, mnw_at]
    unfold stS1
    rw [if_pos rfl]
  · rw [mnw_ne ha]
    unfold stS1
    rw [if_neg ha, if_neg (by omega)]
theorem i43_0 : ex d 43 4 [some (.ref o)] [] (stM1 o m 0, stS1 o s 0, o + 1, k) = ex d 43 14 [some (.ref o)] [] (stM1 o m 1, stS1 o s 1, o + 2, k + 200) := by
  have l : 200 ≤ 10000 := by decide
  have X := st_1 (o := o) (q := 0) (f := 0) (c := 1) (m := m) rfl rfl (by decide)
  have Y := ss_1 (o := o) (q := 0) (c := 1) (s := s) rfl
  have e : ssC 1 = (21, 200) := rfl
  rw [e] at Y
  have ne : ¬ o = o + 1 := by omega
  have ea : o + 1 + 1 = o + 2 := by omega
  conv => lhs; simp only [x43_4, x43_5, x43_8, x43_11, x43_11n, x43_11q, bnd_some, Option.toList_some, Option.toList_none, List.cons_append, List.nil_append, List.singleton_append, clr_i, clr_r, clr_n, clr_0, clr_q, clr_l, isR_r, isR_n, isR_q, cat1_i, cat1_r, b0, b1, if_true, if_false, not_true, not_false_eq_true, reduceCtorEq, ite_self, and_true, true_and, and_false, false_and, or_true, true_or, or_false, false_or, l, stS1_o, mnw_ne ne, X, Y, ea]
theorem i43_1 : ex d 43 14 [some (.ref o)] [] (stM1 o m 1, stS1 o s 1, o + 2, k) = ex d 43 23 [some (.ref o)] [] (stM1 o m 2, stS1 o s 2, o + 3, k + 12) := by
  have l : 12 ≤ 10000 := by decide
  have X := st_1 (o := o) (q := 1) (f := 2) (c := 2) (m := m) rfl rfl (by decide)
  have Y := ss_1 (o := o) (q := 1) (c := 2) (s := s) rfl
  have e : ssC 2 = (22, 12) := rfl
  rw [e] at Y
  have ne : ¬ o = o + 2 := by omega
  have ea : o + 2 + 1 = o + 3 := by omega
  conv => lhs; simp only [x43_14, x43_15, x43_17, x43_20, x43_20n, x43_20q, bnd_some, Option.toList_some, Option.toList_none, List.cons_append, List.nil_append, List.singleton_append, clr_i, clr_r, clr_n, clr_0, clr_q, clr_l, isR_r, isR_n, isR_q, cat1_i, cat1_r, b0, b1, if_true, if_false, not_true, not_false_eq_true, reduceCtorEq, ite_self, and_true, true_and, and_false, false_and, or_true, true_or, or_false, false_or, l, stS1_o, mnw_ne ne, X, Y, ea]
theorem i43_2 : ex d 43 23 [some (.ref o)] [] (stM1 o m 2, stS1 o s 2, o + 3, k) = ex d 43 32 [some (.ref o)] [] (stM1 o m 3, stS1 o s 3, o + 4, k + 40) := by
  have l : 40 ≤ 10000 := by decide
  have X := st_1 (o := o) (q := 2) (f := 4) (c := 3) (m := m) rfl rfl (by decide)
  have Y := ss_1 (o := o) (q := 2) (c := 3) (s := s) rfl
  have e : ssC 3 = (23, 40) := rfl
  rw [e] at Y
  have ne : ¬ o = o + 3 := by omega
  have ea : o + 3 + 1 = o + 4 := by omega
  conv => lhs; simp only [x43_23, x43_24, x43_26, x43_29, x43_29n, x43_29q, bnd_some, Option.toList_some, Option.toList_none, List.cons_append, List.nil_append, List.singleton_append, clr_i, clr_r, clr_n, clr_0, clr_q, clr_l, isR_r, isR_n, isR_q, cat1_i, cat1_r, b0, b1, if_true, if_false, not_true, not_false_eq_true, reduceCtorEq, ite_self, and_true, true_and, and_false, false_and, or_true, true_or, or_false, false_or, l, stS1_o, mnw_ne ne, X, Y, ea]
theorem i43_3 : ex d 43 32 [some (.ref o)] [] (stM1 o m 3, stS1 o s 3, o + 4, k) = ex d 43 42 [some (.ref o)] [] (stM1 o m 4, stS1 o s 4, o + 5, k + 300) := by
  have l : 300 ≤ 10000 := by decide
  have X := st_1 (o := o) (q := 3) (f := 6) (c := 4) (m := m) rfl rfl (by decide)
  have Y := ss_1 (o := o) (q := 3) (c := 4) (s := s) rfl
  have e : ssC 4 = (24, 300) := rfl
  rw [e] at Y
  have ne : ¬ o = o + 4 := by omega
  have ea : o + 4 + 1 = o + 5 := by omega
  conv => lhs; simp only [x43_32, x43_33, x43_36, x43_39, x43_39n, x43_39q, bnd_some, Option.toList_some, Option.toList_none, List.cons_append, List.nil_append, List.singleton_append, clr_i, clr_r, clr_n, clr_0, clr_q, clr_l, isR_r, isR_n, isR_q, cat1_i, cat1_r, b0, b1, if_true, if_false, not_true, not_false_eq_true, reduceCtorEq, ite_self, and_true, true_and, and_false, false_and, or_true, true_or, or_false, false_or, l, stS1_o, mnw_ne ne, X, Y, ea]
theorem i43_4 : ex d 43 42 [some (.ref o)] [] (stM1 o m 4, stS1 o s 4, o + 5, k) = ex d 43 52 [some (.ref o)] [] (stM1 o m 5, stS1 o s 5, o + 6, k + 512) := by
  have l : 512 ≤ 10000 := by decide
  have X := st_1 (o := o) (q := 4) (f := 8) (c := 5) (m := m) rfl rfl (by decide)
  have Y := ss_1 (o := o) (q := 4) (c := 5) (s := s) rfl
  have e : ssC 5 = (25, 512) := rfl
  rw [e] at Y
  have ne : ¬ o = o + 5 := by omega
  have ea : o + 5 + 1 = o + 6 := by omega
  conv => lhs; simp only [x43_42, x43_43, x43_46, x43_49, x43_49n, x43_49q, bnd_some, Option.toList_some, Option.toList_none, List.cons_append, List.nil_append, List.singleton_append, clr_i, clr_r, clr_n, clr_0, clr_q, clr_l, isR_r, isR_n, isR_q, cat1_i, cat1_r, b0, b1, if_true, if_false, not_true, not_false_eq_true, reduceCtorEq, ite_self, and_true, true_and, and_false, false_and, or_true, true_or, or_false, false_or, l, stS1_o, mnw_ne ne, X, Y, ea]
def cM1 (o : Nat) (m : Mm) : Mm := mup (mup (pnM (o + 6) (stM1 o m 5) 35) o 10 (.ref (o + 6))) o 16 (.int (nI 0))
def cS1 (o : Nat) (s : Nat → Nat × Nat) : Nat → Nat × Nat := pnS (o + 6) (stS1 o s 5) 35
theorem c43 : ex (d + 1) 43 0 [some (.ref o)] [] (stM1 o m 0, stS1 o s 0, o + 1, k) = some (none, (cM1 o m, cS1 o s, o + 42, k + 200 + 12 + 40 + 300 + 512 + 18 + 7 + 7 + 10 + 8 + 8 + 7 + 7 * 8 + 7 + 7 * 8 + 7 + 7 + 7 * 7 + 7 + 7 + 8 + 7 + 7)) := by
  have X := c13 (d := d) (P := o + 6) (m := stM1 o m 5) (s := stS1 o s 5) (k := k + 200 + 12 + 40 + 300 + 512 + 18)
  have to : pnS (o + 6) (stS1 o s 5) 35 o = (10, 17) := by
    unfold pnS
    rw [if_neg (by omega), if_neg (by omega)]
    exact stS1_o
  have ea : o + 6 + 36 = o + 42 := by omega
  rw [ea] at X
  conv => lhs; simp only [x43_0, x43_1, bnd_some, Option.toList_some, Option.toList_none, List.cons_append, List.nil_append, List.singleton_append, clr_i, clr_r, clr_n, clr_0, clr_q, clr_l, isR_r, isR_n, isR_q, cat1_i, cat1_r, b0, b1, if_true, if_false, not_true, not_false_eq_true, reduceCtorEq, ite_self, and_true, true_and, and_false, false_and, or_true, true_or, or_false, false_or]
  rw [i43_0]
  rw [i43_1]
  rw [i43_2]
  rw [i43_3]
  rw [i43_4]
  conv => lhs; simp only [x43_52, x43_53, x43_56, x43_56i, x43_57, bnd_some, Option.toList_some, Option.toList_none, List.cons_append, List.nil_append, List.singleton_append, clr_i, clr_r, clr_n, clr_0, clr_q, clr_l, isR_r, isR_n, isR_q, cat1_i, cat1_r, b0, b1, if_true, if_false, not_true, not_false_eq_true, reduceCtorEq, ite_self, and_true, true_and, and_false, false_and, or_true, true_or, or_false, false_or, stS1_o, pl_0, ps0, X]
  conv => lhs; simp only [x43_60, x43_60n, x43_60q, x43_63, x43_64, x43_65, x43_68, bnd_some, Option.toList_some, Option.toList_none, List.cons_append, List.nil_append, List.singleton_append, clr_i, clr_r, clr_n, clr_0, clr_q, clr_l, isR_r, isR_n, isR_q, cat1_i, cat1_r, b0, b1, if_true, if_false, not_true, not_false_eq_true, reduceCtorEq, ite_self, and_true, true_and, and_false, false_and, or_true, true_or, or_false, false_or, to]
  rfl
end EI
