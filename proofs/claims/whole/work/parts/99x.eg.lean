/-! ===== what holds at the start ===== -/
def cdL (i : Nat) : Nat := ([1, 2, 3, 4, 5, 6, 7, 8, 9, 10, 11, 12, 13, 30, 31, 32, 33, 34, 35, 36, 14, 40, 41, 42, 43, 44, 45, 46, 15, 16, 50, 51, 52, 53, 54, 55, 56, 17, 18, 19, 20, 21] : List Nat).getD i 0
def psL (x : Nat) : Nat := ([0, 0, 1, 2, 3, 4, 5, 6, 7, 8, 9, 10, 11, 12, 20, 28, 29, 37, 38, 39, 40, 41, 0, 0, 0, 0, 0, 0, 0, 0, 13, 14, 15, 16, 17, 18, 19, 0, 0, 0, 21, 22, 23, 24, 25, 26, 27, 0, 0, 0, 30, 31, 32, 33, 34, 35, 36] : List Nat).getD x 0
def G0 (o : Nat) : Gh := mkG (fun a => if o ≤ a ∧ a < o + 42 then cdL (a - o) else 0) (fun x => o + psL x) 0 0 0 0 0 (fun _ => 0) (fun _ => 0) (fun _ => 0) (fun _ => 0) (fun _ => 0) (fun _ => 0) (fun _ _ => .null)
def C0 : St := fun f _ => if f = 22 ∨ f = 44 then -1 else 0
def S0 : St := fun _ _ => 0
theorem cd_ok : ∀ i, i < 42 → psL (cdL i) = i ∧ ((1 ≤ cdL i ∧ cdL i ≤ 21) ∨ (30 ≤ cdL i ∧ cdL i < 37) ∨ (40 ≤ cdL i ∧ cdL i < 47) ∨ (50 ≤ cdL i ∧ cdL i < 57)) := by decide +kernel
theorem ps_ok : ∀ x, x < 57 → ((1 ≤ x ∧ x ≤ 21) ∨ (30 ≤ x ∧ x < 37) ∨ (40 ≤ x ∧ x < 47) ∨ (50 ≤ x ∧ x < 57)) → psL x < 42 ∧ cdL (psL x) = x := by decide +kernel
section EJ
variable {o : Nat} {m : Mm} {s : Nat → Nat × Nat}
theorem lvR_0 {r : Nat} : ¬ lvR (G0 o) r := by
  rintro (⟨h, _⟩ | ⟨h1, h2⟩)
  · exact absurd h (Nat.not_lt_zero _)
  · have : r < 200 + 0 := h2
    omega
theorem Lv_0 {x : Nat} : Lv (G0 o) x ↔ ((1 ≤ x ∧ x ≤ 21) ∨ (30 ≤ x ∧ x < 37) ∨ (40 ≤ x ∧ x < 47) ∨ (50 ≤ x ∧ x < 57)) := by
  constructor
  · rintro (h | h | h | h | ⟨h1, h2⟩ | ⟨_, _, h⟩ | ⟨_, _, h⟩ | ⟨h1, h2, _⟩ | ⟨h1, h2, _⟩ | ⟨h1, h2, _⟩ | ⟨h1, h2, _⟩ | ⟨h1, h2⟩ | ⟨h1, h2⟩ | ⟨h1, h2⟩ | ⟨h1, h2⟩)
    · exact Or.inl h
    · exact Or.inr (Or.inl h)
    · exact Or.inr (Or.inr (Or.inl h))
    · exact Or.inr (Or.inr (Or.inr h))
    · exact absurd h2 (by show ¬ x < 100 + 0; omega)
    · exact absurd h lvR_0
    · exact absurd h lvR_0
    · exact absurd h2 (by show ¬ x < 1000 + 0; omega)
    · exact absurd h2 (by show ¬ x < 1200 + 0; omega)
    · exact absurd h2 (by show ¬ x < 1400 + 0; omega)
    · exact absurd h2 (by show ¬ x < 1600 + 0; omega)
    · exact absurd h2 (by show ¬ x < 2000 + 0; omega)
    · exact absurd h2 (by show ¬ x < 2100 + 0; omega)
    · exact absurd h2 (by show ¬ x < 2200 + 0; omega)
    · exact absurd h2 (by show ¬ x < 3000 + 0; omega)
  · rintro (h | h | h | h)
    · exact Or.inl h
    · exact Or.inr (Or.inl h)
    · exact Or.inr (Or.inr (Or.inl h))
    · exact Or.inr (Or.inr (Or.inr (Or.inl h)))
theorem G0_W {a : Nat} : (G0 o).W a = if o ≤ a ∧ a < o + 42 then cdL (a - o) else 0 := rfl
theorem G0_ok : OKG (G0 o) := by
  refine ⟨fun a ha => ?_, fun x hx => ?_, ⟨Nat.zero_le _, Nat.zero_le _, Nat.zero_le _, Nat.zero_le _, Nat.zero_le _⟩, fun t ht => absurd ht (Nat.not_lt_zero _), fun r hr => absurd hr lvR_0, fun t ht => absurd ht (Nat.not_lt_zero _)⟩
  · rw [G0_W] at ha ⊢
    by_cases e : o ≤ a ∧ a < o + 42
    · rw [if_pos e] at ha ⊢
      obtain ⟨h1, h2⟩ := cd_ok (a - o) (by omega)
      refine ⟨?_, Lv_0.mpr h2⟩
      show o + psL (cdL (a - o)) = a
      rw [h1]
      omega
    · rw [if_neg e] at ha
      exact absurd rfl ha
  · have hx' := Lv_0.mp hx
    obtain ⟨h1, h2⟩ := ps_ok x (by omega) hx'
    rw [G0_W]
    show (if o ≤ o + psL x ∧ o + psL x < o + 42 then cdL (o + psL x - o) else 0) = x
    rw [if_pos (by omega), Nat.add_sub_cancel_left]
    exact h2
theorem C0_0 {f j : Nat} (h : f ≠ 22) (h2 : f ≠ 44) : C0 f j = 0 := if_neg (by omega)
/-- the cells at the start, place by place -/
theorem cM1_o {j : Nat} : cM1 o m o j = if j = 16 then .int (nI 0) else if j = 10 then .ref (o + 6) else (if sO j ≠ 0 ∧ sO j ≤ 5 then .ref (o + sO j) else dfv (pty 10 j)) := by
  unfold cM1 mup
  by_cases h1 : j = 16
  · rw [if_pos ⟨rfl, h1⟩, if_pos h1]
  · rw [if_neg (fun y => h1 y.2), if_neg h1]
    by_cases h2 : j = 10
    · rw [if_pos ⟨rfl, h2⟩, if_pos h2]
    · rw [if_neg (fun y => h2 y.2), if_neg h2]
      unfold pnM stM1
      rw [if_neg (show ¬ o = o + 6 by omega), if_neg (show ¬ (o + 6 < o ∧ o ≤ o + 6 + 35) by omega), if_pos rfl]
theorem cM1_a {a j : Nat} (h1 : o < a) (h2 : a ≤ o + 5) : cM1 o m a j = .null := by
  unfold cM1 mup
  rw [if_neg (by omega), if_neg (by omega)]
  unfold pnM stM1
  rw [if_neg (by omega), if_neg (by omega), if_neg (by omega), if_pos (by omega)]
theorem cM1_P {j : Nat} : cM1 o m (o + 6) j = if pO j ≠ 0 ∧ pO j ≤ 35 then .ref (o + 6 + pO j) else dfv (pty 5 j) := by
  unfold cM1 mup
  rw [if_neg (by omega), if_neg (by omega)]
  unfold pnM
  rw [if_pos rfl]
theorem cM1_c {a c j : Nat} (ha : a = o + 6 + c) (h1 : 0 < c) (h2 : c ≤ 35) : cM1 o m a j = pvC (o + 6) c j := by
  unfold cM1 mup
  rw [if_neg (by omega), if_neg (by omega)]
  unfold pnM
  rw [if_neg (by omega), if_pos (by omega), ha, Nat.add_sub_cancel_left]
theorem cM1_b {a : Nat} (h : a < o ∨ o + 42 ≤ a) : cM1 o m a = m a := by
  funext j
  unfold cM1 mup
  rw [if_neg (by omega), if_neg (by omega)]
  unfold pnM stM1
  rw [if_neg (by omega), if_neg (by omega), if_neg (by omega), if_neg (by omega)]
theorem cS1_b {a : Nat} (h : a < o ∨ o + 42 ≤ a) : cS1 o s a = s a := by
  unfold cS1 pnS stS1
  rw [if_neg (by omega), if_neg (by omega), if_neg (by omega), if_neg (by omega)]
theorem kx1 (j : Nat) : (if j = 16 then Value.int (nI 0) else if j = 10 then .ref (o + 6) else (if sO j ≠ 0 ∧ sO j ≤ 5 then .ref (o + sO j) else dfv (pty 10 j))) = cW (G0 o) 1 j (C0 (loc 1 j).1 (loc 1 j).2) := by
  match j with
  | 0 => rfl
  | 1 => rfl
  | 2 => rfl
  | 3 => rfl
  | 4 => rfl
  | 5 => rfl
  | 6 => rfl
  | 7 => rfl
  | 8 => rfl
  | 9 => rfl
  | 10 => rfl
  | 11 => rfl
  | 12 => rfl
  | 13 => rfl
  | 14 => rfl
  | 15 => rfl
  | 16 => rfl
  | j + 17 =>
    have e : sO (j + 17) = 0 := sO_big (by omega)
    rw [if_neg (by omega), if_neg (by omega), e, if_neg (by omega)]
    show _ = (if 17 ≤ j + 17 then dfv (pty 10 (j + 17)) else if wt1 (j + 17) = 0 then .int (C0 (loc 1 (j + 17)).1 (loc 1 (j + 17)).2) else .ref ((G0 o).ad (wt1 (j + 17))))
    rw [if_pos (by omega)]
theorem kx7 (j : Nat) : (if pO j ≠ 0 ∧ pO j ≤ 35 then Value.ref (o + 6 + pO j) else dfv (pty 5 j)) = cW (G0 o) 7 j (C0 (loc 7 j).1 (loc 7 j).2) := by
  match j with
  | 0 => rfl
  | 1 => rfl
  | 2 => rfl
  | 3 => rfl
  | 4 => rfl
  | 5 => rfl
  | 6 => rfl
  | 7 => rfl
  | 8 => rfl
  | 9 => rfl
  | 10 => rfl
  | 11 => rfl
  | 12 => rfl
  | 13 => rfl
  | 14 => rfl
  | 15 => rfl
  | 16 => rfl
  | 17 => rfl
  | j + 18 =>
    rw [pO_big (by omega), if_neg (by omega)]
    show _ = (if 18 ≤ j + 18 then dfv (pty 5 (j + 18)) else if wt7 (j + 18) = 0 then .int (C0 (loc 7 (j + 18)).1 (loc 7 (j + 18)).2) else .ref ((G0 o).ad (wt7 (j + 18))))
    rw [if_pos (by omega)]
theorem kx13 (j : Nat) : pvC (o + 6) 6 j = cW (G0 o) 13 j (C0 (loc 13 j).1 (loc 13 j).2) := by
  match j with
  | 0 => rfl
  | 1 => rfl
  | 2 => rfl
  | 3 => rfl
  | 4 => rfl
  | 5 => rfl
  | 6 => rfl
  | j + 7 =>
    show (if j + 7 < 7 then Value.ref (o + 6 + 6 + 1 + (j + 7)) else Value.null) = (if j + 7 < 7 then Value.ref (aP (G0 o) (j + 7)) else Value.null)
    rw [if_neg (by omega), if_neg (by omega)]
theorem kx14 (j : Nat) : pvC (o + 6) 14 j = cW (G0 o) 14 j (C0 (loc 14 j).1 (loc 14 j).2) := by
  match j with
  | 0 => rfl
  | 1 => rfl
  | 2 => rfl
  | 3 => rfl
  | 4 => rfl
  | 5 => rfl
  | 6 => rfl
  | j + 7 =>
    show (if j + 7 < 7 then Value.ref (o + 6 + 14 + 1 + (j + 7)) else Value.null) = (if j + 7 < 7 then Value.ref (aQ (G0 o) (j + 7)) else Value.null)
    rw [if_neg (by omega), if_neg (by omega)]
theorem kx16 (j : Nat) : pvC (o + 6) 23 j = cW (G0 o) 16 j (C0 (loc 16 j).1 (loc 16 j).2) := by
  match j with
  | 0 => rfl
  | 1 => rfl
  | 2 => rfl
  | 3 => rfl
  | 4 => rfl
  | 5 => rfl
  | 6 => rfl
  | j + 7 =>
    show (if j + 7 < 7 then Value.ref (o + 6 + 23 + 1 + (j + 7)) else Value.null) = (if j + 7 < 7 then Value.ref (aG (G0 o) (j + 7)) else Value.null)
    rw [if_neg (by omega), if_neg (by omega)]
theorem row0 {x j : Nat} (h : (30 ≤ x ∧ x < 37) ∨ (40 ≤ x ∧ x < 47) ∨ (50 ≤ x ∧ x < 57)) : cW (G0 o) x j (C0 (loc x j).1 (loc x j).2) = .int 0 := by
  unfold cW
  rw [if_neg (by omega), if_pos (by omega)]
  have e : (loc x j).1 = 99 ∨ (loc x j).1 = 46 ∨ (loc x j).1 = 47 ∨ (loc x j).1 = 49 := by
    by_cases hj : j < 8
    · rcases h with h | h | h
      · have := loc_P (t := x - 30) (j := j) (by omega) hj
        rw [show 30 + (x - 30) = x by omega] at this
        rw [this]; exact Or.inr (Or.inl rfl)
      · have := loc_Q (t := x - 40) (j := j) (by omega) hj
        rw [show 40 + (x - 40) = x by omega] at this
        rw [this]; exact Or.inr (Or.inr (Or.inl rfl))
      · have := loc_G (t := x - 50) (j := j) (by omega) hj
        rw [show 50 + (x - 50) = x by omega] at this
        rw [this]; exact Or.inr (Or.inr (Or.inr rfl))
    · left
      unfold loc
      rw [if_neg (by omega), if_pos (by omega), if_neg (by omega)]
      rcases h with h | h | h
      · rw [if_pos (by omega), if_neg hj]
      · rw [if_neg (by omega), if_neg (by omega), if_pos (by omega), if_neg hj]
      · rw [if_neg (by omega), if_neg (by omega), if_neg (by omega), if_neg (by omega), if_pos (by omega), if_neg hj]
  rcases e with e | e | e | e
  · rw [if_pos e]
  · rw [e, if_neg (by decide), C0_0 (by decide) (by decide)]
  · rw [e, if_neg (by decide), C0_0 (by decide) (by decide)]
  · rw [e, if_neg (by decide), C0_0 (by decide) (by decide)]
theorem cell0 {x : Nat} (hx : Lv (G0 o) x) (j : Nat) : cM1 o m ((G0 o).ad x) j = cW (G0 o) x j (C0 (loc x j).1 (loc x j).2) := by
  have hx := Lv_0.mp hx
  have big : ((30 ≤ x ∧ x < 37) ∨ (40 ≤ x ∧ x < 47) ∨ (50 ≤ x ∧ x < 57)) ∨ (x = 1 ∨ x = 2 ∨ x = 3 ∨ x = 4 ∨ x = 5 ∨ x = 6 ∨ x = 7 ∨ x = 8 ∨ x = 9 ∨ x = 10 ∨ x = 11 ∨ x = 12 ∨ x = 13 ∨ x = 14 ∨ x = 15 ∨ x = 16 ∨ x = 17 ∨ x = 18 ∨ x = 19 ∨ x = 20 ∨ x = 21) := by omega
  rcases big with h | h
  · rw [row0 h]
    have p : psL x = (if x < 37 then x - 17 else if x < 47 then x - 19 else x - 20) := by
      have all : ∀ x, x < 57 → ((30 ≤ x ∧ x < 37) ∨ (40 ≤ x ∧ x < 47) ∨ (50 ≤ x ∧ x < 57)) → psL x = (if x < 37 then x - 17 else if x < 47 then x - 19 else x - 20) := by decide +kernel
      exact all x (by omega) h
    have b : psL x - 6 ≠ 1 ∧ psL x - 6 ≠ 4 ∧ psL x - 6 ≠ 6 ∧ psL x - 6 ≠ 14 ∧ psL x - 6 ≠ 23 ∧ 6 < psL x ∧ psL x ≤ 41 := by
      have all : ∀ x, x < 57 → ((30 ≤ x ∧ x < 37) ∨ (40 ≤ x ∧ x < 47) ∨ (50 ≤ x ∧ x < 57)) → (psL x - 6 ≠ 1 ∧ psL x - 6 ≠ 4 ∧ psL x - 6 ≠ 6 ∧ psL x - 6 ≠ 14 ∧ psL x - 6 ≠ 23 ∧ 6 < psL x ∧ psL x ≤ 41) := by decide +kernel
      exact all x (by omega) h
    show cM1 o m (o + psL x) j = _
    rw [cM1_c (c := psL x - 6) (by omega) (by omega) (by omega)]
    unfold pvC
    rw [if_neg (by omega), if_neg (by omega)]
  · rcases h with h | h | h | h | h | h | h | h | h | h | h | h | h | h | h | h | h | h | h | h | h
    · subst h
      exact cM1_o.trans (kx1 j)
    · subst h
      exact cM1_a (a := o + 1) (by omega) (by omega)
    · subst h
      exact cM1_a (a := o + 2) (by omega) (by omega)
    · subst h
      exact cM1_a (a := o + 3) (by omega) (by omega)
    · subst h
      exact cM1_a (a := o + 4) (by omega) (by omega)
    · subst h
      exact cM1_a (a := o + 5) (by omega) (by omega)
    · subst h
      exact cM1_P.trans (kx7 j)
    · subst h
      exact cM1_c (a := o + 7) (c := 1) (by omega) (by decide) (by decide)
    · subst h
      exact cM1_c (a := o + 8) (c := 2) (by omega) (by decide) (by decide)
    · subst h
      exact cM1_c (a := o + 9) (c := 3) (by omega) (by decide) (by decide)
    · subst h
      exact cM1_c (a := o + 10) (c := 4) (by omega) (by decide) (by decide)
    · subst h
      exact cM1_c (a := o + 11) (c := 5) (by omega) (by decide) (by decide)
    · subst h
      exact (cM1_c (a := o + 12) (c := 6) (by omega) (by decide) (by decide)).trans (kx13 j)
    · subst h
      exact (cM1_c (a := o + 20) (c := 14) (by omega) (by decide) (by decide)).trans (kx14 j)
    · subst h
      exact cM1_c (a := o + 28) (c := 22) (by omega) (by decide) (by decide)
    · subst h
      exact (cM1_c (a := o + 29) (c := 23) (by omega) (by decide) (by decide)).trans (kx16 j)
    · subst h
      exact cM1_c (a := o + 37) (c := 31) (by omega) (by decide) (by decide)
    · subst h
      exact cM1_c (a := o + 38) (c := 32) (by omega) (by decide) (by decide)
    · subst h
      exact cM1_c (a := o + 39) (c := 33) (by omega) (by decide) (by decide)
    · subst h
      exact cM1_c (a := o + 40) (c := 34) (by omega) (by decide) (by decide)
    · subst h
      exact cM1_c (a := o + 41) (c := 35) (by omega) (by decide) (by decide)
theorem shp0 {x : Nat} (hx : Lv (G0 o) x) : cS1 o s ((G0 o).ad x) = cT (G0 o) x := by
  have hx := Lv_0.mp hx
  have all : ∀ x, x < 57 → ((1 ≤ x ∧ x ≤ 21) ∨ (30 ≤ x ∧ x < 37) ∨ (40 ≤ x ∧ x < 47) ∨ (50 ≤ x ∧ x < 57)) → (if psL x = 6 then (5, 18) else if 6 < psL x then psC (psL x - 6) else if psL x = 0 then (10, 17) else ssC (psL x)) = (if x < 22 then tl0 x else (20, if x < 50 then 8 else 7)) ∧ psL x ≤ 41 := by decide +kernel
  obtain ⟨a, b⟩ := all x (by omega) hx
  have e : cT (G0 o) x = (if x < 22 then tl0 x else (20, if x < 50 then 8 else 7)) := by
    unfold cT
    by_cases h : x < 22
    · rw [if_pos h, if_pos h]
    · rw [if_neg h, if_neg h, if_pos (by omega)]
  rw [e, ← a]
  show cS1 o s (o + psL x) = _
  unfold cS1 pnS stS1
  by_cases h6 : psL x = 6
  · rw [h6, if_pos rfl, if_pos rfl]
  · rw [if_neg (show ¬ o + psL x = o + 6 by omega), if_neg h6]
    by_cases h7 : 6 < psL x
    · rw [if_pos (show o + 6 < o + psL x ∧ o + psL x ≤ o + 6 + 35 by omega), if_pos h7, show o + psL x - (o + 6) = psL x - 6 by omega]
    · rw [if_neg (show ¬ (o + 6 < o + psL x ∧ o + psL x ≤ o + 6 + 35) by omega), if_neg h7]
      by_cases h0 : psL x = 0
      · rw [h0, if_pos (show o + 0 = o by omega), if_pos rfl]
      · rw [if_neg (show ¬ o + psL x = o by omega), if_pos (show o < o + psL x ∧ o + psL x ≤ o + 5 by omega), if_neg h0, Nat.add_sub_cancel_left]
theorem IV_start : IV (G0 o) C0 S0 (o + 42) 0 0 := by
  have z : ∀ f j, f ≠ 22 → f ≠ 44 → C0 f j = nI 0 := fun f j a b => C0_0 a b
  refine ⟨G0_ok, ⟨fun j => Or.inl (show (-1 : Int32) < 0 by decide), fun j => Or.inl (show (-1 : Int32) < 0 by decide), fun i hi => absurd hi (Nat.not_lt_zero _)⟩, ⟨fun j _ => ⟨C0_0 (by decide) (by decide), C0_0 (by decide) (by decide), C0_0 (by decide) (by decide)⟩, fun j _ => C0_0 (by decide) (by decide)⟩, fun t ht => absurd ht (Nat.not_lt_zero _), fun j => ⟨0, by decide, z 24 j (by decide) (by decide)⟩, ⟨0, ⟨z 21 0 (by decide) (by decide), by decide, fun r hr => absurd hr (Nat.not_lt_zero _), fun r hr => absurd hr (Nat.not_lt_zero _)⟩, fun j hj => absurd hj (Nat.not_lt_zero _)⟩, ⟨0, by decide, z 32 0 (by decide) (by decide)⟩, z 42 0 (by decide) (by decide), ?_, ⟨z 17 0 (by decide) (by decide), Nat.zero_le _, Nat.le_refl _⟩, fun a ha => ?_, fun f j hf => ?_, fun t ht => absurd ht (Nat.not_lt_zero _), fun y hy => absurd hy (Nat.not_lt_zero _), fun _ _ _ => none, trivial⟩
  · refine ⟨⟨⟨⟨z 1 0 (by decide) (by decide), z 8 0 (by decide) (by decide), z 19 0 (by decide) (by decide), z 35 0 (by decide) (by decide)⟩, fun t ht => absurd ht (Nat.not_lt_zero _), fun r hr => absurd hr lvR_0, fun t ht => absurd ht (Nat.not_lt_zero _), fun t ht => absurd ht (Nat.not_lt_zero _), fun r hr => absurd hr lvR_0⟩, fun t ht => absurd ht (Nat.not_lt_zero _), fun r q hr => absurd hr lvR_0, fun t ht => absurd ht (Nat.not_lt_zero _), fun _ => 0, fun u hu => absurd hu (Nat.not_lt_zero _)⟩, ⟨fun y hy => absurd hy (Nat.not_lt_zero _), fun x y hx => absurd hx (Nat.not_lt_zero _)⟩, ⟨fun j => ⟨0, by decide, z 9 j (by decide) (by decide)⟩, fun j => Or.inr (Or.inr ⟨0, by decide, z 20 j (by decide) (by decide)⟩)⟩, fun j => ⟨⟨0, by decide, z 10 j (by decide) (by decide)⟩, ⟨0, by decide, z 11 j (by decide) (by decide)⟩⟩⟩
  · rw [G0_W] at ha
    by_cases e : o ≤ a ∧ a < o + 42
    · exact e.2
    · rw [if_neg e] at ha
      exact absurd rfl ha
  · exact (C0_0 (fun y => by subst y; cases hf) (fun y => by subst y; cases hf)).symm
end EJ
