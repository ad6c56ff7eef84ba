/-! ===== clashes: class and reference alike ===== -/
def Wlen (C : St) : Prop := ∀ j, ∃ x, x ≤ 90 ∧ C 24 j = nI x
section DE
variable {C Z : St} {nr : Nat}
theorem tm_n (w : Wlen C) (s : Nat) : ∀ k, ∃ y, y ≤ 90 * k ∧ tmF C s k = nI y := by
  intro k
  induction k with
  | zero => exact ⟨0, Nat.le_refl _, rfl⟩
  | succ k ih =>
    obtain ⟨y, h1, h2⟩ := ih
    obtain ⟨x, x1, x2⟩ := w (s + k)
    refine ⟨y + x, by omega, ?_⟩
    unfold tmF
    rw [h2, x2, nI_add]
theorem cl_ag {L : List Nat} {r c q b : Nat} (w : Wlen C) (h2 : ∀ j, Z 2 j = C 2 j) (h7 : ∀ j, Z 7 j = C 7 j) (h22 : ∀ j, j < nr → Z 22 j = C 22 j) (h23 : ∀ j, Z 23 j = C 23 j) (h24 : ∀ j, Z 24 j = C 24 j) (h26 : ∀ i, i < L.length → Z 26 i = nI (L.getD i 0)) (hL : ∀ i, i < L.length → L.getD i 0 < 200) (h49 : C 49 (8 * r + q) = gpV C nr r q) (h45 : ∀ i, i < L.length → C 45 i = minV C (L.getD i 0)) (hr : r < nr) (hq : q < nr) (hc : c < L.length) (hb : b < L.length) (hs : ∀ x, x < nr → ∃ i, i ≤ 9 ∧ C 23 x = nI i) : clB C r c q b = !(agB Z nr r c q b) := by
  have btQ : ∀ a e l u, u ≤ nr → btB Z a e l u = btB C a e l u := by
    intro a e l u
    induction u with
    | zero => intro _; rfl
    | succ u ih =>
      intro hu
      unfold btB
      rw [ih (by omega), h22 u (by omega), h23, h23, h23]
  have mv : ∀ x, x < L.length → minV Z (Z 26 x).toNatClampNeg = minV C (L.getD x 0) := fun x hx => by
    rw [h26 x hx, nI_clamp (by have := hL x hx; omega), minV_eq h2 h7]
  have tq : ∀ s u, tmF Z s u = tmF C s u := fun s u => tmF_eq h24 s u
  have sc : ∀ x, scN Z x = scN C x := fun x => by unfold scN; rw [h23]
  have pos : ∀ s u, ¬ tmF C s u < 0 ∨ ¬ u ≤ 10 := fun s u => by
    by_cases hu : u ≤ 10
    · obtain ⟨y, y1, y2⟩ := tm_n w s u
      exact Or.inl (by rw [y2]; exact nI_pos (by omega))
    · exact Or.inr hu
  have sb : ∀ x, x < nr → scN C x ≤ 9 := fun x hx => by
    obtain ⟨i, i1, i2⟩ := hs x hx
    unfold scN
    rw [i2, nI_clamp (by omega)]
    exact i1
  unfold clB agB
  rw [h49, h23, h23]
  by_cases e1 : C 23 r = C 23 q
  · rw [if_pos e1, if_pos e1, Bool.eq_iff_iff]
    simp
  · rw [if_neg e1, if_neg e1]
    by_cases e2 : c = b
    · rw [if_pos (Or.inr e2), if_pos (Or.inr e2)]
      rfl
    · by_cases e3 : C 23 r < C 23 q
      · have n3 : ¬ C 23 q < C 23 r := fun y => Int32.lt_asymm e3 y
        have gv : gpV C nr r q = gp1 C nr r q := by unfold gpV; rw [if_pos e3]
        rw [gv, if_neg n3]
        unfold gp1
        by_cases e4 : C 22 r = C 22 q
        · rw [if_neg (show ¬ (¬ Z 22 r = Z 22 q ∨ c = b) from fun y => y.elim (fun z => z (by rw [h22 r hr, h22 q hq]; exact e4)) e2), if_pos e3]
          unfold agE
          rw [h22 r hr, btQ _ _ _ nr (Nat.le_refl _), mv b hb, tq, sc, sc, h45 b hb]
          by_cases e5 : btB C (C 22 r) r q nr = true
          · rw [if_neg (show ¬ (C 22 r = C 22 q ∧ ¬ btB C (C 22 r) r q nr = true) from fun y => y.2 e5), e5, if_pos (Or.inl m1_0)]
            rfl
          · have e5' : btB C (C 22 r) r q nr = false := by simpa using e5
            have np := (pos (scN C r + 1) (scN C q - scN C r - 1)).resolve_right (fun y => y (by have := sb q hq; omega))
            rw [if_pos (show C 22 r = C 22 q ∧ ¬ btB C (C 22 r) r q nr = true from ⟨e4, e5⟩), e5', if_neg (fun y => y.elim np e2), Bool.false_or, Bool.eq_iff_iff]
            simp
        · rw [if_neg (show ¬ (C 22 r = C 22 q ∧ ¬ btB C (C 22 r) r q nr = true) from fun y => e4 y.1), if_pos (Or.inl m1_0), if_pos (show ¬ Z 22 r = Z 22 q ∨ c = b from Or.inl (by rw [h22 r hr, h22 q hq]; exact e4))]
          rfl
      · have e3' : C 23 q < C 23 r := by
          rcases Int32.lt_or_lt_of_ne e1 with y | y
          · exact absurd y e3
          · exact y
        have gv : gpV C nr r q = gp1 C nr q r := by unfold gpV; rw [if_neg e3, if_pos e3']
        rw [gv, if_pos e3']
        unfold gp1
        by_cases e4 : C 22 r = C 22 q
        · rw [if_neg (show ¬ (¬ Z 22 r = Z 22 q ∨ c = b) from fun y => y.elim (fun z => z (by rw [h22 r hr, h22 q hq]; exact e4)) e2), if_neg e3]
          unfold agE
          rw [h22 r hr, btQ _ _ _ nr (Nat.le_refl _), mv c hc, tq, sc, sc, h45 c hc, ← e4]
          by_cases e5 : btB C (C 22 r) q r nr = true
          · rw [if_neg (show ¬ (C 22 r = C 22 r ∧ ¬ btB C (C 22 r) q r nr = true) from fun y => y.2 e5), e5, if_pos (Or.inl m1_0)]
            rfl
          · have e5' : btB C (C 22 r) q r nr = false := by simpa using e5
            have np := (pos (scN C q + 1) (scN C r - scN C q - 1)).resolve_right (fun y => y (by have := sb r hr; omega))
            rw [if_pos (show C 22 r = C 22 r ∧ ¬ btB C (C 22 r) q r nr = true from ⟨rfl, e5⟩), e5', if_neg (fun y => y.elim np e2), Bool.false_or, Bool.eq_iff_iff]
            simp
        · rw [if_neg (show ¬ (C 22 q = C 22 r ∧ ¬ btB C (C 22 q) q r nr = true) from fun y => e4 y.1.symm), if_pos (Or.inl m1_0), if_pos (show ¬ Z 22 r = Z 22 q ∨ c = b from Or.inl (by rw [h22 r hr, h22 q hq]; exact e4))]
          rfl
end DE
