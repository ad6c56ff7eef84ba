/-! ===== the reference: its cells as a function of its numbers (printed by wip/whole/gen/genmod.py) ===== -/
/-- the numbers of the reference: field, place (0 for a plain field) -/
abbrev St : Type := Nat → Nat → Int32
def sup (S : St) (f j : Nat) (x : Int32) : St := fun g i => if g = f ∧ i = j then x else S g i
theorem sup_eq {S : St} {f j : Nat} {x : Int32} : sup S f j x f j = x := if_pos ⟨rfl, rfl⟩
theorem sup_f {S : St} {f g i j : Nat} {x : Int32} (h : ¬ g = f) : sup S f j x g i = S g i := if_neg (fun q => h q.1)
theorem sup_j {S : St} {f i j : Nat} {x : Int32} (h : ¬ i = j) : sup S f j x f i = S f i := if_neg (fun q => h q.2)
/-- the field of an array by its place behind the object -/
def fA (c : Nat) : Nat := ([0, 2, 3, 4, 5, 6, 7, 9, 10, 11, 12, 13, 16, 20, 22, 23, 24, 26, 27, 28, 29, 31, 33, 36, 37, 38, 39, 40] : List Nat).getD c 0
def lA (c : Nat) : Nat := ([0, 200, 200, 200, 200, 212, 8480, 1200, 1200, 1200, 8000, 200, 60, 240, 7, 7, 10, 8, 56, 7, 7, 8, 7, 300, 300, 300, 201, 201] : List Nat).getD c 0
/-- the place of a field's array, 0 for a plain field -/
def aF (f : Nat) : Nat := ([0, 0, 1, 2, 3, 4, 5, 6, 0, 7, 8, 9, 10, 11, 0, 0, 12, 0, 0, 0, 13, 0, 14, 15, 16, 0, 17, 18, 19, 20, 0, 21, 0, 22, 0, 0, 23, 24, 25, 26, 27, 0] : List Nat).getD f 0
def mF (o p : Nat) (S : St) (j : Nat) : Value := if aF j = 0 then .int (S j 0) else if j = 16 then .ref p else .ref (o + aF j)
def mM (o p : Nat) (S : St) (m0 : Mm) : Mm := fun a j => if a = o then mF o p S j else if a = p then .int (S 16 j) else if o < a ∧ a ≤ o + 27 ∧ a ≠ o + 12 then .int (S (fA (a - o)) j) else m0 a j
def sM (o p pl : Nat) (s0 : Nat → Nat × Nat) : Nat → Nat × Nat := fun a => if a = o then (11, 42) else if a = p then (20, pl) else if o < a ∧ a ≤ o + 27 ∧ a ≠ o + 12 then (20, lA (a - o)) else s0 a
abbrev Op (o p : Nat) : Prop := p = o + 12 ∨ o + 27 < p
section MOD
variable {o p pl : Nat} {S : St} {m0 : Mm} {s0 : Nat → Nat × Nat} {j : Nat} {x : Int32}
theorem mM_o : mM o p S m0 o j = mF o p S j := if_pos rfl
theorem sM_o : sM o p pl s0 o = (11, 42) := if_pos rfl
theorem mM_p (hp : Op o p) : mM o p S m0 p j = .int (S 16 j) := by
  unfold mM
  rw [if_neg (by omega), if_pos rfl]
theorem sM_p (hp : Op o p) : sM o p pl s0 p = (20, pl) := by
  unfold sM
  rw [if_neg (by omega), if_pos rfl]
theorem mM_a (hp : Op o p) (c : Nat) (h1 : 0 < c ∧ c ≤ 27 ∧ c ≠ 12) : mM o p S m0 (o + c) j = .int (S (fA c) j) := by
  unfold mM
  rw [if_neg (by omega), if_neg (by omega), if_pos (by omega), Nat.add_sub_cancel_left]
theorem sM_a (hp : Op o p) (c : Nat) (h1 : 0 < c ∧ c ≤ 27 ∧ c ≠ 12) : sM o p pl s0 (o + c) = (20, lA c) := by
  unfold sM
  rw [if_neg (by omega), if_neg (by omega), if_pos (by omega), Nat.add_sub_cancel_left]
theorem fA_inj0 : ∀ c, c < 28 → ∀ e, e < 28 → 0 < c → 0 < e → fA c = fA e → c = e := by decide +kernel
theorem fA_inj (c : Nat) (h1 : 0 < c) (h2 : c ≤ 27) (e : Nat) (h3 : 0 < e) (h4 : e ≤ 27) (h : fA c = fA e) : c = e := fA_inj0 c (by omega) e (by omega) h1 h3 h
theorem fA_ar0 : ∀ c, c < 28 → 0 < c → aF (fA c) = c ∧ (fA c = 16 ↔ c = 12) := by decide +kernel
theorem fA_ar (c : Nat) (h1 : 0 < c) (h2 : c ≤ 27) : aF (fA c) = c ∧ (fA c = 16 ↔ c = 12) := fA_ar0 c (by omega) h1
theorem wM_s (f : Nat) (hf : aF f = 0) : mup (mM o p S m0) o f (.int x) = mM o p (sup S f 0 x) m0 := by
  have h16 : ¬ f = 16 := by intro q; subst q; exact absurd hf (by decide)
  funext a i
  unfold mup mM
  by_cases ha : a = o
  · subst ha
    by_cases hi : i = f
    · subst hi
      simp [mF, hf, sup]
    · simp only [hi, and_false, if_false, if_true]
      unfold mF
      split
      · simp [sup, hi]
      · rfl
  · simp only [ha, false_and, if_false]
    split
    · simp only [sup, Ne.symm h16, false_and, if_false]
    · split
      · rename_i h2 h3
        have h4 : ¬ fA (a - o) = f := by
          intro q
          have := (fA_ar (a - o) (by omega) (by omega)).1
          rw [q, hf] at this
          omega
        simp only [sup, h4, false_and, if_false]
      · rfl
theorem wM_a (hp : Op o p) (c : Nat) (h1 : 0 < c ∧ c ≤ 27 ∧ c ≠ 12) : mup (mM o p S m0) (o + c) j (.int x) = mM o p (sup S (fA c) j x) m0 := by
  have h16 : ¬ 16 = fA c := fun q => h1.2.2 ((fA_ar c h1.1 h1.2.1).2.mp q.symm)
  funext a i
  unfold mup mM
  by_cases ha : a = o
  · subst ha
    have : ¬ a = a + c := by omega
    simp only [this, false_and, if_false, if_true]
    unfold mF
    split
    · rename_i h2
      have h4 : ¬ i = fA c := by
        intro q
        have := (fA_ar c h1.1 h1.2.1).1
        rw [← q, h2] at this
        omega
      simp only [sup, h4, false_and, if_false]
    · rfl
  · simp only [ha, if_false]
    by_cases hap : a = p
    · subst hap
      have : ¬ a = o + c := by omega
      simp only [this, false_and, if_false, if_true, sup, h16]
    · simp only [hap, if_false]
      by_cases hc : a = o + c
      · subst hc
        rw [if_pos (show o < o + c ∧ o + c ≤ o + 27 ∧ o + c ≠ o + 12 by omega), if_pos (show o < o + c ∧ o + c ≤ o + 27 ∧ o + c ≠ o + 12 by omega), Nat.add_sub_cancel_left]
        by_cases hi : i = j
        · subst hi
          simp [sup]
        · simp [sup, hi]
      · simp only [hc, false_and, if_false]
        split
        · rename_i h2
          have h4 : ¬ fA (a - o) = fA c := by
            intro q
            have := fA_inj _ (by omega) (by omega) _ h1.1 h1.2.1 q
            omega
          simp only [sup, h4, false_and, if_false]
        · rfl
theorem wM_p (hp : Op o p) : mup (mM o p S m0) p j (.int x) = mM o p (sup S 16 j x) m0 := by
  funext a i
  unfold mup mM
  by_cases ha : a = o
  · subst ha
    have : ¬ a = p := by omega
    simp only [this, false_and, if_false, if_true]
    unfold mF
    split
    · rename_i h2
      have h4 : ¬ i = 16 := by intro q; subst q; exact absurd h2 (by decide)
      simp only [sup, h4, false_and, if_false]
    · rfl
  · simp only [ha, if_false]
    by_cases hap : a = p
    · subst hap
      simp only [true_and, if_true]
      by_cases hi : i = j
      · subst hi; simp [sup]
      · simp [sup, hi]
    · simp only [hap, false_and, if_false]
      split
      · rename_i h2
        have h4 : ¬ fA (a - o) = 16 := fun q => by
          have := (fA_ar (a - o) (by omega) (by omega)).2.mp q
          omega
        simp only [sup, h4, false_and, if_false]
      · rfl
theorem mf_0 : mM o p S m0 o 0 = .int (S 0 0) := mM_o
theorem wr_0 : mup (mM o p S m0) o 0 (.int x) = mM o p (sup S 0 0 x) m0 := wM_s 0 rfl
theorem mf_1 : mM o p S m0 o 1 = .int (S 1 0) := mM_o
theorem wr_1 : mup (mM o p S m0) o 1 (.int x) = mM o p (sup S 1 0 x) m0 := wM_s 1 rfl
theorem mf_2 : mM o p S m0 o 2 = .ref (o + 1) := mM_o
theorem rd_2 (hp : Op o p) : mM o p S m0 (o + 1) j = .int (S 2 j) := mM_a hp 1 (by decide)
theorem sh_2 (hp : Op o p) : sM o p pl s0 (o + 1) = (20, 200) := sM_a hp 1 (by decide)
theorem wr_2 (hp : Op o p) : mup (mM o p S m0) (o + 1) j (.int x) = mM o p (sup S 2 j x) m0 := wM_a hp 1 (by decide)
theorem mf_3 : mM o p S m0 o 3 = .ref (o + 2) := mM_o
theorem rd_3 (hp : Op o p) : mM o p S m0 (o + 2) j = .int (S 3 j) := mM_a hp 2 (by decide)
theorem sh_3 (hp : Op o p) : sM o p pl s0 (o + 2) = (20, 200) := sM_a hp 2 (by decide)
theorem wr_3 (hp : Op o p) : mup (mM o p S m0) (o + 2) j (.int x) = mM o p (sup S 3 j x) m0 := wM_a hp 2 (by decide)
theorem mf_4 : mM o p S m0 o 4 = .ref (o + 3) := mM_o
theorem rd_4 (hp : Op o p) : mM o p S m0 (o + 3) j = .int (S 4 j) := mM_a hp 3 (by decide)
theorem sh_4 (hp : Op o p) : sM o p pl s0 (o + 3) = (20, 200) := sM_a hp 3 (by decide)
theorem wr_4 (hp : Op o p) : mup (mM o p S m0) (o + 3) j (.int x) = mM o p (sup S 4 j x) m0 := wM_a hp 3 (by decide)
theorem mf_5 : mM o p S m0 o 5 = .ref (o + 4) := mM_o
theorem rd_5 (hp : Op o p) : mM o p S m0 (o + 4) j = .int (S 5 j) := mM_a hp 4 (by decide)
theorem sh_5 (hp : Op o p) : sM o p pl s0 (o + 4) = (20, 200) := sM_a hp 4 (by decide)
theorem wr_5 (hp : Op o p) : mup (mM o p S m0) (o + 4) j (.int x) = mM o p (sup S 5 j x) m0 := wM_a hp 4 (by decide)
theorem mf_6 : mM o p S m0 o 6 = .ref (o + 5) := mM_o
theorem rd_6 (hp : Op o p) : mM o p S m0 (o + 5) j = .int (S 6 j) := mM_a hp 5 (by decide)
theorem sh_6 (hp : Op o p) : sM o p pl s0 (o + 5) = (20, 212) := sM_a hp 5 (by decide)
theorem wr_6 (hp : Op o p) : mup (mM o p S m0) (o + 5) j (.int x) = mM o p (sup S 6 j x) m0 := wM_a hp 5 (by decide)
theorem mf_7 : mM o p S m0 o 7 = .ref (o + 6) := mM_o
theorem rd_7 (hp : Op o p) : mM o p S m0 (o + 6) j = .int (S 7 j) := mM_a hp 6 (by decide)
theorem sh_7 (hp : Op o p) : sM o p pl s0 (o + 6) = (20, 8480) := sM_a hp 6 (by decide)
theorem wr_7 (hp : Op o p) : mup (mM o p S m0) (o + 6) j (.int x) = mM o p (sup S 7 j x) m0 := wM_a hp 6 (by decide)
theorem mf_8 : mM o p S m0 o 8 = .int (S 8 0) := mM_o
theorem wr_8 : mup (mM o p S m0) o 8 (.int x) = mM o p (sup S 8 0 x) m0 := wM_s 8 rfl
theorem mf_9 : mM o p S m0 o 9 = .ref (o + 7) := mM_o
theorem rd_9 (hp : Op o p) : mM o p S m0 (o + 7) j = .int (S 9 j) := mM_a hp 7 (by decide)
theorem sh_9 (hp : Op o p) : sM o p pl s0 (o + 7) = (20, 1200) := sM_a hp 7 (by decide)
theorem wr_9 (hp : Op o p) : mup (mM o p S m0) (o + 7) j (.int x) = mM o p (sup S 9 j x) m0 := wM_a hp 7 (by decide)
theorem mf_10 : mM o p S m0 o 10 = .ref (o + 8) := mM_o
theorem rd_10 (hp : Op o p) : mM o p S m0 (o + 8) j = .int (S 10 j) := mM_a hp 8 (by decide)
theorem sh_10 (hp : Op o p) : sM o p pl s0 (o + 8) = (20, 1200) := sM_a hp 8 (by decide)
theorem wr_10 (hp : Op o p) : mup (mM o p S m0) (o + 8) j (.int x) = mM o p (sup S 10 j x) m0 := wM_a hp 8 (by decide)
theorem mf_11 : mM o p S m0 o 11 = .ref (o + 9) := mM_o
theorem rd_11 (hp : Op o p) : mM o p S m0 (o + 9) j = .int (S 11 j) := mM_a hp 9 (by decide)
theorem sh_11 (hp : Op o p) : sM o p pl s0 (o + 9) = (20, 1200) := sM_a hp 9 (by decide)
theorem wr_11 (hp : Op o p) : mup (mM o p S m0) (o + 9) j (.int x) = mM o p (sup S 11 j x) m0 := wM_a hp 9 (by decide)
theorem mf_12 : mM o p S m0 o 12 = .ref (o + 10) := mM_o
theorem rd_12 (hp : Op o p) : mM o p S m0 (o + 10) j = .int (S 12 j) := mM_a hp 10 (by decide)
theorem sh_12 (hp : Op o p) : sM o p pl s0 (o + 10) = (20, 8000) := sM_a hp 10 (by decide)
theorem wr_12 (hp : Op o p) : mup (mM o p S m0) (o + 10) j (.int x) = mM o p (sup S 12 j x) m0 := wM_a hp 10 (by decide)
theorem mf_13 : mM o p S m0 o 13 = .ref (o + 11) := mM_o
theorem rd_13 (hp : Op o p) : mM o p S m0 (o + 11) j = .int (S 13 j) := mM_a hp 11 (by decide)
theorem sh_13 (hp : Op o p) : sM o p pl s0 (o + 11) = (20, 200) := sM_a hp 11 (by decide)
theorem wr_13 (hp : Op o p) : mup (mM o p S m0) (o + 11) j (.int x) = mM o p (sup S 13 j x) m0 := wM_a hp 11 (by decide)
theorem mf_14 : mM o p S m0 o 14 = .int (S 14 0) := mM_o
theorem wr_14 : mup (mM o p S m0) o 14 (.int x) = mM o p (sup S 14 0 x) m0 := wM_s 14 rfl
theorem mf_15 : mM o p S m0 o 15 = .int (S 15 0) := mM_o
theorem wr_15 : mup (mM o p S m0) o 15 (.int x) = mM o p (sup S 15 0 x) m0 := wM_s 15 rfl
theorem mf_16 : mM o p S m0 o 16 = .ref p := mM_o
theorem mf_17 : mM o p S m0 o 17 = .int (S 17 0) := mM_o
theorem wr_17 : mup (mM o p S m0) o 17 (.int x) = mM o p (sup S 17 0 x) m0 := wM_s 17 rfl
theorem mf_18 : mM o p S m0 o 18 = .int (S 18 0) := mM_o
theorem wr_18 : mup (mM o p S m0) o 18 (.int x) = mM o p (sup S 18 0 x) m0 := wM_s 18 rfl
theorem mf_19 : mM o p S m0 o 19 = .int (S 19 0) := mM_o
theorem wr_19 : mup (mM o p S m0) o 19 (.int x) = mM o p (sup S 19 0 x) m0 := wM_s 19 rfl
theorem mf_20 : mM o p S m0 o 20 = .ref (o + 13) := mM_o
theorem rd_20 (hp : Op o p) : mM o p S m0 (o + 13) j = .int (S 20 j) := mM_a hp 13 (by decide)
theorem sh_20 (hp : Op o p) : sM o p pl s0 (o + 13) = (20, 240) := sM_a hp 13 (by decide)
theorem wr_20 (hp : Op o p) : mup (mM o p S m0) (o + 13) j (.int x) = mM o p (sup S 20 j x) m0 := wM_a hp 13 (by decide)
theorem mf_21 : mM o p S m0 o 21 = .int (S 21 0) := mM_o
theorem wr_21 : mup (mM o p S m0) o 21 (.int x) = mM o p (sup S 21 0 x) m0 := wM_s 21 rfl
theorem mf_22 : mM o p S m0 o 22 = .ref (o + 14) := mM_o
theorem rd_22 (hp : Op o p) : mM o p S m0 (o + 14) j = .int (S 22 j) := mM_a hp 14 (by decide)
theorem sh_22 (hp : Op o p) : sM o p pl s0 (o + 14) = (20, 7) := sM_a hp 14 (by decide)
theorem wr_22 (hp : Op o p) : mup (mM o p S m0) (o + 14) j (.int x) = mM o p (sup S 22 j x) m0 := wM_a hp 14 (by decide)
theorem mf_23 : mM o p S m0 o 23 = .ref (o + 15) := mM_o
theorem rd_23 (hp : Op o p) : mM o p S m0 (o + 15) j = .int (S 23 j) := mM_a hp 15 (by decide)
theorem sh_23 (hp : Op o p) : sM o p pl s0 (o + 15) = (20, 7) := sM_a hp 15 (by decide)
theorem wr_23 (hp : Op o p) : mup (mM o p S m0) (o + 15) j (.int x) = mM o p (sup S 23 j x) m0 := wM_a hp 15 (by decide)
theorem mf_24 : mM o p S m0 o 24 = .ref (o + 16) := mM_o
theorem rd_24 (hp : Op o p) : mM o p S m0 (o + 16) j = .int (S 24 j) := mM_a hp 16 (by decide)
theorem sh_24 (hp : Op o p) : sM o p pl s0 (o + 16) = (20, 10) := sM_a hp 16 (by decide)
theorem wr_24 (hp : Op o p) : mup (mM o p S m0) (o + 16) j (.int x) = mM o p (sup S 24 j x) m0 := wM_a hp 16 (by decide)
theorem mf_25 : mM o p S m0 o 25 = .int (S 25 0) := mM_o
theorem wr_25 : mup (mM o p S m0) o 25 (.int x) = mM o p (sup S 25 0 x) m0 := wM_s 25 rfl
theorem mf_26 : mM o p S m0 o 26 = .ref (o + 17) := mM_o
theorem rd_26 (hp : Op o p) : mM o p S m0 (o + 17) j = .int (S 26 j) := mM_a hp 17 (by decide)
theorem sh_26 (hp : Op o p) : sM o p pl s0 (o + 17) = (20, 8) := sM_a hp 17 (by decide)
theorem wr_26 (hp : Op o p) : mup (mM o p S m0) (o + 17) j (.int x) = mM o p (sup S 26 j x) m0 := wM_a hp 17 (by decide)
theorem mf_27 : mM o p S m0 o 27 = .ref (o + 18) := mM_o
theorem rd_27 (hp : Op o p) : mM o p S m0 (o + 18) j = .int (S 27 j) := mM_a hp 18 (by decide)
theorem sh_27 (hp : Op o p) : sM o p pl s0 (o + 18) = (20, 56) := sM_a hp 18 (by decide)
theorem wr_27 (hp : Op o p) : mup (mM o p S m0) (o + 18) j (.int x) = mM o p (sup S 27 j x) m0 := wM_a hp 18 (by decide)
theorem mf_28 : mM o p S m0 o 28 = .ref (o + 19) := mM_o
theorem rd_28 (hp : Op o p) : mM o p S m0 (o + 19) j = .int (S 28 j) := mM_a hp 19 (by decide)
theorem sh_28 (hp : Op o p) : sM o p pl s0 (o + 19) = (20, 7) := sM_a hp 19 (by decide)
theorem wr_28 (hp : Op o p) : mup (mM o p S m0) (o + 19) j (.int x) = mM o p (sup S 28 j x) m0 := wM_a hp 19 (by decide)
theorem mf_29 : mM o p S m0 o 29 = .ref (o + 20) := mM_o
theorem rd_29 (hp : Op o p) : mM o p S m0 (o + 20) j = .int (S 29 j) := mM_a hp 20 (by decide)
theorem sh_29 (hp : Op o p) : sM o p pl s0 (o + 20) = (20, 7) := sM_a hp 20 (by decide)
theorem wr_29 (hp : Op o p) : mup (mM o p S m0) (o + 20) j (.int x) = mM o p (sup S 29 j x) m0 := wM_a hp 20 (by decide)
theorem mf_30 : mM o p S m0 o 30 = .int (S 30 0) := mM_o
theorem wr_30 : mup (mM o p S m0) o 30 (.int x) = mM o p (sup S 30 0 x) m0 := wM_s 30 rfl
theorem mf_31 : mM o p S m0 o 31 = .ref (o + 21) := mM_o
theorem rd_31 (hp : Op o p) : mM o p S m0 (o + 21) j = .int (S 31 j) := mM_a hp 21 (by decide)
theorem sh_31 (hp : Op o p) : sM o p pl s0 (o + 21) = (20, 8) := sM_a hp 21 (by decide)
theorem wr_31 (hp : Op o p) : mup (mM o p S m0) (o + 21) j (.int x) = mM o p (sup S 31 j x) m0 := wM_a hp 21 (by decide)
theorem mf_32 : mM o p S m0 o 32 = .int (S 32 0) := mM_o
theorem wr_32 : mup (mM o p S m0) o 32 (.int x) = mM o p (sup S 32 0 x) m0 := wM_s 32 rfl
theorem mf_33 : mM o p S m0 o 33 = .ref (o + 22) := mM_o
theorem rd_33 (hp : Op o p) : mM o p S m0 (o + 22) j = .int (S 33 j) := mM_a hp 22 (by decide)
theorem sh_33 (hp : Op o p) : sM o p pl s0 (o + 22) = (20, 7) := sM_a hp 22 (by decide)
theorem wr_33 (hp : Op o p) : mup (mM o p S m0) (o + 22) j (.int x) = mM o p (sup S 33 j x) m0 := wM_a hp 22 (by decide)
theorem mf_34 : mM o p S m0 o 34 = .int (S 34 0) := mM_o
theorem wr_34 : mup (mM o p S m0) o 34 (.int x) = mM o p (sup S 34 0 x) m0 := wM_s 34 rfl
theorem mf_35 : mM o p S m0 o 35 = .int (S 35 0) := mM_o
theorem wr_35 : mup (mM o p S m0) o 35 (.int x) = mM o p (sup S 35 0 x) m0 := wM_s 35 rfl
theorem mf_36 : mM o p S m0 o 36 = .ref (o + 23) := mM_o
theorem rd_36 (hp : Op o p) : mM o p S m0 (o + 23) j = .int (S 36 j) := mM_a hp 23 (by decide)
theorem sh_36 (hp : Op o p) : sM o p pl s0 (o + 23) = (20, 300) := sM_a hp 23 (by decide)
theorem wr_36 (hp : Op o p) : mup (mM o p S m0) (o + 23) j (.int x) = mM o p (sup S 36 j x) m0 := wM_a hp 23 (by decide)
theorem mf_37 : mM o p S m0 o 37 = .ref (o + 24) := mM_o
theorem rd_37 (hp : Op o p) : mM o p S m0 (o + 24) j = .int (S 37 j) := mM_a hp 24 (by decide)
theorem sh_37 (hp : Op o p) : sM o p pl s0 (o + 24) = (20, 300) := sM_a hp 24 (by decide)
theorem wr_37 (hp : Op o p) : mup (mM o p S m0) (o + 24) j (.int x) = mM o p (sup S 37 j x) m0 := wM_a hp 24 (by decide)
theorem mf_38 : mM o p S m0 o 38 = .ref (o + 25) := mM_o
theorem rd_38 (hp : Op o p) : mM o p S m0 (o + 25) j = .int (S 38 j) := mM_a hp 25 (by decide)
theorem sh_38 (hp : Op o p) : sM o p pl s0 (o + 25) = (20, 300) := sM_a hp 25 (by decide)
theorem wr_38 (hp : Op o p) : mup (mM o p S m0) (o + 25) j (.int x) = mM o p (sup S 38 j x) m0 := wM_a hp 25 (by decide)
theorem mf_39 : mM o p S m0 o 39 = .ref (o + 26) := mM_o
theorem rd_39 (hp : Op o p) : mM o p S m0 (o + 26) j = .int (S 39 j) := mM_a hp 26 (by decide)
theorem sh_39 (hp : Op o p) : sM o p pl s0 (o + 26) = (20, 201) := sM_a hp 26 (by decide)
theorem wr_39 (hp : Op o p) : mup (mM o p S m0) (o + 26) j (.int x) = mM o p (sup S 39 j x) m0 := wM_a hp 26 (by decide)
theorem mf_40 : mM o p S m0 o 40 = .ref (o + 27) := mM_o
theorem rd_40 (hp : Op o p) : mM o p S m0 (o + 27) j = .int (S 40 j) := mM_a hp 27 (by decide)
theorem sh_40 (hp : Op o p) : sM o p pl s0 (o + 27) = (20, 201) := sM_a hp 27 (by decide)
theorem wr_40 (hp : Op o p) : mup (mM o p S m0) (o + 27) j (.int x) = mM o p (sup S 40 j x) m0 := wM_a hp 27 (by decide)
theorem mf_41 : mM o p S m0 o 41 = .int (S 41 0) := mM_o
theorem wr_41 : mup (mM o p S m0) o 41 (.int x) = mM o p (sup S 41 0 x) m0 := wM_s 41 rfl
end MOD
