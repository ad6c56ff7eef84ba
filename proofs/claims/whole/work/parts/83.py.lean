/-! ===== what is walked through: class and reference alike ===== -/
section PYY
variable {G : Gh} {C : St}
theorem wk_cn {P : Nat → Bool} (hG : OKG G) (hK : OKC G C) (hP : ∀ t, P t = false) : ∀ f r, dep C G.T f r → lvR G r → ∀ l c, wkF C P f r (l + nI 1) c = (none, (cnF G C f r l).1, c + (cnF G C f r l).2) := by
  have hT := okT hG
  intro f
  induction f with
  | zero => intro r h; exact h.elim
  | succ f ih =>
    intro r hp lv l c
    obtain ⟨-, -, -, hs⟩ := hp
    have sn := sN_c hG hK lv
    have key : ∀ u s l x c0, s + u = G.sl r → wkS (wkF C P f) C P r u s l (x + c0) = (none, (cnS (cnF G C f) G C r u s l c0).1, x + (cnS (cnF G C f) G C r u s l c0).2) := by
      intro u
      induction u with
      | zero => intro s l x c0 _; rfl
      | succ u ihu =>
        intro s l x c0 hsu
        unfold wkS cnS
        rcases hs s (by rw [sn]; omega) with h7 | ⟨t, ht, h7, hb⟩
        · rw [thI_n h7]
          exact ihu (s + 1) l x c0 (by omega)
        · rw [thI_s h7 (by omega)]
          simp only [hP, Bool.false_eq_true, if_false]
          have ek : (C 2 t = nI 4 ∨ C 2 t = nI 5) ↔ (G.kd t = 4 ∨ G.kd t = 5) := by rw [kdE hG hK ht (by omega), kdE hG hK ht (by omega)]
          by_cases hq : G.kd t = 4 ∨ G.kd t = 5
          · have hb' := hb (ek.mpr hq)
            rw [if_pos (ek.mpr hq), if_pos hq, ih t hb' (Or.inl ⟨ht, hq⟩) l (x + c0 + nI 1)]
            simp only []
            have e : x + c0 + nI 1 + (cnF G C f t l).2 = x + (c0 + (nI 1 + (cnF G C f t l).2)) := by
              rw [Int32.add_assoc, Int32.add_assoc]
            rw [e]
            exact ihu (s + 1) _ x _ (by omega)
          · rw [if_neg (fun y => hq (ek.mp y)), if_neg hq]
            have e : x + c0 + nI 1 = x + (c0 + (nI 1 + nI 0)) := by
              rw [Int32.add_assoc]
              rfl
            rw [e]
            exact ihu (s + 1) l x _ (by omega)
    have K := key (G.sl r) 0 (l + nI 1) c (nI 0) (by omega)
    have e0 : c + nI 0 = c := Int32.add_zero c
    rw [e0] at K
    unfold wkF cnF
    rw [sn]
    exact K
theorem wk_fn {P Q : Nat → Bool} (hG : OKG G) (hK : OKC G C) (hP : ∀ t, t < G.T → P t = Q t) : ∀ f r, dep C G.T f r → lvR G r → ∀ l c, (wkF C P f r (l + nI 1) c).1 = (fnF G C Q f r l).1 ∧ (wkF C P f r (l + nI 1) c).2.1 = (fnF G C Q f r l).2 := by
  have hT := okT hG
  intro f
  induction f with
  | zero => intro r h; exact h.elim
  | succ f ih =>
    intro r hp lv l c
    obtain ⟨-, -, -, hs⟩ := hp
    have sn := sN_c hG hK lv
    have key : ∀ u s l c, s + u = G.sl r → (wkS (wkF C P f) C P r u s l c).1 = (fnS' (fnF G C Q f) G C Q r u s l).1 ∧ (wkS (wkF C P f) C P r u s l c).2.1 = (fnS' (fnF G C Q f) G C Q r u s l).2 := by
      intro u
      induction u with
      | zero => intro s l c _; exact ⟨rfl, rfl⟩
      | succ u ihu =>
        intro s l c hsu
        unfold wkS fnS'
        rcases hs s (by rw [sn]; omega) with h7 | ⟨t, ht, h7, hb⟩
        · rw [thI_n h7]
          exact ihu (s + 1) l c (by omega)
        · rw [thI_s h7 (by omega)]
          simp only []
          rw [hP t ht]
          by_cases hq1 : Q t = true
          · rw [if_pos hq1, if_pos hq1]
            exact ⟨rfl, rfl⟩
          · rw [if_neg hq1, if_neg hq1]
            have ek : (C 2 t = nI 4 ∨ C 2 t = nI 5) ↔ (G.kd t = 4 ∨ G.kd t = 5) := by rw [kdE hG hK ht (by omega), kdE hG hK ht (by omega)]
            by_cases hq : G.kd t = 4 ∨ G.kd t = 5
            · have hb' := hb (ek.mpr hq)
              rw [if_pos (ek.mpr hq), if_pos hq]
              have I := ih t hb' (Or.inl ⟨ht, hq⟩) l (c + nI 1)
              cases hw : wkF C P f t (l + nI 1) (c + nI 1) with
              | mk a b =>
                cases b with
                | mk b c' =>
                  cases hf : fnF G C Q f t l with
                  | mk a' b' =>
                    rw [hw, hf] at I
                    obtain ⟨i1, i2⟩ := I
                    simp only [] at i1 i2
                    subst i1 i2
                    cases a with
                    | none => exact ihu (s + 1) b c' (by omega)
                    | some y => exact ⟨rfl, rfl⟩
            · rw [if_neg (fun y => hq (ek.mp y)), if_neg hq]
              exact ihu (s + 1) l (c + nI 1) (by omega)
    unfold wkF fnF
    rw [sn]
    exact key (G.sl r) 0 (l + nI 1) c (by omega)
theorem fd_fn {P Q : Nat → Bool} (hG : OKG G) (hK : OKC G C) (hP : ∀ t, t < G.T → P t = Q t) (hd : ∀ r, r < G.R → dep C G.T 8 (200 + r)) : ∀ u r l c, r + u = G.R → (fdF C P 8 u r l c).1 = (fnR G C Q u r l).1 ∧ (fdF C P 8 u r l c).2.1 = (fnR G C Q u r l).2 := by
  intro u
  induction u with
  | zero => intro r l c _; exact ⟨rfl, rfl⟩
  | succ u ih =>
    intro r l c hr
    have lv : lvR G (200 + r) := Or.inr ⟨by omega, by omega⟩
    have I := wk_fn hG hK hP 8 (200 + r) (hd r (by omega)) lv l c
    unfold fdF fnR
    cases hw : wkF C P 8 (200 + r) (l + nI 1) c with
    | mk a b =>
      cases b with
      | mk b c' =>
        cases hf : fnF G C Q 8 (200 + r) l with
        | mk a' b' =>
          rw [hw, hf] at I
          obtain ⟨i1, i2⟩ := I
          simp only [] at i1 i2
          subst i1 i2
          cases a with
          | none => exact ih (r + 1) b c' (by omega)
          | some y => exact ⟨rfl, rfl⟩
theorem hit_is {a : Int32} {ao : Option Nat} {kd t : Nat} (hG : OKG G) (hK : OKC G C) (ht : t < G.T) (hkd : kd ≤ 4) (ha : (a = -1 ∧ ao = none) ∨ ∃ i, i < G.A ∧ a = nI i ∧ ao = some i) : hitB C a (nI kd) t = isB C ao (nI kd) t := by
  have hA := okA hG
  have k8 := okk hG ht
  have e2 := hK.2.1 t ht
  have nk : ¬ nI kd < 0 := nI_pos (by omega)
  have k4 : (nI 4 < C 2 t) ↔ 4 < G.kd t := kdL hG hK ht (by omega)
  have k2 : (nI 2 < C 2 t) ↔ 2 < G.kd t := kdL hG hK ht (by omega)
  have kq : (C 2 t = nI kd) ↔ G.kd t = kd := kdE hG hK ht (by omega)
  have kl : (C 2 t < nI kd) ↔ G.kd t < kd := by rw [e2, nI_ltI (by omega) (by omega)]
  have k0 : (nI kd = 0) ↔ kd = 0 := nI_eq (b := 0) (by omega) (by omega)
  have k1 : (nI kd = nI 1) ↔ kd = 1 := nI_eq (by omega) (by omega)
  have k2e : (C 2 t = nI 2) ↔ G.kd t = 2 := kdE hG hK ht (by omega)
  have k2m : (C 2 t ≤ nI 2) ↔ G.kd t ≤ 2 := kdM hG hK ht (by omega)
  unfold hitB isB
  have ep : (¬ 4 < G.kd t ∧ (G.kd t = kd ∨ kd = 0 ∧ G.kd t ≤ 2 ∨ kd = 1 ∧ G.kd t = 2)) ↔ (G.kd t = kd ∨ ¬ 2 < G.kd t ∧ ¬ G.kd t < kd) := by omega
  have eb : (decide (¬ nI 4 < C 2 t) && decide (C 2 t = nI kd ∨ (nI kd = 0 ∧ C 2 t ≤ nI 2) ∨ (nI kd = nI 1 ∧ C 2 t = nI 2))) = decide (C 2 t = nI kd ∨ (¬ nI 2 < C 2 t ∧ ¬ C 2 t < nI kd)) := by
    rw [Bool.eq_iff_iff, Bool.and_eq_true, decide_eq_true_eq, decide_eq_true_eq, decide_eq_true_eq, k4, k2, kq, kl, k0, k1, k2e, k2m]
    exact ep
  rw [decide_eq_true nk, Bool.true_and, ← Bool.and_assoc, eb]
  rcases ha with ⟨rfl, rfl⟩ | ⟨i, hi, rfl, rfl⟩
  · simp only [m1_0, decide_true, Bool.true_or]
  · have ni : ¬ nI i < 0 := nI_pos (by omega)
    simp only [ni, decide_false, Bool.false_or, nI_clamp (show i < 2147483648 by omega)]
end PYY
