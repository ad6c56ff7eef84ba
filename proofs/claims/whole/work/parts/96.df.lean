/-! ===== the class's search: what it finds ===== -/
def smP (pc : Nat → Nat → Nat) (od f : Nat → Nat) : Nat → Nat → Nat
  | _, 0 => 0
  | r, k + 1 => pc (od r) (f r) + smP pc od f (r + 1) k
theorem smP_s {pc : Nat → Nat → Nat} {od f : Nat → Nat} {r k : Nat} : smP pc od f r (k + 1) = pc (od r) (f r) + smP pc od f (r + 1) k := rfl
def Vps (Cn : Nat) (al : Nat → Nat → Bool) (cl : Nat → (Nat → Nat) → Nat → Bool) (od f : Nat → Nat) (r k : Nat) : Prop := ∀ i, r ≤ i → i < r + k → f i < Cn ∧ al (od i) (f i) = true ∧ cl i f (f i) = false
theorem mnN_hit (g : Nat → Nat) : ∀ C, mnN g C < 2147483647 → ∃ c, c < C ∧ mnN g C = g c := by
  intro C
  induction C with
  | zero => intro h; exact absurd h (Nat.lt_irrefl 2147483647)
  | succ C ih =>
    intro h
    unfold mnN at h ⊢
    by_cases e : g C < mnN g C
    · exact ⟨C, by omega, by omega⟩
    · obtain ⟨c, h1, h2⟩ := ih (by omega)
      exact ⟨c, by omega, by omega⟩
theorem skV_le {Cn : Nat} {al : Nat → Nat → Bool} {pc : Nat → Nat → Nat} {cl : Nat → (Nat → Nat) → Nat → Bool} {od f : Nat → Nat} (hcl : ∀ (i : Nat) (tl tl' : Nat → Nat) (c : Nat), (∀ y, y < i → tl y = tl' y) → cl i tl c = cl i tl' c) : ∀ k r (tl : Nat → Nat) s, (∀ x, x < r → f x = tl x) → Vps Cn al cl od f r k → skV Cn al pc cl od k r tl s ≤ s + smP pc od f r k := by
  intro k
  induction k with
  | zero => intro r tl s _ _; exact Nat.le_refl _
  | succ k ih =>
    intro r tl s hf hv
    obtain ⟨h1, h2, h3⟩ := hv r (Nat.le_refl _) (by omega)
    unfold skV
    refine Nat.le_trans (mnN_le _ Cn (f r) h1) ?_
    have ha : cl r tl (f r) = false := by rw [← hcl r f tl (f r) hf]; exact h3
    simp only [h2, ha, Bool.not_false, Bool.and_self, if_true]
    refine Nat.le_trans (ih (r + 1) (upN tl r (f r)) (s + pc (od r) (f r)) ?_ ?_) ?_
    · intro x hx
      unfold upN
      by_cases e : x = r
      · rw [if_pos e, e]
      · rw [if_neg e]; exact hf x (by omega)
    · intro i h4 h5
      exact hv i (by omega) (by omega)
    · rw [smP_s]
      omega
theorem skV_hit {Cn : Nat} {al : Nat → Nat → Bool} {pc : Nat → Nat → Nat} {cl : Nat → (Nat → Nat) → Nat → Bool} {od : Nat → Nat} (hcl : ∀ (i : Nat) (tl tl' : Nat → Nat) (c : Nat), (∀ y, y < i → tl y = tl' y) → cl i tl c = cl i tl' c) : ∀ k r (tl : Nat → Nat) s, skV Cn al pc cl od k r tl s < 2147483647 → ∃ f : Nat → Nat, (∀ x, x < r → f x = tl x) ∧ Vps Cn al cl od f r k ∧ skV Cn al pc cl od k r tl s = s + smP pc od f r k := by
  intro k
  induction k with
  | zero => intro r tl s _; exact ⟨tl, fun _ _ => rfl, fun i h1 h2 => by omega, rfl⟩
  | succ k ih =>
    intro r tl s h
    have h' := h
    unfold skV at h'
    obtain ⟨c, hc, he⟩ := mnN_hit _ Cn h'
    rw [he] at h'
    by_cases ha : (al (od r) c && !(cl r tl c)) = true
    · rw [if_pos ha] at h' he
      obtain ⟨f, f1, f2, f3⟩ := ih (r + 1) (upN tl r c) (s + pc (od r) c) h'
      rw [Bool.and_eq_true] at ha
      have hfr : f r = c := by
        rw [f1 r (by omega)]
        unfold upN
        rw [if_pos rfl]
      have hfx : ∀ x, x < r → f x = tl x := fun x hx => by
        rw [f1 x (by omega)]
        unfold upN
        rw [if_neg (by omega)]
      refine ⟨f, hfx, ?_, ?_⟩
      · intro i h1 h2
        by_cases e : i = r
        · subst e
          rw [hfr]
          refine ⟨hc, ha.1, ?_⟩
          rw [hcl i f tl c hfx]
          have := ha.2
          simpa using this
        · exact f2 i (by omega) (by omega)
      · unfold skV
        rw [he, f3, smP_s, hfr]
        omega
    · rw [if_neg ha] at h'
      exact absurd h' (Nat.lt_irrefl 2147483647)
theorem smP_low {Cn : Nat} {al : Nat → Nat → Bool} {pc : Nat → Nat → Nat} {cl cl' : Nat → (Nat → Nat) → Nat → Bool} {od : Nat → Nat} (hcl : ∀ (i : Nat) (tl tl' : Nat → Nat) (c : Nat), (∀ y, y < i → tl y = tl' y) → cl i tl c = cl i tl' c) (hcl' : ∀ (i : Nat) (tl tl' : Nat → Nat) (c : Nat), (∀ y, y < i → tl y = tl' y) → cl' i tl c = cl' i tl' c) {k x : Nat} (sub : ∀ i (f : Nat → Nat) c, x ≤ i → cl i f c = false → cl' i f c = false) (tl tl' : Nat → Nat) (s : Nat) : min 2147483647 (s + skV Cn al pc cl' od k x tl' 0) ≤ skV Cn al pc cl od k x tl s ∨ ∃ i f, x ≤ i ∧ ¬ (cl' i f (f i) = cl' i (fun y => if y < x then tl' y else f y) (f i)) := by
  by_cases q : ∃ i f, x ≤ i ∧ ¬ (cl' i f (f i) = cl' i (fun y => if y < x then tl' y else f y) (f i))
  · exact Or.inr q
  · left
    by_cases z : skV Cn al pc cl od k x tl s < 2147483647
    · obtain ⟨f, f1, f2, f3⟩ := skV_hit hcl k x tl s z
      have g2 : Vps Cn al cl' od (fun y => if y < x then tl' y else f y) x k := by
        intro i h1 h2
        obtain ⟨a, b, c⟩ := f2 i h1 h2
        simp only [show ¬ i < x by omega, if_false]
        refine ⟨a, b, ?_⟩
        have c' := sub i f (f i) h1 c
        have e : cl' i f (f i) = cl' i (fun y => if y < x then tl' y else f y) (f i) := by
          by_cases w : cl' i f (f i) = cl' i (fun y => if y < x then tl' y else f y) (f i)
          · exact w
          · exact absurd ⟨i, f, h1, w⟩ q
        rw [← e]
        exact c'
      have le := skV_le (pc := pc) hcl' k x tl' 0 (fun y hy => by simp only [hy, if_true]) g2
      have es : ∀ k r, x ≤ r → smP pc od (fun y => if y < x then tl' y else f y) r k = smP pc od f r k := by
        intro k
        induction k with
        | zero => intro r _; rfl
        | succ k ih =>
          intro r hr
          rw [smP_s, smP_s, ih (r + 1) (by omega)]
          simp only [show ¬ r < x by omega, if_false]
      rw [es k x (Nat.le_refl _)] at le
      omega
    · omega
