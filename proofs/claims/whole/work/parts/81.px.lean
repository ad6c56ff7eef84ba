/-! ===== plans: what the least cost is ===== -/
def smF (pr : Nat → Nat → Nat) (f : Nat → Nat) : Nat → Nat → Nat
  | _, 0 => 0
  | r, k + 1 => pr r (f r) + smF pr f (r + 1) k
theorem smF_s {pr : Nat → Nat → Nat} {f : Nat → Nat} {r k : Nat} : smF pr f r (k + 1) = pr r (f r) + smF pr f (r + 1) k := rfl
/-- a plan is sound for the roles from r on -/
def Vpl (C : Nat) (al : Nat → Nat → Bool) (ag : Nat → Nat → Nat → Nat → Bool) (f : Nat → Nat) (r k : Nat) : Prop := ∀ i, r ≤ i → i < r + k → f i < C ∧ al i (f i) = true ∧ ∀ q, q < i → ag i (f i) q (f q) = true
theorem mnC_at (g : Nat → Nat) : ∀ C c, c < C → mnC g C ≤ g c := by
  intro C
  induction C with
  | zero => intro c h; omega
  | succ C ih =>
    intro c hc
    unfold mnC
    by_cases e : c = C
    · subst e; omega
    · have := ih c (by omega); omega
theorem mnC_hit (g : Nat → Nat) : ∀ C, mnC g C < 100000000 → ∃ c, c < C ∧ mnC g C = g c := by
  intro C
  induction C with
  | zero => intro h; exact absurd h (Nat.lt_irrefl 100000000)
  | succ C ih =>
    intro h
    unfold mnC at h ⊢
    by_cases e : g C < mnC g C
    · exact ⟨C, by omega, by omega⟩
    · obtain ⟨c, h1, h2⟩ := ih (by omega)
      exact ⟨c, by omega, by omega⟩
theorem agA_iff {ag : Nat → Nat → Nat → Nat → Bool} {r c : Nat} {tr : Nat → Nat} : ∀ k, agA ag r c tr k = true ↔ ∀ q, q < k → ag r c q (tr q) = true := by
  intro k
  induction k with
  | zero => exact ⟨fun _ q h => by omega, fun _ => rfl⟩
  | succ k ih =>
    unfold agA
    rw [Bool.and_eq_true, ih]
    constructor
    · intro h q hq
      by_cases e : q = k
      · subst e; exact h.2
      · exact h.1 q (by omega)
    · intro h
      exact ⟨fun q hq => h q (by omega), h k (by omega)⟩
theorem srM_le {C : Nat} {al : Nat → Nat → Bool} {pr : Nat → Nat → Nat} {ag : Nat → Nat → Nat → Nat → Bool} {f : Nat → Nat} : ∀ k r tr s, (∀ x, x < r → f x = tr x) → Vpl C al ag f r k → srM C al pr ag k r tr s ≤ s + smF pr f r k := by
  intro k
  induction k with
  | zero => intro r tr s _ _; exact Nat.le_refl _
  | succ k ih =>
    intro r tr s hf hv
    obtain ⟨h1, h2, h3⟩ := hv r (Nat.le_refl _) (by omega)
    unfold srM
    refine Nat.le_trans (mnC_at _ C (f r) h1) ?_
    have ha : agA ag r (f r) tr r = true := (agA_iff r).mpr (fun q hq => by rw [← hf q hq]; exact h3 q hq)
    simp only [h2, ha, Bool.and_self, if_true]
    refine Nat.le_trans (ih (r + 1) (upN tr r (f r)) (s + pr r (f r)) ?_ ?_) ?_
    · intro x hx
      unfold upN
      by_cases e : x = r
      · rw [if_pos e, e]
      · rw [if_neg e]; exact hf x (by omega)
    · intro i h4 h5
      exact hv i (by omega) (by omega)
    · rw [smF_s]
      omega
theorem smF_eq {pr : Nat → Nat → Nat} {f g : Nat → Nat} : ∀ k r, (∀ x, r ≤ x → x < r + k → f x = g x) → smF pr f r k = smF pr g r k := by
  intro k
  induction k with
  | zero => intro r _; rfl
  | succ k ih =>
    intro r h
    rw [smF_s, smF_s, h r (Nat.le_refl _) (by omega), ih (r + 1) (fun x h1 h2 => h x (by omega) (by omega))]
theorem srM_hit {C : Nat} {al : Nat → Nat → Bool} {pr : Nat → Nat → Nat} {ag : Nat → Nat → Nat → Nat → Bool} : ∀ k r tr s, srM C al pr ag k r tr s < 100000000 → ∃ f, (∀ x, x < r → f x = tr x) ∧ Vpl C al ag f r k ∧ srM C al pr ag k r tr s = s + smF pr f r k := by
  intro k
  induction k with
  | zero => intro r tr s _; exact ⟨tr, fun _ _ => rfl, fun i h1 h2 => by omega, rfl⟩
  | succ k ih =>
    intro r tr s h
    have h' := h
    unfold srM at h'
    obtain ⟨c, hc, he⟩ := mnC_hit _ C h'
    rw [he] at h'
    by_cases ha : (al r c && agA ag r c tr r) = true
    · rw [if_pos ha] at h' he
      obtain ⟨f, f1, f2, f3⟩ := ih (r + 1) (upN tr r c) (s + pr r c) h'
      rw [Bool.and_eq_true] at ha
      have hfr : f r = c := by
        rw [f1 r (by omega)]
        unfold upN
        rw [if_pos rfl]
      have hfx : ∀ x, x < r → f x = tr x := fun x hx => by
        rw [f1 x (by omega)]
        unfold upN
        rw [if_neg (by omega)]
      refine ⟨f, hfx, ?_, ?_⟩
      · intro i h1 h2
        by_cases e : i = r
        · subst e
          rw [hfr]
          exact ⟨hc, ha.1, fun q hq => by rw [hfx q hq]; exact (agA_iff i).mp ha.2 q hq⟩
        · exact f2 i (by omega) (by omega)
      · unfold srM
        rw [he, f3, smF_s, hfr]
        omega
    · rw [if_neg ha] at h'
      exact absurd h' (by decide)
/-- the least cost of what is left open -/
def lcF (C nr : Nat) (fx : Nat → Int32) (pr : Nat → Nat → Nat) (ag : Nat → Nat → Nat → Nat → Bool) : Nat := min 100000000 (srM C (alB fx pr) pr ag nr 0 (fun _ => 0) 0)
theorem lcF_le {C nr : Nat} {fx : Nat → Int32} {pr : Nat → Nat → Nat} {ag : Nat → Nat → Nat → Nat → Bool} {f : Nat → Nat} (h : Vpl C (alB fx pr) ag f 0 nr) : lcF C nr fx pr ag ≤ smF pr f 0 nr := by
  have := srM_le (pr := pr) nr 0 (fun _ => 0) 0 (fun x hx => by omega) h
  unfold lcF
  omega
theorem lcF_hit {C nr : Nat} {fx : Nat → Int32} {pr : Nat → Nat → Nat} {ag : Nat → Nat → Nat → Nat → Bool} (h : lcF C nr fx pr ag < 100000000) : ∃ f, Vpl C (alB fx pr) ag f 0 nr ∧ smF pr f 0 nr = lcF C nr fx pr ag := by
  unfold lcF at h ⊢
  obtain ⟨f, -, f2, f3⟩ := srM_hit (C := C) (al := alB fx pr) (ag := ag) (pr := pr) nr 0 (fun _ => 0) 0 (by omega)
  exact ⟨f, f2, by omega⟩
/-- the plan of least cost with the least choices: the first that differs is smaller -/
def Lex (C nr : Nat) (fx : Nat → Int32) (pr : Nat → Nat → Nat) (ag : Nat → Nat → Nat → Nat → Bool) (h : Nat → Nat) (r : Nat) : Prop := ∀ g, Vpl C (alB fx pr) ag g 0 nr → smF pr g 0 nr = lcF C nr fx pr ag → (∀ x, x < r → g x = h x) ∨ ∃ x, x < r ∧ (∀ y, y < x → g y = h y) ∧ h x < g x
/-- the roles before r are fixed -/
def fxR (fx : Nat → Int32) (h : Nat → Nat) (r : Nat) : Nat → Int32 := fun x => if x < r then nI (h x) else fx x
theorem alB_fx {fx : Nat → Int32} {pr : Nat → Nat → Nat} {h : Nat → Nat} {r i c C : Nat} (hc : c < C) (hC : C ≤ 8) (hh : ∀ x, x < r → h x < C) (hf : ∀ x, x < r → fx x < 0) : alB (fxR fx h r) pr i c = true ↔ (alB fx pr i c = true ∧ (i < r → c = h i)) := by
  unfold alB fxR
  by_cases q : i < r
  · rw [if_pos q]
    have h1 := hh i q
    have h2 := hf i q
    have n0 : ¬ nI (h i) < 0 := nI_pos (by omega)
    have e : (nI (h i) = nI c) ↔ h i = c := nI_eq (by omega) (by omega)
    simp only [n0, decide_false, Bool.false_or, h2, decide_true, Bool.true_or, Bool.true_and, Bool.and_eq_true, decide_eq_true_eq, e, q, true_implies]
    constructor
    · intro z; exact ⟨z.2, z.1.symm⟩
    · intro z; exact ⟨z.2.symm, z.1⟩
  · rw [if_neg q]
    exact ⟨fun z => ⟨z, fun y => absurd y q⟩, fun z => z.1⟩
theorem Vpl_fx {C nr : Nat} {fx : Nat → Int32} {pr : Nat → Nat → Nat} {ag : Nat → Nat → Nat → Nat → Bool} {h f : Nat → Nat} {r : Nat} (hr : r ≤ nr) (hC : C ≤ 8) (hh : ∀ x, x < r → h x < C) (hf : ∀ x, x < r → fx x < 0) : Vpl C (alB (fxR fx h r) pr) ag f 0 nr ↔ (Vpl C (alB fx pr) ag f 0 nr ∧ ∀ x, x < r → f x = h x) := by
  constructor
  · intro v
    refine ⟨fun i h1 h2 => ?_, fun x hx => ?_⟩
    · obtain ⟨a, b, c⟩ := v i h1 h2
      exact ⟨a, ((alB_fx a hC hh hf).mp b).1, c⟩
    · obtain ⟨a, b, c⟩ := v x (by omega) (by omega)
      exact ((alB_fx a hC hh hf).mp b).2 hx
  · intro ⟨v, e⟩ i h1 h2
    obtain ⟨a, b, c⟩ := v i h1 h2
    exact ⟨a, (alB_fx a hC hh hf).mpr ⟨b, fun q => e i q⟩, c⟩
/-- the least plan exists, found role by role -/
theorem lex_step {C nr : Nat} {fx : Nat → Int32} {pr : Nat → Nat → Nat} {ag : Nat → Nat → Nat → Nat → Bool} {h : Nat → Nat} {r : Nat} (hr : r < nr) (hC : C ≤ 8) (hh : ∀ x, x < r → h x < C) (hf : ∀ x, x < nr → fx x < 0) (hl : lcF C nr (fxR fx h r) pr ag = lcF C nr fx pr ag) (hlt : lcF C nr fx pr ag < 100000000) (lx : Lex C nr fx pr ag h r) : ∃ c, c < C ∧ lcF C nr (fxR fx (upN h r c) (r + 1)) pr ag = lcF C nr fx pr ag ∧ (∀ e, e < c → lcF C nr fx pr ag < lcF C nr (fxR fx (upN h r e) (r + 1)) pr ag) ∧ Lex C nr fx pr ag (upN h r c) (r + 1) := by
  have key : ∀ e, e < C → (lcF C nr (fxR fx (upN h r e) (r + 1)) pr ag = lcF C nr fx pr ag ↔ ∃ g, Vpl C (alB fx pr) ag g 0 nr ∧ smF pr g 0 nr = lcF C nr fx pr ag ∧ (∀ x, x < r → g x = h x) ∧ g r = e) := by
    intro e he
    have hh' : ∀ x, x < r + 1 → upN h r e x < C := by
      intro x hx
      unfold upN
      split
      · exact he
      · exact hh x (by omega)
    have iff := fun f => Vpl_fx (pr := pr) (ag := ag) (fx := fx) (h := upN h r e) (f := f) (r := r + 1) (C := C) (nr := nr) (by omega) hC hh' (fun x hx => hf x (by omega))
    constructor
    · intro q
      obtain ⟨g, g1, g2⟩ := lcF_hit (C := C) (nr := nr) (fx := fxR fx (upN h r e) (r + 1)) (pr := pr) (ag := ag) (by omega)
      obtain ⟨v, w⟩ := (iff g).mp g1
      refine ⟨g, v, by omega, fun x hx => ?_, ?_⟩
      · rw [w x (by omega)]
        unfold upN
        rw [if_neg (by omega)]
      · rw [w r (by omega)]
        unfold upN
        rw [if_pos rfl]
    · intro ⟨g, v, s, w, wr⟩
      have g1 := (iff g).mpr ⟨v, fun x hx => by
        unfold upN
        by_cases q : x = r
        · rw [if_pos q, q, wr]
        · rw [if_neg q]; exact w x (by omega)⟩
      have a := lcF_le g1
      have b : lcF C nr fx pr ag ≤ lcF C nr (fxR fx (upN h r e) (r + 1)) pr ag := by
        by_cases z : lcF C nr (fxR fx (upN h r e) (r + 1)) pr ag < 100000000
        · obtain ⟨g', g1', g2'⟩ := lcF_hit z
          have := lcF_le ((iff g').mp g1').1
          omega
        · omega
      omega
  have ge : ∀ e, e < C → lcF C nr fx pr ag ≤ lcF C nr (fxR fx (upN h r e) (r + 1)) pr ag := by
    intro e he
    have hh' : ∀ x, x < r + 1 → upN h r e x < C := by
      intro x hx
      unfold upN
      split
      · exact he
      · exact hh x (by omega)
    by_cases z : lcF C nr (fxR fx (upN h r e) (r + 1)) pr ag < 100000000
    · obtain ⟨g', g1', g2'⟩ := lcF_hit z
      have := lcF_le ((Vpl_fx (by omega) hC hh' (fun x hx => hf x (by omega))).mp g1').1
      omega
    · omega
  obtain ⟨g0, v0, s0⟩ := lcF_hit (C := C) (nr := nr) (fx := fxR fx h r) (pr := pr) (ag := ag) (by omega)
  obtain ⟨v0', w0⟩ := (Vpl_fx (by omega) hC hh (fun x hx => hf x (by omega))).mp v0
  have hg0 : g0 r < C := (v0' r (by omega) (by omega)).1
  have ex : ∃ c, c < C ∧ lcF C nr (fxR fx (upN h r c) (r + 1)) pr ag = lcF C nr fx pr ag := ⟨g0 r, hg0, (key _ hg0).mpr ⟨g0, v0', by omega, w0, rfl⟩⟩
  have least : ∀ N, (∃ c, c < N ∧ c < C ∧ lcF C nr (fxR fx (upN h r c) (r + 1)) pr ag = lcF C nr fx pr ag) → ∃ c, c < C ∧ lcF C nr (fxR fx (upN h r c) (r + 1)) pr ag = lcF C nr fx pr ag ∧ ∀ e, e < c → ¬ lcF C nr (fxR fx (upN h r e) (r + 1)) pr ag = lcF C nr fx pr ag := by
    intro N
    induction N with
    | zero => intro ⟨c, hc, _⟩; omega
    | succ N ih =>
      intro ⟨c, h1, h2, h3⟩
      by_cases q : ∃ e, e < N ∧ e < C ∧ lcF C nr (fxR fx (upN h r e) (r + 1)) pr ag = lcF C nr fx pr ag
      · exact ih q
      · refine ⟨c, h2, h3, fun e he z => q ⟨e, by omega, by omega, z⟩⟩
  obtain ⟨c, c1, c2, c3⟩ := least C (by obtain ⟨c, a, b⟩ := ex; exact ⟨c, a, a, b⟩)
  refine ⟨c, c1, c2, fun e he => ?_, ?_⟩
  · have a := ge e (by omega)
    have b := c3 e he
    omega
  · intro g v s
    rcases lx g v s with w | ⟨x, x1, x2, x3⟩
    · have hgr : g r < C := (v r (by omega) (by omega)).1
      have e1 := (key (g r) hgr).mpr ⟨g, v, s, w, rfl⟩
      by_cases q : g r = c
      · refine Or.inl (fun x hx => ?_)
        unfold upN
        by_cases z : x = r
        · rw [if_pos z, z, q]
        · rw [if_neg z]; exact w x (by omega)
      · refine Or.inr ⟨r, by omega, fun y hy => ?_, ?_⟩
        · unfold upN
          rw [if_neg (by omega)]
          exact w y hy
        · unfold upN
          rw [if_pos rfl]
          by_cases z : c < g r
          · exact z
          · exact absurd e1 (c3 (g r) (by omega))
    · refine Or.inr ⟨x, by omega, fun y hy => ?_, ?_⟩
      · unfold upN
        rw [if_neg (by omega)]
        exact x2 y hy
      · unfold upN
        rw [if_neg (by omega)]
        exact x3
