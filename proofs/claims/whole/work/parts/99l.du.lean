/-! ===== calls: plan, least ===== -/
section DU
variable {d k : Nat} {m0 : Mm} {s0 : Nat → Nat × Nat} {G : Gh} {C S : St} {n m c : Nat}
theorem IV_Wpc (iv : IV G C S n m c) {nr : Nat} (wr : Wro G C nr) : Wpc G C nr := ⟨IV_K iv, IV_wn iv, IV_ws iv, IV_w4 iv, wr, (IV_JP iv).2.1, wt_of iv.1 (IV_JP iv)⟩
theorem hf_43 {f : Nat} (h : hf f = true) : f < 43 ∧ f ≠ 0 ∧ f ≠ 14 ∧ f ≠ 15 ∧ f ≠ 32 ∧ f ≠ 33 := by
  unfold hf kf at h
  simp at h
  omega
theorem op26 (iv : IV G C S n m c) : OpQ d G C S n k m c m0 s0 70 [some (.ref (G.ad 1)), none] 194 (fun o => [some (.ref o), none, none]) := by
  obtain ⟨nr, wr, w22⟩ := iv.2.2.2.2.2.1
  obtain ⟨C', r, h1, h2, h3, h4, h5, h6, h7⟩ := plan_both (d := d + 2) (n := n) (k := k) (m0 := m0) (s0 := s0) iv.1 (IV_Wpc iv wr) iv.2.2.2.2.1 (IV_qv iv) w22
  refine OpM (rC := (r.1, C')) h1 (rS := r) ⟨rfl, ?_, by rw [h3 17 0 (by decide) (by decide) (by decide) (by decide) (by decide)]; exact IV_17 iv⟩ (fun o F hF => h7 (d + 1) o F m hF (IV_17 iv))
  have k1 : ∀ f, f < 43 → f ≠ 0 → f ≠ 14 → f ≠ 15 → f ≠ 32 → f ≠ 33 → ∀ j, C' f j = C f j := fun f a b e g x y j => h2 f j a b e g x y
  show IV G C' r.2 n m (c + 1)
  refine IV_fr iv (fun f h j => k1 f (hf_43 h).1 (hf_43 h).2.1 (hf_43 h).2.2.1 (hf_43 h).2.2.2.1 (hf_43 h).2.2.2.2.1 (hf_43 h).2.2.2.2.2 j) (k1 17 (by decide) (by decide) (by decide) (by decide) (by decide) (by decide) 0) (fun j _ => h3 16 j (by decide) (by decide) (by decide) (by decide) (by decide)) (fun f h j => h3 f j (by omega) (by omega) (by omega) (by omega) (by omega)) h4 ⟨fun j => by rw [k1 22 (by decide) (by decide) (by decide) (by decide) (by decide) (by decide)]; exact iv.2.1.1 j, fun j => ?_, iv.2.1.2.2⟩ (Wfr_k iv.2.2.1 (fun f h j => k1 f (by omega) (by omega) (by omega) (by omega) (by omega) (by omega) j)) (fun j => by rw [k1 24 (by decide) (by decide) (by decide) (by decide) (by decide) (by decide)]; exact iv.2.2.2.2.1 j) ⟨nr, Wro_eq wr (fun f h j => k1 f (by omega) (by omega) (by omega) (by omega) (by omega) (by omega) j), fun j hj => by rw [h3 22 j (by decide) (by decide) (by decide) (by decide) (by decide), k1 22 (by decide) (by decide) (by decide) (by decide) (by decide) (by decide)]; exact w22 j hj⟩ h6 (by rw [k1 42 (by decide) (by decide) (by decide) (by decide) (by decide) (by decide)]; exact iv.2.2.2.2.2.2.2.1)
  rcases h5 j with y | y | y
  · exact Or.inl y
  · exact Or.inr y
  · show C' 44 j < 0 ∨ _
    rw [y]; exact iv.2.1.2.1 j
theorem op28 (iv : IV G C S n m c) {a b : Int32} : OpQ d G C S n k m c m0 s0 72 [some (.ref (G.ad 1)), some (.int a), some (.int b), none, none] 196 (fun o => [some (.ref o), some (.int a), some (.int b), none]) := by
  obtain ⟨nr, wr, w22⟩ := iv.2.2.2.2.2.1
  obtain ⟨q3, q1, q2⟩ := iv.2.2.2.2.2.2.1
  have hT := okT iv.1
  have n7 := wr.2.1
  have qv := IV_qv iv
  have no : (ixI nr a = none ∨ ixI G.T b = none) → OpQ d G C S n k m c m0 s0 72 [some (.ref (G.ad 1)), some (.int a), some (.int b), none, none] 196 (fun o => [some (.ref o), some (.int a), some (.int b), none]) := fun h => OpM (c72_0 (d := d + 2) iv.1 (IV_Wpc iv wr) h) (rS := bdS S 10) (RR_bd iv) (fun o F hF => m196_0 (d := d + 1) hF (IV_17 iv) (IV_1 iv) (by rw [qv 21 0 rfl]; exact wr.1) n7 h)
  cases ha : ixI nr a with
  | none => exact no (Or.inl ha)
  | some r0 =>
    cases hb : ixI G.T b with
    | none => exact no (Or.inr hb)
    | some t =>
      obtain ⟨ea, hr⟩ := ixI_some (by omega) ha
      obtain ⟨eb, ht⟩ := ixI_some (by omega) hb
      subst ea eb
      obtain ⟨C', r, h1, h2, h3, h4, h5, h7⟩ := least_both (d := d + 2) (n := n) (k := k) (m0 := m0) (s0 := s0) iv.1 (IV_Wpc iv wr) iv.2.2.2.2.1 (IV_qv iv) w22 hr ht
      refine OpM (rC := (r.1, C')) h1 (rS := r) ⟨rfl, ?_, by rw [h3 17 0 (by decide) (by decide) (by decide)]; exact IV_17 iv⟩ (fun o F hF => h7 (d + 1) o F m hF (IV_17 iv))
      have k1 : ∀ f, f < 43 → f ≠ 0 → f ≠ 14 → f ≠ 15 → ∀ j, C' f j = C f j := fun f a b e g j => h2 f j a b e g
      show IV G C' r.2 n m (c + 1)
      refine IV_fr iv (fun f h j => k1 f (hf_43 h).1 (hf_43 h).2.1 (hf_43 h).2.2.1 (hf_43 h).2.2.2.1 j) (k1 17 (by decide) (by decide) (by decide) (by decide) 0) (fun j _ => h3 16 j (by decide) (by decide) (by decide)) (fun f h j => h3 f j (by omega) (by omega) (by omega)) h4 ⟨fun j => by rw [k1 22 (by decide) (by decide) (by decide) (by decide)]; exact iv.2.1.1 j, fun j => ?_, iv.2.1.2.2⟩ (Wfr_k iv.2.2.1 (fun f h j => k1 f (by omega) (by omega) (by omega) (by omega) j)) (fun j => by rw [k1 24 (by decide) (by decide) (by decide) (by decide)]; exact iv.2.2.2.2.1 j) ⟨nr, Wro_eq wr (fun f h j => k1 f (by omega) (by omega) (by omega) (by omega) j), fun j hj => by rw [h3 22 j (by decide) (by decide) (by decide), k1 22 (by decide) (by decide) (by decide) (by decide)]; exact w22 j hj⟩ ⟨q3, q1, by rw [k1 32 (by decide) (by decide) (by decide) (by decide)]; exact q2⟩ (by rw [k1 42 (by decide) (by decide) (by decide) (by decide)]; exact iv.2.2.2.2.2.2.2.1)
      rcases h5 j with y | y | y
      · exact Or.inl y
      · exact Or.inr y
      · show C' 44 j < 0 ∨ _
        rw [y]; exact iv.2.1.2.1 j
end DU
