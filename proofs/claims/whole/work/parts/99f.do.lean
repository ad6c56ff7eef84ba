/-! ===== what stands where: sound, in the class's numbers ===== -/
def Wsl (G : Gh) (C : St) : Prop := ∀ r q, lvR G r → q < G.sl r → C 7 (40 * r + q) = -1 ∨ ∃ t, t < G.T ∧ C 7 (40 * r + q) = nI t ∧ C 3 t = nI 1 ∧ C 4 t = hN r ∧ C 5 t = nI q
def Wth (G : Gh) (C : St) : Prop := ∀ t, t < G.T → C 3 t = nI 1 → ∃ r q, lvR G r ∧ q < G.sl r ∧ C 4 t = hN r ∧ C 5 t = nI q ∧ C 7 (40 * r + q) = nI t
def Whi (G : Gh) (C : St) : Prop := (∀ y, y < G.H → C 38 y = 0 → C 3 (G.ht y) = nI 2) ∧ (∀ x y, x < G.H → y < G.H → C 38 x = 0 → C 38 y = 0 → G.ht x = G.ht y → x = y)
/-- where things are -/
def JP (G : Gh) (C : St) : Prop := OKC G C ∧ Whm G C ∧ Wsl G C ∧ Wth G C ∧ ∃ ρ, Rk C G.T ρ
def JK (G : Gh) (C : St) : Prop := JP G C ∧ Whi G C ∧ Wnum C ∧ Wrch C
def kf (f : Nat) : Bool := ([1, 2, 3, 4, 5, 6, 7, 8, 9, 10, 11, 13, 19, 20, 35, 38] : List Nat).contains f
section DO
variable {G : Gh} {C C' : St}
theorem hN_inj {r r' : Nat} (h : r < 212) (h' : r' < 212) (e : hN r = hN r') : r = r' := by
  rw [← (hN_row h).1, e, (hN_row h').1]
theorem hN_ne {r : Nat} (h : r < 212) : ¬ hN r = -1 := fun e => (hN_row h).2 (by rw [e]; decide)
theorem sl_idx (hG : OKG G) {r q r' q' : Nat} (h : lvR G r) (hq : q < G.sl r) (h' : lvR G r') (hq' : q' < G.sl r') (e : 40 * r + q = 40 * r' + q') : r = r' ∧ q = q' := by
  have a := hG.2.2.2.2.1 r h
  have b := hG.2.2.2.2.1 r' h'
  omega
theorem Wslot_of (hG : OKG G) (hK : OKC G C) (w : Wsl G C) : Wslot C G.T G.R := fun h r q hr hq => by
  obtain ⟨lv, e⟩ := rowI_lv hG hK hr
  rw [sN_c hG hK lv] at hq
  rw [e]
  exact w r q lv hq
theorem Wthg_of (hG : OKG G) (hK : OKC G C) (w : Wth G C) : Wthg C G.T G.R := fun t ht h3 => by
  obtain ⟨r, q, lv, hq, h4, h5, h7⟩ := w t ht h3
  exact ⟨r, q, by rw [h4]; exact lv_rowI hG hK lv, h5, by rw [sN_c hG hK lv]; exact hq, h7⟩
theorem Wrow_of (hG : OKG G) (hK : OKC G C) : Wrow C G.T G.R := fun h r hr => by
  obtain ⟨lv, e⟩ := rowI_lv hG hK hr
  rw [sN_c hG hK lv]
  exact ⟨hK.2.2.1 r lv, hG.2.2.2.2.1 r lv⟩
theorem par_box (hG : OKG G) (hK : OKC G C) {u r : Nat} (h3 : C 3 u = nI 1) (h4 : C 4 u = hN r) (hr : r < 200) : par C u = some r := by
  unfold par
  have e : hN r = nI (1000 + r) := by unfold hN; rw [if_pos hr]
  rw [h4, e, if_pos ⟨h3, nI_le (by omega) (by omega)⟩, nI_clamp (by omega), Nat.add_sub_cancel_left]
theorem par_rack {u r : Nat} (h4 : C 4 u = hN r) (hr : 200 ≤ r) (h2 : r < 212) : par C u = none := by
  unfold par
  have e : hN r = nI (r - 200) := by unfold hN; rw [if_neg (by omega)]
  rw [h4, e, if_neg (fun y => nI_ge (a := r - 200) (b := 1000) (by omega) (by decide) y.2)]
theorem par_not {u : Nat} (h : ¬ C 3 u = nI 1) : par C u = none := by
  unfold par
  rw [if_neg (fun y => h y.1)]
theorem Wset_of (hG : OKG G) (j : JP G C) (w4 : W4 G) : Wset C G.T := fun t ht h4 k hk => by
  obtain ⟨hK, wh, ws, wt, ρ, rk⟩ := j
  have hT := okT hG
  have k4 : G.kd t = 4 := (kdE hG hK ht (by decide)).mp h4
  have lv : lvR G t := Or.inl ⟨ht, Or.inl k4⟩
  rcases ws t k lv (by rw [w4 t ht k4]; exact hk) with h | ⟨u, u1, u2, u3, u4, u5⟩
  · exact Or.inl h
  · refine Or.inr ⟨u, u1, u2, G.kd u, ?_, hK.2.1 u u1⟩
    have p := par_box hG hK u3 u4 (by omega)
    have := ((rk u u1).2.1 t p).2.2.2 h4
    have z : ¬ 3 < G.kd u := fun y => this ((kdL hG hK u1 (by decide)).mpr y)
    omega
theorem Wtrm_of (hG : OKG G) (j : JP G C) : Wtrm C G.T := fun u hu => by
  obtain ⟨hK, wh, ws, wt, ρ, rk⟩ := j
  have hT := okT hG
  have all : ∀ f u, u < G.T → ρ u < f → trm C f u := by
    intro f
    induction f with
    | zero => intro u _ h; omega
    | succ f ih =>
      intro u hu h
      unfold trm
      refine ⟨by omega, ?_⟩
      cases hp : par C u with
      | none => trivial
      | some v =>
        obtain ⟨a, b, c, e⟩ := (rk u hu).2.1 v hp
        exact ih v a (by omega)
  exact all 8 u hu (by have := (rk u hu).2.2.2.2; omega)
theorem Wdep_of (hG : OKG G) (j : JP G C) : Wdep C G.T G.R := fun h r hr => by
  obtain ⟨hK, wh, ws, wt, ρ, rk⟩ := j
  have hT := okT hG
  have hR := okR hG
  have all : ∀ f r, r < G.T → (G.kd r = 4 ∨ G.kd r = 5) → 7 ≤ ρ r + f → dep C G.T f r := by
    intro f
    induction f with
    | zero =>
      intro r hr hb h
      have a := (rk r hr).2.2.1
      have b := (rk r hr).2.2.2.1
      rcases hb with hb | hb
      · have := b ((kdE hG hK hr (by decide)).mpr hb); omega
      · have := a ((kdE hG hK hr (by decide)).mpr hb); omega
    | succ f ih =>
      intro r hr hb h
      have lv : lvR G r := Or.inl ⟨hr, hb⟩
      unfold dep
      rw [sN_c hG hK lv]
      refine ⟨by omega, hK.2.2.1 r lv, hG.2.2.2.2.1 r lv, fun s hs => ?_⟩
      rcases ws r s lv hs with h | ⟨u, u1, u2, u3, u4, u5⟩
      · exact Or.inl h
      · refine Or.inr ⟨u, u1, u2, fun hbx => ?_⟩
        have p := par_box hG hK u3 u4 (by omega)
        have := ((rk u u1).2.1 r p).2.2.1
        exact ih u u1 (hbx.elim (fun y => Or.inl ((kdE hG hK u1 (by decide)).mp y)) (fun y => Or.inr ((kdE hG hK u1 (by decide)).mp y))) (by omega)
  obtain ⟨lv, e⟩ := rowI_lv hG hK hr
  rcases id lv with ⟨h1, h2⟩ | ⟨h1, h2⟩
  · exact all 8 r h1 h2 (by omega)
  · unfold dep
    rw [sN_c hG hK lv]
    refine ⟨by omega, hK.2.2.1 r lv, hG.2.2.2.2.1 r lv, fun s hs => ?_⟩
    rcases ws r s lv hs with h | ⟨u, u1, u2, u3, u4, u5⟩
    · exact Or.inl h
    · refine Or.inr ⟨u, u1, u2, fun hbx => ?_⟩
      have p := par_rack u4 h1 (by omega)
      have := (rk u u1).1 p
      exact all 7 u u1 (hbx.elim (fun y => Or.inl ((kdE hG hK u1 (by decide)).mp y)) (fun y => Or.inr ((kdE hG hK u1 (by decide)).mp y))) (by omega)
theorem wt_of (hG : OKG G) (j : JP G C) : ∀ t, t < G.T → C 3 t = nI 1 → ¬ C 4 t = -1 := fun t ht h3 h4 => by
  obtain ⟨r, q, lv, hq, e4, _, _⟩ := j.2.2.2.1 t ht h3
  exact hN_ne (lr_212 hG lv) (by rw [← e4]; exact h4)
theorem Rk_eq {T : Nat} {ρ : Nat → Nat} (h2 : ∀ j, C' 2 j = C 2 j) (h3 : ∀ j, C' 3 j = C 3 j) (h4 : ∀ j, C' 4 j = C 4 j) (rk : Rk C T ρ) : Rk C' T ρ := fun u hu => by
  rw [par_eq h3 h4, h2]
  obtain ⟨a, b, c⟩ := rk u hu
  refine ⟨a, fun v hv => ?_, c⟩
  rw [h2]
  exact b v hv
theorem JP_eq (h : ∀ f, kf f = true → ∀ j, C' f j = C f j) (j : JP G C) : JP G C' := by
  obtain ⟨hK, wh, ws, wt, ρ, rk⟩ := j
  refine ⟨OKC_eq hK (fun f hf j => h f (by rcases hf with y | y | y | y | y | y | y | y | y <;> subst y <;> rfl) j), Whm_eq wh (fun f hf j => h f (by rcases hf with y | y <;> subst y <;> rfl) j), fun r q lv hq => ?_, fun t ht h3 => ?_, ρ, Rk_eq (h 2 rfl) (h 3 rfl) (h 4 rfl) rk⟩
  · rw [h 7 rfl]
    rcases ws r q lv hq with a | ⟨t, a⟩
    · exact Or.inl a
    · exact Or.inr ⟨t, by rw [h 3 rfl, h 4 rfl, h 5 rfl]; exact a⟩
  · rw [h 3 rfl] at h3
    obtain ⟨r, q, a⟩ := wt t ht h3
    exact ⟨r, q, by rw [h 7 rfl, h 4 rfl, h 5 rfl]; exact a⟩
theorem JK_eq (h : ∀ f, kf f = true → ∀ j, C' f j = C f j) (j : JK G C) : JK G C' := by
  obtain ⟨jp, wh, wn, wr⟩ := j
  refine ⟨JP_eq h jp, ⟨fun y hy h3 => ?_, fun x y hx hy h1 h2 e => ?_⟩, ⟨fun j => ?_, fun j => ?_⟩, fun j => ?_⟩
  · rw [h 38 rfl] at h3
    rw [h 3 rfl]
    exact wh.1 y hy h3
  · rw [h 38 rfl] at h1 h2
    exact wh.2 x y hx hy h1 h2 e
  · rw [h 9 rfl]; exact wn.1 j
  · rw [h 20 rfl]; exact wn.2 j
  · rw [h 10 rfl, h 11 rfl]; exact wr j
/-- a thing is under another -/
noncomputable def ancB (C : St) (t u : Nat) : Bool := @decide (∃ f c, dn C f t u = some c) (Classical.propDecidable _)
theorem anc_iff {t u : Nat} : ancB C t u = true ↔ ∃ f c, dn C f t u = some c := by
  unfold ancB
  exact @decide_eq_true_iff _ (Classical.propDecidable _)
theorem anc_self {t : Nat} : ancB C t t = true := anc_iff.mpr ⟨1, tkN C t, by unfold dn; rw [if_pos rfl]⟩
theorem anc_up {t u v : Nat} (ne : u ≠ t) (hp : par C u = some v) : ancB C t u = ancB C t v := by
  rw [Bool.eq_iff_iff, anc_iff, anc_iff]
  constructor
  · rintro ⟨f, c, h⟩
    cases f with
    | zero => unfold dn at h; cases h
    | succ f =>
      unfold dn at h
      rw [if_neg ne, hp] at h
      simp only at h
      cases hd : dn C f t v with
      | none => rw [hd] at h; cases h
      | some e => exact ⟨f, e, hd⟩
  · rintro ⟨f, c, h⟩
    refine ⟨f + 1, tkN C u + c, ?_⟩
    unfold dn
    rw [if_neg ne, hp]
    simp only [h]
theorem anc_none {t u : Nat} (ne : u ≠ t) (hp : par C u = none) : ancB C t u = false := by
  rw [Bool.eq_false_iff]
  intro h
  obtain ⟨f, c, h⟩ := anc_iff.mp h
  cases f with
  | zero => unfold dn at h; cases h
  | succ f =>
    unfold dn at h
    rw [if_neg ne, hp] at h
    cases h
theorem anc_rho {T : Nat} {ρ : Nat → Nat} (rk : Rk C T ρ) {t : Nat} : ∀ f u c, u < T → dn C f t u = some c → ρ t ≤ ρ u ∧ (u ≠ t → (C 2 t = nI 4 ∨ C 2 t = nI 5)) := by
  intro f
  induction f with
  | zero => intro u c _ h; unfold dn at h; cases h
  | succ f ih =>
    intro u c hu h
    unfold dn at h
    by_cases e : u = t
    · subst e
      exact ⟨Nat.le_refl _, fun y => absurd rfl y⟩
    · rw [if_neg e] at h
      cases hp : par C u with
      | none => rw [hp] at h; cases h
      | some v =>
        rw [hp] at h
        simp only at h
        obtain ⟨a, b, g, _⟩ := (rk u hu).2.1 v hp
        cases hd : dn C f t v with
        | none => rw [hd] at h; cases h
        | some e2 =>
          obtain ⟨i1, i2⟩ := ih v e2 a hd
          refine ⟨by omega, fun _ => ?_⟩
          by_cases ev : v = t
          · rw [← ev]; exact b
          · exact i2 ev
theorem dn_g {T : Nat} {ρ : Nat → Nat} (rk : Rk C T ρ) {t : Nat} : ∀ f g u c, u < T → ρ u < g → dn C f t u = some c → dn C g t u = some c := by
  intro f
  induction f with
  | zero => intro g u c _ _ h; unfold dn at h; cases h
  | succ f ih =>
    intro g u c hu hg h
    cases g with
    | zero => omega
    | succ g =>
      unfold dn at h ⊢
      by_cases e : u = t
      · rw [if_pos e] at h ⊢; exact h
      · rw [if_neg e] at h ⊢
        cases hp : par C u with
        | none => rw [hp] at h; cases h
        | some v =>
          rw [hp] at h
          simp only at h ⊢
          obtain ⟨a, b, q, _⟩ := (rk u hu).2.1 v hp
          cases hd : dn C f t v with
          | none => rw [hd] at h; cases h
          | some e2 =>
            rw [ih g v e2 a (by omega) hd]
            rw [hd] at h
            exact h
theorem upW_rho {T : Nat} {ρ : Nat → Nat} (rk : Rk C T ρ) {t : Nat} : ∀ f u, u < T → C 2 u = nI 5 → ρ u < f → ρ u + 1 ≤ upW C f t u := by
  intro f
  induction f with
  | zero => intro u _ _ h; omega
  | succ f ih =>
    intro u hu h5 hf
    unfold upW
    have one : 1 ≤ (if u = t then 100 else tkN C u) := by
      by_cases e : u = t
      · rw [if_pos e]; decide
      · rw [if_neg e]; unfold tkN; rw [if_pos h5]; exact Nat.le_refl _
    cases hp : par C u with
    | none =>
      have := (rk u hu).1 hp
      simp only
      omega
    | some v =>
      obtain ⟨a, b, q, s⟩ := (rk u hu).2.1 v hp
      simp only
      have v5 : C 2 v = nI 5 := b.elim (fun y => by
        have := s y
        rw [h5] at this
        exact absurd ((nI_ltI (by decide) (by decide)).mpr (show 3 < 5 by decide)) this) id
      have := ih v a v5 (by omega)
      omega
end DO
