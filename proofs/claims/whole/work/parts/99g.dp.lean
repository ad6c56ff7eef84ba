/-! ===== a thing is laid, a thing is lifted: still sound ===== -/
/-- a thing comes into a slot -/
def LayQ (C C' : St) (t r q : Nat) : Prop := C' 3 t = nI 1 ∧ C' 4 t = hN r ∧ C' 5 t = nI q ∧ C' 7 (40 * r + q) = nI t ∧ (∀ j, j ≠ t → C' 3 j = C 3 j ∧ C' 4 j = C 4 j ∧ C' 5 j = C 5 j) ∧ (∀ j, j ≠ 40 * r + q → C' 7 j = C 7 j) ∧ (∀ f, f = 1 ∨ f = 2 ∨ f = 6 ∨ f = 8 ∨ f = 13 ∨ f = 19 ∨ f = 35 → ∀ j, C' f j = C f j)
/-- a thing goes out of its slot -/
def LifQ (C C' : St) (t r q : Nat) : Prop := ¬ C' 3 t = nI 1 ∧ C' 4 t = -1 ∧ C' 7 (40 * r + q) = -1 ∧ (∀ j, j ≠ t → C' 3 j = C 3 j ∧ C' 4 j = C 4 j ∧ C' 5 j = C 5 j) ∧ (∀ j, j ≠ 40 * r + q → C' 7 j = C 7 j) ∧ (∀ f, f = 1 ∨ f = 2 ∨ f = 6 ∨ f = 8 ∨ f = 13 ∨ f = 19 ∨ f = 35 → ∀ j, C' f j = C f j)
section DP
variable {G : Gh} {C C' : St} {t r q : Nat}
theorem par_ne (h : C' 3 t = C 3 t ∧ C' 4 t = C 4 t) : par C' t = par C t := by
  unfold par
  rw [h.1, h.2]
theorem OKC_mv (hK : OKC G C) (h : ∀ f, f = 1 ∨ f = 2 ∨ f = 6 ∨ f = 8 ∨ f = 13 ∨ f = 19 ∨ f = 35 → ∀ j, C' f j = C f j) (h4 : ∀ t, t < G.T → C' 4 t = -1 ∨ ∃ r, lvR G r ∧ C' 4 t = hN r) (h7 : ∀ r, lvR G r → ∀ q, q < G.sl r → C' 7 (40 * r + q) = -1 ∨ ∃ t, t < G.T ∧ C' 7 (40 * r + q) = nI t) : OKC G C' :=
  ⟨⟨by rw [h 1 (by omega)]; exact hK.1.1, by rw [h 8 (by omega)]; exact hK.1.2.1, by rw [h 19 (by omega)]; exact hK.1.2.2.1, by rw [h 35 (by omega)]; exact hK.1.2.2.2⟩, fun t ht => by rw [h 2 (by omega)]; exact hK.2.1 t ht, fun r hr => by rw [h 6 (by omega)]; exact hK.2.2.1 r hr, fun t ht => by rw [h 13 (by omega)]; exact hK.2.2.2.1 t ht, h4, h7⟩
theorem JP_lay (hG : OKG G) (j : JP G C) (ht : t < G.T) (lv : lvR G r) (hq : q < G.sl r) (h7 : C 7 (40 * r + q) = -1) (h3 : ¬ C 3 t = nI 1) (hly : lyF C G.T r q t = 0) (L : LayQ C C' t r q) : JP G C' := by
  obtain ⟨hK, wh, ws, wt, ρ, rk⟩ := j
  obtain ⟨l3, l4, l5, l7, lo, l7o, lf⟩ := L
  have hT := okT hG
  have r212 := lr_212 hG lv
  have wh' : Whm G C' := fun u hu => by
    by_cases e : u = t
    · subst e; exact Or.inr ⟨l3, r, lv, l4⟩
    · rw [(lo u e).1, (lo u e).2.1]; exact wh u hu
  have ws' : Wsl G C' := fun r' q' lv' hq' => by
    by_cases e : 40 * r' + q' = 40 * r + q
    · obtain ⟨e1, e2⟩ := sl_idx hG lv' hq' lv hq e
      subst e1 e2
      exact Or.inr ⟨t, ht, l7, l3, l4, l5⟩
    · rw [l7o _ e]
      rcases ws r' q' lv' hq' with h | ⟨u, u1, u2, u3, u4, u5⟩
      · exact Or.inl h
      · have ne : u ≠ t := fun y => h3 (by rw [← y]; exact u3)
        exact Or.inr ⟨u, u1, u2, by rw [(lo u ne).1]; exact u3, by rw [(lo u ne).2.1]; exact u4, by rw [(lo u ne).2.2]; exact u5⟩
  have wt' : Wth G C' := fun u hu hu3 => by
    by_cases e : u = t
    · subst e; exact ⟨r, q, lv, hq, l4, l5, l7⟩
    · rw [(lo u e).1] at hu3
      obtain ⟨r', q', a, b, c, f, g⟩ := wt u hu hu3
      refine ⟨r', q', a, b, by rw [(lo u e).2.1]; exact c, by rw [(lo u e).2.2]; exact f, ?_⟩
      rw [l7o _ (fun y => by rw [y, h7] at g; exact absurd g.symm (fun z => nI_pos (n := u) (by omega) (by rw [z]; decide)))]
      exact g
  have hK' : OKC G C' := OKC_mv hK lf (fun u hu => (wh' u hu).elim Or.inl (fun y => Or.inr y.2)) (fun r' lv' q' hq' => (ws' r' q' lv' hq').elim Or.inl (fun ⟨u, a, b, _⟩ => Or.inr ⟨u, a, b⟩))
  refine ⟨hK', wh', ws', wt', ?_⟩
  have l2 : ∀ j, C' 2 j = C 2 j := lf 2 (by omega)
  have pt : par C t = none := par_not h3
  have ρt : ρ t = 0 := (rk t ht).1 pt
  have pn : ∀ u, u ≠ t → par C' u = par C u := fun u ne => par_ne ⟨(lo u ne).1, (lo u ne).2.1⟩
  by_cases hr : r < 200
  · have p' : par C' t = some r := par_box hG hK' l3 l4 hr
    have rT : r < G.T := by
      rcases lv with ⟨a, _⟩ | ⟨a, _⟩
      · exact a
      · omega
    have rb : C 2 r = nI 4 ∨ C 2 r = nI 5 := by
      rcases lv with ⟨a, b⟩ | ⟨a, _⟩
      · exact b.elim (fun y => Or.inl ((kdE hG hK a (by decide)).mpr y)) (fun y => Or.inr ((kdE hG hK a (by decide)).mpr y))
      · omega
    have ly : (C 2 r = nI 4 → ¬ nI 3 < C 2 t) ∧ upW C 8 t r + dnM C 8 t G.T ≤ 6 := by
      unfold lyF at hly
      rw [h7, if_neg (by decide)] at hly
      by_cases g : r < 200 ∧ C 2 r = nI 4 ∧ nI 3 < C 2 t
      · rw [if_pos g] at hly; cases hly
      · rw [if_neg g, if_pos hr] at hly
        refine ⟨fun a b => g ⟨hr, a, b⟩, ?_⟩
        by_cases z : 6 < upW C 8 t r + dnM C 8 t G.T
        · rw [if_pos z] at hly; cases hly
        · omega
    have nar : ancB C t r = false := by
      rw [Bool.eq_false_iff]
      intro h
      obtain ⟨f, c, h⟩ := anc_iff.mp h
      have h8 := dn_g rk f 8 r c rT (by have := (rk r rT).2.2.2.2; omega) h
      have t100 : ∀ f u c, dn C f t u = some c → 100 ≤ upW C f t u := by
        intro f
        induction f with
        | zero => intro u c h; unfold dn at h; cases h
        | succ f ih =>
          intro u c h
          unfold dn at h
          unfold upW
          by_cases e : u = t
          · rw [if_pos e]; omega
          · rw [if_neg e] at h
            cases hp : par C u with
            | none => rw [hp] at h; cases h
            | some v =>
              rw [hp] at h
              simp only at h ⊢
              cases hd : dn C f t v with
              | none => rw [hd] at h; cases h
              | some e2 =>
                have := ih v e2 hd
                omega
      have := t100 8 r c h8
      omega
    have nrt : r ≠ t := fun y => by rw [y, anc_self] at nar; cases nar
    obtain ⟨b, hb⟩ : ∃ b, b = ρ r + 1 := ⟨_, rfl⟩
    obtain ⟨ρ', hρ'⟩ : ∃ ρ' : Nat → Nat, ∀ u, ρ' u = if ancB C t u = true then ρ u + b else ρ u := ⟨_, fun _ => rfl⟩
    have up : ∀ u v, u < G.T → u ≠ t → par C u = some v → ρ' u = ρ' v + 1 := fun u v hu ne hp => by
      have := ((rk u hu).2.1 v hp).2.2.1
      rw [hρ', hρ', anc_up ne hp]
      by_cases a : ancB C t v = true
      · rw [if_pos a, if_pos a]; omega
      · rw [if_neg a, if_neg a]; omega
    have ρ't : ρ' t = b := by rw [hρ', if_pos anc_self, ρt]; omega
    have ρ'r : ρ' r = ρ r := by rw [hρ', nar]; rfl
    have trunk : ∀ u, u < G.T → C 2 u = nI 5 → ρ' u ≤ 5 := fun u hu h5 => by
      rw [hρ']
      by_cases a : ancB C t u = true
      · rw [if_pos a]
        obtain ⟨f, c, h⟩ := anc_iff.mp a
        have h8 := dn_g rk f 8 u c hu (by have := (rk u hu).2.2.2.2; omega) h
        have cM := dnM_ge h5 h8 G.T hu
        obtain ⟨jj, j1, j2, _⟩ := dn_td hG hK (Wthg_of hG hK wt) rk 8 u c hu h5 h8
        have r5 : C 2 r = nI 5 := rb.elim (fun y => by
          have n3 := ly.1 y
          by_cases e : u = t
          · subst e
            rw [h5] at n3
            exact absurd ((nI_ltI (by decide) (by decide)).mpr (show 3 < 5 by decide)) n3
          · rcases (anc_rho rk 8 u c hu h8).2 e with z | z
            · rw [z] at n3
              exact absurd ((nI_ltI (by decide) (by decide)).mpr (show 3 < 4 by decide)) n3
            · rw [z] at n3
              exact absurd ((nI_ltI (by decide) (by decide)).mpr (show 3 < 5 by decide)) n3) id
        have := upW_rho rk (t := t) 8 r rT r5 (by have := (rk r rT).2.2.2.2; omega)
        omega
      · rw [if_neg a]; exact (rk u hu).2.2.1 h5
    have setr : C 2 t = nI 4 → C 2 r = nI 5 := fun h4 => rb.elim (fun y => by
      have n3 := ly.1 y
      rw [h4] at n3
      exact absurd ((nI_ltI (by decide) (by decide)).mpr (show 3 < 4 by decide)) n3) id
    have setb : ∀ u, u < G.T → C 2 u = nI 4 → ρ' u ≤ 6 := fun u hu h4 => by
      by_cases e : u = t
      · subst e
        rw [ρ't, hb]
        have := (rk r rT).2.2.1 (setr h4)
        omega
      · cases hp : par C u with
        | none =>
          rw [hρ', anc_none e hp]
          exact (rk u hu).2.2.2.1 h4
        | some v =>
          obtain ⟨v1, v2, v3, v4⟩ := (rk u hu).2.1 v hp
          have v5 : C 2 v = nI 5 := v2.elim (fun y => by
            have n3 := v4 y
            rw [h4] at n3
            exact absurd ((nI_ltI (by decide) (by decide)).mpr (show 3 < 4 by decide)) n3) id
          have := trunk v v1 v5
          rw [up u v hu e hp]
          omega
    have box6 : ∀ v, v < G.T → (C 2 v = nI 4 ∨ C 2 v = nI 5) → ρ' v ≤ 6 := fun v hv h => h.elim (setb v hv) (fun y => by have := trunk v hv y; omega)
    refine ⟨ρ', fun u hu => ⟨fun hp => ?_, fun v hp => ?_, fun h => ?_, fun h => ?_, ?_⟩⟩
    · by_cases e : u = t
      · rw [e, p'] at hp; cases hp
      · rw [pn u e] at hp
        rw [hρ', anc_none e hp]
        exact (rk u hu).1 hp
    · by_cases e : u = t
      · subst e
        rw [p'] at hp
        have := Option.some.inj hp
        subst this
        rw [l2, l2]
        exact ⟨rT, rb, by rw [ρ't, ρ'r, hb], fun h => ly.1 h⟩
      · rw [pn u e] at hp
        obtain ⟨v1, v2, v3, v4⟩ := (rk u hu).2.1 v hp
        rw [l2, l2]
        exact ⟨v1, v2, up u v hu e hp, v4⟩
    · rw [l2] at h; exact trunk u hu h
    · rw [l2] at h; exact setb u hu h
    · by_cases e : u = t
      · rw [e, ρ't, hb, ← ρ'r]
        have := box6 r rT rb
        omega
      · cases hp : par C u with
        | none =>
          rw [hρ', anc_none e hp]
          exact (rk u hu).2.2.2.2
        | some v =>
          obtain ⟨v1, v2, v3, v4⟩ := (rk u hu).2.1 v hp
          have := box6 v v1 v2
          rw [up u v hu e hp]
          omega
  · have p' : par C' t = none := par_rack l4 (by omega) r212
    have pe : ∀ u, par C' u = par C u := fun u => by
      by_cases e : u = t
      · rw [e, p', pt]
      · exact pn u e
    refine ⟨ρ, fun u hu => ?_⟩
    rw [pe, l2]
    obtain ⟨a, b, c⟩ := rk u hu
    refine ⟨a, fun v hv => ?_, c⟩
    rw [l2]
    exact b v hv
theorem JP_lif (hG : OKG G) (j : JP G C) (ht : t < G.T) (lv : lvR G r) (hq : q < G.sl r) (h4 : C 4 t = hN r) (h5 : C 5 t = nI q) (h7 : C 7 (40 * r + q) = nI t) (L : LifQ C C' t r q) : JP G C' := by
  obtain ⟨hK, wh, ws, wt, ρ, rk⟩ := j
  obtain ⟨l3, l4, l7, lo, l7o, lf⟩ := L
  have hT := okT hG
  have r212 := lr_212 hG lv
  have wh' : Whm G C' := fun u hu => by
    by_cases e : u = t
    · subst e; exact Or.inl l4
    · rw [(lo u e).1, (lo u e).2.1]; exact wh u hu
  have ws' : Wsl G C' := fun r' q' lv' hq' => by
    by_cases e : 40 * r' + q' = 40 * r + q
    · rw [e]; exact Or.inl l7
    · rw [l7o _ e]
      rcases ws r' q' lv' hq' with h | ⟨u, u1, u2, u3, u4, u5⟩
      · exact Or.inl h
      · have ne : u ≠ t := fun y => by
          subst y
          have e1 := hN_inj (lr_212 hG lv') r212 (u4.symm.trans h4)
          have b1 := hG.2.2.2.2.1 r lv
          have b2 := hG.2.2.2.2.1 r' lv'
          have e2 := (nI_eq (a := q') (b := q) (by omega) (by omega)).mp (u5.symm.trans h5)
          exact e (by rw [e1, e2])
        exact Or.inr ⟨u, u1, u2, by rw [(lo u ne).1]; exact u3, by rw [(lo u ne).2.1]; exact u4, by rw [(lo u ne).2.2]; exact u5⟩
  have wt' : Wth G C' := fun u hu hu3 => by
    by_cases e : u = t
    · subst e; exact absurd hu3 l3
    · rw [(lo u e).1] at hu3
      obtain ⟨r', q', a, b, c, f, g⟩ := wt u hu hu3
      refine ⟨r', q', a, b, by rw [(lo u e).2.1]; exact c, by rw [(lo u e).2.2]; exact f, ?_⟩
      rw [l7o _ (fun y => by
        rw [y, h7] at g
        exact e ((nI_eq (by omega) (by omega)).mp g).symm)]
      exact g
  have hK' : OKC G C' := OKC_mv hK lf (fun u hu => (wh' u hu).elim Or.inl (fun y => Or.inr y.2)) (fun r' lv' q' hq' => (ws' r' q' lv' hq').elim Or.inl (fun ⟨u, a, b, _⟩ => Or.inr ⟨u, a, b⟩))
  refine ⟨hK', wh', ws', wt', ?_⟩
  have l2 : ∀ j, C' 2 j = C 2 j := lf 2 (by omega)
  have p' : par C' t = none := par_not l3
  have pn : ∀ u, u ≠ t → par C' u = par C u := fun u ne => par_ne ⟨(lo u ne).1, (lo u ne).2.1⟩
  obtain ⟨ρ', hρ'⟩ : ∃ ρ' : Nat → Nat, ∀ u, ρ' u = if ancB C t u = true then ρ u - ρ t else ρ u := ⟨_, fun _ => rfl⟩
  have le : ∀ u, ρ' u ≤ ρ u := fun u => by
    rw [hρ']
    split
    · omega
    · omega
  refine ⟨ρ', fun u hu => ⟨fun hp => ?_, fun v hp => ?_, fun h => ?_, fun h => ?_, ?_⟩⟩
  · by_cases e : u = t
    · rw [e, hρ', if_pos anc_self]; omega
    · rw [pn u e] at hp
      rw [hρ', anc_none e hp]
      exact (rk u hu).1 hp
  · have e : u ≠ t := fun y => by rw [y, p'] at hp; cases hp
    rw [pn u e] at hp
    obtain ⟨v1, v2, v3, v4⟩ := (rk u hu).2.1 v hp
    rw [l2, l2]
    refine ⟨v1, v2, ?_, v4⟩
    rw [hρ', hρ', anc_up e hp]
    by_cases a : ancB C t v = true
    · rw [if_pos a, if_pos a]
      obtain ⟨f, c, h⟩ := anc_iff.mp a
      have := (anc_rho rk f v c v1 h).1
      omega
    · rw [if_neg a, if_neg a]; omega
  · rw [l2] at h
    have := (rk u hu).2.2.1 h
    have := le u
    omega
  · rw [l2] at h
    have := (rk u hu).2.2.2.1 h
    have := le u
    omega
  · have := (rk u hu).2.2.2.2
    have := le u
    omega
end DP
