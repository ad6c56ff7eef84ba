/-! ===== calls: back ===== -/
section ED
variable {d k : Nat} {m0 : Mm} {s0 : Nat → Nat × Nat} {G : Gh} {C C' S : St} {n m c : Nat}
theorem JP_x (h : ∀ f, kf f = true → f ≠ 38 → ∀ j, C' f j = C f j) (j : JP G C) : JP G C' := by
  obtain ⟨hK, wh, ws, wt, ρ, rk⟩ := j
  refine ⟨OKC_eq hK (fun f hf j => h f (by rcases hf with y | y | y | y | y | y | y | y | y <;> subst y <;> rfl) (by omega) j), Whm_eq wh (fun f hf j => h f (by rcases hf with y | y <;> subst y <;> rfl) (by omega) j), fun r q lv hq => ?_, fun t ht h3 => ?_, ρ, Rk_eq (h 2 rfl (by decide)) (h 3 rfl (by decide)) (h 4 rfl (by decide)) rk⟩
  · rw [h 7 rfl (by decide)]
    rcases ws r q lv hq with a | ⟨t, a⟩
    · exact Or.inl a
    · exact Or.inr ⟨t, by rw [h 3 rfl (by decide), h 4 rfl (by decide), h 5 rfl (by decide)]; exact a⟩
  · rw [h 3 rfl (by decide)] at h3
    obtain ⟨r, q, a⟩ := wt t ht h3
    exact ⟨r, q, by rw [h 7 rfl (by decide), h 4 rfl (by decide), h 5 rfl (by decide)]; exact a⟩
theorem uY_f {P : Pw} {y f j : Nat} {s : Int32} (h : f ≠ 38) : ow (uY P y s) C f j = ow P C f j := by rw [uY_eq, sup_f h]
theorem uY_38 {P : Pw} {y j : Nat} {s : Int32} (hP : ∀ j, P 38 j = none) : ow (uY P y s) C 38 j = if j = y then s else C 38 j := by
  rw [uY_eq]
  by_cases e : j = y
  · rw [if_pos e, e, sup_eq]
  · rw [if_neg e, sup_j e, ow_n (hP j)]
theorem uM_38n {t z : Nat} {a3 a4 a5 a7 p : Int32} (j : Nat) : uM t a3 a4 a5 z a7 p 38 j = none := by
  unfold uM
  rw [if_neg (by omega), if_neg (by omega), if_neg (by omega), if_neg (by omega), if_neg (by omega)]
theorem bk_my {t z y f j : Nat} {a3 a4 a5 a7 p s : Int32} (h : hf f = true) : ow (uY (uM t (C 3 t) (C 4 t) (C 5 t) z (C 7 z) (C 34 0)) y (C 38 y)) (ow (uY (uM t a3 a4 a5 z a7 p) y s) (bsC C m)) f j = C f j := by
  by_cases e : f = 38
  · subst e
    rw [uY_38 uM_38n, uY_38 uM_38n, bsC_f (by decide) (by decide) (by decide) (by decide)]
    by_cases e2 : j = y
    · rw [if_pos e2, e2]
    · rw [if_neg e2, if_neg e2]
  · rw [uY_f e]
    have := bk_mv (C := C) (m := m) (t := t) (z := z) (a3 := a3) (a4 := a4) (a5 := a5) (a7 := a7) (p := p) (f := f) (j := j) h
    rw [← this]
    unfold ow
    have e3 : uY (uM t a3 a4 a5 z a7 p) y s f j = uM t a3 a4 a5 z a7 p f j := by
      unfold uY
      rw [if_neg (fun q => e q.1)]
    rw [e3]
theorem back_eq {t r q y : Nat} {p : Int32} : lvC2 (sup (sup (mvI (sup (sup (lkC C) 17 0 (nI (m + 1))) 38 y (nI 1)) t r q (nI 1)) 34 0 p) 0 0 (nI 0)) = ow (uY (uM t (nI 1) (hN r) (nI q) (40 * r + q) (nI t) p) y (nI 1)) (bsC C m) := by
  have e42 : sup (lkC C) 17 0 (nI (m + 1)) 42 0 = C 42 0 + nI 1 + nI 1 := by
    unfold lkC
    rw [sup_f (by decide), sup_eq]
  rw [mvI_eq, ← ow_sup (uM_38n y), ← uY_eq, ow_sup (by rfl)]
  unfold lvC2
  rw [uY_f (by decide), uM_f (by decide) (by decide) (by decide) (by decide) (by decide), sup_f (show ¬ 42 = 0 by decide), e42, i_as, i_as, ow_sup (by rfl), lkC_bs (b := 0)]
theorem Qv_y {P : Pw} {B S1 : St} {y : Nat} {s : Int32} (h : Qv (ow P B) S1) : Qv (ow (uY P y s) B) S1 := fun f j hf => by
  rw [uY_f (fun z => by subst z; cases hf)]
  exact h f j hf
theorem IV_back {t r q y : Nat} {g p : Int32} (iv : IV G C S n m c) (hc : m < 512) (hy : y < G.H) (het : G.ht y = t) (ht : t < G.T) (lv : lvR G r) (hq : q < G.sl r) (h7 : C 7 (40 * r + q) = -1) (h3 : C 3 t = nI 2) (h38 : C 38 y = 0) (hly : lyF C G.T r q t = 0) (hg : p + g = C 34 0) : IV (gC G n m 4 (mvV G (lkC C) t (lkC C 34 0) (.ref (aJ G y)) (nI 0))) (ow (uY (uM t (nI 1) (hN r) (nI q) (40 * r + q) (nI t) p) y (nI 1)) (bsC C m)) (sup (stS (sup (sup (layS (lkd S) r q t (hN r)) 38 y (nI 2)) 34 0 p) m (nI 5) (nI y) g (nI 0) (nI 0) (nI 0)) 0 0 (nI 0)) (n + 1) (m + 1) (c + 1) := by
  have qv := IV_qv iv
  have hG := iv.1
  have hH := okH hG
  have n3 : ¬ C 3 t = nI 1 := by rw [h3]; decide
  have h4 : C 4 t = -1 := ((IV_JP iv).2.1 t ht).elim id (fun y => absurd y.1 n3)
  obtain ⟨jp, wi, wn, wr⟩ := IV_jk iv
  obtain ⟨s0', s1, s2, s3, s4, s5, s6⟩ := stS_16 (S := sup (sup (layS (lkd S) r q t (hN r)) 38 y (nI 2)) 34 0 p) (m := m) (w := nI 5) (a := nI y) (b := g) (c' := nI 0) (e := nI 0) (g := nI 0)
  have ob : ∀ f, f ≠ 3 → f ≠ 4 → f ≠ 5 → f ≠ 7 → f ≠ 34 → f ≠ 0 → f ≠ 14 → f ≠ 15 → f ≠ 17 → f ≠ 38 → ∀ j, ow (uY (uM t (nI 1) (hN r) (nI q) (40 * r + q) (nI t) p) y (nI 1)) (bsC C m) f j = C f j := fun f a b c' e g x y z w v j => by rw [uY_f v, uM_f a b c' e g, bsC_f x y z w]
  have o34 : ow (uY (uM t (nI 1) (hN r) (nI q) (40 * r + q) (nI t) p) y (nI 1)) (bsC C m) 34 0 = p := by rw [uY_f (by decide), uM_34, if_pos rfl]
  have o38 : ∀ j, ow (uY (uM t (nI 1) (hN r) (nI q) (40 * r + q) (nI t) p) y (nI 1)) (bsC C m) 38 j = if j = y then nI 1 else C 38 j := fun j => by rw [uY_38 uM_38n, bsC_f (by decide) (by decide) (by decide) (by decide)]
  have sg : ∀ f, f ≠ 0 → f ≠ 16 → f ≠ 17 → f ≠ 34 → f ≠ 38 → ∀ j, sup (stS (sup (sup (layS (lkd S) r q t (hN r)) 38 y (nI 2)) 34 0 p) m (nI 5) (nI y) g (nI 0) (nI 0) (nI 0)) 0 0 (nI 0) f j = layS (lkd S) r q t (hN r) f j := fun f a b c' e g j => by rw [st_bs b, sup_f a, sup_f c', sup_f e, sup_f g]
  have sf : ∀ f, f ≠ 0 → f ≠ 14 → f ≠ 15 → f ≠ 16 → f ≠ 17 → f ≠ 3 → f ≠ 4 → f ≠ 5 → f ≠ 7 → f ≠ 34 → f ≠ 38 → ∀ j, sup (stS (sup (sup (layS (lkd S) r q t (hN r)) 38 y (nI 2)) 34 0 p) m (nI 5) (nI y) g (nI 0) (nI 0) (nI 0)) 0 0 (nI 0) f j = S f j := fun f a b c' e g x y z w u v j => by rw [sg f a e g u v, lay_f x y z w, lkd_f b c']
  refine IV_push (P := uY (uM t (C 3 t) (C 4 t) (C 5 t) (40 * r + q) (C 7 (40 * r + q)) (C 34 0)) y (C 38 y)) iv hc (by rw [uY_f (by decide), uM_f (by decide) (by decide) (by decide) (by decide) (by decide)]; exact bsC_17) ?_ (fun f h j => bk_my h) ?_ (Qv_y (Qv_mv (Qv_bs qv) (fun j => ?_) (fun j => ?_) (fun j => ?_) (fun j => ?_) (fun f j h a b e g => ?_))) (fun f h j => ob f (by omega) (by omega) (by omega) (by omega) (by omega) (by omega) (by omega) (by omega) (by omega) (by omega) j) (fun f h j hj => ob f (by omega) (by omega) (by omega) (by omega) (by omega) (by omega) (by omega) (by omega) (by omega) (by omega) j) (ob 42 (by decide) (by decide) (by decide) (by decide) (by decide) (by decide) (by decide) (by decide) (by decide) (by decide) 0) (fun j => sf 22 (by decide) (by decide) (by decide) (by decide) (by decide) (by decide) (by decide) (by decide) (by decide) (by decide) (by decide) j) (fun j hj => ?_) (fun u hu h => ?_) (fun x hx => ?_)
  · refine Or.inr (Or.inr (Or.inr (Or.inr (Or.inr ⟨r, q, y, C 5 t, g, ⟨Nat.lt_of_lt_of_le (Nat.lt_succ_self m) (Nat.le_max_right _ _), if_pos rfl, ?_, ?_, ?_, ?_, ?_, ?_, ?_⟩, ?_, ?_, ?_, hy, ?_, lv, hq, ?_, ?_, ?_, ?_, ?_⟩))))
    · show (if m = m then mvV G (lkC C) t (lkC C 34 0) (.ref (aJ G y)) (nI 0) else G.cv m) 0 = Value.ref (aT _ (G.ht y))
      rw [if_pos rfl, het]
      exact congrArg Value.ref (ge_T hG (gC_GE (G := G)) ht).symm
    · show (if m = m then mvV G (lkC C) t (lkC C 34 0) (.ref (aJ G y)) (nI 0) else G.cv m) 1 = _
      rw [if_pos rfl]
      show Value.int (lkC C 3 t) = _
      rw [lk_kf 3 rfl, h3]
    · show (if m = m then mvV G (lkC C) t (lkC C 34 0) (.ref (aJ G y)) (nI 0) else G.cv m) 2 = _
      rw [if_pos rfl]
      show rfH G (lkC C 4 t) = _
      rw [lk_kf 4 rfl, h4]; exact rfH_n m1_0
    · show (if m = m then mvV G (lkC C) t (lkC C 34 0) (.ref (aJ G y)) (nI 0) else G.cv m) 3 = _
      rw [if_pos rfl]
      show Value.int (lkC C 5 t) = _
      rw [lk_kf 5 rfl]
    · show (if m = m then mvV G (lkC C) t (lkC C 34 0) (.ref (aJ G y)) (nI 0) else G.cv m) 4 = _
      rw [if_pos rfl, o34, hg]
      show Value.int (lkC C 34 0) = _
      rw [lkC_f (by decide) (by decide) (by decide)]
    · show (if m = m then mvV G (lkC C) t (lkC C 34 0) (.ref (aJ G y)) (nI 0) else G.cv m) 5 = _
      rw [if_pos rfl]
      exact congrArg Value.ref (ge_J hG (gC_GE (G := G)) hy).symm
    · show (if m = m then mvV G (lkC C) t (lkC C 34 0) (.ref (aJ G y)) (nI 0) else G.cv m) 6 = _
      rw [if_pos rfl]; rfl
    · rw [sup_f (by decide)]; exact s0'
    · rw [sup_f (by decide)]; exact s1
    · rw [sup_f (by decide)]; exact s2
    · show G.ht y < G.T
      rw [het]; exact ht
    · show _ = nI 1
      rw [show (gC G n m 4 (mvV G (lkC C) t (lkC C 34 0) (.ref (aJ G y)) (nI 0))).ht y = t from het, uY_f (by decide), uM_3, if_pos rfl]
    · rw [show (gC G n m 4 (mvV G (lkC C) t (lkC C 34 0) (.ref (aJ G y)) (nI 0))).ht y = t from het, uY_f (by decide), uM_4, if_pos rfl]
    · rw [show (gC G n m 4 (mvV G (lkC C) t (lkC C 34 0) (.ref (aJ G y)) (nI 0))).ht y = t from het, uY_f (by decide), uM_5, if_pos rfl]
    · rw [show (gC G n m 4 (mvV G (lkC C) t (lkC C 34 0) (.ref (aJ G y)) (nI 0))).ht y = t from het, uY_f (by decide), uM_7, if_pos rfl]
    · rw [show (gC G n m 4 (mvV G (lkC C) t (lkC C 34 0) (.ref (aJ G y)) (nI 0))).ht y = t from het, o34, hg, h3, h4, h7, h38]; rfl
  · have op : ∀ x, x < G.H → x ≠ y → C 38 x = 0 → G.ht x ≠ t := fun x hx ne h e => ne (wi.2 x y hx hy h h38 (by rw [e, het]))
    refine ⟨?_, ⟨fun x hx h => ?_, fun x x' hx hx' h1 h2 e => ?_⟩, ⟨fun j => ?_, fun j => ?_⟩, fun j => ?_⟩
    · refine JP_lay hG jp ht lv hq h7 n3 hly ⟨by rw [uY_f (by decide), uM_3, if_pos rfl], by rw [uY_f (by decide), uM_4, if_pos rfl], by rw [uY_f (by decide), uM_5, if_pos rfl], by rw [uY_f (by decide), uM_7, if_pos rfl], fun j hj => ⟨by rw [uY_f (by decide), uM_3, if_neg hj, bsC_f (by decide) (by decide) (by decide) (by decide)], by rw [uY_f (by decide), uM_4, if_neg hj, bsC_f (by decide) (by decide) (by decide) (by decide)], by rw [uY_f (by decide), uM_5, if_neg hj, bsC_f (by decide) (by decide) (by decide) (by decide)]⟩, fun j hj => by rw [uY_f (by decide), uM_7, if_neg hj, bsC_f (by decide) (by decide) (by decide) (by decide)], fun f hf j => ob f (by omega) (by omega) (by omega) (by omega) (by omega) (by omega) (by omega) (by omega) (by omega) (by omega) j⟩
    · rw [o38] at h
      by_cases e : x = y
      · rw [if_pos e] at h; exact absurd h (by decide)
      · rw [if_neg e] at h
        rw [uY_f (by decide), uM_3, if_neg (op x hx e h), bsC_f (by decide) (by decide) (by decide) (by decide)]
        exact wi.1 x hx h
    · rw [o38] at h1 h2
      by_cases e1 : x = y
      · rw [if_pos e1] at h1; exact absurd h1 (by decide)
      · rw [if_neg e1] at h1
        by_cases e2 : x' = y
        · rw [if_pos e2] at h2; exact absurd h2 (by decide)
        · rw [if_neg e2] at h2
          exact wi.2 x x' hx hx' h1 h2 e
    · rw [ob 9 (by decide) (by decide) (by decide) (by decide) (by decide) (by decide) (by decide) (by decide) (by decide) (by decide)]; exact wn.1 j
    · rw [ob 20 (by decide) (by decide) (by decide) (by decide) (by decide) (by decide) (by decide) (by decide) (by decide) (by decide)]; exact wn.2 j
    · rw [ob 10 (by decide) (by decide) (by decide) (by decide) (by decide) (by decide) (by decide) (by decide) (by decide) (by decide), ob 11 (by decide) (by decide) (by decide) (by decide) (by decide) (by decide) (by decide) (by decide) (by decide) (by decide)]; exact wr j
  · rw [sg 3 (by decide) (by decide) (by decide) (by decide) (by decide), lay_3, lkd_f (by decide) (by decide), bsC_f (by decide) (by decide) (by decide) (by decide)]
  · rw [sg 4 (by decide) (by decide) (by decide) (by decide) (by decide), lay_4, lkd_f (by decide) (by decide), bsC_f (by decide) (by decide) (by decide) (by decide)]
  · rw [sg 7 (by decide) (by decide) (by decide) (by decide) (by decide), lay_7, lkd_f (by decide) (by decide), bsC_f (by decide) (by decide) (by decide) (by decide)]
  · rw [st_bs (by decide), sup_f (by decide), sup_f (by decide), bsC_f (by decide) (by decide) (by decide) (by decide)]
    by_cases e : j = 0
    · rw [if_pos e, e, sup_eq]
    · rw [if_neg e, sup_j e, sup_f (by decide), lay_f (by decide) (by decide) (by decide) (by decide), lkd_f (by decide) (by decide)]
  · rw [st_bs (fun y => by subst y; cases h)]
    have e : ∀ i, sup (sup (layS (lkd S) r q t (hN r)) 38 y (nI 2)) 34 0 p f i = lkd S f i := fun i => by
      rw [sup_f g, sup_f (fun y => by subst y; cases h)]
      exact lay_f a b (fun y => by subst y; cases h) e
    unfold bsC
    by_cases z : f = 0 ∧ j = 0
    · obtain ⟨rfl, rfl⟩ := z; rw [sup_eq, sup_eq]
    · rw [sup_ne z, sup_ne z]
      by_cases z2 : f = 17 ∧ j = 0
      · obtain ⟨rfl, rfl⟩ := z2; rw [sup_eq, sup_eq]
      · rw [sup_ne z2, sup_ne z2, e]
  · rw [sup_f (by decide), s6 j hj, sup_f (by decide), sup_f (by decide), lay_f (by decide) (by decide) (by decide) (by decide), lkd_f (by decide) (by decide)]
  · rw [uY_f (by decide), uM_3] at h
    rw [sg 5 (by decide) (by decide) (by decide) (by decide) (by decide), lay_5, uY_f (by decide), uM_5, lkd_f (by decide) (by decide), bsC_f (by decide) (by decide) (by decide) (by decide)]
    by_cases e : u = t
    · rw [if_pos e, if_pos e]
    · rw [if_neg e, bsC_f (by decide) (by decide) (by decide) (by decide)] at h
      rw [if_neg e, if_neg e]
      exact iv.2.2.2.2.2.2.2.2.2.2.2.2.1 u hu h
  · rw [o38, sf 36 (by decide) (by decide) (by decide) (by decide) (by decide) (by decide) (by decide) (by decide) (by decide) (by decide) (by decide), sf 37 (by decide) (by decide) (by decide) (by decide) (by decide) (by decide) (by decide) (by decide) (by decide) (by decide) (by decide), st_bs (by decide), sup_f (by decide), sup_f (by decide), sup_f (by decide)]
    obtain ⟨a, b, e⟩ := iv.2.2.2.2.2.2.2.2.2.2.2.2.2.1 x hx
    refine ⟨a, b, ?_⟩
    by_cases e2 : x = y
    · rw [if_pos e2, e2, sup_eq]; rfl
    · rw [if_neg e2, sup_j e2, lay_f (by decide) (by decide) (by decide) (by decide), lkd_f (by decide) (by decide)]
      exact e
theorem s38 {x : Int32} : (x + nI 1 = nI 1) ↔ x = 0 := by
  constructor
  · intro h
    have := i_as x (nI 1)
    rw [h] at this
    rw [← this]
    rfl
  · intro h; rw [h]; rfl
theorem sub_add_i (x g : Int32) : x - g + g = x := Int32.sub_add_cancel x g
theorem op30 (iv : IV G C S n m c) (hc : c < 512) {x h s cc : Int32} : OpQ d G C S n k m c m0 s0 74 [some (.ref (G.ad 1)), some (.int x), some (.int h), some (.int s), some (.int cc), none, none, none] 198 (fun o => [some (.ref o), some (.int x), some (.int h), some (.int s), some (.int cc), none, none, none, none]) := by
  have hG := iv.1
  have hK := IV_K iv
  have qv := IV_qv iv
  have hT := okT hG
  have hH := okH hG
  have hmc := IV_mc iv
  have hrl := iv.2.2.2.2.2.2.2.2.2.2.2.2.2.1
  have hht := iv.2.1.2.2
  have S35 : S 35 0 = nI G.H := by rw [qv 35 0 rfl]; exact hK.1.2.2.2
  have mm : ∀ o F, FrO o F m → Md o m F (ex (d + 13) 198 0 [some (.ref o), some (.int x), some (.int h), some (.int s), some (.int cc), none, none, none, none] [] (hM o F S)) (bkS G.R G.T G.H S m x h s cc) := fun o F hF => m198 (d := d + 10) hF (IV_17 iv) (by omega) (IV_WfT iv) (IV_Wrow iv) (IV_wtS iv) S35 hH (fun y hy => ⟨G.ht y, hht y hy, (hrl y hy).1⟩)
  have no := fun h1 => c74_0 (d := d + 11) (m0 := m0) (s0 := s0) (n := n) (k := k) (y := x) (h := h) (s := s) (c := cc) hG hK h1
  cases hx : ixI G.H x with
  | none =>
    refine OpM (no (Or.inl hx)) (rS := bkS G.R G.T G.H S m x h s cc) ?_ mm
    unfold bkS
    rw [hx]
    exact RR_bd iv
  | some y =>
    obtain ⟨ex', hy⟩ := ixI_some (by omega) hx
    subst ex'
    obtain ⟨r36, r37, r38⟩ := hrl y hy
    by_cases h38 : C 38 y = 0
    · have s1 : S 38 y = nI 1 := by rw [r38]; exact s38.mpr h38
      cases hr : rowI G.R G.T C h with
      | none =>
        refine OpM (c74_1 (d := d + 11) hG hK hy h38 hr) (rS := bkS G.R G.T G.H S m (nI y) h s cc) ?_ mm
        unfold bkS
        rw [hx]
        simp only
        rw [if_pos s1, IV_row iv, hr]
        exact RR_bd iv
      | some r =>
        obtain ⟨lv, eh⟩ := rowI_lv hG hK hr
        have ht := hht y hy
        have h3 : C 3 (G.ht y) = nI 2 := (IV_jk iv).2.1.1 y hy h38
        have pS : bkS G.R G.T G.H S m (nI y) h s cc = (match ixI (G.sl r) s with | none => bdS (lkd S) 2 | some q => if lyF C G.T r q (G.ht y) = 0 then (if ¬ cc < nI 0 ∧ ¬ G.hd y < cc then fnS (stS (sup (sup (layS (lkd S) r q (G.ht y) h) 38 y (nI 2)) 34 0 (C 34 0 - (G.hd y - cc))) m (nI 5) (nI y) (G.hd y - cc) (nI 0) (nI 0) (nI 0)) (G.hd y - cc) else bdS (lkd S) 6) else bdS (lkd S) (lyF C G.T r q (G.ht y))) := by
          unfold bkS
          rw [hx]
          simp only
          rw [if_pos s1, IV_row iv, hr]
          simp only [IV_sN iv, sN_c hG hK lv, r36, r37, nI_clamp (show G.ht y < 2 ^ 31 by omega), ly_S iv, qv 34 0 rfl]
          cases ixI (G.sl r) s <;> rfl
        have fin : ∀ w, ex (d + 12) 110 0 [some (.ref (G.ad 1)), some (.ref (aJ G y)), some (.ref (aH G r)), some (.int s), some (.int cc), none, none] [] (cM G (lkC C) m0, cS G s0, n, k) = rtC G m0 s0 n k (bdS (lkC C) w) → bkS G.R G.T G.H S m (nI y) h s cc = bdS (lkd S) w → OpQ d G C S n k m c m0 s0 74 [some (.ref (G.ad 1)), some (.int (nI y)), some (.int h), some (.int s), some (.int cc), none, none, none] 198 (fun o => [some (.ref o), some (.int (nI y)), some (.int h), some (.int s), some (.int cc), none, none, none, none]) := fun w h1 h2 =>
          OpM (rC := (-1, lvC2 (sup (lkC C) 0 0 (nI w)))) (c74_w (d := d + 4) hG hK hy h38 hr h1 hG rfl) (rS := bkS G.R G.T G.H S m (nI y) h s cc) (by rw [h2]; exact RR_lk iv w) mm
        cases hs : ixI (G.sl r) s with
        | none => exact fin 2 (c110_0 (d := d + 11) hG lv hs) (by rw [pS, hs])
        | some q =>
          have s40 := hG.2.2.2.2.1 r lv
          obtain ⟨es, hq⟩ := ixI_some (by omega) hs
          subst es
          rw [hs] at pS
          simp only at pS
          have el := ly_lk iv (r := r) (q := q) ht
          have whl := Whm_lk (IV_JP iv).2.1
          by_cases hl : lyF C G.T r q (G.ht y) = 0
          · rw [if_pos hl] at pS
            by_cases hcc : ¬ cc < nI 0 ∧ ¬ G.hd y < cc
            · rw [if_pos hcc] at pS
              have h7 : C 7 (40 * r + q) = -1 := by
                rcases hK.2.2.2.2.2 r lv q hq with z | ⟨u, u1, u2⟩
                · exact z
                · unfold lyF at hl
                  rw [u2, if_pos (nI_pos' (by omega))] at hl
                  cases hl
              obtain ⟨m', s', x1, x2⟩ := c110 (d := d + 4) (m0 := m0) (s0 := s0) (n := n) (k := k) (C := lkC C) (c := cc) hG (OKC_lk hK) whl (Rdy_lk (IV_rd iv (by omega))) lv hq hy rfl ht (by rw [lk_kf 3 rfl]; exact h3) (by rw [el]; exact hl) hcc
              have okG' := gC_ok (tag := 4) (vals := mvV G (lkC C) (G.ht y) (lkC C 34 0) (.ref (aJ G y)) (nI 0)) hG (IV_rd iv (by omega)).2.1 (show m < 512 by omega) iv.2.2.2.2.2.2.2.2.2.2.1
              have x3 := c74_w (d := d + 4) hG hK hy h38 hr x1 okG' (gC_ad2 (by omega))
              rw [back_eq, show lkC C 34 0 = C 34 0 from lkC_f (by decide) (by decide) (by decide)] at x3
              have iv' := IV_back (g := G.hd y - cc) (p := C 34 0 - (G.hd y - cc)) iv (by omega) hy rfl ht lv hq h7 h3 h38 hl (sub_add_i _ _)
              rw [show lkC C 34 0 = C 34 0 from lkC_f (by decide) (by decide) (by decide)] at iv'
              refine OpP (rS := bkS G.R G.T G.H S m (nI y) h (nI q) cc) (n' := n + 1) (k' := k + 7) ?_ Gq_C (by omega) (by omega) (by omega) (by rw [pS, eh]; exact iv') mm
              rw [pS, fnS_1]
              exact ⟨m', s', x3, x2⟩
            · rw [if_neg hcc] at pS
              exact fin 6 (c110_2 (d := d + 4) hG (OKC_lk hK) whl lv hq hy ht (by rw [el]; exact hl) hcc) pS
          · rw [if_neg hl] at pS
            refine fin _ ?_ pS
            rw [← el]
            exact c110_1 (d := d + 4) hG (OKC_lk hK) whl lv hq hy ht (by rw [el]; exact hl)
    · have n1 : ¬ S 38 y = nI 1 := fun z => h38 (s38.mp (by rw [← r38]; exact z))
      refine OpM (no (Or.inr ⟨y, rfl, hy, h38⟩)) (rS := bkS G.R G.T G.H S m (nI y) h s cc) ?_ mm
      unfold bkS
      rw [hx]
      simp only
      rw [if_neg n1]
      exact RR_bd iv
end ED
