/-! ===== calls: put, take, both sides ===== -/
section EC
variable {d k : Nat} {m0 : Mm} {s0 : Nat → Nat × Nat} {G : Gh} {C S : St} {n m c : Nat}
theorem lk_kf (f : Nat) (h : kf f = true) (j : Nat) : lkC C f j = C f j := lkC_f (fun y => by subst y; cases h) (fun y => by subst y; cases h) (fun y => by subst y; cases h)
theorem IV_put {t r q : Nat} (iv : IV G C S n m c) (hc : m < 512) (ht : t < G.T) (lv : lvR G r) (hq : q < G.sl r) (h7 : C 7 (40 * r + q) = -1) (h3 : C 3 t = 0) (hly : lyF C G.T r q t = 0) : IV (gC G n m 4 (mvV G (lkC C) t (lkC C 34 0) .null (nI 0))) (ow (uM t (nI 1) (hN r) (nI q) (40 * r + q) (nI t) (C 34 0)) (bsC C m)) (sup (stS (layS (lkd S) r q t (hN r)) m (nI 0) (nI t) (nI 0) (nI 0) (nI 0) (nI 0)) 0 0 (nI 0)) (n + 1) (m + 1) (c + 1) := by
  have qv := IV_qv iv
  have hG := iv.1
  have n3 : ¬ C 3 t = nI 1 := by rw [h3]; decide
  have h4 : C 4 t = -1 := ((IV_JP iv).2.1 t ht).elim id (fun y => absurd y.1 n3)
  have wi := (IV_jk iv).2.1
  obtain ⟨s0', s1, s2, s3, s4, s5, s6⟩ := stS_16 (S := layS (lkd S) r q t (hN r)) (m := m) (w := nI 0) (a := nI t) (b := nI 0) (c' := nI 0) (e := nI 0) (g := nI 0)
  have ob : ∀ f, f ≠ 3 → f ≠ 4 → f ≠ 5 → f ≠ 7 → f ≠ 34 → f ≠ 0 → f ≠ 14 → f ≠ 15 → f ≠ 17 → ∀ j, ow (uM t (nI 1) (hN r) (nI q) (40 * r + q) (nI t) (C 34 0)) (bsC C m) f j = C f j := fun f a b c' e g x y z w j => by rw [uM_f a b c' e g, bsC_f x y z w]
  have o34 : ow (uM t (nI 1) (hN r) (nI q) (40 * r + q) (nI t) (C 34 0)) (bsC C m) 34 0 = C 34 0 := by rw [uM_34, if_pos rfl]
  have sf : ∀ f, f ≠ 0 → f ≠ 14 → f ≠ 15 → f ≠ 16 → f ≠ 17 → f ≠ 3 → f ≠ 4 → f ≠ 5 → f ≠ 7 → ∀ j, sup (stS (layS (lkd S) r q t (hN r)) m (nI 0) (nI t) (nI 0) (nI 0) (nI 0) (nI 0)) 0 0 (nI 0) f j = S f j := fun f a b c' e g x y z w j => by rw [st_bs e, sup_f a, sup_f g, lay_f x y z w, lkd_f b c']
  refine IV_push (P := uM t (C 3 t) (C 4 t) (C 5 t) (40 * r + q) (C 7 (40 * r + q)) (C 34 0)) iv hc (by rw [uM_f (by decide) (by decide) (by decide) (by decide) (by decide)]; exact bsC_17) ?_ (fun f h j => bk_mv h) (JK_put hG (IV_jk iv) ht lv hq h7 n3 hly (fun y hy h e => by
      have := wi.1 y hy h
      rw [e, h3] at this
      exact absurd this (by decide))) (Qv_mv (Qv_bs qv) (fun j => ?_) (fun j => ?_) (fun j => ?_) (fun j => ?_) (fun f j h a b e g => ?_)) (fun f h j => ob f (by omega) (by omega) (by omega) (by omega) (by omega) (by omega) (by omega) (by omega) (by omega) j) (fun f h j hj => ob f (by omega) (by omega) (by omega) (by omega) (by omega) (by omega) (by omega) (by omega) (by omega) j) (ob 42 (by decide) (by decide) (by decide) (by decide) (by decide) (by decide) (by decide) (by decide) (by decide) 0) (fun j => sf 22 (by decide) (by decide) (by decide) (by decide) (by decide) (by decide) (by decide) (by decide) (by decide) j) (fun j hj => ?_) (fun u hu h => ?_) (fun y hy => ?_)
  · refine Or.inl ⟨t, r, q, C 5 t, ⟨Nat.lt_of_lt_of_le (Nat.lt_succ_self m) (Nat.le_max_right _ _), if_pos rfl, ?_, ?_, ?_, ?_, ?_, ?_, ?_⟩, ?_, ?_, ht, lv, hq, by rw [uM_3, if_pos rfl], by rw [uM_4, if_pos rfl], by rw [uM_5, if_pos rfl], by rw [uM_7, if_pos rfl], ?_⟩
    · show (if m = m then mvV G (lkC C) t (lkC C 34 0) .null (nI 0) else G.cv m) 0 = _
      rw [if_pos rfl]
      exact congrArg Value.ref (ge_T hG (gC_GE (G := G)) ht).symm
    · show (if m = m then mvV G (lkC C) t (lkC C 34 0) .null (nI 0) else G.cv m) 1 = _
      rw [if_pos rfl]
      show Value.int (lkC C 3 t) = _
      rw [lk_kf 3 rfl, h3]; rfl
    · show (if m = m then mvV G (lkC C) t (lkC C 34 0) .null (nI 0) else G.cv m) 2 = _
      rw [if_pos rfl]
      show rfH G (lkC C 4 t) = _
      rw [lk_kf 4 rfl, h4]; exact rfH_n m1_0
    · show (if m = m then mvV G (lkC C) t (lkC C 34 0) .null (nI 0) else G.cv m) 3 = _
      rw [if_pos rfl]
      show Value.int (lkC C 5 t) = _
      rw [lk_kf 5 rfl]
    · show (if m = m then mvV G (lkC C) t (lkC C 34 0) .null (nI 0) else G.cv m) 4 = _
      rw [if_pos rfl, o34]
      show Value.int (lkC C 34 0) = _
      rw [lkC_f (by decide) (by decide) (by decide)]
    · show (if m = m then mvV G (lkC C) t (lkC C 34 0) .null (nI 0) else G.cv m) 5 = _
      rw [if_pos rfl]; rfl
    · show (if m = m then mvV G (lkC C) t (lkC C 34 0) .null (nI 0) else G.cv m) 6 = _
      rw [if_pos rfl]; rfl
    · rw [sup_f (by decide)]; exact s0'
    · rw [sup_f (by decide)]; exact s1
    · rw [o34, h3, h4, h7]; rfl
  · rw [st_bs (by decide), sup_f (by decide), sup_f (by decide), lay_3, lkd_f (by decide) (by decide), bsC_f (by decide) (by decide) (by decide) (by decide)]
  · rw [st_bs (by decide), sup_f (by decide), sup_f (by decide), lay_4, lkd_f (by decide) (by decide), bsC_f (by decide) (by decide) (by decide) (by decide)]
  · rw [st_bs (by decide), sup_f (by decide), sup_f (by decide), lay_7, lkd_f (by decide) (by decide), bsC_f (by decide) (by decide) (by decide) (by decide)]
  · rw [sf 34 (by decide) (by decide) (by decide) (by decide) (by decide) (by decide) (by decide) (by decide) (by decide), bsC_f (by decide) (by decide) (by decide) (by decide), ← qv 34 0 rfl]
    by_cases e : j = 0
    · rw [if_pos e, e]
    · rw [if_neg e]
  · rw [st_bs (fun y => by subst y; cases h)]
    have e : ∀ i, layS (lkd S) r q t (hN r) f i = lkd S f i := fun i => lay_f a b (fun y => by subst y; cases h) e
    unfold bsC
    by_cases z : f = 0 ∧ j = 0
    · obtain ⟨rfl, rfl⟩ := z; rw [sup_eq, sup_eq]
    · rw [sup_ne z, sup_ne z]
      by_cases z2 : f = 17 ∧ j = 0
      · obtain ⟨rfl, rfl⟩ := z2; rw [sup_eq, sup_eq]
      · rw [sup_ne z2, sup_ne z2, e]
  · rw [sup_f (by decide), s6 j hj, lay_f (by decide) (by decide) (by decide) (by decide), lkd_f (by decide) (by decide)]
  · rw [uM_3] at h
    rw [st_bs (by decide), sup_f (by decide), sup_f (by decide), lay_5, uM_5, lkd_f (by decide) (by decide), bsC_f (by decide) (by decide) (by decide) (by decide)]
    by_cases e : u = t
    · rw [if_pos e, if_pos e]
    · rw [if_neg e, bsC_f (by decide) (by decide) (by decide) (by decide)] at h
      rw [if_neg e, if_neg e]
      exact iv.2.2.2.2.2.2.2.2.2.2.2.2.1 u hu h
  · rw [ob 38 (by decide) (by decide) (by decide) (by decide) (by decide) (by decide) (by decide) (by decide) (by decide), sf 36 (by decide) (by decide) (by decide) (by decide) (by decide) (by decide) (by decide) (by decide) (by decide), sf 37 (by decide) (by decide) (by decide) (by decide) (by decide) (by decide) (by decide) (by decide) (by decide), sf 38 (by decide) (by decide) (by decide) (by decide) (by decide) (by decide) (by decide) (by decide) (by decide)]
    exact iv.2.2.2.2.2.2.2.2.2.2.2.2.2.1 y hy
theorem IV_take {t r q : Nat} (iv : IV G C S n m c) (hc : m < 512) (ht : t < G.T) (lv : lvR G r) (hq : q < G.sl r) (h3 : C 3 t = nI 1) (h4 : C 4 t = hN r) (h5 : C 5 t = nI q) (h7 : C 7 (40 * r + q) = nI t) : IV (gC G n m 4 (mvV G (lkC C) t (lkC C 34 0) .null (nI 0))) (ow (uM t (nI 0) (-1) (nI 0) (40 * r + q) (-1) (C 34 0)) (bsC C m)) (sup (stS (lfS (lkd S) r q t (nI 0)) m (nI 1) (nI t) (hN r) (nI q) (nI 0) (nI 0)) 0 0 (nI 0)) (n + 1) (m + 1) (c + 1) := by
  have qv := IV_qv iv
  have hG := iv.1
  have wi := (IV_jk iv).2.1
  obtain ⟨s0', s1, s2, s3, s4, s5, s6⟩ := stS_16 (S := lfS (lkd S) r q t (nI 0)) (m := m) (w := nI 1) (a := nI t) (b := hN r) (c' := nI q) (e := nI 0) (g := nI 0)
  have ob : ∀ f, f ≠ 3 → f ≠ 4 → f ≠ 5 → f ≠ 7 → f ≠ 34 → f ≠ 0 → f ≠ 14 → f ≠ 15 → f ≠ 17 → ∀ j, ow (uM t (nI 0) (-1) (nI 0) (40 * r + q) (-1) (C 34 0)) (bsC C m) f j = C f j := fun f a b c' e g x y z w j => by rw [uM_f a b c' e g, bsC_f x y z w]
  have o34 : ow (uM t (nI 0) (-1) (nI 0) (40 * r + q) (-1) (C 34 0)) (bsC C m) 34 0 = C 34 0 := by rw [uM_34, if_pos rfl]
  have sf : ∀ f, f ≠ 0 → f ≠ 14 → f ≠ 15 → f ≠ 16 → f ≠ 17 → f ≠ 3 → f ≠ 4 → f ≠ 7 → ∀ j, sup (stS (lfS (lkd S) r q t (nI 0)) m (nI 1) (nI t) (hN r) (nI q) (nI 0) (nI 0)) 0 0 (nI 0) f j = S f j := fun f a b c' e g x y z j => by rw [st_bs e, sup_f a, sup_f g, lf_f x y z, lkd_f b c']
  refine IV_push (P := uM t (C 3 t) (C 4 t) (C 5 t) (40 * r + q) (C 7 (40 * r + q)) (C 34 0)) iv hc (by rw [uM_f (by decide) (by decide) (by decide) (by decide) (by decide)]; exact bsC_17) ?_ (fun f h j => bk_mv h) (JK_take hG (IV_jk iv) ht lv hq h4 h5 h7 (by decide) (fun y hy h e => by
      have := wi.1 y hy h
      rw [e, h3] at this
      exact absurd this (by decide))) (Qv_mv (Qv_bs qv) (fun j => ?_) (fun j => ?_) (fun j => ?_) (fun j => ?_) (fun f j h a b e g => ?_)) (fun f h j => ob f (by omega) (by omega) (by omega) (by omega) (by omega) (by omega) (by omega) (by omega) (by omega) j) (fun f h j hj => ob f (by omega) (by omega) (by omega) (by omega) (by omega) (by omega) (by omega) (by omega) (by omega) j) (ob 42 (by decide) (by decide) (by decide) (by decide) (by decide) (by decide) (by decide) (by decide) (by decide) 0) (fun j => sf 22 (by decide) (by decide) (by decide) (by decide) (by decide) (by decide) (by decide) (by decide) j) (fun j hj => ?_) (fun u hu h => ?_) (fun y hy => ?_)
  · refine Or.inr (Or.inl ⟨t, r, q, ⟨Nat.lt_of_lt_of_le (Nat.lt_succ_self m) (Nat.le_max_right _ _), if_pos rfl, ?_, ?_, ?_, ?_, ?_, ?_, ?_⟩, ?_, ?_, ?_, ?_, ht, lv, hq, by rw [uM_4, if_pos rfl], ?_⟩)
    · show (if m = m then mvV G (lkC C) t (lkC C 34 0) .null (nI 0) else G.cv m) 0 = _
      rw [if_pos rfl]
      exact congrArg Value.ref (ge_T hG (gC_GE (G := G)) ht).symm
    · show (if m = m then mvV G (lkC C) t (lkC C 34 0) .null (nI 0) else G.cv m) 1 = _
      rw [if_pos rfl]
      show Value.int (lkC C 3 t) = _
      rw [lk_kf 3 rfl, h3]
    · show (if m = m then mvV G (lkC C) t (lkC C 34 0) .null (nI 0) else G.cv m) 2 = _
      rw [if_pos rfl]
      show rfH G (lkC C 4 t) = _
      rw [lk_kf 4 rfl, h4, rfH_r (lr_212 hG lv)]
      exact congrArg Value.ref (ge_H hG (gC_GE (G := G)) lv).symm
    · show (if m = m then mvV G (lkC C) t (lkC C 34 0) .null (nI 0) else G.cv m) 3 = _
      rw [if_pos rfl]
      show Value.int (lkC C 5 t) = _
      rw [lk_kf 5 rfl, h5]
    · show (if m = m then mvV G (lkC C) t (lkC C 34 0) .null (nI 0) else G.cv m) 4 = _
      rw [if_pos rfl, o34]
      show Value.int (lkC C 34 0) = _
      rw [lkC_f (by decide) (by decide) (by decide)]
    · show (if m = m then mvV G (lkC C) t (lkC C 34 0) .null (nI 0) else G.cv m) 5 = _
      rw [if_pos rfl]; rfl
    · show (if m = m then mvV G (lkC C) t (lkC C 34 0) .null (nI 0) else G.cv m) 6 = _
      rw [if_pos rfl]; rfl
    · rw [sup_f (by decide)]; exact s0'
    · rw [sup_f (by decide)]; exact s1
    · rw [sup_f (by decide)]; exact s2
    · rw [sup_f (by decide)]; exact s3
    · rw [o34, h3, h4, h5, h7]
  · rw [st_bs (by decide), sup_f (by decide), sup_f (by decide), lf_3, lkd_f (by decide) (by decide), bsC_f (by decide) (by decide) (by decide) (by decide)]
  · rw [st_bs (by decide), sup_f (by decide), sup_f (by decide), lf_4, lkd_f (by decide) (by decide), bsC_f (by decide) (by decide) (by decide) (by decide)]
  · rw [st_bs (by decide), sup_f (by decide), sup_f (by decide), lf_7, lkd_f (by decide) (by decide), bsC_f (by decide) (by decide) (by decide) (by decide)]
  · rw [sf 34 (by decide) (by decide) (by decide) (by decide) (by decide) (by decide) (by decide) (by decide), bsC_f (by decide) (by decide) (by decide) (by decide), ← qv 34 0 rfl]
    by_cases e : j = 0
    · rw [if_pos e, e]
    · rw [if_neg e]
  · rw [st_bs (fun y => by subst y; cases h)]
    have e : ∀ i, lfS (lkd S) r q t (nI 0) f i = lkd S f i := fun i => lf_f a b e
    unfold bsC
    by_cases z : f = 0 ∧ j = 0
    · obtain ⟨rfl, rfl⟩ := z; rw [sup_eq, sup_eq]
    · rw [sup_ne z, sup_ne z]
      by_cases z2 : f = 17 ∧ j = 0
      · obtain ⟨rfl, rfl⟩ := z2; rw [sup_eq, sup_eq]
      · rw [sup_ne z2, sup_ne z2, e]
  · rw [sup_f (by decide), s6 j hj, lf_f (by decide) (by decide) (by decide), lkd_f (by decide) (by decide)]
  · rw [uM_3] at h
    by_cases e : u = t
    · rw [if_pos e] at h; exact absurd h (by decide)
    · rw [if_neg e, bsC_f (by decide) (by decide) (by decide) (by decide)] at h
      rw [sf 5 (by decide) (by decide) (by decide) (by decide) (by decide) (by decide) (by decide) (by decide), uM_5, if_neg e, bsC_f (by decide) (by decide) (by decide) (by decide)]
      exact iv.2.2.2.2.2.2.2.2.2.2.2.2.1 u hu h
  · rw [ob 38 (by decide) (by decide) (by decide) (by decide) (by decide) (by decide) (by decide) (by decide) (by decide), sf 36 (by decide) (by decide) (by decide) (by decide) (by decide) (by decide) (by decide) (by decide), sf 37 (by decide) (by decide) (by decide) (by decide) (by decide) (by decide) (by decide) (by decide), sf 38 (by decide) (by decide) (by decide) (by decide) (by decide) (by decide) (by decide) (by decide)]
    exact iv.2.2.2.2.2.2.2.2.2.2.2.2.2.1 y hy
theorem IV_JPl (iv : IV G C S n m c) : JP G (lkC C) := JP_eq lk_kf (IV_JP iv)
theorem ly_lk (iv : IV G C S n m c) {r q t : Nat} (ht : t < G.T) : whF G (lkC C) r q t = lyF C G.T r q t := by
  obtain ⟨hK, wh, ws, wt, ρ, rk⟩ := IV_JPl iv
  rw [wh_ly iv.1 hK (Wslot_of iv.1 hK ws) (Wthg_of iv.1 hK wt) rk ht]
  exact lyF_eq (fun j => lk_kf 2 rfl j) (fun j => lk_kf 3 rfl j) (fun j => lk_kf 4 rfl j) (fun j => lk_kf 7 rfl j) G.T r q t
theorem ly_S (iv : IV G C S n m c) (r q t : Nat) : lyF S G.T r q t = lyF C G.T r q t := lyF_eq (fun j => IV_qv iv 2 j rfl) (fun j => IV_qv iv 3 j rfl) (fun j => IV_qv iv 4 j rfl) (fun j => IV_qv iv 7 j rfl) G.T r q t
theorem IV_wtS (iv : IV G C S n m c) : Wtrm S G.T := Wtrm_eq (fun j => IV_qv iv 3 j rfl) (fun j => IV_qv iv 4 j rfl) (Wtrm_of iv.1 (IV_JP iv))
theorem RR_lk (iv : IV G C S n m c) (w : Nat) : RR G n m c (-1, lvC2 (sup (lkC C) 0 0 (nI w))) (bdS (lkd S) w) := ⟨rfl, IV_lk2 iv (nI w), lkd_17 iv (nI w)⟩
theorem op10 (iv : IV G C S n m c) (hc : c < 512) {h s t : Int32} : OpQ d G C S n k m c m0 s0 54 [some (.ref (G.ad 1)), some (.int h), some (.int s), some (.int t), none, none, none] 160 (fun o => [some (.ref o), some (.int h), some (.int s), some (.int t), none, none]) := by
  have hG := iv.1
  have hK := IV_K iv
  have qv := IV_qv iv
  have hT := okT hG
  have hmc := IV_mc iv
  have mm : ∀ o F, FrO o F m → Md o m F (ex (d + 13) 160 0 [some (.ref o), some (.int h), some (.int s), some (.int t), none, none] [] (hM o F S)) (ptS G.R G.T S m h s t) := fun o F hF => m160 (d := d + 10) hF (IV_17 iv) (by omega) (IV_WfT iv) (IV_Wrow iv) (IV_wtS iv)
  cases hr : rowI G.R G.T C h with
  | none =>
    refine OpM (c54_0 (d := d + 11) hG hK hr) (rS := ptS G.R G.T S m h s t) ?_ mm
    unfold ptS
    rw [IV_row iv, hr]
    exact RR_bd iv
  | some r =>
    obtain ⟨lv, eh⟩ := rowI_lv hG hK hr
    cases ht : ixI G.T t with
    | none =>
      refine OpM (c54_1 (d := d + 11) hG hK hr ht) (rS := ptS G.R G.T S m h s t) ?_ mm
      unfold ptS
      rw [IV_row iv, hr, ht]
      exact RR_bd iv
    | some j =>
      obtain ⟨et, hj⟩ := ixI_some (by omega) ht
      subst et
      have pS : ptS G.R G.T S m h s (nI j) = (match ixI (G.sl r) s with | none => bdS (lkd S) 2 | some q => if C 3 j = 0 then (if lyF C G.T r q j = 0 then fnS (stS (layS (lkd S) r q j h) m (nI 0) (nI j) (nI 0) (nI 0) (nI 0) (nI 0)) (nI 1) else bdS (lkd S) (lyF C G.T r q j)) else bdS (lkd S) 8) := by
        unfold ptS
        rw [IV_row iv, hr, ht]
        simp only [IV_sN iv, sN_c hG hK lv, qv 3 j rfl, ly_S iv]
        cases ixI (G.sl r) s <;> rfl
      have fin : ∀ w, ex (d + 12) 106 0 [some (.ref (G.ad 1)), some (.ref (aH G r)), some (.int s), some (.ref (aT G j)), none] [] (cM G (lkC C) m0, cS G s0, n, k) = rtC G m0 s0 n k (bdS (lkC C) w) → ptS G.R G.T S m h s (nI j) = bdS (lkd S) w → OpQ d G C S n k m c m0 s0 54 [some (.ref (G.ad 1)), some (.int h), some (.int s), some (.int (nI j)), none, none, none] 160 (fun o => [some (.ref o), some (.int h), some (.int s), some (.int (nI j)), none, none]) := fun w h1 h2 =>
        OpM (rC := (-1, lvC2 (sup (lkC C) 0 0 (nI w)))) (c54_w (d := d + 4) hG hK hr hj h1 hG rfl) (rS := ptS G.R G.T S m h s (nI j)) (by rw [h2]; exact RR_lk iv w) mm
      cases hs : ixI (G.sl r) s with
      | none => exact fin 2 (c106_0 (d := d + 11) hG lv hs) (by rw [pS, hs])
      | some q =>
        have s40 := hG.2.2.2.2.1 r lv
        obtain ⟨es, hq⟩ := ixI_some (by omega) hs
        subst es
        rw [hs] at pS
        simp only at pS
        by_cases h3 : C 3 j = 0
        · rw [if_pos h3] at pS
          have el := ly_lk iv (r := r) (q := q) hj
          by_cases hl : lyF C G.T r q j = 0
          · rw [if_pos hl] at pS
            have h7 : C 7 (40 * r + q) = -1 := by
              rcases hK.2.2.2.2.2 r lv q hq with z | ⟨u, u1, u2⟩
              · exact z
              · unfold lyF at hl
                rw [u2, if_pos (nI_pos' (by omega))] at hl
                cases hl
            obtain ⟨m', s', x1, x2⟩ := c106 (d := d + 4) (m0 := m0) (s0 := s0) (n := n) (k := k) (C := lkC C) hG (OKC_lk hK) (Whm_lk (IV_JP iv).2.1) (Rdy_lk (IV_rd iv (by omega))) lv hq hj (by rw [lk_kf 3 rfl]; exact h3) (by rw [el]; exact hl)
            have okG' := gC_ok (tag := 4) (vals := mvV G (lkC C) j (lkC C 34 0) .null (nI 0)) hG (IV_rd iv (by omega)).2.1 (show m < 512 by omega) iv.2.2.2.2.2.2.2.2.2.2.1
            have x3 := c54_w (d := d + 4) hG hK hr hj x1 okG' (gC_ad2 (by omega))
            rw [put_eq] at x3
            have iv' := IV_put iv (by omega) hj lv hq h7 h3 hl
            refine OpP (rS := ptS G.R G.T S m h (nI q) (nI j)) (n' := n + 1) (k' := k + 7) ?_ Gq_C (by omega) (by omega) (by omega) (by rw [pS, eh]; exact iv') mm
            rw [pS, fnS_1]
            exact ⟨m', s', x3, x2⟩
          · rw [if_neg hl] at pS
            refine fin _ ?_ pS
            rw [← el]
            exact c106_2 (d := d + 4) hG (OKC_lk hK) (Whm_lk (IV_JP iv).2.1) lv hq hj (by rw [lk_kf 3 rfl]; exact h3) (by rw [el]; exact hl)
        · rw [if_neg h3] at pS
          exact fin 8 (c106_1 (d := d + 11) hG lv hq hj (by rw [lk_kf 3 rfl]; exact h3)) pS
theorem op11 (iv : IV G C S n m c) (hc : c < 512) {h s : Int32} : OpQ d G C S n k m c m0 s0 55 [some (.ref (G.ad 1)), some (.int h), some (.int s), none, none] 162 (fun o => [some (.ref o), some (.int h), some (.int s), none, none, none]) := by
  have hG := iv.1
  have hK := IV_K iv
  have qv := IV_qv iv
  have hT := okT hG
  have hmc := IV_mc iv
  have wsS : Wslot S G.T G.R := fun h r q hr hq => by
    rw [IV_row iv] at hr
    rw [IV_sN iv] at hq
    rw [qv 7 _ rfl]
    rcases Wslot_of hG hK (IV_JP iv).2.2.1 h r q hr hq with z | ⟨u, u1, u2, u3, u4, u5⟩
    · exact Or.inl z
    · exact Or.inr ⟨u, u1, u2, by rw [qv 3 _ rfl]; exact u3, by rw [qv 4 _ rfl]; exact u4, by rw [iv.2.2.2.2.2.2.2.2.2.2.2.2.1 u u1 u3]; exact u5⟩
  have mm : ∀ o F, FrO o F m → Md o m F (ex (d + 13) 162 0 [some (.ref o), some (.int h), some (.int s), none, none, none] [] (hM o F S)) (tkS G.R G.T S m h s) := fun o F hF => m162 (d := d + 10) hF (IV_17 iv) (by omega) (IV_WfT iv) (IV_Wrow iv) wsS
  cases hr : rowI G.R G.T C h with
  | none =>
    refine OpM (c55_0 (d := d + 11) hG hK hr) (rS := tkS G.R G.T S m h s) ?_ mm
    unfold tkS
    rw [IV_row iv, hr]
    exact RR_bd iv
  | some r =>
    obtain ⟨lv, eh⟩ := rowI_lv hG hK hr
    have pS : tkS G.R G.T S m h s = (match ixI (G.sl r) s with | none => bdS (lkd S) 2 | some q => if 0 ≤ C 7 (40 * r + q) then fnS (stS (lfS (lkd S) r q (C 7 (40 * r + q)).toNatClampNeg (nI 0)) m (nI 1) (C 7 (40 * r + q)) h s (nI 0) (nI 0)) (C 7 (40 * r + q)) else bdS (lkd S) 3) := by
      unfold tkS
      rw [IV_row iv, hr]
      simp only [IV_sN iv, sN_c hG hK lv, qv 7 _ rfl]
      cases ixI (G.sl r) s <;> rfl
    have fin : ∀ w, ex (d + 12) 107 0 [some (.ref (G.ad 1)), some (.ref (aH G r)), some (.int s), none] [] (cM G (lkC C) m0, cS G s0, n, k) = rtC G m0 s0 n k (bdS (lkC C) w) → tkS G.R G.T S m h s = bdS (lkd S) w → OpQ d G C S n k m c m0 s0 55 [some (.ref (G.ad 1)), some (.int h), some (.int s), none, none] 162 (fun o => [some (.ref o), some (.int h), some (.int s), none, none, none]) := fun w h1 h2 =>
      OpM (rC := (-1, lvC2 (sup (lkC C) 0 0 (nI w)))) (c55_w (d := d + 9) hG hK hr h1 hG rfl) (rS := tkS G.R G.T S m h s) (by rw [h2]; exact RR_lk iv w) mm
    cases hs : ixI (G.sl r) s with
    | none => exact fin 2 (c107_0 (d := d + 11) hG lv hs) (by rw [pS, hs])
    | some q =>
      have s40 := hG.2.2.2.2.1 r lv
      obtain ⟨es, hq⟩ := ixI_some (by omega) hs
      subst es
      rw [hs] at pS
      simp only at pS
      rcases (IV_JP iv).2.2.1 r q lv hq with z | ⟨u, u1, u2, u3, u4, u5⟩
      · rw [z, if_neg neg1_lt] at pS
        exact fin 3 (c107_1 (d := d + 11) hG lv hq (by rw [lk_kf 7 rfl]; exact z)) pS
      · rw [u2, if_pos (nI_pos' (by omega)), nI_clamp (by omega)] at pS
        obtain ⟨m', s', x1, x2⟩ := c107 (d := d + 9) (m0 := m0) (s0 := s0) (n := n) (k := k) (C := lkC C) hG (OKC_lk hK) (Rdy_lk (IV_rd iv (by omega))) lv hq u1 (by rw [lk_kf 7 rfl]; exact u2) (by rw [lk_kf 4 rfl]; exact u4) (by rw [lk_kf 5 rfl]; exact u5)
        have okG' := gC_ok (tag := 4) (vals := mvV G (lkC C) u (lkC C 34 0) .null (nI 0)) hG (IV_rd iv (by omega)).2.1 (show m < 512 by omega) iv.2.2.2.2.2.2.2.2.2.2.1
        have x3 := c55_w (d := d + 9) hG hK hr x1 okG' (gC_ad2 (by omega))
        rw [take_eq] at x3
        have iv' := IV_take iv (by omega) u1 lv hq u3 u4 u5 u2
        refine OpP (rS := tkS G.R G.T S m h (nI q)) (n' := n + 1) (k' := k + 7) ?_ Gq_C (by omega) (by omega) (by omega) (by rw [pS, eh]; exact iv') mm
        rw [pS, fnS_1]
        exact ⟨m', s', x3, x2⟩
end EC
