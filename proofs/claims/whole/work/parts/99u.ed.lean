/-! ===== calls: hire ===== -/
def qH (H : Nat) : Pw := fun f j => if f = 38 ∧ j = H then some (nI 2) else if f = 35 ∧ j = 0 then some (nI (H + 1)) else none
def hS0 (S : St) (H t : Nat) (c : Int32) : St := sup (sup (sup (sup S 36 H (nI t)) 37 H c) 38 H (nI 3)) 35 0 (nI (H + 1))
section EE
variable {d k : Nat} {m0 : Mm} {s0 : Nat → Nat × Nat} {G : Gh} {C S : St} {n m c : Nat}
theorem qH_o {H f j : Nat} {K : St} (h1 : f ≠ 38) (h2 : f ≠ 35) : ow (qH H) K f j = K f j := by
  refine ow_n ?_
  unfold qH
  rw [if_neg (fun y => h1 y.1), if_neg (fun y => h2 y.1)]
theorem qH_38 {H j : Nat} {K : St} : ow (qH H) K 38 j = if j = H then nI 2 else K 38 j := by
  by_cases e : j = H
  · rw [if_pos e]
    exact ow_s (by unfold qH; rw [if_pos ⟨rfl, e⟩])
  · rw [if_neg e]
    refine ow_n ?_
    unfold qH
    rw [if_neg (fun y => e y.2), if_neg (by omega)]
theorem qH_35 {H j : Nat} {K : St} : ow (qH H) K 35 j = if j = 0 then nI (H + 1) else K 35 j := by
  by_cases e : j = 0
  · rw [if_pos e]
    exact ow_s (by unfold qH; rw [if_neg (by omega), if_pos ⟨rfl, e⟩])
  · rw [if_neg e]
    refine ow_n ?_
    unfold qH
    rw [if_neg (by omega), if_neg (fun y => e y.2)]
theorem qH_eq {H : Nat} {K : St} : ow (qH H) K = sup (sup K 38 H (nI 2)) 35 0 (nI (H + 1)) := by
  funext f j
  by_cases a : f = 35
  · subst a
    rw [qH_35]
    by_cases e : j = 0
    · rw [if_pos e, e, sup_eq]
    · rw [if_neg e, sup_j e, sup_f (by decide)]
  · rw [sup_f a]
    by_cases b : f = 38
    · subst b
      rw [qH_38]
      by_cases e : j = H
      · rw [if_pos e, e, sup_eq]
      · rw [if_neg e, sup_j e]
    · rw [qH_o b a, sup_f b]
theorem JK_H {t : Nat} {cc : Int32} {K : St} (j : JK G K) : JK (gH G n t cc) (ow (qH G.H) K) := by
  obtain ⟨⟨hK, wh, ws, wt, ρ, rk⟩, wi, wn, wr⟩ := j
  have oo : ∀ f, f ≠ 38 → f ≠ 35 → ∀ j, ow (qH G.H) K f j = K f j := fun f a b j => qH_o a b
  have htE : ∀ y, y < G.H → (gH G n t cc).ht y = G.ht y := fun y hy => if_neg (by omega)
  have lt : ∀ y, y < (gH G n t cc).H → ow (qH G.H) K 38 y = 0 → y < G.H ∧ K 38 y = 0 := fun y hy h => by
    have hy' : y < G.H + 1 := hy
    rw [qH_38] at h
    by_cases e : y = G.H
    · rw [if_pos e] at h; exact absurd h (by decide)
    · rw [if_neg e] at h; exact ⟨by omega, h⟩
  refine ⟨⟨⟨⟨by rw [oo 1 (by decide) (by decide)]; exact hK.1.1, by rw [oo 8 (by decide) (by decide)]; exact hK.1.2.1, by rw [oo 19 (by decide) (by decide)]; exact hK.1.2.2.1, by rw [qH_35, if_pos rfl]; rfl⟩, fun t ht => by rw [oo 2 (by decide) (by decide)]; exact hK.2.1 t ht, fun r lv => by rw [oo 6 (by decide) (by decide)]; exact hK.2.2.1 r lv, fun t ht => by rw [oo 13 (by decide) (by decide)]; exact hK.2.2.2.1 t ht, fun t ht => by rw [oo 4 (by decide) (by decide)]; exact hK.2.2.2.2.1 t ht, fun r lv q hq => by rw [oo 7 (by decide) (by decide)]; exact hK.2.2.2.2.2 r lv q hq⟩, fun t ht => by rw [oo 3 (by decide) (by decide), oo 4 (by decide) (by decide)]; exact wh t ht, fun r q lv hq => ?_, fun t ht h3 => ?_, ρ, Rk_eq (oo 2 (by decide) (by decide)) (oo 3 (by decide) (by decide)) (oo 4 (by decide) (by decide)) rk⟩, ⟨fun y hy h => ?_, fun x y hx hy h1 h2 e => ?_⟩, ⟨fun j => by rw [oo 9 (by decide) (by decide)]; exact wn.1 j, fun j => by rw [oo 20 (by decide) (by decide)]; exact wn.2 j⟩, fun j => by rw [oo 10 (by decide) (by decide), oo 11 (by decide) (by decide)]; exact wr j⟩
  · rw [oo 7 (by decide) (by decide)]
    rcases ws r q lv hq with z | ⟨u, u1⟩
    · exact Or.inl z
    · exact Or.inr ⟨u, by rw [oo 3 (by decide) (by decide), oo 4 (by decide) (by decide), oo 5 (by decide) (by decide)]; exact u1⟩
  · rw [oo 3 (by decide) (by decide)] at h3
    obtain ⟨r, q, z⟩ := wt t ht h3
    exact ⟨r, q, by rw [oo 7 (by decide) (by decide), oo 4 (by decide) (by decide), oo 5 (by decide) (by decide)]; exact z⟩
  · obtain ⟨a, b⟩ := lt y hy h
    rw [oo 3 (by decide) (by decide), htE y a]
    exact wi.1 y a b
  · obtain ⟨a1, b1⟩ := lt x hx h1
    obtain ⟨a2, b2⟩ := lt y hy h2
    rw [htE x a1, htE y a2] at e
    exact wi.2 x y a1 a2 b1 b2 e
/-- a hire more, that is undone already -/
theorem IV_H {t : Nat} {cc : Int32} (iv : IV G C S n m c) (hH : G.H < 300) (ht : t < G.T) : IV (gH G n t cc) (ow (qH G.H) C) (hS0 S G.H t cc) (n + 1) m c := by
  obtain ⟨hG, vc, wf, w4, wl, ⟨nr, wr, w22⟩, ⟨q3, q1, q2⟩, w42, jk, ⟨m1, m2, m3⟩, hn, qv, h5, hh, E, hs⟩ := iv
  obtain ⟨okG', ge, _, had2, _⟩ := gH_all (n := n) (t := t) (c := cc) hG hH hn
  have zf : ∀ f j, f ≠ 35 → f ≠ 36 → f ≠ 37 → f ≠ 38 → hS0 S G.H t cc f j = S f j := fun f j a b c' e => by
    unfold hS0
    rw [sup_f a, sup_f e, sup_f c', sup_f b]
  refine ⟨okG', ⟨fun j => ?_, fun j => ?_, fun i hi => ?_⟩, ⟨fun j hj => ?_, fun j hj => ?_⟩, w4, fun j => ?_, ⟨nr, ?_, fun j hj => ?_⟩, ⟨q3, q1, ?_⟩, ?_, JK_H jk, ⟨?_, m2, m3⟩, fun x hx => ?_, fun g i hg => ?_, fun u hu h3 => ?_, fun y hy => ?_, E, ?_⟩
  · rw [qH_o (by decide) (by decide)]; exact vc.1 j
  · rw [qH_o (by decide) (by decide)]; exact vc.2.1 j
  · have hi' : i < G.H + 1 := hi
    show (if i = G.H then t else G.ht i) < G.T
    by_cases e : i = G.H
    · rw [if_pos e]; exact ht
    · rw [if_neg e]; exact vc.2.2 i (by omega)
  · rw [qH_o (by decide) (by decide), qH_o (by decide) (by decide), qH_o (by decide) (by decide)]; exact wf.1 j hj
  · rw [qH_o (by decide) (by decide)]; exact wf.2 j hj
  · rw [qH_o (by decide) (by decide)]; exact wl j
  · exact Wro_eq (G := gH G n t cc) (C := C) wr (fun f hf j => qH_o (by omega) (by omega))
  · rw [zf 22 j (by decide) (by decide) (by decide) (by decide), qH_o (by decide) (by decide)]; exact w22 j hj
  · rw [qH_o (by decide) (by decide)]; exact q2
  · rw [qH_o (by decide) (by decide)]; exact w42
  · rw [qH_o (by decide) (by decide)]; exact m1
  · have hx' : (if n ≤ x ∧ x < n + 1 then fHi G.H (x - n) else G.W x) ≠ 0 := hx
    by_cases e : n ≤ x ∧ x < n + 1
    · omega
    · rw [if_neg e] at hx'
      have := hn x hx'
      omega
  · rw [qH_eq]
    unfold hS0
    by_cases a : g = 35
    · subst a
      by_cases e : i = 0
      · rw [e, sup_eq, sup_eq]
      · rw [sup_j e, sup_j e, sup_f (by decide), sup_f (by decide), sup_f (by decide), sup_f (by decide)]; exact qv 35 i rfl
    · rw [sup_f a, sup_f a, sup_f (fun y => by subst y; cases hg), sup_f (fun y => by subst y; cases hg), sup_f (fun y => by subst y; cases hg), sup_f (fun y => by subst y; cases hg)]
      exact qv g i hg
  · rw [qH_o (by decide) (by decide)] at h3
    rw [zf 5 u (by decide) (by decide) (by decide) (by decide), qH_o (by decide) (by decide)]
    exact h5 u hu h3
  · have hy' : y < G.H + 1 := hy
    rw [qH_38]
    show hS0 S G.H t cc 36 y = nI (if y = G.H then t else G.ht y) ∧ hS0 S G.H t cc 37 y = (if y = G.H then cc else G.hd y) ∧ _
    unfold hS0
    rw [sup_f (show ¬ 36 = 35 by decide), sup_f (show ¬ 36 = 38 by decide), sup_f (show ¬ 36 = 37 by decide), sup_f (show ¬ 37 = 35 by decide), sup_f (show ¬ 37 = 38 by decide), sup_f (show ¬ 38 = 35 by decide)]
    by_cases e : y = G.H
    · subst e
      rw [if_pos rfl, if_pos rfl, if_pos rfl, sup_eq, sup_eq, sup_eq]
      exact ⟨rfl, rfl, rfl⟩
    · rw [if_neg e, if_neg e, if_neg e, sup_j e, sup_j e, sup_j e, sup_f (by decide), sup_f (by decide), sup_f (by decide)]
      exact hh y (by omega)
  · have hg := Hs_grow (G' := gH G n t cc) (S := S) (S' := S) (E := E) (Q := qH G.H) hG ge (Nat.le_refl _) (Nat.le_refl _) (Nat.le_succ _) (fun r lv => lv) (fun f j => by
      by_cases dm : Dm G f j
      · left
        unfold qH
        rcases dm with ⟨a, b⟩ | ⟨a, r, q, lv, hq, e⟩ | ⟨a, b⟩ | ⟨a, b⟩ | ⟨a, b⟩ | ⟨a, b⟩ <;> rw [if_neg (by omega), if_neg (by omega)]
      · exact Or.inr dm) (fun K j => JK_H j) m C (fun x hx => ⟨show x < G.N by omega, rfl, rfl⟩) (fun _ _ => rfl) hs
    exact Hs_ext okG' m _ _ (fun f hf j => rfl) (fun j _ => zf 16 j (by decide) (by decide) (by decide) (by decide)) (fun _ _ => rfl) hg
theorem hire_eq {t r q H : Nat} {p : Int32} : lvC2 (sup (sup (mvO (sup (hiC (lkC C) H) 17 0 (nI (m + 1))) t r q (nI 2) (nI 0)) 34 0 p) 0 0 (nI 0)) = ow (uY (uM t (nI 2) (-1) (nI 0) (40 * r + q) (-1) p) H (nI 0)) (bsC (ow (qH H) C) m) := by
  have e1 : sup (hiC (lkC C) H) 17 0 (nI (m + 1)) = sup (sup (sup (lkC C) 17 0 (nI (m + 1))) 35 0 (nI (H + 1))) 38 H (nI 0) := by
    unfold hiC
    rw [sup_com (show 35 ≠ 17 by decide), sup_com (show 38 ≠ 17 by decide), sup_com (show 38 ≠ 35 by decide)]
  have e42 : sup (sup (lkC C) 17 0 (nI (m + 1))) 35 0 (nI (H + 1)) 42 0 = C 42 0 + nI 1 + nI 1 := by
    unfold lkC
    rw [sup_f (by decide), sup_f (by decide), sup_eq]
  have e2 : sup (sup (sup (sup (lkC C) 17 0 (nI (m + 1))) 35 0 (nI (H + 1))) 0 0 (nI 0)) 42 0 (C 42 0) = sup (bsC C m) 35 0 (nI (H + 1)) := by
    rw [sup_com (show 35 ≠ 0 by decide), sup_com (show 35 ≠ 42 by decide), lkC_bs (b := 0)]
  have lq : ∀ f j, f ≠ 38 → lkd (ow (qH H) C) f j = sup (lkd C) 35 0 (nI (H + 1)) f j := fun f j h => by
    rw [qH_eq]
    unfold lkd
    rw [sup_f (show ¬ 14 = 35 by decide), sup_f (show ¬ 14 = 38 by decide), sup_f (show ¬ 15 = 35 by decide), sup_f (show ¬ 15 = 38 by decide)]
    by_cases a : f = 35
    · subst a
      rw [sup_f (by decide), sup_f (by decide)]
      by_cases e : j = 0
      · rw [e, sup_eq, sup_eq]
      · rw [sup_j e, sup_j e, sup_f (by decide), sup_f (by decide), sup_f (by decide)]
    · rw [sup_f (f := 35) a]
      by_cases b : f = 15 ∧ j = 0
      · obtain ⟨rfl, rfl⟩ := b; rw [sup_eq, sup_eq]
      · rw [sup_ne b, sup_ne b]
        by_cases b2 : f = 14 ∧ j = 0
        · obtain ⟨rfl, rfl⟩ := b2; rw [sup_eq, sup_eq]
        · rw [sup_ne b2, sup_ne b2, sup_f a, sup_f h]
  have oc : ∀ (P : Pw) (X Y : St) f j, X f j = Y f j → ow P X f j = ow P Y f j := fun P X Y f j h => by unfold ow; rw [h]
  have e3 : ow (uY (uM t (nI 2) (-1) (nI 0) (40 * r + q) (-1) p) H (nI 0)) (sup (bsC C m) 35 0 (nI (H + 1))) = ow (uY (uM t (nI 2) (-1) (nI 0) (40 * r + q) (-1) p) H (nI 0)) (bsC (ow (qH H) C) m) := by
    funext f j
    by_cases a : f = 38
    · subst a
      rw [uY_38 uM_38n, uY_38 uM_38n]
      by_cases e : j = H
      · rw [if_pos e, if_pos e]
      · rw [if_neg e, if_neg e, sup_f (by decide), bsC_f (by decide) (by decide) (by decide) (by decide), bsC_f (by decide) (by decide) (by decide) (by decide), qH_38, if_neg e]
    · refine oc _ _ _ f j ?_
      unfold bsC
      by_cases z : f = 35
      · subst z
        rw [sup_f (show ¬ 35 = 0 by decide), sup_f (show ¬ 35 = 17 by decide), lq 35 j (by decide)]
        by_cases e : j = 0
        · rw [e, sup_eq, sup_eq]
        · rw [sup_j e, sup_j e, sup_f (by decide), sup_f (by decide)]
      · rw [sup_f z]
        by_cases b : f = 0 ∧ j = 0
        · obtain ⟨rfl, rfl⟩ := b; rw [sup_eq, sup_eq]
        · rw [sup_ne b, sup_ne b]
          by_cases b2 : f = 17 ∧ j = 0
          · obtain ⟨rfl, rfl⟩ := b2; rw [sup_eq, sup_eq]
          · rw [sup_ne b2, sup_ne b2, lq f j a, sup_f z]
  rw [e1, mvO_eq, ← ow_sup (uM_38n H), ← uY_eq, ow_sup (by rfl)]
  unfold lvC2
  rw [uY_f (by decide), uM_f (by decide) (by decide) (by decide) (by decide) (by decide), sup_f (show ¬ 42 = 0 by decide), e42, i_as, i_as, ow_sup (by rfl), e2, e3]
theorem IV_hire {t r q : Nat} {cc : Int32} (iv : IV G C S n m c) (hc : m < 512) (hH : G.H < 300) (ht : t < G.T) (lv : lvR G r) (hq : q < G.sl r) (h3 : C 3 t = nI 1) (h4 : C 4 t = hN r) (h5 : C 5 t = nI q) (h7 : C 7 (40 * r + q) = nI t) : IV (gC (gH G n t cc) (n + 1) m 4 (mvV (gH G n t cc) (hiC (lkC C) G.H) t (lkC C 34 0) (.ref n) (nI 2))) (ow (uY (uM t (nI 2) (-1) (nI 0) (40 * r + q) (-1) (C 34 0 + cc)) G.H (nI 0)) (bsC (ow (qH G.H) C) m)) (sup (sup (sup (sup (sup (sup (lfS (stS (lkd S) m (nI 4) (nI t) (hN r) (nI q) (nI G.H) (nI 0)) r q t (nI 2)) 36 G.H (nI t)) 37 G.H cc) 38 G.H (nI 1)) 35 0 (nI (G.H + 1))) 34 0 (S 34 0 + cc)) 0 0 (nI 0)) (n + 2) (m + 1) (c + 1) := by
  have ivH := IV_H (t := t) (cc := cc) iv hH ht
  have qv := IV_qv iv
  have hG := iv.1
  have hG' := ivH.1
  have wi := (IV_jk iv).2.1
  obtain ⟨_, ge, hadH, _, _⟩ := gH_all (n := n) (t := t) (c := cc) hG hH iv.2.2.2.2.2.2.2.2.2.2.1
  have lvH : lvR (gH G n t cc) r := lv
  have aJH : aJ (gH G n t cc) G.H = n := by
    unfold aJ
    rw [if_pos hH]
    exact hadH 0 (by decide)
  obtain ⟨s0', s1, s2, s3, s4, s5, s6⟩ := stS_16 (S := lkd S) (m := m) (w := nI 4) (a := nI t) (b := hN r) (c' := nI q) (e := nI G.H) (g := nI 0)
  have B : ∀ f, f ≠ 35 → f ≠ 38 → f ≠ 0 → f ≠ 14 → f ≠ 15 → f ≠ 17 → ∀ j, bsC (ow (qH G.H) C) m f j = C f j := fun f a b e g x y j => by rw [bsC_f e g x y, qH_o b a]
  have q3 : ∀ f, f ≠ 35 → f ≠ 38 → ∀ j, ow (qH G.H) C f j = C f j := fun f a b j => qH_o b a
  have o34 : ow (uY (uM t (nI 2) (-1) (nI 0) (40 * r + q) (-1) (C 34 0 + cc)) G.H (nI 0)) (bsC (ow (qH G.H) C) m) 34 0 = C 34 0 + cc := by rw [uY_f (by decide), uM_34, if_pos rfl]
  have ob : ∀ f, f ≠ 3 → f ≠ 4 → f ≠ 5 → f ≠ 7 → f ≠ 34 → f ≠ 0 → f ≠ 14 → f ≠ 15 → f ≠ 17 → f ≠ 38 → ∀ j, ow (uY (uM t (nI 2) (-1) (nI 0) (40 * r + q) (-1) (C 34 0 + cc)) G.H (nI 0)) (bsC (ow (qH G.H) C) m) f j = ow (qH G.H) C f j := fun f a b c' e g x y z w v j => by rw [uY_f v, uM_f a b c' e g, bsC_f x y z w]
  have o38 : ∀ j, ow (uY (uM t (nI 2) (-1) (nI 0) (40 * r + q) (-1) (C 34 0 + cc)) G.H (nI 0)) (bsC (ow (qH G.H) C) m) 38 j = if j = G.H then nI 0 else C 38 j := fun j => by
    rw [uY_38 uM_38n, bsC_f (by decide) (by decide) (by decide) (by decide), qH_38]
    by_cases e : j = G.H
    · rw [if_pos e, if_pos e]
    · rw [if_neg e, if_neg e, if_neg e]
  obtain ⟨Z, hZ⟩ : ∃ Z : St, Z = sup (sup (sup (sup (sup (sup (lfS (stS (lkd S) m (nI 4) (nI t) (hN r) (nI q) (nI G.H) (nI 0)) r q t (nI 2)) 36 G.H (nI t)) 37 G.H cc) 38 G.H (nI 1)) 35 0 (nI (G.H + 1))) 34 0 (S 34 0 + cc)) 0 0 (nI 0) := ⟨_, rfl⟩
  rw [← hZ]
  have z1 : ∀ f, f ≠ 0 → f ≠ 34 → f ≠ 35 → f ≠ 36 → f ≠ 37 → f ≠ 38 → ∀ j, Z f j = lfS (stS (lkd S) m (nI 4) (nI t) (hN r) (nI q) (nI G.H) (nI 0)) r q t (nI 2) f j := fun f a b c' e g x j => by rw [hZ, sup_f a, sup_f b, sup_f c', sup_f x, sup_f g, sup_f e]
  have zs : ∀ f, f ≠ 0 → f ≠ 34 → f ≠ 35 → f ≠ 36 → f ≠ 37 → f ≠ 38 → f ≠ 3 → f ≠ 4 → f ≠ 7 → f ≠ 16 → f ≠ 17 → f ≠ 14 → f ≠ 15 → ∀ j, Z f j = S f j := fun f a b c' e g x y z w u v h14 h15 j => by rw [z1 f a b c' e g x, lf_f y z w, stS_f u, sup_f v, lkd_f h14 h15]
  refine IV_push (G := gH G n t cc) (C := ow (qH G.H) C) (P := uY (uM t (ow (qH G.H) C 3 t) (ow (qH G.H) C 4 t) (ow (qH G.H) C 5 t) (40 * r + q) (ow (qH G.H) C 7 (40 * r + q)) (ow (qH G.H) C 34 0)) G.H (ow (qH G.H) C 38 G.H)) ivH hc (by rw [uY_f (by decide), uM_f (by decide) (by decide) (by decide) (by decide) (by decide)]; exact bsC_17) ?_ (fun f h j => bk_my h) ?_ ?_ (fun f h j => ob f (by omega) (by omega) (by omega) (by omega) (by omega) (by omega) (by omega) (by omega) (by omega) (by omega) j) (fun f h j hj => ob f (by omega) (by omega) (by omega) (by omega) (by omega) (by omega) (by omega) (by omega) (by omega) (by omega) j) (ob 42 (by decide) (by decide) (by decide) (by decide) (by decide) (by decide) (by decide) (by decide) (by decide) (by decide) 0) (fun j => ?_) (fun j hj => ?_) (fun u hu h => ?_) (fun x hx => ?_)
  · have htH : (gC (gH G n t cc) (n + 1) m 4 (mvV (gH G n t cc) (hiC (lkC C) G.H) t (lkC C 34 0) (.ref n) (nI 2))).ht G.H = t := if_pos rfl
    have hdH : (gC (gH G n t cc) (n + 1) m 4 (mvV (gH G n t cc) (hiC (lkC C) G.H) t (lkC C 34 0) (.ref n) (nI 2))).hd G.H = cc := if_pos rfl
    have hi : ∀ f, f ≠ 38 → f ≠ 35 → kf f = true → ∀ j, hiC (lkC C) G.H f j = C f j := fun f a b h j => by rw [hiC_f a b, lk_kf f h]
    refine Or.inr (Or.inr (Or.inr (Or.inr (Or.inl ⟨r, q, G.H, ⟨Nat.lt_of_lt_of_le (Nat.lt_succ_self m) (Nat.le_max_right _ _), if_pos rfl, ?_, ?_, ?_, ?_, ?_, ?_, ?_⟩, ?_, ?_, ?_, ?_, ?_, Nat.lt_succ_self _, by rw [htH]; exact ht, lv, hq, ?_, ?_⟩))))
    · rw [htH]
      show (if m = m then mvV (gH G n t cc) (hiC (lkC C) G.H) t (lkC C 34 0) (.ref n) (nI 2) else G.cv m) 0 = _
      rw [if_pos rfl]
      exact congrArg Value.ref (ge_T hG' (gC_GE (G := gH G n t cc)) ht).symm
    · show (if m = m then mvV (gH G n t cc) (hiC (lkC C) G.H) t (lkC C 34 0) (.ref n) (nI 2) else G.cv m) 1 = _
      rw [if_pos rfl]
      show Value.int (hiC (lkC C) G.H 3 t) = _
      rw [hi 3 (by decide) (by decide) rfl, h3]
    · show (if m = m then mvV (gH G n t cc) (hiC (lkC C) G.H) t (lkC C 34 0) (.ref n) (nI 2) else G.cv m) 2 = _
      rw [if_pos rfl]
      show rfH (gH G n t cc) (hiC (lkC C) G.H 4 t) = _
      rw [hi 4 (by decide) (by decide) rfl, h4, rfH_r (lr_212 hG lv)]
      exact congrArg Value.ref (ge_H hG' (gC_GE (G := gH G n t cc)) lvH).symm
    · show (if m = m then mvV (gH G n t cc) (hiC (lkC C) G.H) t (lkC C 34 0) (.ref n) (nI 2) else G.cv m) 3 = _
      rw [if_pos rfl]
      show Value.int (hiC (lkC C) G.H 5 t) = _
      rw [hi 5 (by decide) (by decide) rfl, h5]
    · rw [hdH, o34, i_as]
      show (if m = m then mvV (gH G n t cc) (hiC (lkC C) G.H) t (lkC C 34 0) (.ref n) (nI 2) else G.cv m) 4 = _
      rw [if_pos rfl]
      show Value.int (lkC C 34 0) = _
      rw [lkC_f (by decide) (by decide) (by decide)]
    · show (if m = m then mvV (gH G n t cc) (hiC (lkC C) G.H) t (lkC C 34 0) (.ref n) (nI 2) else G.cv m) 5 = _
      rw [if_pos rfl, ge_J hG' (gC_GE (G := gH G n t cc)) (show G.H < (gH G n t cc).H from Nat.lt_succ_self _), aJH]; rfl
    · show (if m = m then mvV (gH G n t cc) (hiC (lkC C) G.H) t (lkC C 34 0) (.ref n) (nI 2) else G.cv m) 6 = _
      rw [if_pos rfl]; rfl
    · rw [z1 16 (by decide) (by decide) (by decide) (by decide) (by decide) (by decide), lf_f (by decide) (by decide) (by decide)]; exact s0'
    · rw [htH, z1 16 (by decide) (by decide) (by decide) (by decide) (by decide) (by decide), lf_f (by decide) (by decide) (by decide)]; exact s1
    · rw [z1 16 (by decide) (by decide) (by decide) (by decide) (by decide) (by decide), lf_f (by decide) (by decide) (by decide)]; exact s2
    · rw [z1 16 (by decide) (by decide) (by decide) (by decide) (by decide) (by decide), lf_f (by decide) (by decide) (by decide)]; exact s3
    · rw [z1 16 (by decide) (by decide) (by decide) (by decide) (by decide) (by decide), lf_f (by decide) (by decide) (by decide)]; exact s4
    · rw [htH, uY_f (by decide), uM_4, if_pos rfl]
    · rw [htH, hdH, o34, i_as, q3 3 (by decide) (by decide), q3 4 (by decide) (by decide), q3 5 (by decide) (by decide), q3 7 (by decide) (by decide), q3 34 (by decide) (by decide), qH_38, if_pos rfl, h3, h4, h5, h7]
  · obtain ⟨jp, wiH, wn, wr⟩ := IV_jk ivH
    have ne : ∀ y, y < G.H → C 38 y = 0 → G.ht y ≠ t := fun y hy h e => by
      have := wi.1 y hy h
      rw [e, h3] at this
      exact absurd this (by decide)
    have htE : ∀ y, y < G.H → (gH G n t cc).ht y = G.ht y := fun y hy => if_neg (by omega)
    have htN : (gH G n t cc).ht G.H = t := if_pos rfl
    refine ⟨?_, ⟨fun x hx h => ?_, fun x x' hx hx' h1 h2 e => ?_⟩, ⟨fun j => ?_, fun j => ?_⟩, fun j => ?_⟩
    · refine JP_lif hG' jp ht lvH hq (by rw [q3 4 (by decide) (by decide)]; exact h4) (by rw [q3 5 (by decide) (by decide)]; exact h5) (by rw [q3 7 (by decide) (by decide)]; exact h7) ⟨by rw [uY_f (by decide), uM_3, if_pos rfl]; decide, by rw [uY_f (by decide), uM_4, if_pos rfl], by rw [uY_f (by decide), uM_7, if_pos rfl], fun j hj => ⟨by rw [uY_f (by decide), uM_3, if_neg hj, bsC_f (by decide) (by decide) (by decide) (by decide)], by rw [uY_f (by decide), uM_4, if_neg hj, bsC_f (by decide) (by decide) (by decide) (by decide)], by rw [uY_f (by decide), uM_5, if_neg hj, bsC_f (by decide) (by decide) (by decide) (by decide)]⟩, fun j hj => by rw [uY_f (by decide), uM_7, if_neg hj, bsC_f (by decide) (by decide) (by decide) (by decide)], fun f hf j => ob f (by omega) (by omega) (by omega) (by omega) (by omega) (by omega) (by omega) (by omega) (by omega) (by omega) j⟩
    · have hx' : x < G.H + 1 := hx
      rw [o38] at h
      rw [uY_f (by decide), uM_3]
      by_cases e : x = G.H
      · rw [e, htN, if_pos rfl]
      · rw [if_neg e] at h
        have hl : x < G.H := by omega
        rw [htE x hl, if_neg (ne x hl h), B 3 (by decide) (by decide) (by decide) (by decide) (by decide) (by decide)]
        exact wi.1 x hl h
    · have hx1 : x < G.H + 1 := hx
      have hx2 : x' < G.H + 1 := hx'
      rw [o38] at h1 h2
      by_cases e1 : x = G.H
      · by_cases e2 : x' = G.H
        · rw [e1, e2]
        · rw [if_neg e2] at h2
          rw [e1, htN, htE x' (by omega)] at e
          exact absurd e.symm (ne x' (by omega) h2)
      · rw [if_neg e1] at h1
        by_cases e2 : x' = G.H
        · rw [e2, htN, htE x (by omega)] at e
          exact absurd e (ne x (by omega) h1)
        · rw [if_neg e2] at h2
          rw [htE x (by omega), htE x' (by omega)] at e
          exact wi.2 x x' (by omega) (by omega) h1 h2 e
    · rw [ob 9 (by decide) (by decide) (by decide) (by decide) (by decide) (by decide) (by decide) (by decide) (by decide) (by decide)]; exact wn.1 j
    · rw [ob 20 (by decide) (by decide) (by decide) (by decide) (by decide) (by decide) (by decide) (by decide) (by decide) (by decide)]; exact wn.2 j
    · rw [ob 10 (by decide) (by decide) (by decide) (by decide) (by decide) (by decide) (by decide) (by decide) (by decide) (by decide), ob 11 (by decide) (by decide) (by decide) (by decide) (by decide) (by decide) (by decide) (by decide) (by decide) (by decide)]; exact wr j
  · refine Qv_y (Qv_mv (S0 := bsC (hS0 S G.H t cc) m) (Qv_bs (IV_qv ivH)) (fun j => ?_) (fun j => ?_) (fun j => ?_) (fun j => ?_) (fun f j h a b e g => ?_))
    · rw [z1 3 (by decide) (by decide) (by decide) (by decide) (by decide) (by decide), lf_3, stS_f (by decide), sup_f (by decide), lkd_f (by decide) (by decide), bsC_f (by decide) (by decide) (by decide) (by decide)]
      unfold hS0
      rw [sup_f (by decide), sup_f (by decide), sup_f (by decide), sup_f (by decide)]
    · rw [z1 4 (by decide) (by decide) (by decide) (by decide) (by decide) (by decide), lf_4, stS_f (by decide), sup_f (by decide), lkd_f (by decide) (by decide), bsC_f (by decide) (by decide) (by decide) (by decide)]
      unfold hS0
      rw [sup_f (by decide), sup_f (by decide), sup_f (by decide), sup_f (by decide)]
    · rw [z1 7 (by decide) (by decide) (by decide) (by decide) (by decide) (by decide), lf_7, stS_f (by decide), sup_f (by decide), lkd_f (by decide) (by decide), bsC_f (by decide) (by decide) (by decide) (by decide)]
      unfold hS0
      rw [sup_f (by decide), sup_f (by decide), sup_f (by decide), sup_f (by decide)]
    · rw [hZ, sup_f (by decide), qv 34 0 rfl, bsC_f (by decide) (by decide) (by decide) (by decide)]
      by_cases e : j = 0
      · rw [if_pos e, e, sup_eq]
      · rw [if_neg e, sup_j e, sup_f (by decide), sup_f (by decide), sup_f (by decide), sup_f (by decide), lf_f (by decide) (by decide) (by decide), stS_f (by decide), sup_f (by decide), lkd_f (by decide) (by decide)]
        unfold hS0
        rw [sup_f (by decide), sup_f (by decide), sup_f (by decide), sup_f (by decide)]
    · have n36 : f ≠ 36 := fun y => by subst y; cases h
      have n37 : f ≠ 37 := fun y => by subst y; cases h
      have n38 : f ≠ 38 := fun y => by subst y; cases h
      have n16 : f ≠ 16 := fun y => by subst y; cases h
      have hq0 : ∀ i, f ≠ 35 → hS0 S G.H t cc f i = S f i := fun i h35 => by
        unfold hS0
        rw [sup_f h35, sup_f n38, sup_f n37, sup_f n36]
      rw [hZ]
      unfold bsC
      by_cases z : f = 0 ∧ j = 0
      · obtain ⟨rfl, rfl⟩ := z; rw [sup_eq, sup_eq]
      · rw [sup_ne z, sup_ne z, sup_f g]
        by_cases e35 : f = 35
        · subst e35
          rw [sup_f (show ¬ 35 = 17 by decide), lkd_f (by decide) (by decide)]
          unfold hS0
          by_cases ej : j = 0
          · rw [ej, sup_eq, sup_eq]
          · rw [sup_j ej, sup_j ej, sup_f (by decide), sup_f (by decide), sup_f (by decide), lf_f (by decide) (by decide) (by decide), stS_f (by decide), sup_f (by decide), lkd_f (by decide) (by decide), sup_f (by decide), sup_f (by decide), sup_f (by decide)]
        · rw [sup_f e35, sup_f n38, sup_f n37, sup_f n36, lf_f a b e, stS_f n16]
          by_cases z2 : f = 17 ∧ j = 0
          · obtain ⟨rfl, rfl⟩ := z2; rw [sup_eq, sup_eq]
          · rw [sup_ne z2, sup_ne z2]
            unfold lkd
            by_cases z3 : f = 15 ∧ j = 0
            · obtain ⟨rfl, rfl⟩ := z3
              rw [sup_eq, sup_eq, hq0 0 e35]
            · rw [sup_ne z3, sup_ne z3]
              by_cases z4 : f = 14 ∧ j = 0
              · obtain ⟨rfl, rfl⟩ := z4
                rw [sup_eq, sup_eq, hq0 0 e35]
              · rw [sup_ne z4, sup_ne z4, hq0 j e35]
  · rw [zs 22 (by decide) (by decide) (by decide) (by decide) (by decide) (by decide) (by decide) (by decide) (by decide) (by decide) (by decide) (by decide) (by decide)]
    unfold hS0
    rw [sup_f (by decide), sup_f (by decide), sup_f (by decide), sup_f (by decide)]
  · rw [z1 16 (by decide) (by decide) (by decide) (by decide) (by decide) (by decide), lf_f (by decide) (by decide) (by decide), s6 j hj, lkd_f (by decide) (by decide)]
    unfold hS0
    rw [sup_f (by decide), sup_f (by decide), sup_f (by decide), sup_f (by decide)]
  · rw [uY_f (by decide), uM_3] at h
    by_cases e : u = t
    · rw [if_pos e] at h; exact absurd h (by decide)
    · rw [if_neg e, B 3 (by decide) (by decide) (by decide) (by decide) (by decide) (by decide)] at h
      rw [zs 5 (by decide) (by decide) (by decide) (by decide) (by decide) (by decide) (by decide) (by decide) (by decide) (by decide) (by decide) (by decide) (by decide), uY_f (by decide), uM_5, if_neg e, B 5 (by decide) (by decide) (by decide) (by decide) (by decide) (by decide)]
      exact iv.2.2.2.2.2.2.2.2.2.2.2.2.1 u hu h
  · have hx' : x < G.H + 1 := hx
    rw [o38, hZ]
    show _ = nI (if x = G.H then t else G.ht x) ∧ _ = (if x = G.H then cc else G.hd x) ∧ _
    rw [sup_f (show ¬ 36 = 0 by decide), sup_f (show ¬ 36 = 34 by decide), sup_f (show ¬ 36 = 35 by decide), sup_f (show ¬ 36 = 38 by decide), sup_f (show ¬ 36 = 37 by decide), sup_f (show ¬ 37 = 0 by decide), sup_f (show ¬ 37 = 34 by decide), sup_f (show ¬ 37 = 35 by decide), sup_f (show ¬ 37 = 38 by decide), sup_f (show ¬ 38 = 0 by decide), sup_f (show ¬ 38 = 34 by decide), sup_f (show ¬ 38 = 35 by decide)]
    by_cases e : x = G.H
    · rw [if_pos e, if_pos e, if_pos e, e, sup_eq, sup_eq, sup_eq]
      exact ⟨rfl, rfl, rfl⟩
    · rw [if_neg e, if_neg e, if_neg e, sup_j e, sup_j e, sup_j e, sup_f (show ¬ 37 = 36 by decide), sup_f (show ¬ 38 = 37 by decide), sup_f (show ¬ 38 = 36 by decide), lf_f (by decide) (by decide) (by decide), lf_f (by decide) (by decide) (by decide), lf_f (by decide) (by decide) (by decide), stS_f (by decide), stS_f (by decide), stS_f (by decide), sup_f (by decide), sup_f (by decide), sup_f (by decide), lkd_f (by decide) (by decide), lkd_f (by decide) (by decide), lkd_f (by decide) (by decide)]
      exact iv.2.2.2.2.2.2.2.2.2.2.2.2.2.1 x (by omega)
theorem op29 (iv : IV G C S n m c) (hc : c < 512) {t x : Int32} : OpQ d G C S n k m c m0 s0 73 [some (.ref (G.ad 1)), some (.int t), some (.int x), none, none] 197 (fun o => [some (.ref o), some (.int t), some (.int x)]) := by
  have hG := iv.1
  have hK := IV_K iv
  have qv := IV_qv iv
  have hT := okT hG
  have hH := okH hG
  have hmc := IV_mc iv
  have S35 : S 35 0 = nI G.H := by rw [qv 35 0 rfl]; exact hK.1.2.2.2
  have wtS : Wthg S G.T G.R := fun u hu h3 => by
    rw [qv 3 _ rfl] at h3
    obtain ⟨r, q, a, b, e, f⟩ := Wthg_of hG hK (IV_JP iv).2.2.2.1 u hu h3
    exact ⟨r, q, by rw [IV_row iv, qv 4 _ rfl]; exact a, by rw [iv.2.2.2.2.2.2.2.2.2.2.2.2.1 u hu h3]; exact b, by rw [IV_sN iv]; exact e, by rw [qv 7 _ rfl]; exact f⟩
  have mm : ∀ o F, FrO o F m → Md o m F (ex (d + 13) 197 0 [some (.ref o), some (.int t), some (.int x)] [] (hM o F S)) (hrS G.R G.T G.H S m t x) := fun o F hF => m197 (d := d + 10) hF (IV_17 iv) (by omega) (IV_WfT iv) (IV_Wrow iv) wtS S35 hH
  cases ht : ixI G.T t with
  | none =>
    refine OpM (c73_0 (d := d + 11) hG hK ht) (rS := hrS G.R G.T G.H S m t x) ?_ mm
    unfold hrS
    rw [ht]
    exact RR_bd iv
  | some j =>
    obtain ⟨et, hj⟩ := ixI_some (by omega) ht
    subst et
    by_cases h5 : nI 5 < C 2 j
    · refine OpM (c73_1 (d := d + 11) hG hK hj h5) (rS := hrS G.R G.T G.H S m (nI j) x) ?_ mm
      unfold hrS
      rw [ht]
      simp only
      rw [if_pos (show nI 5 < S 2 j by rw [qv 2 j rfl]; exact h5)]
      exact RR_bd iv
    · have n5 : ¬ nI 5 < S 2 j := by rw [qv 2 j rfl]; exact h5
      by_cases h3 : C 3 j = nI 1
      · have s3 : S 3 j = nI 1 := by rw [qv 3 j rfl]; exact h3
        have fin : ex (d + 12) 109 0 [some (.ref (G.ad 1)), some (.ref (aT G j)), some (.int x), none, none] [] (cM G (lkC C) m0, cS G s0, n, k) = rtC G m0 s0 n k (bdS (lkC C) 6) → hrS G.R G.T G.H S m (nI j) x = bdS (lkd S) 6 → OpQ d G C S n k m c m0 s0 73 [some (.ref (G.ad 1)), some (.int (nI j)), some (.int x), none, none] 197 (fun o => [some (.ref o), some (.int (nI j)), some (.int x)]) := fun h1 h2 =>
          OpM (rC := (-1, lvC2 (sup (lkC C) 0 0 (nI 6)))) (c73_w (d := d + 9) hG hK hj h5 h3 h1 hG rfl) (rS := hrS G.R G.T G.H S m (nI j) x) (by rw [h2]; exact RR_lk iv 6) mm
        by_cases hx : ixR 0 1000000 x = none
        · refine fin (c109_n (d := d + 11) hG (OKC_lk hK) (Or.inl hx)) ?_
          unfold hrS
          rw [ht]
          simp only
          rw [if_neg n5, if_pos s3, if_pos hx]
        · by_cases h300 : G.H = 300
          · refine fin (c109_n (d := d + 11) hG (OKC_lk hK) (Or.inr h300)) ?_
            unfold hrS
            rw [ht]
            simp only
            rw [if_neg n5, if_pos s3, if_neg hx, if_pos h300]
          · cases hx' : ixR 0 1000000 x with
            | none => exact absurd hx' hx
            | some w =>
              obtain ⟨ew, _, w6⟩ := ixR_some (by decide) (by decide) hx'
              subst ew
              obtain ⟨r, q, lv, hq, h4, h5', h7⟩ := (IV_JP iv).2.2.2.1 j hj h3
              have s40 := hG.2.2.2.2.1 r lv
              have e5 : S 5 j = nI q := by rw [iv.2.2.2.2.2.2.2.2.2.2.2.2.1 j hj h3]; exact h5'
              have e4 : S 4 j = hN r := by rw [qv 4 j rfl]; exact h4
              have rw1 : rwT G.R G.T S j = r := by
                unfold rwT
                rw [e4, IV_row iv, lv_rowI hG hK lv]
                rfl
              have sl1 : slT S j = q := by
                unfold slT
                rw [e5, nI_clamp (by omega)]
              have pS : hrS G.R G.T G.H S m (nI j) (nI w) = fnS (sup (sup (sup (sup (sup (lfS (stS (lkd S) m (nI 4) (nI j) (hN r) (nI q) (nI G.H) (nI 0)) r q j (nI 2)) 36 G.H (nI j)) 37 G.H (nI w)) 38 G.H (nI 1)) 35 0 (nI (G.H + 1))) 34 0 (S 34 0 + nI w)) (nI G.H) := by
                unfold hrS
                rw [ht]
                simp only
                rw [if_neg n5, if_pos s3, if_neg hx, if_neg h300, rw1, sl1, e4, e5]
              obtain ⟨m', s', x1, x2⟩ := c109 (d := d + 9) (m0 := m0) (s0 := s0) (n := n) (k := k) (C := lkC C) (c := w) hG (OKC_lk hK) (Rdy_lk (IV_rd iv (by omega))) lv hq hj (by rw [lk_kf 4 rfl]; exact h4) (by rw [lk_kf 5 rfl]; exact h5') (by omega) hx'
              have iv' := IV_hire (cc := nI w) iv (by omega) (by omega) hj lv hq h3 h4 h5' h7
              have a1 : (gC (gH G n j (nI w)) (n + 1) m 4 (mvV (gH G n j (nI w)) (hiC (lkC C) G.H) j (lkC C 34 0) (.ref n) (nI 2))).ad 1 = G.ad 1 := by
                rw [gC_ad2 (by omega)]
                exact (gH_all (n := n) (t := j) (c := nI w) hG (by omega) iv.2.2.2.2.2.2.2.2.2.2.1).2.2.2.1 1 (Or.inl ⟨by decide, by decide⟩)
              have x3 := c73_w (d := d + 9) hG hK hj h5 h3 x1 iv'.1 a1
              rw [hire_eq, show lkC C 34 0 = C 34 0 from lkC_f (by decide) (by decide) (by decide)] at x3
              rw [show lkC C 34 0 = C 34 0 from lkC_f (by decide) (by decide) (by decide)] at iv' a1
              refine OpP (rS := hrS G.R G.T G.H S m (nI j) (nI w)) (n' := n + 2) (k' := k + 3 + 7) ?_ ⟨a1, fun a ha h => ?_⟩ (by omega) (by omega) (by omega) (by rw [pS]; exact iv') mm
              · rw [pS, fnS_1]
                exact ⟨m', s', x3, x2⟩
              · show (if a = n + 1 then 3000 + m else if m < G.N ∧ a = aC (gH G n j (nI w)) m then 0 else (if n ≤ a ∧ a < n + 1 then fHi G.H (a - n) else G.W a)) = 0
                rw [if_neg (by omega), if_neg (show ¬ (n ≤ a ∧ a < n + 1) by omega), h]
                split <;> rfl
      · have n3 : ¬ S 3 j = nI 1 := by rw [qv 3 j rfl]; exact h3
        refine OpM (c73_2 (d := d + 11) hG hK hj h5 h3) (rS := hrS G.R G.T G.H S m (nI j) x) ?_ mm
        unfold hrS
        rw [ht]
        simp only
        rw [if_neg n5, if_neg n3]
        exact RR_bd iv
end EE
