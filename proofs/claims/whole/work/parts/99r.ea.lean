/-! ===== calls: put, take ===== -/
def bsC (C : St) (m : Nat) : St := sup (sup (lkd C) 17 0 (nI (m + 1))) 0 0 (nI 0)
theorem bsC_f {C : St} {m f j : Nat} (h0 : f ≠ 0) (h14 : f ≠ 14) (h15 : f ≠ 15) (h17 : f ≠ 17) : bsC C m f j = C f j := by
  unfold bsC
  rw [sup_f h0, sup_f h17, lkd_f h14 h15]
theorem bsC_17 {C : St} {m : Nat} : bsC C m 17 0 = nI (m + 1) := by
  unfold bsC
  rw [sup_f (by decide), sup_eq]
theorem Qv_lkd {C S : St} (qv : Qv C S) : Qv (lkd C) (lkd S) := by
  unfold lkd
  rw [qv 14 0 rfl, qv 15 0 rfl]
  exact Qv_sup (Qv_sup qv _ _ _) _ _ _
theorem Qv_bs {C S : St} {m : Nat} (qv : Qv C S) : Qv (bsC C m) (bsC S m) := Qv_sup (Qv_sup (Qv_lkd qv) _ _ _) _ _ _
theorem ow_sup {P : Pw} {X : St} {f j : Nat} {v : Int32} (h : P f j = none) : sup (ow P X) f j v = ow P (sup X f j v) := by
  funext g i
  by_cases e : g = f ∧ i = j
  · obtain ⟨rfl, rfl⟩ := e
    rw [sup_eq, ow_n h, sup_eq]
  · rw [sup_ne e]
    unfold ow
    rw [sup_ne e]
section EB0
variable {B C : St} {t z m : Nat} {a3 a4 a5 a7 p b3 b4 b5 b7 : Int32}
theorem uM_f {f j : Nat} (h3 : f ≠ 3) (h4 : f ≠ 4) (h5 : f ≠ 5) (h7 : f ≠ 7) (h34 : f ≠ 34) : ow (uM t a3 a4 a5 z a7 p) B f j = B f j := by
  rw [uM_eq, sup_f h3, sup_f h4, sup_f h5, sup_f h7, sup_f h34]
theorem uM_3 {j : Nat} : ow (uM t a3 a4 a5 z a7 p) B 3 j = if j = t then a3 else B 3 j := by
  rw [uM_eq]
  by_cases e : j = t
  · rw [if_pos e, e, sup_eq]
  · rw [if_neg e, sup_j e, sup_f (by decide), sup_f (by decide), sup_f (by decide), sup_f (by decide)]
theorem uM_4 {j : Nat} : ow (uM t a3 a4 a5 z a7 p) B 4 j = if j = t then a4 else B 4 j := by
  rw [uM_eq, sup_f (by decide)]
  by_cases e : j = t
  · rw [if_pos e, e, sup_eq]
  · rw [if_neg e, sup_j e, sup_f (by decide), sup_f (by decide), sup_f (by decide)]
theorem uM_5 {j : Nat} : ow (uM t a3 a4 a5 z a7 p) B 5 j = if j = t then a5 else B 5 j := by
  rw [uM_eq, sup_f (by decide), sup_f (by decide)]
  by_cases e : j = t
  · rw [if_pos e, e, sup_eq]
  · rw [if_neg e, sup_j e, sup_f (by decide), sup_f (by decide)]
theorem uM_7 {j : Nat} : ow (uM t a3 a4 a5 z a7 p) B 7 j = if j = z then a7 else B 7 j := by
  rw [uM_eq, sup_f (by decide), sup_f (by decide), sup_f (by decide)]
  by_cases e : j = z
  · rw [if_pos e, e, sup_eq]
  · rw [if_neg e, sup_j e, sup_f (by decide)]
theorem uM_34 {j : Nat} : ow (uM t a3 a4 a5 z a7 p) B 34 j = if j = 0 then p else B 34 j := by
  rw [uM_eq, sup_f (by decide), sup_f (by decide), sup_f (by decide), sup_f (by decide)]
  by_cases e : j = 0
  · rw [if_pos e, e, sup_eq]
  · rw [if_neg e, sup_j e]
/-- what was moved goes back -/
theorem bk_mv {f j : Nat} (h : hf f = true) : ow (uM t (C 3 t) (C 4 t) (C 5 t) z (C 7 z) (C 34 0)) (ow (uM t a3 a4 a5 z a7 p) (bsC C m)) f j = C f j := by
  have b : ∀ f, hf f = true → ∀ j, bsC C m f j = C f j := fun f h j => bsC_f (fun y => by subst y; cases h) (fun y => by subst y; cases h) (fun y => by subst y; cases h) (fun y => by subst y; cases h)
  by_cases h3 : f = 3
  · subst h3
    rw [uM_3, uM_3]
    by_cases e : j = t
    · rw [if_pos e, e]
    · rw [if_neg e, if_neg e]; exact b 3 rfl j
  · by_cases h4 : f = 4
    · subst h4
      rw [uM_4, uM_4]
      by_cases e : j = t
      · rw [if_pos e, e]
      · rw [if_neg e, if_neg e]; exact b 4 rfl j
    · by_cases h5 : f = 5
      · subst h5
        rw [uM_5, uM_5]
        by_cases e : j = t
        · rw [if_pos e, e]
        · rw [if_neg e, if_neg e]; exact b 5 rfl j
      · by_cases h7 : f = 7
        · subst h7
          rw [uM_7, uM_7]
          by_cases e : j = z
          · rw [if_pos e, e]
          · rw [if_neg e, if_neg e]; exact b 7 rfl j
        · by_cases h34 : f = 34
          · subst h34
            rw [uM_34, uM_34]
            by_cases e : j = 0
            · rw [if_pos e, e]
            · rw [if_neg e, if_neg e]; exact b 34 rfl j
          · rw [uM_f h3 h4 h5 h7 h34, uM_f h3 h4 h5 h7 h34]
            exact b f h j
theorem Qv_mv {S0 S1 : St} (qv : Qv B S0) (s3 : ∀ j, S1 3 j = if j = t then a3 else S0 3 j) (s4 : ∀ j, S1 4 j = if j = t then a4 else S0 4 j) (s7 : ∀ j, S1 7 j = if j = z then a7 else S0 7 j) (s34 : ∀ j, S1 34 j = if j = 0 then p else S0 34 j) (so : ∀ f j, shf f = true → f ≠ 3 → f ≠ 4 → f ≠ 7 → f ≠ 34 → S1 f j = S0 f j) : Qv (ow (uM t a3 a4 a5 z a7 p) B) S1 := fun f j h => by
  by_cases h3 : f = 3
  · subst h3; rw [s3, uM_3, qv 3 j rfl]
  · by_cases h4 : f = 4
    · subst h4; rw [s4, uM_4, qv 4 j rfl]
    · by_cases h7 : f = 7
      · subst h7; rw [s7, uM_7, qv 7 j rfl]
      · by_cases h34 : f = 34
        · subst h34; rw [s34, uM_34, qv 34 j rfl]
        · rw [so f j h h3 h4 h7 h34, uM_f h3 h4 (fun y => by subst y; cases h) h7 h34]
          exact qv f j h
end EB0
section EB
variable {d k : Nat} {m0 : Mm} {s0 : Nat → Nat × Nat} {G : Gh} {C S : St} {n m c : Nat}
theorem lkC_bs {b : Int32} : sup (sup (sup (lkC C) 17 0 (nI (m + 1))) 0 0 (nI 0)) 42 0 (C 42 0) = bsC C m := by
  unfold lkC bsC
  rw [sup_com (show 0 ≠ 42 by decide), sup_com (show 17 ≠ 42 by decide), sup_sup, sup_id (X := lkd C) (f := 42) (lkd_f (by decide) (by decide))]
theorem put_eq {t r q : Nat} : lvC2 (sup (mvI (sup (lkC C) 17 0 (nI (m + 1))) t r q (nI 1)) 0 0 (nI 0)) = ow (uM t (nI 1) (hN r) (nI q) (40 * r + q) (nI t) (C 34 0)) (bsC C m) := by
  have e34 : mvI (sup (lkC C) 17 0 (nI (m + 1))) t r q (nI 1) 34 0 = C 34 0 := by
    unfold mvI
    rw [sup_f (by decide), sup_f (by decide), sup_f (by decide), sup_f (by decide), sup_f (by decide), lkC_f (by decide) (by decide) (by decide)]
  have e42 : sup (lkC C) 17 0 (nI (m + 1)) 42 0 = C 42 0 + nI 1 + nI 1 := by
    unfold lkC
    rw [sup_f (by decide), sup_eq]
  have e := mvI_eq (C := sup (lkC C) 17 0 (nI (m + 1))) (t := t) (r := r) (q := q) (a3 := nI 1) (p := C 34 0)
  rw [sup_id e34] at e
  rw [e, ow_sup (by rfl)]
  unfold lvC2
  rw [uM_f (by decide) (by decide) (by decide) (by decide) (by decide), sup_f (show ¬ 42 = 0 by decide), e42, i_as, i_as, ow_sup (by rfl), lkC_bs (b := 0)]
theorem take_eq {t r q : Nat} {a3 a5 : Int32} : lvC2 (sup (mvO (sup (lkC C) 17 0 (nI (m + 1))) t r q a3 a5) 0 0 (nI 0)) = ow (uM t a3 (-1) a5 (40 * r + q) (-1) (C 34 0)) (bsC C m) := by
  have e34 : mvO (sup (lkC C) 17 0 (nI (m + 1))) t r q a3 a5 34 0 = C 34 0 := by
    unfold mvO
    rw [sup_f (by decide), sup_f (by decide), sup_f (by decide), sup_f (by decide), sup_f (by decide), lkC_f (by decide) (by decide) (by decide)]
  have e42 : sup (lkC C) 17 0 (nI (m + 1)) 42 0 = C 42 0 + nI 1 + nI 1 := by
    unfold lkC
    rw [sup_f (by decide), sup_eq]
  have e := mvO_eq (C := sup (lkC C) 17 0 (nI (m + 1))) (t := t) (r := r) (q := q) (a3 := a3) (a5 := a5) (p := C 34 0)
  rw [sup_id e34] at e
  rw [e, ow_sup (by rfl)]
  unfold lvC2
  rw [uM_f (by decide) (by decide) (by decide) (by decide) (by decide), sup_f (show ¬ 42 = 0 by decide), e42, i_as, i_as, ow_sup (by rfl), lkC_bs (b := 0)]
/-- the things' places behind a move, and all else of JK -/
theorem JK_put {t r q : Nat} {p : Int32} (hG : OKG G) (jk : JK G C) (ht : t < G.T) (lv : lvR G r) (hq : q < G.sl r) (h7 : C 7 (40 * r + q) = -1) (h3 : ¬ C 3 t = nI 1) (hly : lyF C G.T r q t = 0) (hw : ∀ y, y < G.H → C 38 y = 0 → G.ht y ≠ t) : JK G (ow (uM t (nI 1) (hN r) (nI q) (40 * r + q) (nI t) p) (bsC C m)) := by
  obtain ⟨jp, wi, wn, wr⟩ := jk
  have o : ∀ f, f ≠ 3 → f ≠ 4 → f ≠ 5 → f ≠ 7 → f ≠ 34 → f ≠ 0 → f ≠ 14 → f ≠ 15 → f ≠ 17 → ∀ j, ow (uM t (nI 1) (hN r) (nI q) (40 * r + q) (nI t) p) (bsC C m) f j = C f j := fun f a b c' e g x y z w j => by rw [uM_f a b c' e g, bsC_f x y z w]
  refine ⟨JP_lay hG jp ht lv hq h7 h3 hly ⟨by rw [uM_3, if_pos rfl], by rw [uM_4, if_pos rfl], by rw [uM_5, if_pos rfl], by rw [uM_7, if_pos rfl], fun j hj => ⟨by rw [uM_3, if_neg hj, bsC_f (by decide) (by decide) (by decide) (by decide)], by rw [uM_4, if_neg hj, bsC_f (by decide) (by decide) (by decide) (by decide)], by rw [uM_5, if_neg hj, bsC_f (by decide) (by decide) (by decide) (by decide)]⟩, fun j hj => by rw [uM_7, if_neg hj, bsC_f (by decide) (by decide) (by decide) (by decide)], fun f hf j => o f (by omega) (by omega) (by omega) (by omega) (by omega) (by omega) (by omega) (by omega) (by omega) j⟩, ⟨fun y hy h => ?_, fun x y hx hy h1 h2 e => ?_⟩, ⟨fun j => ?_, fun j => ?_⟩, fun j => ?_⟩
  · rw [o 38 (by decide) (by decide) (by decide) (by decide) (by decide) (by decide) (by decide) (by decide) (by decide)] at h
    rw [uM_3, if_neg (hw y hy h), bsC_f (by decide) (by decide) (by decide) (by decide)]
    exact wi.1 y hy h
  · rw [o 38 (by decide) (by decide) (by decide) (by decide) (by decide) (by decide) (by decide) (by decide) (by decide)] at h1 h2
    exact wi.2 x y hx hy h1 h2 e
  · rw [o 9 (by decide) (by decide) (by decide) (by decide) (by decide) (by decide) (by decide) (by decide) (by decide)]; exact wn.1 j
  · rw [o 20 (by decide) (by decide) (by decide) (by decide) (by decide) (by decide) (by decide) (by decide) (by decide)]; exact wn.2 j
  · rw [o 10 (by decide) (by decide) (by decide) (by decide) (by decide) (by decide) (by decide) (by decide) (by decide), o 11 (by decide) (by decide) (by decide) (by decide) (by decide) (by decide) (by decide) (by decide) (by decide)]; exact wr j
theorem JK_take {t r q : Nat} {a3 a5 p : Int32} (hG : OKG G) (jk : JK G C) (ht : t < G.T) (lv : lvR G r) (hq : q < G.sl r) (h4 : C 4 t = hN r) (h5 : C 5 t = nI q) (h7 : C 7 (40 * r + q) = nI t) (n3 : ¬ a3 = nI 1) (hw : ∀ y, y < G.H → C 38 y = 0 → G.ht y ≠ t) : JK G (ow (uM t a3 (-1) a5 (40 * r + q) (-1) p) (bsC C m)) := by
  obtain ⟨jp, wi, wn, wr⟩ := jk
  have o : ∀ f, f ≠ 3 → f ≠ 4 → f ≠ 5 → f ≠ 7 → f ≠ 34 → f ≠ 0 → f ≠ 14 → f ≠ 15 → f ≠ 17 → ∀ j, ow (uM t a3 (-1) a5 (40 * r + q) (-1) p) (bsC C m) f j = C f j := fun f a b c' e g x y z w j => by rw [uM_f a b c' e g, bsC_f x y z w]
  refine ⟨JP_lif hG jp ht lv hq h4 h5 h7 ⟨by rw [uM_3, if_pos rfl]; exact n3, by rw [uM_4, if_pos rfl], by rw [uM_7, if_pos rfl], fun j hj => ⟨by rw [uM_3, if_neg hj, bsC_f (by decide) (by decide) (by decide) (by decide)], by rw [uM_4, if_neg hj, bsC_f (by decide) (by decide) (by decide) (by decide)], by rw [uM_5, if_neg hj, bsC_f (by decide) (by decide) (by decide) (by decide)]⟩, fun j hj => by rw [uM_7, if_neg hj, bsC_f (by decide) (by decide) (by decide) (by decide)], fun f hf j => o f (by omega) (by omega) (by omega) (by omega) (by omega) (by omega) (by omega) (by omega) (by omega) j⟩, ⟨fun y hy h => ?_, fun x y hx hy h1 h2 e => ?_⟩, ⟨fun j => ?_, fun j => ?_⟩, fun j => ?_⟩
  · rw [o 38 (by decide) (by decide) (by decide) (by decide) (by decide) (by decide) (by decide) (by decide) (by decide)] at h
    rw [uM_3, if_neg (hw y hy h), bsC_f (by decide) (by decide) (by decide) (by decide)]
    exact wi.1 y hy h
  · rw [o 38 (by decide) (by decide) (by decide) (by decide) (by decide) (by decide) (by decide) (by decide) (by decide)] at h1 h2
    exact wi.2 x y hx hy h1 h2 e
  · rw [o 9 (by decide) (by decide) (by decide) (by decide) (by decide) (by decide) (by decide) (by decide) (by decide)]; exact wn.1 j
  · rw [o 20 (by decide) (by decide) (by decide) (by decide) (by decide) (by decide) (by decide) (by decide) (by decide)]; exact wn.2 j
  · rw [o 10 (by decide) (by decide) (by decide) (by decide) (by decide) (by decide) (by decide) (by decide) (by decide), o 11 (by decide) (by decide) (by decide) (by decide) (by decide) (by decide) (by decide) (by decide) (by decide)]; exact wr j
theorem IV_jk (iv : IV G C S n m c) : JK G C := iv.2.2.2.2.2.2.2.2.1
/-- the steps of the reference behind a move -/
theorem st_bs {X : St} {w a b c' e g : Int32} {f j : Nat} (h : f ≠ 16) : sup (stS X m w a b c' e g) 0 0 (nI 0) f j = sup (sup X 17 0 (nI (m + 1))) 0 0 (nI 0) f j := by
  by_cases z : f = 0 ∧ j = 0
  · obtain ⟨rfl, rfl⟩ := z
    rw [sup_eq, sup_eq]
  · rw [sup_ne z, sup_ne z, stS_f h]
theorem lay_f {X : St} {r q t f j : Nat} {h : Int32} (h3 : f ≠ 3) (h4 : f ≠ 4) (h5 : f ≠ 5) (h7 : f ≠ 7) : layS X r q t h f j = X f j := by
  unfold layS
  rw [sup_f h5, sup_f h4, sup_f h3, sup_f h7]
theorem lay_3 {X : St} {r q t j : Nat} {h : Int32} : layS X r q t h 3 j = if j = t then nI 1 else X 3 j := by
  unfold layS
  rw [sup_f (by decide), sup_f (by decide)]
  by_cases e : j = t
  · rw [if_pos e, e, sup_eq]
  · rw [if_neg e, sup_j e, sup_f (by decide)]
theorem lay_4 {X : St} {r q t j : Nat} {h : Int32} : layS X r q t h 4 j = if j = t then h else X 4 j := by
  unfold layS
  rw [sup_f (by decide)]
  by_cases e : j = t
  · rw [if_pos e, e, sup_eq]
  · rw [if_neg e, sup_j e, sup_f (by decide), sup_f (by decide)]
theorem lay_5 {X : St} {r q t j : Nat} {h : Int32} : layS X r q t h 5 j = if j = t then nI q else X 5 j := by
  unfold layS
  by_cases e : j = t
  · rw [if_pos e, e, sup_eq]
  · rw [if_neg e, sup_j e, sup_f (by decide), sup_f (by decide), sup_f (by decide)]
theorem lay_7 {X : St} {r q t j : Nat} {h : Int32} : layS X r q t h 7 j = if j = 40 * r + q then nI t else X 7 j := by
  unfold layS
  rw [sup_f (by decide), sup_f (by decide), sup_f (by decide)]
  by_cases e : j = 40 * r + q
  · rw [if_pos e, e, sup_eq]
  · rw [if_neg e, sup_j e]
theorem lf_f {X : St} {r q t f j : Nat} {h : Int32} (h3 : f ≠ 3) (h4 : f ≠ 4) (h7 : f ≠ 7) : lfS X r q t h f j = X f j := by
  unfold lfS
  rw [sup_f h4, sup_f h3, sup_f h7]
theorem lf_3 {X : St} {r q t j : Nat} {h : Int32} : lfS X r q t h 3 j = if j = t then h else X 3 j := by
  unfold lfS
  rw [sup_f (by decide)]
  by_cases e : j = t
  · rw [if_pos e, e, sup_eq]
  · rw [if_neg e, sup_j e, sup_f (by decide)]
theorem lf_4 {X : St} {r q t j : Nat} {h : Int32} : lfS X r q t h 4 j = if j = t then -1 else X 4 j := by
  unfold lfS
  by_cases e : j = t
  · rw [if_pos e, e, sup_eq]
  · rw [if_neg e, sup_j e, sup_f (by decide), sup_f (by decide)]
theorem lf_7 {X : St} {r q t j : Nat} {h : Int32} : lfS X r q t h 7 j = if j = 40 * r + q then -1 else X 7 j := by
  unfold lfS
  rw [sup_f (by decide), sup_f (by decide)]
  by_cases e : j = 40 * r + q
  · rw [if_pos e, e, sup_eq]
  · rw [if_neg e, sup_j e]
end EB
