/-! ===== calls: size, reach, alter, measure ===== -/
section DZ
variable {d k : Nat} {m0 : Mm} {s0 : Nat → Nat × Nat} {G : Gh} {C S : St} {n m c : Nat}
def rsC (C : St) (m z : Nat) (v9 v10 v11 e : Int32) : St := sup (sup (sup (sup (sup (sup C 17 0 (nI (m + 1))) 9 z v9) 10 z v10) 11 z v11) 18 0 (C 18 0 + e)) 0 0 (nI 0)
def rsS (S : St) (m z : Nat) (v9 v10 v11 e : Int32) : St := sup (sup (sup (sup (sup (ntS S m z e) 9 z v9) 10 z v10) 11 z v11) 18 0 (S 18 0 + e)) 0 0 (nI 0)
theorem add_sub_i (x e : Int32) : x + e - e = x := i_as x e
theorem IV_rs {j q : Nat} {v9 v10 v11 e : Int32} (iv : IV G C S n m c) (hc : m < 512) (hj : j < G.T) (h3 : G.kd j ≤ 3) (hq : q < 6) (r9 : ∃ x, x ≤ 255 ∧ v9 = nI x) (r10 : ∃ x, x ≤ 255 ∧ v10 = nI x) (r11 : ∃ x, x ≤ 255 ∧ v11 = nI x) : IV (gC G n m 7 (rsV G C j q (C 18 0))) (rsC C m (6 * j + q) v9 v10 v11 e) (rsS S m (6 * j + q) v9 v10 v11 e) (n + 1) (m + 1) (c + 1) := by
  have qv := IV_qv iv
  have jk := iv.2.2.2.2.2.2.2.2.1
  obtain ⟨z, hz⟩ : ∃ z, z = 6 * j + q := ⟨_, rfl⟩
  rw [← hz]
  have cf : ∀ f, f ≠ 0 → f ≠ 9 → f ≠ 10 → f ≠ 11 → f ≠ 17 → f ≠ 18 → ∀ i, rsC C m z v9 v10 v11 e f i = C f i := fun f a b c' x y w i => by
    unfold rsC
    rw [sup_f a, sup_f w, sup_f x, sup_f c', sup_f b, sup_f y]
  have c9 : ∀ i, rsC C m z v9 v10 v11 e 9 i = if i = z then v9 else C 9 i := fun i => by
    unfold rsC
    rw [sup_f (by decide), sup_f (by decide), sup_f (by decide), sup_f (by decide)]
    by_cases h : i = z
    · rw [if_pos h, h, sup_eq]
    · rw [if_neg h, sup_j h, sup_f (by decide)]
  have c10 : ∀ i, rsC C m z v9 v10 v11 e 10 i = if i = z then v10 else C 10 i := fun i => by
    unfold rsC
    rw [sup_f (by decide), sup_f (by decide), sup_f (by decide)]
    by_cases h : i = z
    · rw [if_pos h, h, sup_eq]
    · rw [if_neg h, sup_j h, sup_f (by decide), sup_f (by decide)]
  have c11 : ∀ i, rsC C m z v9 v10 v11 e 11 i = if i = z then v11 else C 11 i := fun i => by
    unfold rsC
    rw [sup_f (by decide), sup_f (by decide)]
    by_cases h : i = z
    · rw [if_pos h, h, sup_eq]
    · rw [if_neg h, sup_j h, sup_f (by decide), sup_f (by decide), sup_f (by decide)]
  have c18 : rsC C m z v9 v10 v11 e 18 0 = C 18 0 + e := by unfold rsC; rw [sup_f (by decide), sup_eq]
  have c18' : ∀ i, i ≠ 0 → rsC C m z v9 v10 v11 e 18 i = C 18 i := fun i hi => by unfold rsC; rw [sup_f (by decide), sup_j hi, sup_f (by decide), sup_f (by decide), sup_f (by decide), sup_f (by decide)]
  have sf : ∀ f, f ≠ 0 → f ≠ 9 → f ≠ 10 → f ≠ 11 → f ≠ 18 → ∀ i, rsS S m z v9 v10 v11 e f i = ntS S m z e f i := fun f a b c' x w i => by
    unfold rsS
    rw [sup_f a, sup_f w, sup_f x, sup_f c', sup_f b]
  obtain ⟨s0', s1, s2, s3, s4, s5, s6⟩ := stS_16 (S := S) (m := m) (w := nI 2) (a := nI z) (b := S 9 z) (c' := S 10 z) (e := S 11 z) (g := e)
  have zT : z < 6 * G.T := by omega
  refine IV_push (P := uZ z (C 9 z) (C 10 z) (C 11 z) (C 18 0)) iv hc ?_ ?_ (fun f h i => ?_) ?_ ?_ (fun f h i => cf f (by omega) (by omega) (by omega) (by omega) (by omega) (by omega) i) (fun f h i hi => ?_) (cf 42 (by decide) (by decide) (by decide) (by decide) (by decide) (by decide) 0) (fun i => ?_) (fun i hi => ?_) (fun t ht h => ?_) (fun y hy => ?_)
  · unfold rsC
    rw [sup_f (by decide), sup_f (by decide), sup_f (by decide), sup_f (by decide), sup_f (by decide), sup_eq]
  · refine Or.inr (Or.inr (Or.inl ⟨j, q, C 9 z, C 10 z, C 11 z, e, ⟨Nat.lt_of_lt_of_le (Nat.lt_succ_self m) (Nat.le_max_right _ _), if_pos rfl, ?_, ?_, ?_, ?_, ?_, ?_⟩, ?_, ?_, ?_, ?_, ?_, ?_, hj, h3, hq, ?_⟩))
    · show (if m = m then rsV G C j q (C 18 0) else G.cv m) 0 = _
      rw [if_pos rfl]
      exact congrArg Value.ref (ge_T iv.1 (gC_GE (G := G)) hj).symm
    · show (if m = m then rsV G C j q (C 18 0) else G.cv m) 1 = _
      rw [if_pos rfl]; rfl
    · show (if m = m then rsV G C j q (C 18 0) else G.cv m) 2 = _
      rw [if_pos rfl, hz]; rfl
    · show (if m = m then rsV G C j q (C 18 0) else G.cv m) 3 = _
      rw [if_pos rfl, hz]; rfl
    · show (if m = m then rsV G C j q (C 18 0) else G.cv m) 4 = _
      rw [if_pos rfl, hz]; rfl
    · show (if m = m then rsV G C j q (C 18 0) else G.cv m) 5 = _
      rw [if_pos rfl, c18, i_as]; rfl
    · rw [sf 16 (by decide) (by decide) (by decide) (by decide) (by decide)]; exact s0'
    · rw [sf 16 (by decide) (by decide) (by decide) (by decide) (by decide), ← hz]; exact s1
    · rw [sf 16 (by decide) (by decide) (by decide) (by decide) (by decide), ← qv 9 z rfl]; exact s2
    · rw [sf 16 (by decide) (by decide) (by decide) (by decide) (by decide), ← qv 10 z rfl]; exact s3
    · rw [sf 16 (by decide) (by decide) (by decide) (by decide) (by decide), ← qv 11 z rfl]; exact s4
    · rw [sf 16 (by decide) (by decide) (by decide) (by decide) (by decide)]; exact s5
    · rw [c18, i_as, hz]
  · rw [uZ_eq]
    by_cases e9 : f = 9
    · subst e9
      by_cases ei : i = z
      · rw [ei, sup_eq]
      · rw [sup_j ei, sup_f (by decide), sup_f (by decide), sup_f (by decide), c9, if_neg ei]
    · rw [sup_f e9]
      by_cases e10 : f = 10
      · subst e10
        by_cases ei : i = z
        · rw [ei, sup_eq]
        · rw [sup_j ei, sup_f (by decide), sup_f (by decide), c10, if_neg ei]
      · rw [sup_f e10]
        by_cases e11 : f = 11
        · subst e11
          by_cases ei : i = z
          · rw [ei, sup_eq]
          · rw [sup_j ei, sup_f (by decide), c11, if_neg ei]
        · rw [sup_f e11]
          by_cases e18 : f = 18
          · subst e18
            by_cases ei : i = 0
            · rw [ei, sup_eq]
            · rw [sup_j ei]; exact c18' i ei
          · rw [sup_f e18]
            exact cf f (fun y => by subst y; cases h) e9 e10 e11 (fun y => by subst y; cases h) e18 i
  · obtain ⟨jp, wi, wn, wr⟩ := jk
    refine ⟨?_, ⟨fun y hy h => ?_, fun x y hx hy h1 h2 e => ?_⟩, ⟨fun i => ?_, fun i => ?_⟩, fun i => ⟨?_, ?_⟩⟩
    · obtain ⟨hK, wh, ws, wt, ρ, rk⟩ := jp
      refine ⟨OKC_eq hK (fun f hf j => cf f (by omega) (by omega) (by omega) (by omega) (by omega) (by omega) j), Whm_eq wh (fun f hf j => cf f (by omega) (by omega) (by omega) (by omega) (by omega) (by omega) j), fun r q lv hq => ?_, fun t ht h3 => ?_, ρ, Rk_eq (cf 2 (by decide) (by decide) (by decide) (by decide) (by decide) (by decide)) (cf 3 (by decide) (by decide) (by decide) (by decide) (by decide) (by decide)) (cf 4 (by decide) (by decide) (by decide) (by decide) (by decide) (by decide)) rk⟩
      · rw [cf 7 (by decide) (by decide) (by decide) (by decide) (by decide) (by decide)]
        rcases ws r q lv hq with z | ⟨u, u1⟩
        · exact Or.inl z
        · exact Or.inr ⟨u, by rw [cf 3 (by decide) (by decide) (by decide) (by decide) (by decide) (by decide), cf 4 (by decide) (by decide) (by decide) (by decide) (by decide) (by decide), cf 5 (by decide) (by decide) (by decide) (by decide) (by decide) (by decide)]; exact u1⟩
      · rw [cf 3 (by decide) (by decide) (by decide) (by decide) (by decide) (by decide)] at h3
        obtain ⟨r, q, z⟩ := wt t ht h3
        exact ⟨r, q, by rw [cf 7 (by decide) (by decide) (by decide) (by decide) (by decide) (by decide), cf 4 (by decide) (by decide) (by decide) (by decide) (by decide) (by decide), cf 5 (by decide) (by decide) (by decide) (by decide) (by decide) (by decide)]; exact z⟩
    · rw [cf 38 (by decide) (by decide) (by decide) (by decide) (by decide) (by decide)] at h
      rw [cf 3 (by decide) (by decide) (by decide) (by decide) (by decide) (by decide)]
      exact wi.1 y hy h
    · rw [cf 38 (by decide) (by decide) (by decide) (by decide) (by decide) (by decide)] at h1 h2
      exact wi.2 x y hx hy h1 h2 e
    · rw [c9]
      by_cases h : i = z
      · rw [if_pos h]; exact r9
      · rw [if_neg h]; exact wn.1 i
    · rw [cf 20 (by decide) (by decide) (by decide) (by decide) (by decide) (by decide)]; exact wn.2 i
    · rw [c10]
      by_cases h : i = z
      · rw [if_pos h]; exact r10
      · rw [if_neg h]; exact (wr i).1
    · rw [c11]
      by_cases h : i = z
      · rw [if_pos h]; exact r11
      · rw [if_neg h]; exact (wr i).2
  · unfold rsC rsS ntS
    rw [qv 18 0 rfl]
    exact Qv_sup (Qv_sup (Qv_sup (Qv_sup (Qv_sup (Qv_st (C1 := C) (S1 := S) qv) _ _ _) _ _ _) _ _ _) _ _ _) _ _ _
  · rcases h with h | h | h <;> subst h
    · rw [c9, if_neg (by omega)]
    · rw [c10, if_neg (by omega)]
    · rw [c11, if_neg (by omega)]
  · rw [sf 22 (by decide) (by decide) (by decide) (by decide) (by decide)]
    unfold ntS
    rw [stS_f (by decide), sup_f (by decide)]
  · rw [sf 16 (by decide) (by decide) (by decide) (by decide) (by decide)]
    exact s6 i hi
  · rw [cf 3 (by decide) (by decide) (by decide) (by decide) (by decide) (by decide)] at h
    rw [cf 5 (by decide) (by decide) (by decide) (by decide) (by decide) (by decide), sf 5 (by decide) (by decide) (by decide) (by decide) (by decide)]
    unfold ntS
    rw [stS_f (by decide), sup_f (by decide)]
    exact iv.2.2.2.2.2.2.2.2.2.2.2.2.1 t ht h
  · rw [cf 38 (by decide) (by decide) (by decide) (by decide) (by decide) (by decide), sf 36 (by decide) (by decide) (by decide) (by decide) (by decide), sf 37 (by decide) (by decide) (by decide) (by decide) (by decide), sf 38 (by decide) (by decide) (by decide) (by decide) (by decide)]
    unfold ntS
    rw [stS_f (by decide), sup_f (by decide), stS_f (by decide), sup_f (by decide), stS_f (by decide), sup_f (by decide)]
    exact iv.2.2.2.2.2.2.2.2.2.2.2.2.2.1 y hy
theorem IV_me {j q : Nat} {v : Int32} (iv : IV G C S n m c) (hc : m < 512) (hj : j < G.A) (hq : q < 6) (r20 : v = -2 ∨ v = -1 ∨ ∃ x, x ≤ 3000 ∧ v = nI x) : IV (gC G n m 6 (rmV G C j q)) (sup (sup (sup C 17 0 (nI (m + 1))) 20 (6 * j + q) v) 0 0 (nI 0)) (sup (sup (stS S m (nI 3) (nI (6 * j + q)) (S 20 (6 * j + q)) (nI 0) (nI 0) (nI 0)) 20 (6 * j + q) v) 0 0 (nI 0)) (n + 1) (m + 1) (c + 1) := by
  have qv := IV_qv iv
  have jk := iv.2.2.2.2.2.2.2.2.1
  obtain ⟨z, hz⟩ : ∃ z, z = 6 * j + q := ⟨_, rfl⟩
  rw [← hz]
  have cf : ∀ f, f ≠ 0 → f ≠ 20 → f ≠ 17 → ∀ i, sup (sup (sup C 17 0 (nI (m + 1))) 20 z v) 0 0 (nI 0) f i = C f i := fun f a b c' i => by rw [sup_f a, sup_f b, sup_f c']
  have c20 : ∀ i, sup (sup (sup C 17 0 (nI (m + 1))) 20 z v) 0 0 (nI 0) 20 i = if i = z then v else C 20 i := fun i => by
    rw [sup_f (by decide)]
    by_cases h : i = z
    · rw [if_pos h, h, sup_eq]
    · rw [if_neg h, sup_j h, sup_f (by decide)]
  have sf : ∀ f, f ≠ 0 → f ≠ 20 → f ≠ 16 → f ≠ 17 → ∀ i, sup (sup (stS S m (nI 3) (nI z) (S 20 z) (nI 0) (nI 0) (nI 0)) 20 z v) 0 0 (nI 0) f i = S f i := fun f a b c' x i => by rw [sup_f a, sup_f b, stS_f c', sup_f x]
  obtain ⟨s0', s1, s2, s3, s4, s5, s6⟩ := stS_16 (S := S) (m := m) (w := nI 3) (a := nI z) (b := S 20 z) (c' := nI 0) (e := nI 0) (g := nI 0)
  refine IV_push (P := uA z (C 20 z)) iv hc (by rw [sup_f (by decide), sup_f (by decide), sup_eq]) ?_ (fun f h i => ?_) ?_ (Qv_sup (Qv_sup (Qv_st (C1 := C) (S1 := S) qv) _ _ _) _ _ _) (fun f h i => cf f (by omega) (by omega) (by omega) i) (fun f h i hi => cf f (by omega) (by omega) (by omega) i) (cf 42 (by decide) (by decide) (by decide) 0) (fun i => sf 22 (by decide) (by decide) (by decide) (by decide) i) (fun i hi => ?_) (fun t ht h => ?_) (fun y hy => ?_)
  · refine Or.inr (Or.inr (Or.inr (Or.inl ⟨j, q, C 20 z, ⟨Nat.lt_of_lt_of_le (Nat.lt_succ_self m) (Nat.le_max_right _ _), if_pos rfl, ?_, ?_, ?_⟩, ?_, ?_, ?_, hj, hq, by rw [hz]⟩)))
    · show (if m = m then rmV G C j q else G.cv m) 0 = _
      rw [if_pos rfl]
      exact congrArg Value.ref (ge_A iv.1 (gC_GE (G := G)) hj).symm
    · show (if m = m then rmV G C j q else G.cv m) 1 = _
      rw [if_pos rfl]; rfl
    · show (if m = m then rmV G C j q else G.cv m) 2 = _
      rw [if_pos rfl, hz]; rfl
    · rw [sup_f (by decide), sup_f (by decide)]; exact s0'
    · rw [sup_f (by decide), sup_f (by decide), ← hz]; exact s1
    · rw [sup_f (by decide), sup_f (by decide), ← qv 20 z rfl]; exact s2
  · rw [uA_eq]
    by_cases e20 : f = 20
    · subst e20
      by_cases ei : i = z
      · rw [ei, sup_eq]
      · rw [sup_j ei, c20, if_neg ei]
    · rw [sup_f e20]
      exact cf f (fun y => by subst y; cases h) e20 (fun y => by subst y; cases h) i
  · obtain ⟨jp, wi, wn, wr⟩ := jk
    refine ⟨?_, ⟨fun y hy h => ?_, fun x y hx hy h1 h2 e => ?_⟩, ⟨fun i => ?_, fun i => ?_⟩, fun i => ?_⟩
    · obtain ⟨hK, wh, ws, wt, ρ, rk⟩ := jp
      refine ⟨OKC_eq hK (fun f hf j => cf f (by omega) (by omega) (by omega) j), Whm_eq wh (fun f hf j => cf f (by omega) (by omega) (by omega) j), fun r q lv hq => ?_, fun t ht h3 => ?_, ρ, Rk_eq (cf 2 (by decide) (by decide) (by decide)) (cf 3 (by decide) (by decide) (by decide)) (cf 4 (by decide) (by decide) (by decide)) rk⟩
      · rw [cf 7 (by decide) (by decide) (by decide)]
        rcases ws r q lv hq with z | ⟨u, u1⟩
        · exact Or.inl z
        · exact Or.inr ⟨u, by rw [cf 3 (by decide) (by decide) (by decide), cf 4 (by decide) (by decide) (by decide), cf 5 (by decide) (by decide) (by decide)]; exact u1⟩
      · rw [cf 3 (by decide) (by decide) (by decide)] at h3
        obtain ⟨r, q, z⟩ := wt t ht h3
        exact ⟨r, q, by rw [cf 7 (by decide) (by decide) (by decide), cf 4 (by decide) (by decide) (by decide), cf 5 (by decide) (by decide) (by decide)]; exact z⟩
    · rw [cf 38 (by decide) (by decide) (by decide)] at h
      rw [cf 3 (by decide) (by decide) (by decide)]
      exact wi.1 y hy h
    · rw [cf 38 (by decide) (by decide) (by decide)] at h1 h2
      exact wi.2 x y hx hy h1 h2 e
    · rw [cf 9 (by decide) (by decide) (by decide)]; exact wn.1 i
    · rw [c20]
      by_cases h : i = z
      · rw [if_pos h]; exact r20
      · rw [if_neg h]; exact wn.2 i
    · rw [cf 10 (by decide) (by decide) (by decide), cf 11 (by decide) (by decide) (by decide)]; exact wr i
  · rw [sup_f (by decide), sup_f (by decide)]
    exact s6 i hi
  · rw [cf 3 (by decide) (by decide) (by decide)] at h
    rw [cf 5 (by decide) (by decide) (by decide), sf 5 (by decide) (by decide) (by decide) (by decide)]
    exact iv.2.2.2.2.2.2.2.2.2.2.2.2.1 t ht h
  · rw [cf 38 (by decide) (by decide) (by decide), sf 36 (by decide) (by decide) (by decide) (by decide), sf 37 (by decide) (by decide) (by decide) (by decide), sf 38 (by decide) (by decide) (by decide) (by decide)]
    exact iv.2.2.2.2.2.2.2.2.2.2.2.2.2.1 y hy
end DZ
