/-! ===== calls: roles, scenes, plans, purse, find, count, locks, digest ===== -/
section DT
variable {d k : Nat} {m0 : Mm} {s0 : Nat → Nat × Nat} {G : Gh} {C S : St} {n m c : Nat}
theorem findR_eq {a s : Int32} : ∀ q, (∀ j, j < q → S 22 j = C 22 j) → (∀ j, S 23 j = C 23 j) → findR S a s q = findR C a s q := by
  intro q
  induction q with
  | zero => intro _ _; rfl
  | succ q ih =>
    intro h1 h2
    unfold findR
    rw [ih (fun j hj => h1 j (by omega)) h2, h1 q (by omega), h2]
theorem op23 (iv : IV G C S n m c) {a s : Int32} : OpQ d G C S n k m c m0 s0 67 [some (.ref (G.ad 1)), some (.int a), some (.int s), none] 187 (fun o => [some (.ref o), some (.int a), some (.int s), none]) := by
  have qv := IV_qv iv
  have hA := okA iv.1
  obtain ⟨q, wr, w22⟩ := iv.2.2.2.2.2.1
  have q7 := wr.2.1
  refine OpR (c67 (d := d + 11) (q := q) iv.1 (IV_K iv) ⟨wr.1, wr.2.1, wr.2.2.1⟩) (rS := rlS G.A q S a s) ?_ (fun o p pl M s n k hp => m187 (d := d + 12) hp (IV_A iv) hA (by rw [qv 21 0 rfl]; exact wr.1) q7)
  unfold rlS
  rw [findR_eq q w22 (fun j => qv 23 j rfl)]
  cases ha : ixI G.A a with
  | none => exact RR_bd iv
  | some i =>
    obtain ⟨ea, hi⟩ := ixI_some (by omega) ha
    simp only
    by_cases h9 : ixR 0 9 s = none
    · rw [if_pos h9, if_pos h9]; exact RR_bd iv
    · rw [if_neg h9, if_neg h9]
      by_cases h7 : q = 7
      · rw [if_pos h7, if_pos h7]; exact RR_bd iv
      · rw [if_neg h7, if_neg h7]
        by_cases hf : findR C a s q = true
        · rw [if_pos hf, if_pos hf]; exact RR_bd iv
        · rw [if_neg hf, if_neg hf]
          have k1 : ∀ f, f ≠ 0 → f ≠ 21 → f ≠ 22 → f ≠ 23 → ∀ i, (fnS (sup (sup (sup C 22 q a) 23 q s) 21 0 (nI (q + 1))) (nI q)).2 f i = C f i := fun f a b c e i => by rw [fnS_2, sup_f a, sup_f b, sup_f e, sup_f c]
          have k2 : ∀ f, f ≠ 0 → f ≠ 21 → f ≠ 22 → f ≠ 23 → ∀ i, (fnS (sup (sup (sup S 22 q a) 23 q s) 21 0 (nI (q + 1))) (nI q)).2 f i = S f i := fun f a b c e i => by rw [fnS_2, sup_f a, sup_f b, sup_f e, sup_f c]
          have e22 : ∀ X : St, ∀ i, (fnS (sup (sup (sup X 22 q a) 23 q s) 21 0 (nI (q + 1))) (nI q)).2 22 i = if i = q then a else X 22 i := fun X i => by
            rw [fnS_2, sup_f (by decide), sup_f (by decide), sup_f (by decide)]
            by_cases e : i = q
            · rw [if_pos e, e, sup_eq]
            · rw [if_neg e, sup_j e]
          have e23 : ∀ i, (fnS (sup (sup (sup C 22 q a) 23 q s) 21 0 (nI (q + 1))) (nI q)).2 23 i = if i = q then s else C 23 i := fun i => by
            rw [fnS_2, sup_f (by decide), sup_f (by decide)]
            by_cases e : i = q
            · rw [if_pos e, e, sup_eq]
            · rw [if_neg e, sup_j e, sup_f (by decide)]
          obtain ⟨q3, q1, q2⟩ := iv.2.2.2.2.2.2.1
          obtain ⟨s', hs'⟩ : ∃ s', ixR 0 9 s = some s' := by
            cases h : ixR 0 9 s with
            | none => exact absurd h h9
            | some s' => exact ⟨s', rfl⟩
          obtain ⟨es, _, s9⟩ := ixR_some (by decide) (by decide) hs'
          refine ⟨rfl, IV_fr iv (fun f h i => k1 f (fun y => by subst y; cases h) (fun y => by subst y; cases h) (fun y => by subst y; cases h) (fun y => by subst y; cases h) i) (k1 17 (by decide) (by decide) (by decide) (by decide) 0) (fun i _ => k2 16 (by decide) (by decide) (by decide) (by decide) i) (fun f h i => k2 f (by omega) (by omega) (by omega) (by omega) i) (Qv_sup (Qv_sup (Qv_sup (Qv_sup qv _ _ _) _ _ _) _ _ _) _ _ _) ⟨fun j => ?_, fun j => by rw [k1 44 (by decide) (by decide) (by decide) (by decide)]; exact iv.2.1.2.1 j, iv.2.1.2.2⟩ (Wfr_k iv.2.2.1 (fun f h i => k1 f (by omega) (by omega) (by omega) (by omega) i)) (fun i => by rw [k1 24 (by decide) (by decide) (by decide) (by decide)]; exact iv.2.2.2.2.1 i) ⟨q + 1, ⟨by rw [fnS_2, sup_f (by decide), sup_eq], by omega, fun r hr => ?_, fun r hr => ?_⟩, fun j hj => ?_⟩ ⟨q3, q1, by rw [k1 32 (by decide) (by decide) (by decide) (by decide)]; exact q2⟩ (by rw [k1 42 (by decide) (by decide) (by decide) (by decide)]; exact iv.2.2.2.2.2.2.2.1), by rw [k2 17 (by decide) (by decide) (by decide) (by decide)]; exact IV_17 iv⟩
          · rw [e22]
            by_cases e : j = q
            · rw [if_pos e]; exact Or.inr ⟨i, hi, ea⟩
            · rw [if_neg e]; exact iv.2.1.1 j
          · rw [e22]
            by_cases e : r = q
            · rw [if_pos e]; exact ⟨i, hi, ea⟩
            · rw [if_neg e]; exact wr.2.2.1 r (by omega)
          · rw [e23]
            by_cases e : r = q
            · rw [if_pos e]; exact ⟨s', s9, es⟩
            · rw [if_neg e]; exact wr.2.2.2 r (by omega)
          · rw [e22, e22]
            by_cases e : j = q
            · rw [if_pos e, if_pos e]
            · rw [if_neg e, if_neg e]; exact w22 j (by omega)
theorem op24 (iv : IV G C S n m c) : OpQ d G C S n k m c m0 s0 68 [some (.ref (G.ad 1)), none] 188 (fun o => [some (.ref o), none]) := by
  have qv := IV_qv iv
  obtain ⟨q3, q1, q2⟩ := iv.2.2.2.2.2.2.1
  have k1 : ∀ f, f ≠ 21 → ∀ i, sup C 21 0 (nI 0) f i = C f i := fun f h i => sup_f h
  have k2 : ∀ f, f ≠ 21 → ∀ i, sup S 21 0 (nI 0) f i = S f i := fun f h i => sup_f h
  have v : IV G (sup C 21 0 (nI 0)) (sup S 21 0 (nI 0)) n m (c + 1) := IV_fr iv (fun f h i => k1 f (fun y => by subst y; cases h) i) (k1 17 (by decide) 0) (fun i _ => k2 16 (by decide) i) (fun f h i => k2 f (by omega) i) (Qv_sup qv _ _ _) (VC_k iv.2.1 (fun f h i => k1 f (by omega) i)) (Wfr_k iv.2.2.1 (fun f h i => k1 f (by omega) i)) (fun i => by rw [k1 24 (by decide)]; exact iv.2.2.2.2.1 i) ⟨0, ⟨sup_eq, by omega, fun r hr => by omega, fun r hr => by omega⟩, fun j hj => by omega⟩ ⟨q3, q1, by rw [k1 32 (by decide)]; exact q2⟩ (by rw [k1 42 (by decide)]; exact iv.2.2.2.2.2.2.2.1)
  exact OpR (c68 (d := d + 13) iv.1) (rS := (S 21 0, sup S 21 0 (nI 0))) ⟨(qv 21 0 rfl).symm, v, (k2 17 (by decide) 0).trans (IV_17 iv)⟩ (fun o p pl M s n k hp => m188)
theorem op25 (iv : IV G C S n m c) {a b : Int32} : OpQ d G C S n k m c m0 s0 69 [some (.ref (G.ad 1)), some (.int a), some (.int b), none] 189 (fun o => [some (.ref o), some (.int a), some (.int b), none]) := by
  have qv := IV_qv iv
  obtain ⟨q3, q1, q2⟩ := iv.2.2.2.2.2.2.1
  obtain ⟨nr, wr, w22⟩ := iv.2.2.2.2.2.1
  refine OpR (c69 (d := d + 11) iv.1) (rS := scS S a b) ?_ (fun o p pl M s n k hp => m189 (d := d + 12) hp)
  unfold scS
  cases ixR 0 9 a with
  | none => exact RR_bd iv
  | some j =>
    simp only
    cases hb : ixR 0 90 b with
    | none => rw [if_pos rfl, if_pos rfl]; exact RR_bd iv
    | some x =>
      obtain ⟨eb, _, x9⟩ := ixR_some (by decide) (by decide) hb
      rw [if_neg (by intro h; cases h), if_neg (by intro h; cases h)]
      have k1 : ∀ f, f ≠ 0 → f ≠ 24 → ∀ i y, (fnS (sup C 24 j b) y).2 f i = C f i := fun f a b i y => by rw [fnS_2, sup_f a, sup_f b]
      have k2 : ∀ f, f ≠ 0 → f ≠ 24 → ∀ i y, (fnS (sup S 24 j b) y).2 f i = S f i := fun f a b i y => by rw [fnS_2, sup_f a, sup_f b]
      refine ⟨(qv 24 j rfl).symm, IV_fr iv (fun f h i => k1 f (fun y => by subst y; cases h) (fun y => by subst y; cases h) i _) (k1 17 (by decide) (by decide) 0 _) (fun i _ => k2 16 (by decide) (by decide) i _) (fun f h i => k2 f (by omega) (by omega) i _) (Qv_sup (Qv_sup qv _ _ _) _ _ _) (VC_k iv.2.1 (fun f h i => k1 f (by omega) (by omega) i _)) (Wfr_k iv.2.2.1 (fun f h i => k1 f (by omega) (by omega) i _)) (fun i => ?_) ⟨nr, Wro_eq wr (fun f h i => k1 f (by omega) (by omega) i _), fun i hi => by rw [k2 22 (by decide) (by decide), k1 22 (by decide) (by decide)]; exact w22 i hi⟩ ⟨q3, q1, by rw [k1 32 (by decide) (by decide)]; exact q2⟩ (by rw [k1 42 (by decide) (by decide)]; exact iv.2.2.2.2.2.2.2.1), by rw [k2 17 (by decide) (by decide)]; exact IV_17 iv⟩
      rw [fnS_2, sup_f (by decide)]
      by_cases e : i = j
      · rw [e, sup_eq]; exact ⟨x, x9, eb⟩
      · rw [sup_j e]; exact iv.2.2.2.2.1 i
theorem op27 (iv : IV G C S n m c) {a : Int32} : OpQ d G C S n k m c m0 s0 71 [some (.ref (G.ad 1)), some (.int a)] 195 (fun o => [some (.ref o), some (.int a)]) := by
  have qv := IV_qv iv
  obtain ⟨q, q1, q2⟩ := iv.2.2.2.2.2.2.1
  refine OpR (c71 (d := d + 12) iv.1 q2 q1) (rS := drS S q a) ?_ (fun o p pl M s n k hp => m195 (d := d + 12) hp (by rw [qv 32 0 rfl]; exact q2) q1)
  unfold drS
  cases ixI q a with
  | none => exact RR_bd iv
  | some j => exact RR_fn iv (qv 33 j rfl).symm
theorem op31 (iv : IV G C S n m c) : OpQ d G C S n k m c m0 s0 75 [some (.ref (G.ad 1))] 199 (fun o => [some (.ref o)]) :=
  OpR (c75 iv.1) (rS := (S 34 0, S)) (RR_id iv (IV_qv iv 34 0 rfl).symm) (fun o p pl M s n k hp => m199)
theorem op32 (iv : IV G C S n m c) : OpQ d G C S n k m c m0 s0 76 [some (.ref (G.ad 1))] 200 (fun o => [some (.ref o)]) :=
  OpR (c76 iv.1) (rS := (S 18 0, S)) (RR_id iv (IV_qv iv 18 0 rfl).symm) (fun o p pl M s n k hp => m200)
theorem op38 (iv : IV G C S n m c) : OpQ d G C S n k m c m0 s0 82 [some (.ref (G.ad 1))] 207 (fun o => [some (.ref o)]) :=
  OpR (c82 iv.1) (rS := (S 0 0, S)) (RR_id iv (IV_qv iv 0 0 rfl).symm) (fun o p pl M s n k hp => m207)
theorem op33 (iv : IV G C S n m c) {a b : Int32} : OpQ d G C S n k m c m0 s0 77 [some (.ref (G.ad 1)), some (.int a), some (.int b)] 201 (fun o => [some (.ref o), some (.int a), some (.int b)]) := by
  have qv := IV_qv iv
  refine OpR (c77 (d := d + 12) iv.1) (rS := shS S a b) ?_ (fun o p pl M s n k hp => m201 (d := d + 12))
  unfold shS
  rw [qv 34 0 rfl]
  by_cases h0 : b = 0
  · rw [if_pos h0, if_pos h0]; exact RR_bd iv
  · rw [if_neg h0, if_neg h0]
    by_cases h1 : 0 ≤ b
    · rw [if_pos h1, if_pos h1]
      by_cases h2 : ¬ (¬ a < nI 0 ∧ ¬ b - nI 1 < a)
      · rw [if_pos h2, if_pos h2]; exact RR_bd iv
      · rw [if_neg h2, if_neg h2]; exact RR_fn iv rfl
    · rw [if_neg h1, if_neg h1]; exact RR_bd iv
theorem op37 (iv : IV G C S n m c) {a : Int32} : OpQ d G C S n k m c m0 s0 81 [some (.ref (G.ad 1)), some (.int a)] 206 (fun o => [some (.ref o), some (.int a)]) := by
  have qv := IV_qv iv
  refine OpR (c81 (d := d + 12) iv.1 iv.2.2.2.2.2.2.2.1) (rS := lkS S a) ?_ (fun o p pl M s n k hp => m206 (d := d + 12))
  unfold lkS
  rw [qv 14 0 rfl, qv 15 0 rfl]
  by_cases h0 : ixR 0 2 a = none
  · rw [if_pos h0, if_pos h0]; exact RR_bd iv
  · rw [if_neg h0, if_neg h0]; exact RR_fn iv rfl
theorem dgS_eq (qv : Qv C S) (T R : Nat) : dgS S T R = dgS C T R := by
  have z : ∀ t x u, dgZ S t x u = dgZ C t x u := by
    intro t x u
    induction u with
    | zero => rfl
    | succ u ih => unfold dgZ; rw [ih, qv 9 _ rfl]
  have a : ∀ t, dgA S t = dgA C t := by
    intro t
    induction t with
    | zero => rfl
    | succ t ih => unfold dgA dg1; rw [ih, z, qv 2 _ rfl, qv 3 _ rfl, qv 4 _ rfl]
  have kk : ∀ r x u, dgK S r x u = dgK C r x u := by
    intro r x u
    induction u with
    | zero => rfl
    | succ u ih => unfold dgK; rw [ih, qv 7 _ rfl]
  have b : ∀ r, dgB S T r = dgB C T r := by
    intro r
    induction r with
    | zero => exact a T
    | succ r ih =>
      have e : sN S (200 + r) = sN C (200 + r) := by unfold sN; rw [qv 6 _ rfl]
      unfold dgB
      rw [ih, kk, e]
  unfold dgS
  rw [b, qv 34 0 rfl, qv 18 0 rfl, qv 14 0 rfl, qv 15 0 rfl]
theorem op39 (iv : IV G C S n m c) : OpQ d G C S n k m c m0 s0 83 [some (.ref (G.ad 1)), none, none] 208 (fun o => [some (.ref o), none, none, none]) :=
  OpR (c83 (d := d + 12) iv.1 (IV_K iv)) (rS := (dgS S G.T G.R, S)) (RR_id iv (dgS_eq (IV_qv iv) _ _).symm) (fun o p pl M s n k hp => m208 (d := d + 12) hp (IV_WfT iv) (IV_Wrow iv))
theorem IV_wdS (iv : IV G C S n m c) : Wdep S G.T G.R := Wdep_eq (fun f hf j => IV_qv iv f j (by rcases hf with y | y | y | y | y | y | y <;> subst y <;> rfl)) (Wdep_of iv.1 (IV_JP iv))
theorem IV_lw (iv : IV G C S n m c) (l x : Int32) : IV G (sup (lw (sup C 14 0 (C 14 0 + nI 1)) l (C 42 0)) 0 0 x) (sup (sup (sup S 14 0 (S 14 0 + nI 1)) 15 0 l) 0 0 x) n m (c + 1) := by
  have qv := IV_qv iv
  refine IV_st iv (fun f a b c e j => ?_) (fun f a b c j => ?_) (fun f j h => ?_) ?_
  · rw [sup_f a, lw_f c e, sup_f b]
  · rw [sup_f a, sup_f c, sup_f b]
  · by_cases z : f = 0 ∧ j = 0
    · obtain ⟨rfl, rfl⟩ := z
      rw [sup_eq, sup_eq]
    · rw [sup_ne z, sup_ne z]
      unfold lw
      rw [sup_f (show f ≠ 42 by omega), qv 14 0 rfl]
      exact Qv_sup (Qv_sup qv _ _ _) _ _ _ f j (by rcases h with y | y | y <;> subst y <;> rfl)
  · rw [sup_f (by decide)]
    unfold lw
    rw [sup_eq]
theorem op34 (iv : IV G C S n m c) {a b : Int32} : OpQ d G C S n k m c m0 s0 78 [some (.ref (G.ad 1)), some (.int a), some (.int b), none, none, none] 204 (fun o => [some (.ref o), some (.int a), some (.int b), none, none]) := by
  have hG := iv.1
  have hK := IV_K iv
  have qv := IV_qv iv
  have hA := okA hG
  have mm : ∀ o F, FrO o F m → Md o m F (ex (d + 13) 204 0 [some (.ref o), some (.int a), some (.int b), none, none] [] (hM o F S)) (fdS G.A G.R S a b) := fun o F hF => m204 (d := d + 9) hF (IV_17 iv) (IV_WfT iv) (IV_wsS iv) (IV_wdS iv) (IV_A iv) hA
  by_cases h1 : ¬ a = -1 ∧ ixI G.A a = none
  · refine OpM (c78_0 (d := d + 11) hG hK h1.2 h1.1) (rS := fdS G.A G.R S a b) ?_ mm
    unfold fdS
    rw [if_pos h1]
    exact RR_bd iv
  · obtain ⟨ao, ha⟩ : ∃ ao, (a = -1 ∧ ao = none) ∨ ∃ i, i < G.A ∧ a = nI i ∧ ao = some i := by
      by_cases e : a = -1
      · exact ⟨none, Or.inl ⟨e, rfl⟩⟩
      · cases hx : ixI G.A a with
        | none => exact absurd ⟨e, hx⟩ h1
        | some i =>
          obtain ⟨ea, hi⟩ := ixI_some (by omega) hx
          exact ⟨some i, Or.inr ⟨i, hi, ea, rfl⟩⟩
    cases hk : ixR 0 4 b with
    | none =>
      refine OpM (c78_1 (d := d + 11) hG hK ha hk) (rS := fdS G.A G.R S a b) ?_ mm
      unfold fdS
      rw [if_neg h1, if_pos hk]
      exact RR_bd iv
    | some kd =>
      obtain ⟨eb, _, k4⟩ := ixR_some (by decide) (by decide) hk
      subst eb
      obtain ⟨C1, hC1⟩ : ∃ C1 : St, C1 = sup C 14 0 (C 14 0 + nI 1) := ⟨_, rfl⟩
      have wd := Wdep_of hG (IV_JP iv)
      have hR := okR hG
      have dp : ∀ r, r < G.R → dep C G.T 8 (200 + r) := fun r hr => wd (nI r) (200 + r) (rowI_rack hr hR)
      have aw : Aw C1 S := fun f hf j => by
        rw [hC1, sup_f (by omega)]
        exact qv f j (by rcases hf with y | y | y | y | y | y | y <;> subst y <;> rfl)
      have aw2 : Aw C C1 := fun f hf j => by rw [hC1, sup_f (by omega)]
      have K1 : OKC G C1 := OKC_eq hK (fun f hf j => by rw [hC1, sup_f (by omega)])
      have fd := fd_fn (G := G) (C := C1) (P := hitB C1 a (nI kd)) (Q := isB C1 ao (nI kd)) hG K1 (fun t ht => hit_is hG K1 ht k4 ha) (fun r hr => dep_eq aw2 8 (200 + r) (dp r hr)) G.R 0 (C 15 0) (S 41 0) (by omega)
      have eS : fdS G.A G.R S a (nI kd) = fdG S (fdF C1 (hitB C1 a (nI kd)) 8 G.R 0 (C 15 0) (S 41 0)) := by
        unfold fdS
        rw [if_neg h1, if_neg (by rw [hk]; intro h; cases h), hitB_eq aw, fdF_eq aw, qv 15 0 rfl]
      have cc := c78 (d := d) (m0 := m0) (s0 := s0) (n := n) (k := k) hG hK (IV_ws iv) (IV_w4 iv) dp ha k4 hk hC1
      cases hx : (fnR G C1 (isB C1 ao (nI kd)) G.R 0 (C 15 0)).1 with
      | none =>
        rw [hx] at cc
        refine OpM cc (rS := fdS G.A G.R S a (nI kd)) ?_ mm
        rw [eS]
        unfold fdG
        rw [fd.1, hx, fd.2, hC1]
        refine ⟨rfl, IV_lw iv _ _, ?_⟩
        rw [bdS_2, sup_f (by decide), sup_f (by decide), sup_f (by decide)]
        exact IV_17 iv
      | some x =>
        rw [hx] at cc
        refine OpM cc (rS := fdS G.A G.R S a (nI kd)) ?_ mm
        rw [eS]
        unfold fdG
        rw [fd.1, hx, fd.2, hC1]
        refine ⟨rfl, IV_lw iv _ _, ?_⟩
        rw [fnS_2, sup_f (by decide), sup_f (by decide), sup_f (by decide)]
        exact IV_17 iv
theorem op35 (iv : IV G C S n m c) {a : Int32} : OpQ d G C S n k m c m0 s0 79 [some (.ref (G.ad 1)), some (.int a), none, none] 205 (fun o => [some (.ref o), some (.int a), none, none]) := by
  have hG := iv.1
  have hK := IV_K iv
  have qv := IV_qv iv
  have mm : ∀ o F, FrO o F m → Md o m F (ex (d + 13) 205 0 [some (.ref o), some (.int a), none, none] [] (hM o F S)) (ctS G.R G.T S a) := fun o F hF => m205 (d := d + 9) hF (IV_17 iv) (IV_WfT iv) (IV_wsS iv) (IV_wdS iv)
  cases hr : rowI G.R G.T C a with
  | none =>
    refine OpM (c79_0 (d := d + 11) hG hK hr) (rS := ctS G.R G.T S a) ?_ mm
    unfold ctS
    rw [IV_row iv, hr]
    exact RR_bd iv
  | some r =>
    have dp := Wdep_of hG (IV_JP iv) a r hr
    obtain ⟨lv, e⟩ := rowI_lv hG hK hr
    have aw : Aw C S := fun f hf j => qv f j (by rcases hf with y | y | y | y | y | y | y <;> subst y <;> rfl)
    have wk := wk_cn (P := hitB S (-1) (-1)) hG hK (fun t => hit_n) 8 r dp lv (C 15 0) (nI 0)
    refine OpM (c79 (d := d + 4) hG hK hr dp) (rS := ctS G.R G.T S a) ?_ mm
    unfold ctS
    rw [IV_row iv, hr]
    simp only
    rw [wkF_eq aw, qv 15 0 rfl, wk]
    unfold ctG
    simp only
    refine ⟨by rw [fnS_1, fnS_1]; exact (Int32.zero_add _).symm, IV_lw iv _ _, ?_⟩
    rw [fnS_2, sup_f (by decide), sup_f (by decide), sup_f (by decide)]
    exact IV_17 iv
end DT
