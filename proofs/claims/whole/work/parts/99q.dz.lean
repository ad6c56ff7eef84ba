/-! ===== calls: size, reach, alter, measure, both sides ===== -/
section EA
variable {d k : Nat} {m0 : Mm} {s0 : Nat → Nat × Nat} {G G' : Gh} {C C' S : St} {n m c n' k' m' mi mr : Nat} {L : Lc} {Lr : Nat → Lc} {rS : Int32 × St}
theorem OpP (gr : Gr G G' C' m0 s0 n n' k' (ex (d + 13) mi 0 L [] (cM G C m0, cS G s0, n, k)) rS.1) (gq : Gq G G' n) (h1 : n ≤ n') (h2 : n' ≤ n + 4) (h3 : k' ≤ k + 60) (iv : IV G' C' rS.2 n' m' (c + 1)) (hm : ∀ o F, FrO o F m → Md o m F (ex (d + 13) mr 0 (Lr o) [] (hM o F S)) rS) : OpQ d G C S n k m c m0 s0 mi L mr Lr :=
  ⟨G', C', rS, n', k', gr, gq, h1, h2, h3, ⟨m', iv⟩, hm⟩
theorem Gq_C {tag : Nat} {vals : Nat → Value} : Gq G (gC G n m tag vals) n := by
  refine ⟨gC_ad2 (by omega), fun a ha h => ?_⟩
  show (if a = n then 3000 + m else if m < G.N ∧ a = aC G m then 0 else G.W a) = 0
  rw [if_neg (by omega), h]
  split <;> rfl
theorem IV_rd (iv : IV G C S n m c) (hm : m < 512) : Rdy G C n m := ⟨iv.2.1, iv.2.2.2.2.2.2.2.2.2.1.2.1, hm, iv.2.2.2.2.2.2.2.2.2.1.1, iv.2.2.2.2.2.2.2.2.2.2.1⟩
theorem IV_mc (iv : IV G C S n m c) : m ≤ c := iv.2.2.2.2.2.2.2.2.2.1.2.2
theorem ix_r {hi : Nat} {v : Int32} (hh : hi < 2147483647) (h : ¬ ixR 0 hi v = none) : ∃ x, x ≤ hi ∧ v = nI x := by
  cases e : ixR 0 hi v with
  | none => exact absurd e h
  | some x =>
    obtain ⟨a, _, b⟩ := ixR_some hh (Nat.zero_le _) e
    exact ⟨x, b, a⟩
theorem ix6 {i : Int32} {q : Nat} (h : ixR 0 5 i = some q) : i = nI q ∧ q < 6 := by
  obtain ⟨a, _, b⟩ := ixR_some (by decide) (by decide) h
  exact ⟨a, by omega⟩
theorem rs_id {z : Nat} {X : St} (f : Nat) {y : Int32} (h : X f z = y) : sup X f z y = X := sup_id h
theorem kd3 (iv : IV G C S n m c) {j : Nat} (hj : j < G.T) : (nI 3 < C 2 j) ↔ ¬ G.kd j ≤ 3 := by
  rw [kdL iv.1 (IV_K iv) hj (by decide)]
  omega
theorem add0 (x : Int32) : x + nI 0 = x := Int32.add_zero x
theorem op13 (iv : IV G C S n m c) (hc : c < 512) {t i v : Int32} : OpQ d G C S n k m c m0 s0 57 [some (.ref (G.ad 1)), some (.int t), some (.int i), some (.int v), none, none] 168 (fun o => [some (.ref o), some (.int t), some (.int i), some (.int v), none, none, none]) := by
  have hG := iv.1
  have hK := IV_K iv
  have qv := IV_qv iv
  have hT := okT hG
  have hmc := IV_mc iv
  have mm : ∀ o F, FrO o F m → Md o m F (ex (d + 13) 168 0 [some (.ref o), some (.int t), some (.int i), some (.int v), none, none, none] [] (hM o F S)) (szS G.T S m t i v) := fun o F hF => m168 (d := d + 10) hF (IV_17 iv) (by omega) (IV_WfT iv)
  have no := fun h => c57_n (d := d + 10) (m0 := m0) (s0 := s0) (n := n) (k := k) (m := m) (t := t) (i := i) (v := v) hG hK h
  cases ht : ixI G.T t with
  | none =>
    refine OpM (no (Or.inl ht)) (rS := szS G.T S m t i v) ?_ mm
    unfold szS
    rw [ht]
    exact RR_bd iv
  | some j =>
    obtain ⟨et, hj⟩ := ixI_some (by omega) ht
    by_cases h3 : G.kd j ≤ 3
    · have n3 : ¬ nI 3 < C 2 j := fun y => (kd3 iv hj).mp y h3
      cases hi : ixR 0 5 i with
      | none =>
        refine OpM (no (Or.inr ⟨j, et, hj, Or.inr ⟨h3, Or.inl hi⟩⟩)) (rS := szS G.T S m t i v) ?_ mm
        unfold szS
        rw [ht, hi]
        simp only [qv 2 j rfl]
        rw [if_neg n3, if_neg n3]
        exact RR_bd iv
      | some q =>
        obtain ⟨ei, hq⟩ := ix6 hi
        by_cases hv : ixR 0 255 v = none
        · refine OpM (no (Or.inr ⟨j, et, hj, Or.inr ⟨h3, Or.inr hv⟩⟩)) (rS := szS G.T S m t i v) ?_ mm
          unfold szS
          rw [ht, hi]
          simp only [qv 2 j rfl]
          rw [if_neg n3, if_neg n3, if_pos hv, if_pos hv]
          exact RR_bd iv
        · have eS : szS G.T S m t i v = fnS (sup (ntS S m (6 * j + q) (nI 0)) 9 (6 * j + q) v) (S 9 (6 * j + q)) := by
            unfold szS
            rw [ht, hi]
            simp only [qv 2 j rfl]
            rw [if_neg n3, if_neg hv]
          have iv' := IV_rs (v9 := v) (v10 := C 10 (6 * j + q)) (v11 := C 11 (6 * j + q)) (e := nI 0) iv (by omega) hj h3 hq (ix_r (by decide) hv) ((IV_wrc iv) _).1 ((IV_wrc iv) _).2
          have e1 : rsC C m (6 * j + q) v (C 10 (6 * j + q)) (C 11 (6 * j + q)) (nI 0) = sup (sup (sup C 17 0 (nI (m + 1))) 9 (6 * j + q) v) 0 0 (nI 0) := by
            unfold rsC
            rw [add0, rs_id (X := sup (sup C 17 0 (nI (m + 1))) 9 (6 * j + q) v) 10 (by rw [sup_f (by decide), sup_f (by decide)]), rs_id (X := sup (sup C 17 0 (nI (m + 1))) 9 (6 * j + q) v) 11 (by rw [sup_f (by decide), sup_f (by decide)]), rs_id (X := sup (sup C 17 0 (nI (m + 1))) 9 (6 * j + q) v) 18 (by rw [sup_f (by decide), sup_f (by decide)])]
          have e2 : rsS S m (6 * j + q) v (C 10 (6 * j + q)) (C 11 (6 * j + q)) (nI 0) = sup (sup (ntS S m (6 * j + q) (nI 0)) 9 (6 * j + q) v) 0 0 (nI 0) := by
            have nf : ∀ f i, f ≠ 16 → f ≠ 17 → ntS S m (6 * j + q) (nI 0) f i = S f i := fun f i a b => by unfold ntS; rw [stS_f a, sup_f b]
            unfold rsS
            rw [add0, rs_id (X := sup (ntS S m (6 * j + q) (nI 0)) 9 (6 * j + q) v) 10 (by rw [sup_f (by decide), nf 10 _ (by decide) (by decide)]; exact qv 10 _ rfl), rs_id (X := sup (ntS S m (6 * j + q) (nI 0)) 9 (6 * j + q) v) 11 (by rw [sup_f (by decide), nf 11 _ (by decide) (by decide)]; exact qv 11 _ rfl), rs_id (X := sup (ntS S m (6 * j + q) (nI 0)) 9 (6 * j + q) v) 18 (by rw [sup_f (by decide), nf 18 _ (by decide) (by decide)])]
          rw [e1, e2] at iv'
          refine OpP (rS := szS G.T S m t i v) (n' := n + 1) (k' := k + 6) ?_ Gq_C (by omega) (by omega) (by omega) (by rw [eS]; exact iv') mm
          rw [eS, fnS_1, qv 9 _ rfl, et, ei]
          rw [ei] at hi
          exact c57 (d := d + 10) hG hK (IV_rd iv (by omega)) hj h3 hq hi hv
    · have n3 : nI 3 < C 2 j := (kd3 iv hj).mpr h3
      refine OpM (no (Or.inr ⟨j, et, hj, Or.inl h3⟩)) (rS := szS G.T S m t i v) ?_ mm
      unfold szS
      rw [ht]
      simp only [qv 2 j rfl]
      rw [if_pos n3, if_pos n3]
      exact RR_bd iv
theorem op14 (iv : IV G C S n m c) (hc : c < 512) {t i v u : Int32} : OpQ d G C S n k m c m0 s0 58 [some (.ref (G.ad 1)), some (.int t), some (.int i), some (.int v), some (.int u), none] 169 (fun o => [some (.ref o), some (.int t), some (.int i), some (.int v), some (.int u), none, none]) := by
  have hG := iv.1
  have hK := IV_K iv
  have qv := IV_qv iv
  have hT := okT hG
  have hmc := IV_mc iv
  have mm : ∀ o F, FrO o F m → Md o m F (ex (d + 13) 169 0 [some (.ref o), some (.int t), some (.int i), some (.int v), some (.int u), none, none] [] (hM o F S)) (rcS G.T S m t i v u) := fun o F hF => m169 (d := d + 10) hF (IV_17 iv) (by omega) (IV_WfT iv)
  have no := fun h => c58_n (d := d + 10) (m0 := m0) (s0 := s0) (n := n) (k := k) (m := m) (t := t) (i := i) (v := v) (u := u) hG hK h
  cases ht : ixI G.T t with
  | none =>
    refine OpM (no (Or.inl ht)) (rS := rcS G.T S m t i v u) ?_ mm
    unfold rcS
    rw [ht]
    exact RR_bd iv
  | some j =>
    obtain ⟨et, hj⟩ := ixI_some (by omega) ht
    by_cases h3 : G.kd j ≤ 3
    · have n3 : ¬ nI 3 < C 2 j := fun y => (kd3 iv hj).mp y h3
      cases hi : ixR 0 5 i with
      | none =>
        refine OpM (no (Or.inr ⟨j, et, hj, Or.inr ⟨h3, Or.inl hi⟩⟩)) (rS := rcS G.T S m t i v u) ?_ mm
        unfold rcS
        rw [ht, hi]
        simp only [qv 2 j rfl]
        rw [if_neg n3, if_neg n3]
        exact RR_bd iv
      | some q =>
        obtain ⟨ei, hq⟩ := ix6 hi
        by_cases hv : ixR 0 60 v = none
        · refine OpM (no (Or.inr ⟨j, et, hj, Or.inr ⟨h3, Or.inr (Or.inl hv)⟩⟩)) (rS := rcS G.T S m t i v u) ?_ mm
          unfold rcS
          rw [ht, hi]
          simp only [qv 2 j rfl]
          rw [if_neg n3, if_neg n3, if_pos hv, if_pos hv]
          exact RR_bd iv
        · by_cases hu : ixR 0 60 u = none
          · refine OpM (no (Or.inr ⟨j, et, hj, Or.inr ⟨h3, Or.inr (Or.inr hu)⟩⟩)) (rS := rcS G.T S m t i v u) ?_ mm
            unfold rcS
            rw [ht, hi]
            simp only [qv 2 j rfl]
            rw [if_neg n3, if_neg n3, if_neg hv, if_neg hv, if_pos hu, if_pos hu]
            exact RR_bd iv
          · have eS : rcS G.T S m t i v u = fnS (sup (sup (ntS S m (6 * j + q) (nI 0)) 10 (6 * j + q) v) 11 (6 * j + q) u) (nI 1) := by
              unfold rcS
              rw [ht, hi]
              simp only [qv 2 j rfl]
              rw [if_neg n3, if_neg hv, if_neg hu]
            obtain ⟨x1, x2, x3⟩ := ix_r (by decide) hv
            obtain ⟨y1, y2, y3⟩ := ix_r (by decide) hu
            have iv' := IV_rs (v9 := C 9 (6 * j + q)) (v10 := v) (v11 := u) (e := nI 0) iv (by omega) hj h3 hq ((IV_wn iv).1 _) ⟨x1, by omega, x3⟩ ⟨y1, by omega, y3⟩
            have e1 : rsC C m (6 * j + q) (C 9 (6 * j + q)) v u (nI 0) = sup (sup (sup (sup C 17 0 (nI (m + 1))) 10 (6 * j + q) v) 11 (6 * j + q) u) 0 0 (nI 0) := by
              unfold rsC
              rw [add0, rs_id (X := sup C 17 0 (nI (m + 1))) 9 (by rw [sup_f (by decide)]), rs_id (X := sup (sup (sup C 17 0 (nI (m + 1))) 10 (6 * j + q) v) 11 (6 * j + q) u) 18 (by rw [sup_f (by decide), sup_f (by decide), sup_f (by decide)])]
            have e2 : rsS S m (6 * j + q) (C 9 (6 * j + q)) v u (nI 0) = sup (sup (sup (ntS S m (6 * j + q) (nI 0)) 10 (6 * j + q) v) 11 (6 * j + q) u) 0 0 (nI 0) := by
              have nf : ∀ f i, f ≠ 16 → f ≠ 17 → ntS S m (6 * j + q) (nI 0) f i = S f i := fun f i a b => by unfold ntS; rw [stS_f a, sup_f b]
              unfold rsS
              rw [add0, rs_id (X := ntS S m (6 * j + q) (nI 0)) 9 (by rw [nf 9 _ (by decide) (by decide)]; exact qv 9 _ rfl), rs_id (X := sup (sup (ntS S m (6 * j + q) (nI 0)) 10 (6 * j + q) v) 11 (6 * j + q) u) 18 (by rw [sup_f (by decide), sup_f (by decide), nf 18 _ (by decide) (by decide)])]
            rw [e1, e2] at iv'
            refine OpP (rS := rcS G.T S m t i v u) (n' := n + 1) (k' := k + 6) ?_ Gq_C (by omega) (by omega) (by omega) (by rw [eS]; exact iv') mm
            rw [eS, fnS_1, et, ei]
            rw [ei] at hi
            exact c58 (d := d + 10) hG hK (IV_rd iv (by omega)) hj h3 hq hi hv hu
    · have n3 : nI 3 < C 2 j := (kd3 iv hj).mpr h3
      refine OpM (no (Or.inr ⟨j, et, hj, Or.inl h3⟩)) (rS := rcS G.T S m t i v u) ?_ mm
      unfold rcS
      rw [ht]
      simp only [qv 2 j rfl]
      rw [if_pos n3, if_pos n3]
      exact RR_bd iv
theorem op15 (iv : IV G C S n m c) (hc : c < 512) {t i x : Int32} : OpQ d G C S n k m c m0 s0 59 [some (.ref (G.ad 1)), some (.int t), some (.int i), some (.int x), none, none] 171 (fun o => [some (.ref o), some (.int t), some (.int i), some (.int x), none, none, none, none, none, none, none, none, none]) := by
  have hG := iv.1
  have hK := IV_K iv
  have qv := IV_qv iv
  have hT := okT hG
  have hmc := IV_mc iv
  have mm : ∀ o F, FrO o F m → Md o m F (ex (d + 13) 171 0 [some (.ref o), some (.int t), some (.int i), some (.int x), none, none, none, none, none, none, none, none, none] [] (hM o F S)) (alS G.T S m t i x) := fun o F hF => m171 (d := d + 10) hF (IV_17 iv) (by omega) (IV_WfT iv)
  have no := fun h => c59_n (d := d + 10) (m0 := m0) (s0 := s0) (n := n) (k := k) (m := m) (t := t) (i := i) (x := x) hG hK (IV_wn iv) (IV_wrc iv) h
  cases ht : ixI G.T t with
  | none =>
    refine OpM (no (Or.inl ht)) (rS := alS G.T S m t i x) ?_ mm
    unfold alS
    rw [ht]
    exact RR_bd iv
  | some j =>
    obtain ⟨et, hj⟩ := ixI_some (by omega) ht
    by_cases h3 : G.kd j ≤ 3
    · have n3 : ¬ nI 3 < C 2 j := fun y => (kd3 iv hj).mp y h3
      cases hi : ixR 0 5 i with
      | none =>
        refine OpM (no (Or.inr ⟨j, et, hj, Or.inr ⟨h3, Or.inl hi⟩⟩)) (rS := alS G.T S m t i x) ?_ mm
        unfold alS
        rw [ht, hi]
        simp only [qv 2 j rfl]
        rw [if_neg n3, if_neg n3]
        exact RR_bd iv
      | some q =>
        obtain ⟨ei, hq⟩ := ix6 hi
        by_cases h0 : C 9 (6 * j + q) = 0
        · refine OpM (no (Or.inr ⟨j, et, hj, Or.inr ⟨h3, Or.inr ⟨q, hq, ei, Or.inl h0⟩⟩⟩)) (rS := alS G.T S m t i x) ?_ mm
          unfold alS
          rw [ht, hi]
          simp only [qv 2 j rfl, qv 9 _ rfl]
          rw [if_neg n3, if_neg n3, if_pos h0, if_pos h0]
          exact RR_bd iv
        · by_cases ha : alC (C 9 (6 * j + q)) (C 10 (6 * j + q)) (C 11 (6 * j + q)) x
          · have eS : alS G.T S m t i x = fnS (alD S m (6 * j + q) x (prc (C 2 j) (abI x))) (prc (C 2 j) (abI x)) := by
              unfold alS
              rw [ht, hi]
              simp only [qv 2 j rfl, qv 9 _ rfl, qv 10 _ rfl, qv 11 _ rfl]
              rw [if_neg n3, if_neg h0, if_pos ha]
            obtain ⟨z, z1, z2⟩ := (IV_wn iv).1 (6 * j + q)
            obtain ⟨⟨y, y1, y2⟩, ⟨w, w1, w2⟩⟩ := (IV_wrc iv) (6 * j + q)
            have ha' := ha
            rw [z2, y2, w2] at ha'
            unfold alC at ha'
            have iz : (nI z).toInt = z := nI_toInt (by omega)
            have iy : (nI y).toInt = y := nI_toInt (by omega)
            have iw : (nI w).toInt = w := nI_toInt (by omega)
            rw [iz, iy, iw] at ha'
            obtain ⟨b1, b2, b3, b4, b5, b6⟩ := ha'
            have r9 : ∃ x', x' ≤ 255 ∧ C 9 (6 * j + q) + x = nI x' := by
              rw [z2]
              exact ix_r (by decide) (ixR_b.mp ((ir_a (lo := 0) z1 (by decide)).mpr ⟨by omega, by omega⟩))
            have r10 : ∃ x', x' ≤ 255 ∧ C 10 (6 * j + q) + x = nI x' := by
              rw [y2]
              exact ix_r (by decide) (ixR_b.mp ((ir_a (lo := 0) y1 (by decide)).mpr ⟨by omega, by omega⟩))
            have r11 : ∃ x', x' ≤ 255 ∧ C 11 (6 * j + q) - x = nI x' := by
              rw [w2]
              exact ix_r (by decide) (ixR_b.mp ((ir_s w1).mpr ⟨by omega, by omega⟩))
            have iv' := IV_rs (e := prc (C 2 j) (abI x)) iv (by omega) hj h3 hq r9 r10 r11
            have e2 : rsS S m (6 * j + q) (C 9 (6 * j + q) + x) (C 10 (6 * j + q) + x) (C 11 (6 * j + q) - x) (prc (C 2 j) (abI x)) = sup (alD S m (6 * j + q) x (prc (C 2 j) (abI x))) 0 0 (nI 0) := by
              unfold rsS alD
              rw [qv 9 _ rfl, qv 10 _ rfl, qv 11 _ rfl, sup_com (f := 10) (g := 11) (by decide)]
            rw [e2] at iv'
            refine OpP (rS := alS G.T S m t i x) (n' := n + 1) (k' := k + 6) ?_ Gq_C (by omega) (by omega) (by omega) (by rw [eS]; exact iv') mm
            rw [eS, fnS_1, et, ei]
            rw [ei] at hi
            exact c59 (d := d + 10) hG hK (IV_wn iv) (IV_wrc iv) (IV_rd iv (by omega)) hj h3 hq hi h0 ha
          · refine OpM (no (Or.inr ⟨j, et, hj, Or.inr ⟨h3, Or.inr ⟨q, hq, ei, Or.inr ha⟩⟩⟩)) (rS := alS G.T S m t i x) ?_ mm
            unfold alS
            rw [ht, hi]
            simp only [qv 2 j rfl, qv 9 _ rfl, qv 10 _ rfl, qv 11 _ rfl]
            rw [if_neg n3, if_neg n3, if_neg h0, if_neg h0, if_neg ha, if_neg ha]
            exact RR_bd iv
    · have n3 : nI 3 < C 2 j := (kd3 iv hj).mpr h3
      refine OpM (no (Or.inr ⟨j, et, hj, Or.inl h3⟩)) (rS := alS G.T S m t i x) ?_ mm
      unfold alS
      rw [ht]
      simp only [qv 2 j rfl]
      rw [if_pos n3, if_pos n3]
      exact RR_bd iv
theorem me_r {v : Int32} (h : ¬ v < -2 ∧ ¬ nI 3000 < v) : v = -2 ∨ v = -1 ∨ ∃ x, x ≤ 3000 ∧ v = nI x := by
  by_cases p : v < nI 0
  · have a : ¬ v.toInt < -2 := fun y => h.1 (Int32.lt_iff_toInt_lt.mpr y)
    have b : v.toInt < 0 := Int32.lt_iff_toInt_lt.mp p
    have e2 : (-2 : Int32).toInt = -2 := rfl
    have e1 : (-1 : Int32).toInt = -1 := rfl
    by_cases z : v.toInt = -2
    · exact Or.inl (Int32.toInt_inj.mp (by rw [z, e2]))
    · exact Or.inr (Or.inl (Int32.toInt_inj.mp (by rw [e1]; omega)))
  · exact Or.inr (Or.inr (ix_r (by decide) (ixR_b.mp ⟨p, h.2⟩)))
theorem op18 (iv : IV G C S n m c) (hc : c < 512) {a i v : Int32} : OpQ d G C S n k m c m0 s0 62 [some (.ref (G.ad 1)), some (.int a), some (.int i), some (.int v), none] 175 (fun o => [some (.ref o), some (.int a), some (.int i), some (.int v), none]) := by
  have hG := iv.1
  have hK := IV_K iv
  have qv := IV_qv iv
  have hA := okA hG
  have hmc := IV_mc iv
  have mm : ∀ o F, FrO o F m → Md o m F (ex (d + 13) 175 0 [some (.ref o), some (.int a), some (.int i), some (.int v), none] [] (hM o F S)) (meS G.A S m a i v) := fun o F hF => m175 (d := d + 11) hF (IV_17 iv) (by omega) (IV_A iv) hA
  have no := fun h => c62_n (d := d + 10) (m0 := m0) (s0 := s0) (n := n) (k := k) (m := m) (a := a) (i := i) (v := v) hG hK h
  cases ht : ixI G.A a with
  | none =>
    refine OpM (no (Or.inl ht)) (rS := meS G.A S m a i v) ?_ mm
    unfold meS
    rw [ht]
    exact RR_bd iv
  | some j =>
    obtain ⟨et, hj⟩ := ixI_some (by omega) ht
    cases hi : ixR 0 5 i with
    | none =>
      refine OpM (no (Or.inr ⟨j, et, hj, Or.inl hi⟩)) (rS := meS G.A S m a i v) ?_ mm
      unfold meS
      rw [ht, hi]
      exact RR_bd iv
    | some q =>
      obtain ⟨ei, hq⟩ := ix6 hi
      by_cases hv : ¬ (¬ v < -2 ∧ ¬ nI 3000 < v)
      · refine OpM (no (Or.inr ⟨j, et, hj, Or.inr hv⟩)) (rS := meS G.A S m a i v) ?_ mm
        unfold meS
        rw [ht, hi]
        simp only
        rw [if_pos hv, if_pos hv]
        exact RR_bd iv
      · have eS : meS G.A S m a i v = fnS (sup (stS S m (nI 3) (nI (6 * j + q)) (S 20 (6 * j + q)) (nI 0) (nI 0) (nI 0)) 20 (6 * j + q) v) (nI 1) := by
          unfold meS
          rw [ht, hi]
          simp only
          rw [if_neg hv]
        have hv' := Classical.not_not.mp hv
        have iv' := IV_me (v := v) iv (by omega) hj hq (me_r hv')
        refine OpP (rS := meS G.A S m a i v) (n' := n + 1) (k' := k + 3) ?_ Gq_C (by omega) (by omega) (by omega) (by rw [eS]; exact iv') mm
        rw [eS, fnS_1, et, ei]
        rw [ei] at hi
        exact c62 (d := d + 10) hG hK (IV_rd iv (by omega)) hj hq hi hv'
end EA
