/-! ===== calls: actor; what is remembered: sizes, measures ===== -/
def qA (A : Nat) : Pw := fun f j => if f = 19 ∧ j = 0 then some (nI (A + 1)) else if f = 20 ∧ 6 * A ≤ j ∧ j < 6 * A + 6 then some (-1) else none
theorem qA_eq {A : Nat} {K : St} : ow (qA A) K = sup (acC K A) 19 0 (nI (A + 1)) := by
  funext f j
  unfold ow qA acC sup filS
  by_cases h1 : f = 19 ∧ j = 0
  · rw [if_pos h1, if_pos h1]; rfl
  · rw [if_neg h1, if_neg h1]
    by_cases h2 : f = 20 ∧ 6 * A ≤ j ∧ j < 6 * A + 6
    · rw [if_pos h2, if_pos h2]; rfl
    · rw [if_neg h2, if_neg h2]; rfl
theorem qA_o {A f j : Nat} {K : St} (h1 : ¬ (f = 19 ∧ j = 0)) (h2 : ¬ (f = 20 ∧ 6 * A ≤ j ∧ j < 6 * A + 6)) : ow (qA A) K f j = K f j := by
  refine ow_n ?_
  unfold qA
  rw [if_neg h1, if_neg h2]
section DY
variable {d k : Nat} {m0 : Mm} {s0 : Nat → Nat × Nat} {G : Gh} {C S : St} {n m c : Nat}
theorem JK_A {K : St} (j : JK G K) : JK (gA G n) (ow (qA G.A) K) := by
  obtain ⟨⟨hK, wh, ws, wt, ρ, rk⟩, wi, wn, wr⟩ := j
  have oo : ∀ f, f ≠ 19 → f ≠ 20 → ∀ j, ow (qA G.A) K f j = K f j := fun f a b j => qA_o (fun y => a y.1) (fun y => b y.1)
  have o20 : ∀ j, ow (qA G.A) K 20 j = -1 ∨ ow (qA G.A) K 20 j = K 20 j := fun j => by
    by_cases h : 6 * G.A ≤ j ∧ j < 6 * G.A + 6
    · left
      refine ow_s ?_
      unfold qA
      rw [if_neg (by omega), if_pos ⟨rfl, h⟩]
    · exact Or.inr (qA_o (by omega) (fun y => h y.2))
  refine ⟨⟨⟨⟨by rw [oo 1 (by decide) (by decide)]; exact hK.1.1, by rw [oo 8 (by decide) (by decide)]; exact hK.1.2.1, rfl, by rw [oo 35 (by decide) (by decide)]; exact hK.1.2.2.2⟩, fun t ht => by rw [oo 2 (by decide) (by decide)]; exact hK.2.1 t ht, fun r lv => by rw [oo 6 (by decide) (by decide)]; exact hK.2.2.1 r lv, fun t ht => by rw [oo 13 (by decide) (by decide)]; exact hK.2.2.2.1 t ht, fun t ht => by rw [oo 4 (by decide) (by decide)]; exact hK.2.2.2.2.1 t ht, fun r lv q hq => by rw [oo 7 (by decide) (by decide)]; exact hK.2.2.2.2.2 r lv q hq⟩, fun t ht => by rw [oo 3 (by decide) (by decide), oo 4 (by decide) (by decide)]; exact wh t ht, fun r q lv hq => ?_, fun t ht h3 => ?_, ρ, Rk_eq (oo 2 (by decide) (by decide)) (oo 3 (by decide) (by decide)) (oo 4 (by decide) (by decide)) rk⟩, ⟨fun y hy h => ?_, fun x y hx hy h1 h2 e => ?_⟩, ⟨fun j => by rw [oo 9 (by decide) (by decide)]; exact wn.1 j, fun j => ?_⟩, fun j => by rw [oo 10 (by decide) (by decide), oo 11 (by decide) (by decide)]; exact wr j⟩
  · rw [oo 7 (by decide) (by decide)]
    rcases ws r q lv hq with z | ⟨u, u1⟩
    · exact Or.inl z
    · exact Or.inr ⟨u, by rw [oo 3 (by decide) (by decide), oo 4 (by decide) (by decide), oo 5 (by decide) (by decide)]; exact u1⟩
  · rw [oo 3 (by decide) (by decide)] at h3
    obtain ⟨r, q, z⟩ := wt t ht h3
    exact ⟨r, q, by rw [oo 7 (by decide) (by decide), oo 4 (by decide) (by decide), oo 5 (by decide) (by decide)]; exact z⟩
  · rw [oo 38 (by decide) (by decide)] at h
    rw [oo 3 (by decide) (by decide)]
    exact wi.1 y hy h
  · rw [oo 38 (by decide) (by decide)] at h1 h2
    exact wi.2 x y hx hy h1 h2 e
  · rcases o20 j with z | z
    · rw [z]; exact Or.inr (Or.inl rfl)
    · rw [z]; exact wn.2 j
theorem op17 (iv : IV G C S n m c) : OpQ d G C S n k m c m0 s0 61 [some (.ref (G.ad 1)), none] 174 (fun o => [some (.ref o), none]) := by
  obtain ⟨hG, vc, wf, w4, wl, ⟨nr, wr, w22⟩, ⟨q3, q1, q2⟩, w42, jk, ⟨m1, m2, m3⟩, hn, qv, h5, hh, E, hs⟩ := id iv
  have hA := okA hG
  have mm : ∀ o p pl M s n k, Op o p → ex (d + 13) 174 0 [some (.ref o), none] [] (mM o p S M, sM o p pl s, n, k) = rt o p pl M s n k (acS G.A S) := fun o p pl M s n k hp => m174 (d := d + 12) hp (IV_A iv) hA
  by_cases h : G.A = 40
  · refine OpR (c61_n (d := d + 10) hG (IV_K iv) h) (rS := acS G.A S) ?_ mm
    unfold acS
    rw [if_pos h]
    exact RR_bd iv
  · have lt : G.A < 40 := by omega
    have eS : acS G.A S = fnS (sup (filS S 20 (6 * G.A) 6 (-1)) 19 0 (nI (G.A + 1))) (nI G.A) := by
      unfold acS
      rw [if_neg h]
    obtain ⟨okG', ge, _, had2, _⟩ := gA_all (n := n) hG lt hn
    have zf : ∀ f j, f ≠ 0 → f ≠ 19 → f ≠ 20 → (acS G.A S).2 f j = S f j := fun f j a0 a6 a7 => by
      rw [eS, fnS_2, sup_f a0, sup_f a6]
      unfold filS
      rw [if_neg (fun y => a7 y.1)]
    have cf : ∀ f j, f ≠ 0 → f ≠ 19 → f ≠ 20 → sup (sup (acC C G.A) 19 0 (nI (G.A + 1))) 0 0 (nI 0) f j = C f j := fun f j a0 a6 a7 => by
      rw [sup_f a0, sup_f a6]
      unfold acC filS
      rw [if_neg (fun y => a7 y.1)]
    have jkA : ∀ K, JK G K → JK (gA G n) (ow (qA G.A) K) := fun K j => JK_A j
    have iv' : IV (gA G n) (sup (sup (acC C G.A) 19 0 (nI (G.A + 1))) 0 0 (nI 0)) (acS G.A S).2 (n + 2) m (c + 1) := by
      refine ⟨okG', ⟨fun j => ?_, fun j => ?_, vc.2.2⟩, ⟨fun j hj => ?_, fun j hj => ?_⟩, w4, fun j => ?_, ⟨nr, ?_, fun j hj => ?_⟩, ⟨q3, q1, ?_⟩, ?_, JK_eq (C := ow (qA G.A) C) (fun f hk j => by rw [qA_eq]; exact sup_f (fun y => by subst y; cases hk)) (jkA C jk), ⟨?_, m2, by omega⟩, fun x hx => ?_, fun g i hg => ?_, fun t ht h3 => ?_, fun y hy => ?_, E, ?_⟩
      · rw [cf 22 j (by decide) (by decide) (by decide)]
        exact (vc.1 j).elim Or.inl (fun ⟨a, x, y⟩ => Or.inr ⟨a, Nat.lt_succ_of_lt x, y⟩)
      · rw [cf 44 j (by decide) (by decide) (by decide)]; exact vc.2.1 j
      · rw [cf 9 j (by decide) (by decide) (by decide), cf 10 j (by decide) (by decide) (by decide), cf 11 j (by decide) (by decide) (by decide)]; exact wf.1 j hj
      · rw [cf 12 j (by decide) (by decide) (by decide)]; exact wf.2 j hj
      · rw [cf 24 j (by decide) (by decide) (by decide)]; exact wl j
      · have wr' : Wro (gA G n) C nr := ⟨wr.1, wr.2.1, fun r hr => by
          obtain ⟨a, x, y⟩ := wr.2.2.1 r hr
          exact ⟨a, Nat.lt_succ_of_lt x, y⟩, wr.2.2.2⟩
        exact Wro_eq wr' (fun f hf j => cf f j (by omega) (by omega) (by omega))
      · rw [zf 22 j (by decide) (by decide) (by decide), cf 22 j (by decide) (by decide) (by decide)]; exact w22 j hj
      · rw [cf 32 0 (by decide) (by decide) (by decide)]; exact q2
      · rw [cf 42 0 (by decide) (by decide) (by decide)]; exact w42
      · rw [cf 17 0 (by decide) (by decide) (by decide)]; exact m1
      · have hx' : (if n ≤ x ∧ x < n + 2 then fAc G.A (x - n) else G.W x) ≠ 0 := hx
        by_cases e : n ≤ x ∧ x < n + 2
        · omega
        · rw [if_neg e] at hx'
          have := hn x hx'
          omega
      · rw [eS, fnS_2]
        exact Qv_sup (Qv_sup (Qv_fil qv _ _ _ _) _ _ _) _ _ _ g i hg
      · rw [cf 3 t (by decide) (by decide) (by decide)] at h3
        rw [zf 5 t (by decide) (by decide) (by decide), cf 5 t (by decide) (by decide) (by decide)]
        exact h5 t ht h3
      · rw [zf 36 y (by decide) (by decide) (by decide), zf 37 y (by decide) (by decide) (by decide), zf 38 y (by decide) (by decide) (by decide), cf 38 y (by decide) (by decide) (by decide)]
        exact hh y hy
      · have hg := Hs_grow (G' := gA G n) (S := S) (S' := S) (E := E) (Q := qA G.A) hG ge (Nat.le_refl _) (Nat.le_succ _) (Nat.le_refl _) (fun r lv => lv) (fun f j => by
          by_cases dm : Dm G f j
          · left
            unfold qA
            rcases dm with ⟨a, b⟩ | ⟨a, r, q, lv, hq, e⟩ | ⟨a, b⟩ | ⟨a, b⟩ | ⟨a, b⟩ | ⟨a, b⟩ <;> rw [if_neg (by omega), if_neg (by omega)]
          · exact Or.inr dm) jkA m C (fun x hx => ⟨show x < G.N by omega, rfl, rfl⟩) (fun _ _ => rfl) hs
        exact Hs_ext okG' m _ _ (fun f hf j => by rw [qA_eq]; exact sup_f (fun y => by subst y; cases hf)) (fun j _ => zf 16 j (by decide) (by decide) (by decide)) (fun _ _ => rfl) hg
    refine OpG (rS := acS G.A S) (G' := gA G n) (n' := n + 2) (k' := k + 1 + 6) ?_ ⟨had2 1 (Or.inl ⟨by decide, by decide⟩), fun x hx h => ?_⟩ (Nat.le_add_right _ _) (by omega) (by omega) iv' mm
    · rw [eS, fnS_1]
      exact c61 (d := d + 10) hG (IV_K iv) vc lt hn
    · show (if n ≤ x ∧ x < n + 2 then fAc G.A (x - n) else G.W x) = 0
      rw [if_neg (by omega)]
      exact h
/-- one more is remembered -/
theorem IV_push {C1 S1 : St} {P : Pw} {tag : Nat} {vals : Nat → Value} (iv : IV G C S n m c) (hc : m < 512) (k17 : C1 17 0 = nI (m + 1)) (ent : Ent (gC G n m tag vals) S1 C1 m P) (bk : ∀ f, hf f = true → ∀ j, ow P C1 f j = C f j) (jk1 : JK G C1) (qv1 : Qv C1 S1) (fC : ∀ f, f = 12 ∨ f = 21 ∨ f = 22 ∨ f = 23 ∨ f = 24 ∨ f = 32 ∨ f = 44 → ∀ j, C1 f j = C f j) (fW : ∀ f, f = 9 ∨ f = 10 ∨ f = 11 → ∀ j, 6 * G.T ≤ j → C1 f j = C f j) (f42 : C1 42 0 = C 42 0) (s22 : ∀ j, S1 22 j = S 22 j) (s16 : ∀ j, j < 6 * m → S1 16 j = S 16 j) (h5 : ∀ t, t < G.T → C1 3 t = nI 1 → S1 5 t = C1 5 t) (hh : Hrl G C1 S1) : IV (gC G n m tag vals) C1 S1 (n + 1) (m + 1) (c + 1) := by
  obtain ⟨hG, vc, wf, w4, wl, ⟨nr, wr, w22⟩, ⟨q3, q1, q2⟩, w42, jk, ⟨m1, m2, m3⟩, hn, qv, _, _, E, hs⟩ := iv
  have okG' := gC_ok (tag := tag) (vals := vals) hG m2 hc hn
  have jC : ∀ K, JK G K → JK (gC G n m tag vals) K := fun K j => j
  refine ⟨okG', ⟨fun j => ?_, fun j => ?_, vc.2.2⟩, ⟨fun j hj => ?_, fun j hj => ?_⟩, w4, fun j => ?_, ⟨nr, Wro_eq (G := gC G n m tag vals) (C := C) wr (fun f hf j => fC f (by omega) j), fun j hj => ?_⟩, ⟨q3, q1, ?_⟩, ?_, jk1, ⟨k17, Nat.le_max_right _ _, by omega⟩, fun a ha => ?_, qv1, h5, hh, (fun i => if i = m then P else E i), ?_⟩
  · rw [fC 22 (by omega)]; exact vc.1 j
  · rw [fC 44 (by omega)]; exact vc.2.1 j
  · rw [fW 9 (by omega) j hj, fW 10 (by omega) j hj, fW 11 (by omega) j hj]; exact wf.1 j hj
  · rw [fC 12 (by omega)]; exact wf.2 j hj
  · rw [fC 24 (by omega)]; exact wl j
  · rw [s22, fC 22 (by omega)]; exact w22 j hj
  · rw [fC 32 (by omega)]; exact q2
  · rw [f42]; exact w42
  · have ha' : (if a = n then 3000 + m else if m < G.N ∧ a = aC G m then 0 else G.W a) ≠ 0 := ha
    by_cases e : a = n
    · omega
    · rw [if_neg e] at ha'
      by_cases e2 : m < G.N ∧ a = aC G m
      · rw [if_pos e2] at ha'; exact absurd rfl ha'
      · rw [if_neg e2] at ha'
        have := hn a ha'
        omega
  · have hg := Hs_grow (G' := gC G n m tag vals) (S := S) (S' := S) (E := E) (Q := fun _ _ => none) hG gC_GE (Nat.le_refl _) (Nat.le_refl _) (Nat.le_refl _) (fun r lv => lv) (fun _ _ => Or.inl rfl) (fun K j => j) m C (fun x hx => ⟨show x < max G.N (m + 1) by omega, if_neg (by omega), if_neg (by omega)⟩) (fun _ _ => rfl) hs
    refine ⟨by simp only [if_true]; exact ent, ?_, ?_⟩
    · simp only [if_true]
      exact jC _ (JK_eq (fun f hk j => bk f (by unfold hf; rw [hk]; rfl) j) jk)
    · simp only [if_true]
      exact Hs_ext okG' m _ _ (fun f h j => by rw [bk f h j]; rfl) s16 (fun x hx => if_neg (by omega)) hg
theorem stS_f {w a b c' e g : Int32} {f j : Nat} (h : f ≠ 16) : stS S m w a b c' e g f j = sup S 17 0 (nI (m + 1)) f j := by
  unfold stS
  by_cases e : f = 17 ∧ j = 0
  · obtain ⟨rfl, rfl⟩ := e
    rw [sup_eq, sup_eq]
  · rw [sup_ne e, sup_ne e, sup_f h, sup_f h, sup_f h, sup_f h, sup_f h, sup_f h]
theorem stS_16 {w a b c' e g : Int32} : stS S m w a b c' e g 16 (6 * m) = w ∧ stS S m w a b c' e g 16 (6 * m + 1) = a ∧ stS S m w a b c' e g 16 (6 * m + 2) = b ∧ stS S m w a b c' e g 16 (6 * m + 3) = c' ∧ stS S m w a b c' e g 16 (6 * m + 4) = e ∧ stS S m w a b c' e g 16 (6 * m + 5) = g ∧ ∀ j, j < 6 * m → stS S m w a b c' e g 16 j = S 16 j := by
  unfold stS
  refine ⟨?_, ?_, ?_, ?_, ?_, ?_, fun j hj => ?_⟩
  · rw [sup_f (by decide), sup_j (by omega), sup_j (by omega), sup_j (by omega), sup_j (by omega), sup_j (by omega), sup_eq]
  · rw [sup_f (by decide), sup_j (by omega), sup_j (by omega), sup_j (by omega), sup_j (by omega), sup_eq]
  · rw [sup_f (by decide), sup_j (by omega), sup_j (by omega), sup_j (by omega), sup_eq]
  · rw [sup_f (by decide), sup_j (by omega), sup_j (by omega), sup_eq]
  · rw [sup_f (by decide), sup_j (by omega), sup_eq]
  · rw [sup_f (by decide), sup_eq]
  · rw [sup_f (by decide), sup_j (by omega), sup_j (by omega), sup_j (by omega), sup_j (by omega), sup_j (by omega), sup_j (by omega)]
theorem sup_id {X : St} {f j : Nat} {v : Int32} (h : X f j = v) : sup X f j v = X := by rw [← h]; exact sup_idem
theorem Qv_st {C1 S1 : St} (qv : Qv C S) {w a b c' e g : Int32} : Qv (sup C 17 0 (nI (m + 1))) (stS S m w a b c' e g) := fun f j h => by
  rw [stS_f (fun y => by subst y; cases h)]
  exact Qv_sup qv _ _ _ f j h
end DY
