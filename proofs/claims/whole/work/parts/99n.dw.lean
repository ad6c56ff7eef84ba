/-! ===== calls: wear, set, trunk, row; rack, actor ===== -/
section DW
variable {d k : Nat} {m0 : Mm} {s0 : Nat → Nat × Nat} {G G' : Gh} {C C' S : St} {n m c n' k' mi mr : Nat} {L : Lc} {Lr : Nat → Lc} {rS : Int32 × St}
theorem OpG (gr : Gr G G' C' m0 s0 n n' k' (ex (d + 13) mi 0 L [] (cM G C m0, cS G s0, n, k)) rS.1) (gq : Gq G G' n) (h1 : n ≤ n') (h2 : n' ≤ n + 4) (h3 : k' ≤ k + 60) (iv : IV G' C' rS.2 n' m (c + 1)) (hm : ∀ o p pl M s n k, Op o p → ex (d + 13) mr 0 (Lr o) [] (mM o p S M, sM o p pl s, n, k) = rt o p pl M s n k rS) : OpQ d G C S n k m c m0 s0 mi L mr Lr :=
  ⟨G', C', rS, n', k', gr, gq, h1, h2, h3, ⟨m, iv⟩, fun o F hF => Md_rt (hm o F.p F.pl F.m0 F.s0 F.n F.k hF.1) hF (IV_17 iv)⟩
theorem Gq_T {len kd sl vl : Nat} {f : Nat → Nat} (hG : OKG G) (hT : G.T < 200) (fm : Fm G len kd sl vl f) : Gq G (gT G n len kd sl vl f) n := by
  refine ⟨gT_ad2 (gT_lv (n := n) hG hT fm).2.2.1 1 (Or.inl ⟨by decide, by decide⟩), fun a ha h => ?_⟩
  show (if n ≤ a ∧ a < n + len then f (a - n) else G.W a) = 0
  rw [if_neg (by omega)]
  exact h
theorem mkS_200 {T a b : Nat} {kd : Int32} (h : T = 200) : mkS T S kd a b = bdS S 6 := by unfold mkS; rw [if_pos h]
theorem op1 (iv : IV G C S n m c) {a : Int32} : OpQ d G C S n k m c m0 s0 45 [some (.ref (G.ad 1)), some (.int a)] 143 (fun o => [some (.ref o), some (.int a)]) := by
  have hG := iv.1
  have hT := okT hG
  have mm : ∀ o p pl M s n k, Op o p → ex (d + 13) 143 0 [some (.ref o), some (.int a)] [] (mM o p S M, sM o p pl s, n, k) = rt o p pl M s n k (wrS G.T S a) := fun o p pl M s n k hp => m143 (d := d + 11) hp (IV_WfT iv)
  by_cases h : ixR 0 3 a = none ∨ G.T = 200
  · refine OpR (c45_n (d := d + 10) hG (IV_K iv) h) (rS := wrS G.T S a) ?_ mm
    unfold wrS
    by_cases h1 : ixR 0 3 a = none
    · rw [if_pos h1]; exact RR_bd iv
    · rw [if_neg h1, mkS_200 (h.resolve_left h1)]; exact RR_bd iv
  · have lt : G.T < 200 := by omega
    cases ha : ixR 0 3 a with
    | none => exact absurd (Or.inl ha) h
    | some v =>
      obtain ⟨ea, _, v3⟩ := ixR_some (by decide) (by decide) ha
      subst ea
      have eS : wrS G.T S (nI v) = mkS G.T S (nI v) 0 0 := by unfold wrS; rw [if_neg (by rw [ha]; intro y; cases y)]
      have fm : Fm G 4 v 0 0 (fGm G.T) := Or.inl ⟨v3, rfl, rfl, rfl, rfl⟩
      obtain ⟨iv', e1⟩ := IV_T iv lt fm (fun y => by omega)
      refine OpG (rS := wrS G.T S (nI v)) (G' := gT G n 4 v 0 0 (fGm G.T)) ?_ (Gq_T hG lt fm) (Nat.le_add_right _ _) (Nat.le_refl _) (show k + 27 ≤ k + 60 by omega) (by rw [eS]; exact iv') mm
      rw [eS, e1]
      exact c45 (d := d + 10) hG (IV_K iv) iv.2.1 iv.2.2.1 lt iv.2.2.2.2.2.2.2.2.2.2.1 v3 ha
theorem op2 (iv : IV G C S n m c) : OpQ d G C S n k m c m0 s0 46 [some (.ref (G.ad 1))] 144 (fun o => [some (.ref o)]) := by
  have hG := iv.1
  have hT := okT hG
  have mm : ∀ o p pl M s n k, Op o p → ex (d + 13) 144 0 [some (.ref o)] [] (mM o p S M, sM o p pl s, n, k) = rt o p pl M s n k (mkS G.T S (nI 4) 6 0) := fun o p pl M s n k hp => m144 (d := d + 11) hp (IV_WfT iv)
  by_cases h : G.T = 200
  · refine OpR (c46_n (d := d + 9) hG (IV_K iv) h) (rS := mkS G.T S (nI 4) 6 0) ?_ mm
    rw [mkS_200 h]
    exact RR_bd iv
  · have lt : G.T < 200 := by omega
    have fm : Fm G 3 4 6 0 (fBx G.T) := Or.inr (Or.inl ⟨Or.inl rfl, rfl, rfl, by decide, rfl⟩)
    obtain ⟨iv', e1⟩ := IV_T iv lt fm (fun _ => rfl)
    refine OpG (rS := mkS G.T S (nI 4) 6 0) (G' := gT G n 3 4 6 0 (fBx G.T)) ?_ (Gq_T hG lt fm) (Nat.le_add_right _ _) (by omega) (show k + 6 + 3 + 6 ≤ k + 60 by omega) iv' mm
    rw [e1]
    exact c46 (d := d + 9) hG (IV_K iv) iv.2.1 lt iv.2.2.2.2.2.2.2.2.2.2.1
theorem op3 (iv : IV G C S n m c) {a : Int32} : OpQ d G C S n k m c m0 s0 47 [some (.ref (G.ad 1)), some (.int a)] 145 (fun o => [some (.ref o), some (.int a)]) := by
  have hG := iv.1
  have hT := okT hG
  have mm : ∀ o p pl M s n k, Op o p → ex (d + 13) 145 0 [some (.ref o), some (.int a)] [] (mM o p S M, sM o p pl s, n, k) = rt o p pl M s n k (trS G.T S a) := fun o p pl M s n k hp => m145 (d := d + 11) hp (IV_WfT iv)
  by_cases h : ixR 1 20 a = none ∨ G.T = 200
  · refine OpR (c47_n (d := d + 9) hG (IV_K iv) h) (rS := trS G.T S a) ?_ mm
    unfold trS
    cases ha : ixR 1 20 a with
    | none => exact RR_bd iv
    | some v =>
      simp only
      rw [mkS_200 (h.resolve_left (by rw [ha]; intro y; cases y))]
      exact RR_bd iv
  · have lt : G.T < 200 := by omega
    cases ha : ixR 1 20 a with
    | none => exact absurd (Or.inl ha) h
    | some v =>
      obtain ⟨ea, _, v3⟩ := ixR_some (by decide) (by decide) ha
      subst ea
      have eS : trS G.T S (nI v) = mkS G.T S (nI 5) v 0 := by unfold trS; rw [ha]
      have fm : Fm G 3 5 v 0 (fBx G.T) := Or.inr (Or.inl ⟨Or.inr rfl, rfl, rfl, by omega, rfl⟩)
      obtain ⟨iv', e1⟩ := IV_T iv lt fm (fun y => by omega)
      refine OpG (rS := trS G.T S (nI v)) (G' := gT G n 3 5 v 0 (fBx G.T)) (n' := n + 3) (k' := k + 6 + 3 + v) ?_ (Gq_T hG lt fm) (Nat.le_add_right _ _) (by omega) (show k + 6 + 3 + v ≤ k + 60 by omega) (by rw [eS]; exact iv') mm
      rw [eS, e1]
      exact c47 (d := d + 9) hG (IV_K iv) iv.2.1 lt iv.2.2.2.2.2.2.2.2.2.2.1 v3 ha
theorem op4 (iv : IV G C S n m c) {a b : Int32} : OpQ d G C S n k m c m0 s0 48 [some (.ref (G.ad 1)), some (.int a), some (.int b)] 146 (fun o => [some (.ref o), some (.int a), some (.int b)]) := by
  have hG := iv.1
  have hT := okT hG
  have mm : ∀ o p pl M s n k, Op o p → ex (d + 13) 146 0 [some (.ref o), some (.int a), some (.int b)] [] (mM o p S M, sM o p pl s, n, k) = rt o p pl M s n k (roS G.T S a b) := fun o p pl M s n k hp => m146 (d := d + 11) hp (IV_WfT iv)
  by_cases h : ixR 6 8 a = none ∨ ixR 0 40 b = none ∨ G.T = 200
  · refine OpR (c48_n (d := d + 10) hG (IV_K iv) h) (rS := roS G.T S a b) ?_ mm
    unfold roS
    by_cases h1 : ixR 6 8 a = none
    · rw [if_pos h1]; exact RR_bd iv
    · rw [if_neg h1]
      cases hb : ixR 0 40 b with
      | none => exact RR_bd iv
      | some v =>
        simp only
        rw [mkS_200 ((h.resolve_left h1).resolve_left (by rw [hb]; intro y; cases y))]
        exact RR_bd iv
  · have lt : G.T < 200 := by omega
    cases ha : ixR 6 8 a with
    | none => exact absurd (Or.inl ha) h
    | some v =>
      cases hb : ixR 0 40 b with
      | none => exact absurd (Or.inr (Or.inl hb)) h
      | some w =>
        obtain ⟨ea, v6, v3⟩ := ixR_some (by decide) (by decide) ha
        obtain ⟨eb, _, w3⟩ := ixR_some (by decide) (by decide) hb
        subst ea eb
        have eS : roS G.T S (nI v) (nI w) = mkS G.T S (nI v) 0 w := by unfold roS; rw [if_neg (by rw [ha]; intro y; cases y), hb]
        have fm : Fm G 2 v 0 w (fRw G.T) := Or.inr (Or.inr ⟨v6, v3, rfl, rfl, w3, rfl⟩)
        obtain ⟨iv', e1⟩ := IV_T iv lt fm (fun y => by omega)
        refine OpG (rS := roS G.T S (nI v) (nI w)) (G' := gT G n 2 v 0 w (fRw G.T)) (n' := n + 2) (k' := k + 7 + w) ?_ (Gq_T hG lt fm) (Nat.le_add_right _ _) (by omega) (show k + 7 + w ≤ k + 60 by omega) (by rw [eS]; exact iv') mm
        rw [eS, e1]
        exact c48 (d := d + 10) hG (IV_K iv) iv.2.1 iv.2.2.1 lt iv.2.2.2.2.2.2.2.2.2.2.1 ⟨v6, v3⟩ w3 ha hb
end DW
def qR (R a : Nat) : Pw := fun f j => if f = 8 ∧ j = 0 then some (nI (R + 1)) else if f = 7 ∧ 40 * (200 + R) ≤ j ∧ j < 40 * (200 + R) + a then some (-1) else if f = 6 ∧ j = 200 + R then some (nI a) else none
theorem qR_eq {R a : Nat} {K : St} : ow (qR R a) K = sup (rkC K R a) 8 0 (nI (R + 1)) := by
  funext f j
  unfold ow qR rkC sup filS
  by_cases h1 : f = 8 ∧ j = 0
  · rw [if_pos h1, if_pos h1]; rfl
  · rw [if_neg h1, if_neg h1]
    by_cases h2 : f = 7 ∧ 40 * (200 + R) ≤ j ∧ j < 40 * (200 + R) + a
    · rw [if_pos h2, if_pos h2]; rfl
    · rw [if_neg h2, if_neg h2]
      dsimp only
      by_cases h3 : f = 6 ∧ j = 200 + R
      · rw [if_pos h3, if_pos h3]; rfl
      · rw [if_neg h3, if_neg h3]; rfl
theorem qR_o {R a f j : Nat} {K : St} (h8 : ¬ (f = 8 ∧ j = 0)) (h7 : ¬ (f = 7 ∧ 40 * (200 + R) ≤ j ∧ j < 40 * (200 + R) + a)) (h6 : ¬ (f = 6 ∧ j = 200 + R)) : ow (qR R a) K f j = K f j := by
  refine ow_n ?_
  unfold qR
  rw [if_neg h8, if_neg h7, if_neg h6]
theorem qR_t {R a : Nat} {K : St} : ow (qR R a) K 8 0 = nI (R + 1) ∧ ow (qR R a) K 6 (200 + R) = nI a ∧ ∀ q, q < a → ow (qR R a) K 7 (40 * (200 + R) + q) = -1 := by
  refine ⟨rfl, ow_s (by simp [qR]), fun q hq => ow_s ?_⟩
  unfold qR
  rw [if_neg (by omega), if_pos ⟨rfl, by omega, by omega⟩]
theorem Qv_fil {C S : St} (h : Qv C S) (f b a : Nat) (x : Int32) : Qv (filS C f b a x) (filS S f b a x) := fun g i hg => by
  unfold filS
  by_cases z : g = f ∧ b ≤ i ∧ i < b + a
  · rw [if_pos z, if_pos z]
  · rw [if_neg z, if_neg z]; exact h g i hg
section DX
variable {d k : Nat} {m0 : Mm} {s0 : Nat → Nat × Nat} {G : Gh} {C S : St} {n m c : Nat}
theorem lvR_R {a r : Nat} : lvR (gR G n a) r ↔ (lvR G r ∨ r = 200 + G.R) := by
  show ((r < G.T ∧ (G.kd r = 4 ∨ G.kd r = 5)) ∨ (200 ≤ r ∧ r < 200 + (G.R + 1))) ↔ (((r < G.T ∧ (G.kd r = 4 ∨ G.kd r = 5)) ∨ (200 ≤ r ∧ r < 200 + G.R)) ∨ r = 200 + G.R)
  constructor
  · rintro (h | h)
    · exact Or.inl (Or.inl h)
    · by_cases e : r = 200 + G.R
      · exact Or.inr e
      · exact Or.inl (Or.inr ⟨h.1, by omega⟩)
  · rintro ((h | h) | h)
    · exact Or.inl h
    · exact Or.inr ⟨h.1, by omega⟩
    · exact Or.inr ⟨by omega, by omega⟩
theorem JK_R {a : Nat} (hG : OKG G) (hR : G.R < 12) {K : St} (j : JK G K) : JK (gR G n a) (ow (qR G.R a) K) := by
  obtain ⟨⟨hK, wh, ws, wt, ρ, rk⟩, wi, wn, wr⟩ := j
  obtain ⟨q8, q6, q7⟩ := qR_t (R := G.R) (a := a) (K := K)
  have hT := okT hG
  have rT' : ∀ r, lvR G r → r < 200 + G.R := fun r lv => by rcases lv with ⟨a, _⟩ | ⟨a, _⟩ <;> omega
  have rT : ∀ r, lvR G r → r ≠ 200 + G.R := fun r lv => by have := rT' r lv; omega
  have oo : ∀ f, f ≠ 8 → f ≠ 7 → f ≠ 6 → ∀ j, ow (qR G.R a) K f j = K f j := fun f a b c j => qR_o (fun y => a y.1) (fun y => b y.1) (fun y => c y.1)
  have o7 : ∀ r q, lvR G r → q < G.sl r → ow (qR G.R a) K 7 (40 * r + q) = K 7 (40 * r + q) := fun r q lv hq => by
    have s40 := hG.2.2.2.2.1 r lv
    have := rT' r lv
    exact qR_o (by omega) (by omega) (by omega)
  have sl' : ∀ r, r ≠ 200 + G.R → (gR G n a).sl r = G.sl r := fun r h => if_neg h
  have slN : (gR G n a).sl (200 + G.R) = a := if_pos rfl
  have wh' : Whm (gR G n a) (ow (qR G.R a) K) := fun t ht => by
    rw [oo 4 (by decide) (by decide) (by decide), oo 3 (by decide) (by decide) (by decide)]
    rcases wh t ht with h | ⟨h, r, lv, h2⟩
    · exact Or.inl h
    · exact Or.inr ⟨h, r, lvR_R.mpr (Or.inl lv), h2⟩
  have ws' : Wsl (gR G n a) (ow (qR G.R a) K) := fun r q lv hq => by
    rcases lvR_R.mp lv with h | h
    · rw [sl' r (rT r h)] at hq
      rw [o7 r q h hq]
      rcases ws r q h hq with z | ⟨u, u1, u2, u3, u4, u5⟩
      · exact Or.inl z
      · exact Or.inr ⟨u, u1, u2, by rw [oo 3 (by decide) (by decide) (by decide)]; exact u3, by rw [oo 4 (by decide) (by decide) (by decide)]; exact u4, by rw [oo 5 (by decide) (by decide) (by decide)]; exact u5⟩
    · subst h
      rw [slN] at hq
      exact Or.inl (q7 q hq)
  have wt' : Wth (gR G n a) (ow (qR G.R a) K) := fun t ht h3 => by
    rw [oo 3 (by decide) (by decide) (by decide)] at h3
    obtain ⟨r, q, lv, hq, h4, h5, h7⟩ := wt t ht h3
    exact ⟨r, q, lvR_R.mpr (Or.inl lv), by rw [sl' r (rT r lv)]; exact hq, by rw [oo 4 (by decide) (by decide) (by decide)]; exact h4, by rw [oo 5 (by decide) (by decide) (by decide)]; exact h5, by rw [o7 r q lv hq]; exact h7⟩
  refine ⟨⟨⟨⟨by rw [oo 1 (by decide) (by decide) (by decide)]; exact hK.1.1, q8, by rw [oo 19 (by decide) (by decide) (by decide)]; exact hK.1.2.2.1, by rw [oo 35 (by decide) (by decide) (by decide)]; exact hK.1.2.2.2⟩, fun t ht => by rw [oo 2 (by decide) (by decide) (by decide)]; exact hK.2.1 t ht, fun r lv => ?_, fun t ht => by rw [oo 13 (by decide) (by decide) (by decide)]; exact hK.2.2.2.1 t ht, fun t ht => (wh' t ht).elim Or.inl (fun y => Or.inr y.2), fun r lv q hq => (ws' r q lv hq).elim Or.inl (fun ⟨u, a, b, _⟩ => Or.inr ⟨u, a, b⟩)⟩, wh', ws', wt', ρ, Rk_eq (oo 2 (by decide) (by decide) (by decide)) (oo 3 (by decide) (by decide) (by decide)) (oo 4 (by decide) (by decide) (by decide)) rk⟩, ⟨fun y hy h => ?_, fun x y hx hy h1 h2 e => ?_⟩, ⟨fun j => by rw [oo 9 (by decide) (by decide) (by decide)]; exact wn.1 j, fun j => by rw [oo 20 (by decide) (by decide) (by decide)]; exact wn.2 j⟩, fun j => by rw [oo 10 (by decide) (by decide) (by decide), oo 11 (by decide) (by decide) (by decide)]; exact wr j⟩
  · rcases lvR_R.mp lv with h | h
    · rw [sl' r (rT r h), qR_o (by omega) (by omega) (fun y => rT r h y.2)]
      exact hK.2.2.1 r h
    · subst h
      rw [slN]
      exact q6
  · rw [oo 38 (by decide) (by decide) (by decide)] at h
    rw [oo 3 (by decide) (by decide) (by decide)]
    exact wi.1 y hy h
  · rw [oo 38 (by decide) (by decide) (by decide)] at h1 h2
    exact wi.2 x y hx hy h1 h2 e
theorem op0 (iv : IV G C S n m c) {a : Int32} : OpQ d G C S n k m c m0 s0 44 [some (.ref (G.ad 1)), some (.int a), none] 142 (fun o => [some (.ref o), some (.int a), none, none]) := by
  obtain ⟨hG, vc, wf, w4, wl, ⟨nr, wr, w22⟩, ⟨q3, q1, q2⟩, w42, jk, ⟨m1, m2, m3⟩, hn, qv, h5, hh, E, hs⟩ := id iv
  have hR := okR hG
  have hT := okT hG
  have mm : ∀ o p pl M s n k, Op o p → ex (d + 13) 142 0 [some (.ref o), some (.int a), none, none] [] (mM o p S M, sM o p pl s, n, k) = rt o p pl M s n k (rkS G.R S a) := fun o p pl M s n k hp => m142 (d := d + 12) hp (IV_WfT iv)
  by_cases h : ixR 1 40 a = none ∨ G.R = 12
  · refine OpR (c44_n (d := d + 10) hG (IV_K iv) h) (rS := rkS G.R S a) ?_ mm
    unfold rkS
    cases ha : ixR 1 40 a with
    | none => exact RR_bd iv
    | some v =>
      simp only
      rw [if_pos (h.resolve_left (by rw [ha]; intro y; cases y))]
      exact RR_bd iv
  · have lt : G.R < 12 := by omega
    cases ha : ixR 1 40 a with
    | none => exact absurd (Or.inl ha) h
    | some v =>
      obtain ⟨ea, _, v3⟩ := ixR_some (by decide) (by decide) ha
      subst ea
      have eS : rkS G.R S (nI v) = fnS (sup (filS (sup S 6 (200 + G.R) (nI v)) 7 (40 * (200 + G.R)) v (-1)) 8 0 (nI (G.R + 1))) (nI G.R) := by
        unfold rkS
        rw [ha]
        simp only
        rw [if_neg (by omega)]
      obtain ⟨okG', ge, _, had2, _⟩ := gR_all (n := n) (a := v) hG lt v3 hn
      have zf : ∀ f j, f ≠ 0 → f ≠ 6 → f ≠ 7 → f ≠ 8 → (rkS G.R S (nI v)).2 f j = S f j := fun f j a0 a6 a7 a8 => by
        rw [eS, fnS_2, sup_f a0, sup_f a8]
        unfold filS
        rw [if_neg (fun y => a7 y.1), sup_f a6]
      have cf : ∀ f j, f ≠ 0 → f ≠ 6 → f ≠ 7 → f ≠ 8 → sup (sup (rkC C G.R v) 8 0 (nI (G.R + 1))) 0 0 (nI 0) f j = C f j := fun f j a0 a6 a7 a8 => by
        rw [sup_f a0, sup_f a8]
        unfold rkC filS
        rw [if_neg (fun y => a7 y.1), sup_f a6]
      have jkR : ∀ K, JK G K → JK (gR G n v) (ow (qR G.R v) K) := fun K j => JK_R hG lt j
      have iv' : IV (gR G n v) (sup (sup (rkC C G.R v) 8 0 (nI (G.R + 1))) 0 0 (nI 0)) (rkS G.R S (nI v)).2 (n + 2) m (c + 1) := by
        refine ⟨okG', ⟨fun j => ?_, fun j => ?_, vc.2.2⟩, ⟨fun j hj => ?_, fun j hj => ?_⟩, fun t ht h => ?_, fun j => ?_, ⟨nr, ?_, fun j hj => ?_⟩, ⟨q3, q1, ?_⟩, ?_, JK_eq (C := ow (qR G.R v) C) (fun f hk j => by rw [qR_eq]; exact sup_f (fun y => by subst y; cases hk)) (jkR C jk), ⟨?_, m2, by omega⟩, fun x hx => ?_, fun g i hg => ?_, fun t ht h3 => ?_, fun y hy => ?_, E, ?_⟩
        · rw [cf 22 j (by decide) (by decide) (by decide) (by decide)]; exact vc.1 j
        · rw [cf 44 j (by decide) (by decide) (by decide) (by decide)]; exact vc.2.1 j
        · rw [cf 9 j (by decide) (by decide) (by decide) (by decide), cf 10 j (by decide) (by decide) (by decide) (by decide), cf 11 j (by decide) (by decide) (by decide) (by decide)]; exact wf.1 j hj
        · rw [cf 12 j (by decide) (by decide) (by decide) (by decide)]; exact wf.2 j hj
        · show (if t = 200 + G.R then v else G.sl t) = 6
          have ht' : t < G.T := ht
          rw [if_neg (by omega)]
          exact w4 t ht h
        · rw [cf 24 j (by decide) (by decide) (by decide) (by decide)]; exact wl j
        · exact Wro_eq (G := gR G n v) (C := C) wr (fun f hf j => cf f j (by omega) (by omega) (by omega) (by omega))
        · rw [zf 22 j (by decide) (by decide) (by decide) (by decide), cf 22 j (by decide) (by decide) (by decide) (by decide)]; exact w22 j hj
        · rw [cf 32 0 (by decide) (by decide) (by decide) (by decide)]; exact q2
        · rw [cf 42 0 (by decide) (by decide) (by decide) (by decide)]; exact w42
        · rw [cf 17 0 (by decide) (by decide) (by decide) (by decide)]; exact m1
        · have hx' : (if n ≤ x ∧ x < n + 2 then fRk G.R (x - n) else G.W x) ≠ 0 := hx
          by_cases e : n ≤ x ∧ x < n + 2
          · omega
          · rw [if_neg e] at hx'
            have := hn x hx'
            omega
        · rw [eS, fnS_2]
          exact Qv_sup (Qv_sup (Qv_fil (Qv_sup qv _ _ _) _ _ _ _) _ _ _) _ _ _ g i hg
        · rw [cf 3 t (by decide) (by decide) (by decide) (by decide)] at h3
          rw [zf 5 t (by decide) (by decide) (by decide) (by decide), cf 5 t (by decide) (by decide) (by decide) (by decide)]
          exact h5 t ht h3
        · rw [zf 36 y (by decide) (by decide) (by decide) (by decide), zf 37 y (by decide) (by decide) (by decide) (by decide), zf 38 y (by decide) (by decide) (by decide) (by decide), cf 38 y (by decide) (by decide) (by decide) (by decide)]
          exact hh y hy
        · have hg := Hs_grow (G' := gR G n v) (S := S) (S' := S) (E := E) (Q := qR G.R v) hG ge (Nat.le_refl _) (Nat.le_refl _) (Nat.le_refl _) (fun r lv => lvR_R.mpr (Or.inl lv)) (fun f j => by
            by_cases dm : Dm G f j
            · left
              unfold qR
              rcases dm with ⟨a, b⟩ | ⟨a, r, q, lv, hq, e⟩ | ⟨a, b⟩ | ⟨a, b⟩ | ⟨a, b⟩ | ⟨a, b⟩
              · rw [if_neg (by omega), if_neg (by omega), if_neg (by omega)]
              · have s40 := hG.2.2.2.2.1 r lv
                have rT : r < 200 + G.R := by rcases lv with ⟨a, _⟩ | ⟨a, _⟩ <;> omega
                rw [if_neg (by omega), if_neg (by omega), if_neg (by omega)]
              · rw [if_neg (by omega), if_neg (by omega), if_neg (by omega)]
              · rw [if_neg (by omega), if_neg (by omega), if_neg (by omega)]
              · rw [if_neg (by omega), if_neg (by omega), if_neg (by omega)]
              · rw [if_neg (by omega), if_neg (by omega), if_neg (by omega)]
            · exact Or.inr dm) jkR m C (fun x hx => ⟨show x < G.N by omega, rfl, rfl⟩) (fun _ _ => rfl) hs
          exact Hs_ext okG' m _ _ (fun f hf j => by rw [qR_eq]; exact sup_f (fun y => by subst y; cases hf)) (fun j _ => zf 16 j (by decide) (by decide) (by decide) (by decide)) (fun _ _ => rfl) hg
      refine OpG (rS := rkS G.R S (nI v)) (G' := gR G n v) (n' := n + 2) (k' := k + 3 + v) ?_ ⟨had2 1 (Or.inl ⟨by decide, by decide⟩), fun x hx h => ?_⟩ (Nat.le_add_right _ _) (by omega) (show k + 3 + v ≤ k + 60 by omega) iv' mm
      · rw [eS, fnS_1]
        exact c44 (d := d + 10) hG (IV_K iv) vc lt hn v3 ha
      · show (if n ≤ x ∧ x < n + 2 then fRk G.R (x - n) else G.W x) = 0
        rw [if_neg (by omega)]
        exact h
end DX
