/-! ===== calls that make a thing ===== -/
def qT (T : Nat) (kd : Int32) (a b : Nat) : Pw := fun f j => if f = 1 ∧ j = 0 then some (nI (T + 1)) else if f = 7 ∧ 40 * T ≤ j ∧ j < 40 * T + a then some (-1) else if f = 5 ∧ j = T then some (nI 0) else if f = 13 ∧ j = T then some (nI b) else if f = 6 ∧ j = T then some (nI a) else if f = 4 ∧ j = T then some (-1) else if f = 3 ∧ j = T then some (nI 0) else if f = 2 ∧ j = T then some kd else none
theorem qT_eq {T a b : Nat} {kd : Int32} {K : St} : ow (qT T kd a b) K = sup (nwC K T kd a b) 1 0 (nI (T + 1)) := by
  funext f j
  unfold ow qT nwC sup filS
  by_cases h1 : f = 1 ∧ j = 0
  · rw [if_pos h1, if_pos h1]; rfl
  · rw [if_neg h1, if_neg h1]
    by_cases h2 : f = 7 ∧ 40 * T ≤ j ∧ j < 40 * T + a
    · rw [if_pos h2, if_pos h2]; rfl
    · rw [if_neg h2, if_neg h2]
      dsimp only
      by_cases h3 : f = 5 ∧ j = T
      · rw [if_pos h3, if_pos h3]; rfl
      · rw [if_neg h3, if_neg h3]
        by_cases h4 : f = 13 ∧ j = T
        · rw [if_pos h4, if_pos h4]; rfl
        · rw [if_neg h4, if_neg h4]
          by_cases h5 : f = 6 ∧ j = T
          · rw [if_pos h5, if_pos h5]; rfl
          · rw [if_neg h5, if_neg h5]
            by_cases h6 : f = 4 ∧ j = T
            · rw [if_pos h6, if_pos h6]; rfl
            · rw [if_neg h6, if_neg h6]
              by_cases h7 : f = 3 ∧ j = T
              · rw [if_pos h7, if_pos h7]; rfl
              · rw [if_neg h7, if_neg h7]
                by_cases h8 : f = 2 ∧ j = T
                · rw [if_pos h8, if_pos h8]; rfl
                · rw [if_neg h8, if_neg h8]; rfl
/-- where nothing of a new thing is told -/
theorem qT_o {T a b f j : Nat} {kd : Int32} {K : St} (h1 : ¬ (f = 1 ∧ j = 0)) (h7 : ¬ (f = 7 ∧ 40 * T ≤ j ∧ j < 40 * T + a)) (hT : ¬ ((f = 5 ∨ f = 13 ∨ f = 6 ∨ f = 4 ∨ f = 3 ∨ f = 2) ∧ j = T)) : ow (qT T kd a b) K f j = K f j := by
  refine ow_n ?_
  unfold qT
  rw [if_neg h1, if_neg h7, if_neg (fun y => hT ⟨Or.inl y.1, y.2⟩), if_neg (fun y => hT ⟨Or.inr (Or.inl y.1), y.2⟩), if_neg (fun y => hT ⟨Or.inr (Or.inr (Or.inl y.1)), y.2⟩), if_neg (fun y => hT ⟨Or.inr (Or.inr (Or.inr (Or.inl y.1))), y.2⟩), if_neg (fun y => hT ⟨Or.inr (Or.inr (Or.inr (Or.inr (Or.inl y.1)))), y.2⟩), if_neg (fun y => hT ⟨Or.inr (Or.inr (Or.inr (Or.inr (Or.inr y.1)))), y.2⟩)]
theorem qT_t {T a b : Nat} {kd : Int32} {K : St} : ow (qT T kd a b) K 1 0 = nI (T + 1) ∧ ow (qT T kd a b) K 2 T = kd ∧ ow (qT T kd a b) K 3 T = nI 0 ∧ ow (qT T kd a b) K 4 T = -1 ∧ ow (qT T kd a b) K 6 T = nI a ∧ ow (qT T kd a b) K 13 T = nI b ∧ ∀ q, q < a → ow (qT T kd a b) K 7 (40 * T + q) = -1 := by
  refine ⟨rfl, ?_, ?_, ?_, ?_, ?_, fun q hq => ?_⟩
  · exact ow_s (by simp [qT])
  · exact ow_s (by simp [qT])
  · exact ow_s (by simp [qT])
  · exact ow_s (by simp [qT])
  · exact ow_s (by simp [qT])
  · refine ow_s ?_
    unfold qT
    rw [if_neg (by omega), if_pos ⟨rfl, by omega, by omega⟩]
section DV
variable {d k : Nat} {m0 : Mm} {s0 : Nat → Nat × Nat} {G : Gh} {C S : St} {n m c : Nat} {len kd sl vl : Nat} {f : Nat → Nat}
theorem lvR_T (hT : G.T < 200) {r : Nat} : lvR (gT G n len kd sl vl f) r ↔ (lvR G r ∨ (r = G.T ∧ (kd = 4 ∨ kd = 5))) := by
  show ((r < G.T + 1 ∧ ((if r = G.T then kd else G.kd r) = 4 ∨ (if r = G.T then kd else G.kd r) = 5)) ∨ (200 ≤ r ∧ r < 200 + G.R)) ↔ (((r < G.T ∧ (G.kd r = 4 ∨ G.kd r = 5)) ∨ (200 ≤ r ∧ r < 200 + G.R)) ∨ (r = G.T ∧ (kd = 4 ∨ kd = 5)))
  by_cases e : r = G.T
  · rw [if_pos e]
    constructor
    · rintro (h | h)
      · exact Or.inr ⟨e, h.2⟩
      · omega
    · rintro ((h | h) | h)
      · omega
      · omega
      · exact Or.inl ⟨by omega, h.2⟩
  · rw [if_neg e]
    constructor
    · rintro (h | h)
      · exact Or.inl (Or.inl ⟨by omega, h.2⟩)
      · exact Or.inl (Or.inr h)
    · rintro ((h | h) | h)
      · exact Or.inl ⟨by omega, h.2⟩
      · exact Or.inr h
      · exact absurd h.1 e
theorem JK_T (hG : OKG G) (hT : G.T < 200) (hht : ∀ i, i < G.H → G.ht i < G.T) (hsl : sl ≤ 40) {K : St} (j : JK G K) : JK (gT G n len kd sl vl f) (ow (qT G.T (nI kd) sl vl) K) := by
  obtain ⟨⟨hK, wh, ws, wt, ρ, rk⟩, wi, wn, wr⟩ := j
  obtain ⟨q1, q2, q3, q4, q6, q13, q7⟩ := qT_t (T := G.T) (a := sl) (b := vl) (kd := nI kd) (K := K)
  have o : ∀ t, t ≠ G.T → ∀ f, f = 2 ∨ f = 3 ∨ f = 4 ∨ f = 5 ∨ f = 6 ∨ f = 13 → ow (qT G.T (nI kd) sl vl) K f t = K f t := fun t ht f hf => qT_o (by omega) (by omega) (by omega)
  have o7 : ∀ r q, lvR G r → q < G.sl r → ow (qT G.T (nI kd) sl vl) K 7 (40 * r + q) = K 7 (40 * r + q) := fun r q lv hq => by
    have s40 := hG.2.2.2.2.1 r lv
    have rT : r ≠ G.T := by
      rcases lv with ⟨a, _⟩ | ⟨a, _⟩ <;> omega
    exact qT_o (by omega) (by omega) (by omega)
  have oo : ∀ f, f = 8 ∨ f = 9 ∨ f = 10 ∨ f = 11 ∨ f = 19 ∨ f = 20 ∨ f = 35 ∨ f = 38 → ∀ j, ow (qT G.T (nI kd) sl vl) K f j = K f j := fun f hf j => qT_o (by omega) (by omega) (by omega)
  have sl' : ∀ r, r ≠ G.T → (gT G n len kd sl vl f).sl r = G.sl r := fun r h => if_neg h
  have rT : ∀ r, lvR G r → r ≠ G.T := fun r lv => by rcases lv with ⟨a, _⟩ | ⟨a, _⟩ <;> omega
  have wh' : Whm (gT G n len kd sl vl f) (ow (qT G.T (nI kd) sl vl) K) := fun t ht => by
    by_cases e : t = G.T
    · subst e; exact Or.inl q4
    · have ht' : t < G.T := by have : t < G.T + 1 := ht; omega
      rw [o t e 4 (by omega), o t e 3 (by omega)]
      rcases wh t ht' with h | ⟨h, r, lv, h2⟩
      · exact Or.inl h
      · exact Or.inr ⟨h, r, (lvR_T hT).mpr (Or.inl lv), h2⟩
  have ws' : Wsl (gT G n len kd sl vl f) (ow (qT G.T (nI kd) sl vl) K) := fun r q lv hq => by
    rcases (lvR_T hT).mp lv with h | ⟨h, _⟩
    · rw [sl' r (rT r h)] at hq
      rw [o7 r q h hq]
      rcases ws r q h hq with z | ⟨u, u1, u2, u3, u4, u5⟩
      · exact Or.inl z
      · have ne : u ≠ G.T := by omega
        exact Or.inr ⟨u, Nat.lt_succ_of_lt u1, u2, by rw [o u ne 3 (by omega)]; exact u3, by rw [o u ne 4 (by omega)]; exact u4, by rw [o u ne 5 (by omega)]; exact u5⟩
    · subst h
      have e : (gT G n len kd sl vl f).sl G.T = sl := gK.2.1
      rw [e] at hq
      exact Or.inl (q7 q hq)
  have wt' : Wth (gT G n len kd sl vl f) (ow (qT G.T (nI kd) sl vl) K) := fun t ht h3 => by
    by_cases e : t = G.T
    · subst e; rw [q3] at h3; exact absurd h3 (by decide)
    · have ht' : t < G.T := by have : t < G.T + 1 := ht; omega
      rw [o t e 3 (by omega)] at h3
      obtain ⟨r, q, lv, hq, h4, h5, h7⟩ := wt t ht' h3
      exact ⟨r, q, (lvR_T hT).mpr (Or.inl lv), by rw [sl' r (rT r lv)]; exact hq, by rw [o t e 4 (by omega)]; exact h4, by rw [o t e 5 (by omega)]; exact h5, by rw [o7 r q lv hq]; exact h7⟩
  have hK' : OKC (gT G n len kd sl vl f) (ow (qT G.T (nI kd) sl vl) K) := by
    refine ⟨⟨q1, by rw [oo 8 (by omega)]; exact hK.1.2.1, by rw [oo 19 (by omega)]; exact hK.1.2.2.1, by rw [oo 35 (by omega)]; exact hK.1.2.2.2⟩, fun t ht => ?_, fun r lv => ?_, fun t ht => ?_, fun t ht => ?_, fun r lv q hq => ?_⟩
    · by_cases e : t = G.T
      · subst e; rw [gK.1]; exact q2
      · have ht' : t < G.T := by have : t < G.T + 1 := ht; omega
        rw [o t e 2 (by omega)]
        show _ = nI (if t = G.T then kd else G.kd t)
        rw [if_neg e]
        exact hK.2.1 t ht'
    · rcases (lvR_T hT).mp lv with h | ⟨h, _⟩
      · rw [sl' r (rT r h), o r (rT r h) 6 (by omega)]
        exact hK.2.2.1 r h
      · subst h
        rw [gK.2.1]
        exact q6
    · by_cases e : t = G.T
      · subst e; rw [gK.2.2]; exact q13
      · have ht' : t < G.T := by have : t < G.T + 1 := ht; omega
        rw [o t e 13 (by omega)]
        show _ = nI (if t = G.T then vl else G.vl t)
        rw [if_neg e]
        exact hK.2.2.2.1 t ht'
    · exact (wh' t ht).elim Or.inl (fun y => Or.inr y.2)
    · exact (ws' r q lv hq).elim Or.inl (fun ⟨u, a, b, _⟩ => Or.inr ⟨u, a, b⟩)
  have pn : ∀ u, u ≠ G.T → par (ow (qT G.T (nI kd) sl vl) K) u = par K u := fun u ne => par_ne ⟨o u ne 3 (by omega), o u ne 4 (by omega)⟩
  refine ⟨⟨hK', wh', ws', wt', (fun u => if u = G.T then 0 else ρ u), fun u hu => ?_⟩, ⟨fun y hy h => ?_, fun x y hx hy h1 h2 e => ?_⟩, ⟨fun j => by rw [oo 9 (by omega)]; exact wn.1 j, fun j => by rw [oo 20 (by omega)]; exact wn.2 j⟩, fun j => by rw [oo 10 (by omega), oo 11 (by omega)]; exact wr j⟩
  · by_cases e : u = G.T
    · subst e
      have p : par (ow (qT G.T (nI kd) sl vl) K) G.T = none := par_not (by rw [q3]; decide)
      refine ⟨fun _ => if_pos rfl, fun v hv => (by rw [p] at hv; cases hv), fun _ => ?_, fun _ => ?_, ?_⟩ <;> simp
    · have hu' : u < G.T := by have : u < G.T + 1 := hu; omega
      obtain ⟨a, b, c1, c2, c3⟩ := rk u hu'
      rw [pn u e, o u e 2 (by omega)]
      simp only [e, if_false]
      refine ⟨a, fun v hv => ?_, c1, c2, c3⟩
      obtain ⟨b1, b2, b3, b4⟩ := b v hv
      have ve : v ≠ G.T := by omega
      rw [o v ve 2 (by omega), if_neg ve]
      exact ⟨Nat.lt_succ_of_lt b1, b2, b3, b4⟩
  · rw [oo 38 (by omega)] at h
    have := hht y hy
    show ow (qT G.T (nI kd) sl vl) K 3 (G.ht y) = nI 2
    rw [o (G.ht y) (by omega) 3 (by omega)]
    exact wi.1 y hy h
  · rw [oo 38 (by omega)] at h1 h2
    exact wi.2 x y hx hy h1 h2 e
theorem mk_al {X : St} {T a b : Nat} {kd y : Int32} (f j : Nat) (h5 : f ≠ 5) : sup (ow (qT T kd a b) X) 0 0 y f j = sup (filS (sup (sup (sup (sup (sup (sup X 1 0 (nI (T + 1))) 2 T kd) 3 T (nI 0)) 4 T (-1)) 6 T (nI a)) 13 T (nI b)) 7 (40 * T) a (-1)) 0 0 y f j := by
  rw [qT_eq]
  simp only [nwC, sup, filS, h5, false_and, if_false]
  by_cases h1 : f = 1
  · subst h1
    simp
  · simp only [h1, false_and, if_false]
/-- a thing is made, on both sides -/
theorem IV_T (iv : IV G C S n m c) (hT : G.T < 200) (fm : Fm G len kd sl vl f) (h4 : kd = 4 → sl = 6) : IV (gT G n len kd sl vl f) (sup (sup (nwC C G.T (nI kd) sl vl) 1 0 (nI (G.T + 1))) 0 0 (nI 0)) (mkS G.T S (nI kd) sl vl).2 (n + len) m (c + 1) ∧ (mkS G.T S (nI kd) sl vl).1 = nI G.T := by
  obtain ⟨hG, vc, wf, w4, wl, ⟨nr, wr, w22⟩, ⟨q3, q1, q2⟩, w42, jk, ⟨m1, m2, m3⟩, hn, qv, h5, hh, E, hs⟩ := id iv
  have hsl : sl ≤ 40 := by
    rcases fm with ⟨_, _, _, _, h⟩ | ⟨_, _, _, h, _⟩ | ⟨_, _, _, _, _, h⟩ <;> omega
  have eS : mkS G.T S (nI kd) sl vl = fnS (filS (sup (sup (sup (sup (sup (sup S 1 0 (nI (G.T + 1))) 2 G.T (nI kd)) 3 G.T (nI 0)) 4 G.T (-1)) 6 G.T (nI sl)) 13 G.T (nI vl)) 7 (40 * G.T) sl (-1)) (nI G.T) := by
    unfold mkS
    rw [if_neg (by omega)]
  rw [← qT_eq, eS, fnS_2, fnS_1]
  obtain ⟨Z, hZ⟩ : ∃ Z : St, Z = sup (filS (sup (sup (sup (sup (sup (sup S 1 0 (nI (G.T + 1))) 2 G.T (nI kd)) 3 G.T (nI 0)) 4 G.T (-1)) 6 G.T (nI sl)) 13 G.T (nI vl)) 7 (40 * G.T) sl (-1)) 0 0 (nI 0) := ⟨_, rfl⟩
  rw [← hZ]
  refine ⟨?_, rfl⟩
  have zf : ∀ f j, f ≠ 0 → f ≠ 1 → f ≠ 2 → f ≠ 3 → f ≠ 4 → f ≠ 6 → f ≠ 7 → f ≠ 13 → Z f j = S f j := fun f j a0 a1 a2 a3 a4 a6 a7 a13 => by
    rw [hZ, sup_f a0]
    unfold filS
    rw [if_neg (fun y => a7 y.1), sup_f a13, sup_f a6, sup_f a4, sup_f a3, sup_f a2, sup_f a1]
  have cf : ∀ f j, f ≠ 0 → f ≠ 1 → f ≠ 2 → f ≠ 3 → f ≠ 4 → f ≠ 5 → f ≠ 6 → f ≠ 7 → f ≠ 13 → sup (ow (qT G.T (nI kd) sl vl) C) 0 0 (nI 0) f j = C f j := fun f j a0 a1 a2 a3 a4 a5 a6 a7 a13 => by
    rw [sup_f a0]
    exact qT_o (fun y => a1 y.1) (fun y => a7 y.1) (by omega)
  have ct : ∀ t, t ≠ G.T → ∀ f, f = 3 ∨ f = 5 → sup (ow (qT G.T (nI kd) sl vl) C) 0 0 (nI 0) f t = C f t := fun t ht f hf => by
    rw [sup_f (by omega)]
    exact qT_o (by omega) (by omega) (by omega)
  have jkT : ∀ K, JK G K → JK (gT G n len kd sl vl f) (ow (qT G.T (nI kd) sl vl) K) := fun K j => JK_T hG hT vc.2.2 hsl j
  have okG' := gT_ok hG hT fm hn
  have fr := (gT_lv (n := n) hG hT fm).2.2.1
  have ge := gT_GE (n := n) (len := len) (kd := kd) (sl := sl) (vl := vl) fr (okR hG) hT
  refine ⟨okG', ⟨fun j => ?_, fun j => ?_, fun i hi => Nat.lt_succ_of_lt (vc.2.2 i hi)⟩, ⟨fun j hj => ?_, fun j hj => ?_⟩, fun t ht h => ?_, fun j => ?_, ⟨nr, ?_, fun j hj => ?_⟩, ⟨q3, q1, ?_⟩, ?_, JK_eq (fun f hk j => sup_f (fun y => by subst y; cases hk)) (jkT C jk), ⟨?_, m2, by omega⟩, fun a ha => ?_, fun g i hg => ?_, fun t ht h3 => ?_, fun y hy => ?_, E, ?_⟩
  · rw [cf 22 j (by decide) (by decide) (by decide) (by decide) (by decide) (by decide) (by decide) (by decide) (by decide)]; exact vc.1 j
  · rw [cf 44 j (by decide) (by decide) (by decide) (by decide) (by decide) (by decide) (by decide) (by decide) (by decide)]
    exact (vc.2.1 j).elim Or.inl (fun ⟨t, a, b⟩ => Or.inr ⟨t, Nat.lt_succ_of_lt a, b⟩)
  · have hj' : 6 * (G.T + 1) ≤ j := hj
    rw [cf 9 j (by decide) (by decide) (by decide) (by decide) (by decide) (by decide) (by decide) (by decide) (by decide), cf 10 j (by decide) (by decide) (by decide) (by decide) (by decide) (by decide) (by decide) (by decide) (by decide), cf 11 j (by decide) (by decide) (by decide) (by decide) (by decide) (by decide) (by decide) (by decide) (by decide)]
    exact wf.1 j (by omega)
  · have hj' : 40 * (G.T + 1) ≤ j := hj
    rw [cf 12 j (by decide) (by decide) (by decide) (by decide) (by decide) (by decide) (by decide) (by decide) (by decide)]
    exact wf.2 j (by omega)
  · have h' : (if t = G.T then kd else G.kd t) = 4 := h
    show (if t = G.T then sl else G.sl t) = 6
    by_cases e : t = G.T
    · rw [if_pos e] at h' ⊢; exact h4 h'
    · rw [if_neg e] at h' ⊢
      exact w4 t (by have : t < G.T + 1 := ht; omega) h'
  · rw [cf 24 j (by decide) (by decide) (by decide) (by decide) (by decide) (by decide) (by decide) (by decide) (by decide)]; exact wl j
  · exact Wro_eq (G := gT G n len kd sl vl f) (C := C) wr (fun f hf j => cf f j (by omega) (by omega) (by omega) (by omega) (by omega) (by omega) (by omega) (by omega) (by omega))
  · rw [zf 22 j (by decide) (by decide) (by decide) (by decide) (by decide) (by decide) (by decide) (by decide), cf 22 j (by decide) (by decide) (by decide) (by decide) (by decide) (by decide) (by decide) (by decide) (by decide)]
    exact w22 j hj
  · rw [cf 32 0 (by decide) (by decide) (by decide) (by decide) (by decide) (by decide) (by decide) (by decide) (by decide)]; exact q2
  · rw [cf 42 0 (by decide) (by decide) (by decide) (by decide) (by decide) (by decide) (by decide) (by decide) (by decide)]; exact w42
  · rw [cf 17 0 (by decide) (by decide) (by decide) (by decide) (by decide) (by decide) (by decide) (by decide) (by decide)]; exact m1
  · have ha' : (if n ≤ a ∧ a < n + len then f (a - n) else G.W a) ≠ 0 := ha
    by_cases e : n ≤ a ∧ a < n + len
    · omega
    · rw [if_neg e] at ha'
      have := hn a ha'
      omega
  · rw [hZ, ← mk_al g i (fun y => by subst y; cases hg)]
    rw [qT_eq, qT_eq]
    unfold nwC
    by_cases e7 : g = 7
    · subst e7
      rw [sup_f (by decide), sup_f (by decide), sup_f (by decide), sup_f (by decide)]
      unfold filS
      by_cases z : (7 = 7 ∧ 40 * G.T ≤ i ∧ i < 40 * G.T + sl)
      · rw [if_pos z, if_pos z]
      · rw [if_neg z, if_neg z]
        exact Qv_sup (Qv_sup (Qv_sup (Qv_sup (Qv_sup (Qv_sup qv _ _ _) _ _ _) _ _ _) _ _ _) _ _ _) _ _ _ 7 i rfl
    · refine Qv_sup (Qv_sup (C := filS _ 7 _ _ _) (S := filS _ 7 _ _ _) ?_ _ _ _) _ _ _ g i hg
      intro g i hg
      unfold filS
      by_cases z : (g = 7 ∧ 40 * G.T ≤ i ∧ i < 40 * G.T + sl)
      · rw [if_pos z, if_pos z]
      · rw [if_neg z, if_neg z]
        exact Qv_sup (Qv_sup (Qv_sup (Qv_sup (Qv_sup (Qv_sup qv _ _ _) _ _ _) _ _ _) _ _ _) _ _ _) _ _ _ g i hg
  · by_cases e : t = G.T
    · subst e
      rw [sup_f (by decide), qT_t.2.2.1] at h3
      exact absurd h3 (by decide)
    · rw [ct t e 3 (by omega)] at h3
      rw [ct t e 5 (by omega), zf 5 t (by decide) (by decide) (by decide) (by decide) (by decide) (by decide) (by decide) (by decide)]
      exact h5 t (by have : t < G.T + 1 := ht; omega) h3
  · rw [zf 36 y (by decide) (by decide) (by decide) (by decide) (by decide) (by decide) (by decide) (by decide), zf 37 y (by decide) (by decide) (by decide) (by decide) (by decide) (by decide) (by decide) (by decide), zf 38 y (by decide) (by decide) (by decide) (by decide) (by decide) (by decide) (by decide) (by decide), cf 38 y (by decide) (by decide) (by decide) (by decide) (by decide) (by decide) (by decide) (by decide) (by decide)]
    exact hh y hy
  · have hg := Hs_grow (G' := gT G n len kd sl vl f) (S := S) (S' := S) (E := E) (Q := qT G.T (nI kd) sl vl) hG ge (Nat.le_succ _) (Nat.le_refl _) (Nat.le_refl _) (fun r lv => (lvR_T hT).mpr (Or.inl lv)) (fun f j => by
      by_cases dm : Dm G f j
      · left
        unfold qT
        rcases dm with ⟨a, b⟩ | ⟨a, r, q, lv, hq, e⟩ | ⟨a, b⟩ | ⟨a, b⟩ | ⟨a, b⟩ | ⟨a, b⟩
        · rw [if_neg (by omega), if_neg (by omega), if_neg (by omega), if_neg (by omega), if_neg (by omega), if_neg (by omega), if_neg (by omega), if_neg (by omega)]
        · have s40 := hG.2.2.2.2.1 r lv
          have rT : r ≠ G.T := by rcases lv with ⟨a, _⟩ | ⟨a, _⟩ <;> omega
          rw [if_neg (by omega), if_neg (by omega), if_neg (by omega), if_neg (by omega), if_neg (by omega), if_neg (by omega), if_neg (by omega), if_neg (by omega)]
        · rw [if_neg (by omega), if_neg (by omega), if_neg (by omega), if_neg (by omega), if_neg (by omega), if_neg (by omega), if_neg (by omega), if_neg (by omega)]
        · rw [if_neg (by omega), if_neg (by omega), if_neg (by omega), if_neg (by omega), if_neg (by omega), if_neg (by omega), if_neg (by omega), if_neg (by omega)]
        · rw [if_neg (by omega), if_neg (by omega), if_neg (by omega), if_neg (by omega), if_neg (by omega), if_neg (by omega), if_neg (by omega), if_neg (by omega)]
        · rw [if_neg (by omega), if_neg (by omega), if_neg (by omega), if_neg (by omega), if_neg (by omega), if_neg (by omega), if_neg (by omega), if_neg (by omega)]
      · exact Or.inr dm) jkT m C (fun x hx => ⟨show x < G.N by omega, rfl, rfl⟩) (fun _ _ => rfl) hs
    exact Hs_ext okG' m _ _ (fun f hf j => sup_f (fun y => by subst y; cases hf)) (fun j _ => zf 16 j (by decide) (by decide) (by decide) (by decide) (by decide) (by decide) (by decide) (by decide)) (fun _ _ => rfl) hg
end DV
