/-! ===== what was done can be undone ===== -/
abbrev Pw : Type := Nat → Nat → Option Int32
def ow (P : Pw) (C : St) : St := fun f j => (P f j).getD (C f j)
theorem ow_n {P : Pw} {C : St} {f j : Nat} (h : P f j = none) : ow P C f j = C f j := by unfold ow; rw [h]; rfl
theorem ow_s {P : Pw} {C : St} {f j : Nat} {v : Int32} (h : P f j = some v) : ow P C f j = v := by unfold ow; rw [h]; rfl
theorem ow_com {P Q : Pw} {C : St} (h : ∀ f j, P f j = none ∨ Q f j = none) : ow P (ow Q C) = ow Q (ow P C) := by
  funext f j
  rcases h f j with a | a
  · rw [ow_n a]
    unfold ow
    rw [a]
    rfl
  · rw [ow_n (P := Q) a]
    unfold ow
    rw [a]
    rfl
/-- where history writes -/
def Dm (G : Gh) (f j : Nat) : Prop := ((f = 3 ∨ f = 4 ∨ f = 5) ∧ j < G.T) ∨ (f = 7 ∧ ∃ r q, lvR G r ∧ q < G.sl r ∧ j = 40 * r + q) ∨ ((f = 9 ∨ f = 10 ∨ f = 11) ∧ j < 6 * G.T) ∨ ((f = 18 ∨ f = 34) ∧ j = 0) ∨ (f = 20 ∧ j < 6 * G.A) ∨ (f = 38 ∧ j < G.H)
def uM (t : Nat) (a3 a4 a5 : Int32) (z : Nat) (a7 p : Int32) : Pw := fun f j => if f = 3 ∧ j = t then some a3 else if f = 4 ∧ j = t then some a4 else if f = 5 ∧ j = t then some a5 else if f = 7 ∧ j = z then some a7 else if f = 34 ∧ j = 0 then some p else none
def uY (P : Pw) (y : Nat) (s : Int32) : Pw := fun f j => if f = 38 ∧ j = y then some s else P f j
def uZ (z : Nat) (a b c s : Int32) : Pw := fun f j => if f = 9 ∧ j = z then some a else if f = 10 ∧ j = z then some b else if f = 11 ∧ j = z then some c else if f = 18 ∧ j = 0 then some s else none
def uA (z : Nat) (a : Int32) : Pw := fun f j => if f = 20 ∧ j = z then some a else none
section DQ0
variable {C : St} {t z y : Nat} {a b c s a3 a4 a5 a7 p : Int32} {P : Pw}
theorem uM_eq : ow (uM t a3 a4 a5 z a7 p) C = sup (sup (sup (sup (sup C 34 0 p) 7 z a7) 5 t a5) 4 t a4) 3 t a3 := by
  funext f j
  unfold ow uM sup
  by_cases h1 : f = 3 ∧ j = t
  · rw [if_pos h1, if_pos h1]; rfl
  · rw [if_neg h1, if_neg h1]
    by_cases h2 : f = 4 ∧ j = t
    · rw [if_pos h2, if_pos h2]; rfl
    · rw [if_neg h2, if_neg h2]
      by_cases h3 : f = 5 ∧ j = t
      · rw [if_pos h3, if_pos h3]; rfl
      · rw [if_neg h3, if_neg h3]
        by_cases h4 : f = 7 ∧ j = z
        · rw [if_pos h4, if_pos h4]; rfl
        · rw [if_neg h4, if_neg h4]
          by_cases h5 : f = 34 ∧ j = 0
          · rw [if_pos h5, if_pos h5]; rfl
          · rw [if_neg h5, if_neg h5]; rfl
theorem uY_eq : ow (uY P y s) C = sup (ow P C) 38 y s := by
  funext f j
  unfold ow uY sup
  by_cases h1 : f = 38 ∧ j = y
  · rw [if_pos h1, if_pos h1]; rfl
  · rw [if_neg h1, if_neg h1]
theorem uZ_eq : ow (uZ z a b c s) C = sup (sup (sup (sup C 18 0 s) 11 z c) 10 z b) 9 z a := by
  funext f j
  unfold ow uZ sup
  by_cases h1 : f = 9 ∧ j = z
  · rw [if_pos h1, if_pos h1]; rfl
  · rw [if_neg h1, if_neg h1]
    by_cases h2 : f = 10 ∧ j = z
    · rw [if_pos h2, if_pos h2]; rfl
    · rw [if_neg h2, if_neg h2]
      by_cases h3 : f = 11 ∧ j = z
      · rw [if_pos h3, if_pos h3]; rfl
      · rw [if_neg h3, if_neg h3]
        by_cases h4 : f = 18 ∧ j = 0
        · rw [if_pos h4, if_pos h4]; rfl
        · rw [if_neg h4, if_neg h4]; rfl
theorem uA_eq : ow (uA z a) C = sup C 20 z a := by
  funext f j
  unfold ow uA sup
  by_cases h1 : f = 20 ∧ j = z
  · rw [if_pos h1, if_pos h1]; rfl
  · rw [if_neg h1, if_neg h1]; rfl
theorem mvO_eq {r q : Nat} : sup (mvO C t r q a3 a5) 34 0 p = ow (uM t a3 (-1) a5 (40 * r + q) (-1) p) C := by
  rw [uM_eq]
  unfold mvO
  rw [sup_com (show 5 ≠ 34 by decide), sup_com (show 4 ≠ 34 by decide), sup_com (show 3 ≠ 34 by decide), sup_com (show 7 ≠ 34 by decide), sup_com (show 3 ≠ 4 by decide), sup_com (show 3 ≠ 5 by decide), sup_com (show 4 ≠ 5 by decide)]
theorem mvI_eq {r q : Nat} : sup (mvI C t r q a3) 34 0 p = ow (uM t a3 (hN r) (nI q) (40 * r + q) (nI t) p) C := by
  rw [uM_eq]
  unfold mvI
  rw [sup_com (show 7 ≠ 34 by decide), sup_com (show 5 ≠ 34 by decide), sup_com (show 4 ≠ 34 by decide), sup_com (show 3 ≠ 34 by decide), sup_com (show 3 ≠ 4 by decide), sup_com (show 3 ≠ 5 by decide), sup_com (show 4 ≠ 5 by decide), sup_com (show 3 ≠ 7 by decide), sup_com (show 4 ≠ 7 by decide), sup_com (show 5 ≠ 7 by decide)]
end DQ0
/-- the six kinds of what is remembered: here, and in the reference's steps -/
def E0 (G : Gh) (S C : St) (i : Nat) (P : Pw) : Prop := ∃ t r q sl, Mv G i t (nI 0) .null sl (C 34 0) .null (nI 0) ∧ S 16 (6 * i) = nI 0 ∧ S 16 (6 * i + 1) = nI t ∧ t < G.T ∧ lvR G r ∧ q < G.sl r ∧ C 3 t = nI 1 ∧ C 4 t = hN r ∧ C 5 t = nI q ∧ C 7 (40 * r + q) = nI t ∧ P = uM t (nI 0) (-1) sl (40 * r + q) (-1) (C 34 0)
def E1 (G : Gh) (S C : St) (i : Nat) (P : Pw) : Prop := ∃ t r q, Mv G i t (nI 1) (.ref (aH G r)) (nI q) (C 34 0) .null (nI 0) ∧ S 16 (6 * i) = nI 1 ∧ S 16 (6 * i + 1) = nI t ∧ S 16 (6 * i + 2) = hN r ∧ S 16 (6 * i + 3) = nI q ∧ t < G.T ∧ lvR G r ∧ q < G.sl r ∧ C 4 t = -1 ∧ P = uM t (nI 1) (hN r) (nI q) (40 * r + q) (nI t) (C 34 0)
def E2 (G : Gh) (S C : St) (i : Nat) (P : Pw) : Prop := ∃ t q a b c e, Rsz G i t q a b c (C 18 0 - e) ∧ S 16 (6 * i) = nI 2 ∧ S 16 (6 * i + 1) = nI (6 * t + q) ∧ S 16 (6 * i + 2) = a ∧ S 16 (6 * i + 3) = b ∧ S 16 (6 * i + 4) = c ∧ S 16 (6 * i + 5) = e ∧ t < G.T ∧ G.kd t ≤ 3 ∧ q < 6 ∧ P = uZ (6 * t + q) a b c (C 18 0 - e)
def E3 (G : Gh) (S : St) (i : Nat) (P : Pw) : Prop := ∃ t q a, Rme G i t q a ∧ S 16 (6 * i) = nI 3 ∧ S 16 (6 * i + 1) = nI (6 * t + q) ∧ S 16 (6 * i + 2) = a ∧ t < G.A ∧ q < 6 ∧ P = uA (6 * t + q) a
def E4 (G : Gh) (S C : St) (i : Nat) (P : Pw) : Prop := ∃ r q y, Mv G i (G.ht y) (nI 1) (.ref (aH G r)) (nI q) (C 34 0 - G.hd y) (.ref (aJ G y)) (nI 2) ∧ S 16 (6 * i) = nI 4 ∧ S 16 (6 * i + 1) = nI (G.ht y) ∧ S 16 (6 * i + 2) = hN r ∧ S 16 (6 * i + 3) = nI q ∧ S 16 (6 * i + 4) = nI y ∧ y < G.H ∧ G.ht y < G.T ∧ lvR G r ∧ q < G.sl r ∧ C 4 (G.ht y) = -1 ∧ P = uY (uM (G.ht y) (nI 1) (hN r) (nI q) (40 * r + q) (nI (G.ht y)) (C 34 0 - G.hd y)) y (nI 2)
def E5 (G : Gh) (S C : St) (i : Nat) (P : Pw) : Prop := ∃ r q y sl g, Mv G i (G.ht y) (nI 2) .null sl (C 34 0 + g) (.ref (aJ G y)) (nI 0) ∧ S 16 (6 * i) = nI 5 ∧ S 16 (6 * i + 1) = nI y ∧ S 16 (6 * i + 2) = g ∧ y < G.H ∧ G.ht y < G.T ∧ lvR G r ∧ q < G.sl r ∧ C 3 (G.ht y) = nI 1 ∧ C 4 (G.ht y) = hN r ∧ C 5 (G.ht y) = nI q ∧ C 7 (40 * r + q) = nI (G.ht y) ∧ P = uY (uM (G.ht y) (nI 2) (-1) sl (40 * r + q) (-1) (C 34 0 + g)) y (nI 0)
def Ent (G : Gh) (S C : St) (i : Nat) (P : Pw) : Prop := E0 G S C i P ∨ E1 G S C i P ∨ E2 G S C i P ∨ E3 G S i P ∨ E4 G S C i P ∨ E5 G S C i P
def Hs (G : Gh) (S : St) (E : Nat → Pw) : Nat → St → Prop
  | 0, _ => True
  | i + 1, C => Ent G S C i (E i) ∧ JK G (ow (E i) C) ∧ Hs G S E i (ow (E i) C)
def hf (f : Nat) : Bool := kf f || f == 18 || f == 34
section DQ
variable {G G' : Gh} {S S' C C' : St} {E E' : Nat → Pw}
theorem Ent_Dm {i : Nat} {P : Pw} (h : Ent G S C i P) (f j : Nat) : P f j = none ∨ Dm G f j := by
  have mvp : ∀ t a3 a4 a5 r q a7 p, t < G.T → lvR G r → q < G.sl r → uM t a3 a4 a5 (40 * r + q) a7 p f j = none ∨ Dm G f j := fun t a3 a4 a5 r q a7 p ht lv hq => by
    unfold uM Dm
    by_cases h1 : f = 3 ∧ j = t
    · exact Or.inr (Or.inl ⟨Or.inl h1.1, by omega⟩)
    · by_cases h2 : f = 4 ∧ j = t
      · exact Or.inr (Or.inl ⟨Or.inr (Or.inl h2.1), by omega⟩)
      · by_cases h3 : f = 5 ∧ j = t
        · exact Or.inr (Or.inl ⟨Or.inr (Or.inr h3.1), by omega⟩)
        · by_cases h4 : f = 7 ∧ j = 40 * r + q
          · exact Or.inr (Or.inr (Or.inl ⟨h4.1, r, q, lv, hq, h4.2⟩))
          · by_cases h5 : f = 34 ∧ j = 0
            · exact Or.inr (Or.inr (Or.inr (Or.inr (Or.inl ⟨Or.inr h5.1, h5.2⟩))))
            · rw [if_neg h1, if_neg h2, if_neg h3, if_neg h4, if_neg h5]; exact Or.inl rfl
  have yp : ∀ (Q : Pw) y s, (Q f j = none ∨ Dm G f j) → y < G.H → uY Q y s f j = none ∨ Dm G f j := fun Q y s h hy => by
    unfold uY
    by_cases h1 : f = 38 ∧ j = y
    · exact Or.inr (Or.inr (Or.inr (Or.inr (Or.inr (Or.inr ⟨h1.1, by omega⟩)))))
    · rw [if_neg h1]; exact h
  rcases h with ⟨t, r, q, sl, a, b, c, ht, lv, hq, _, _, _, _, e⟩ | ⟨t, r, q, a, b, c, d, g, ht, lv, hq, _, e⟩ | ⟨t, q, a, b, c, e, _, _, _, _, _, _, _, ht, k3, hq, ep⟩ | ⟨t, q, a, _, _, _, _, ht, hq, ep⟩ | ⟨r, q, y, _, _, _, _, _, _, hy, ht, lv, hq, _, ep⟩ | ⟨r, q, y, sl, g, _, _, _, _, hy, ht, lv, hq, _, _, _, _, ep⟩
  · rw [e]; exact mvp _ _ _ _ _ _ _ _ ht lv hq
  · rw [e]; exact mvp _ _ _ _ _ _ _ _ ht lv hq
  · rw [ep]
    unfold uZ Dm
    by_cases h1 : f = 9 ∧ j = 6 * t + q
    · exact Or.inr (Or.inr (Or.inr (Or.inl ⟨Or.inl h1.1, by omega⟩)))
    · by_cases h2 : f = 10 ∧ j = 6 * t + q
      · exact Or.inr (Or.inr (Or.inr (Or.inl ⟨Or.inr (Or.inl h2.1), by omega⟩)))
      · by_cases h3 : f = 11 ∧ j = 6 * t + q
        · exact Or.inr (Or.inr (Or.inr (Or.inl ⟨Or.inr (Or.inr h3.1), by omega⟩)))
        · by_cases h4 : f = 18 ∧ j = 0
          · exact Or.inr (Or.inr (Or.inr (Or.inr (Or.inl ⟨Or.inl h4.1, h4.2⟩))))
          · rw [if_neg h1, if_neg h2, if_neg h3, if_neg h4]; exact Or.inl rfl
  · rw [ep]
    unfold uA Dm
    by_cases h1 : f = 20 ∧ j = 6 * t + q
    · exact Or.inr (Or.inr (Or.inr (Or.inr (Or.inr (Or.inl ⟨h1.1, by omega⟩)))))
    · rw [if_neg h1]; exact Or.inl rfl
  · rw [ep]; exact yp _ _ _ (mvp _ _ _ _ _ _ _ _ ht lv hq) hy
  · rw [ep]; exact yp _ _ _ (mvp _ _ _ _ _ _ _ _ ht lv hq) hy
/-- an entry holds on: what it says of the numbers, of the ghost, of the steps is the same -/
theorem Ent_mono {i : Nat} {P : Pw} (hG : OKG G) (ge : GE G G') (hT : G.T ≤ G'.T) (hA : G.A ≤ G'.A) (hH : G.H ≤ G'.H) (lv : ∀ r, lvR G r → lvR G' r) (hN : i < G'.N) (hck : G'.ck i = G.ck i) (hcv : G'.cv i = G.cv i) (hS : ∀ j, 6 * i ≤ j → j < 6 * i + 6 → S' 16 j = S 16 j) (hC : ∀ f j, Dm G f j → C' f j = C f j) (h : Ent G S C i P) : Ent G' S' C' i P := by
  have d34 : C' 34 0 = C 34 0 := hC 34 0 (Or.inr (Or.inr (Or.inr (Or.inl ⟨Or.inr rfl, rfl⟩))))
  have d18 : C' 18 0 = C 18 0 := hC 18 0 (Or.inr (Or.inr (Or.inr (Or.inl ⟨Or.inl rfl, rfl⟩))))
  have d3 : ∀ t, t < G.T → C' 3 t = C 3 t ∧ C' 4 t = C 4 t ∧ C' 5 t = C 5 t := fun t ht => ⟨hC 3 t (Or.inl ⟨Or.inl rfl, ht⟩), hC 4 t (Or.inl ⟨Or.inr (Or.inl rfl), ht⟩), hC 5 t (Or.inl ⟨Or.inr (Or.inr rfl), ht⟩)⟩
  have d7 : ∀ r q, lvR G r → q < G.sl r → C' 7 (40 * r + q) = C 7 (40 * r + q) := fun r q a b => hC 7 _ (Or.inr (Or.inl ⟨rfl, r, q, a, b, rfl⟩))
  have s0 := hS (6 * i) (by omega) (by omega)
  have s1 := hS (6 * i + 1) (by omega) (by omega)
  have s2 := hS (6 * i + 2) (by omega) (by omega)
  have s3 := hS (6 * i + 3) (by omega) (by omega)
  have s4 := hS (6 * i + 4) (by omega) (by omega)
  have s5 := hS (6 * i + 5) (by omega) (by omega)
  have eT : ∀ t, t < G.T → aT G' t = aT G t := fun t ht => ge_T hG ge ht
  have eH : ∀ r, lvR G r → aH G' r = aH G r := fun r h => ge_H hG ge h
  have eJ : ∀ y, y < G.H → aJ G' y = aJ G y := fun y h => ge_J hG ge h
  have eS : ∀ r, lvR G r → G'.sl r = G.sl r := ge.2.2.1
  rcases h with ⟨t, r, q, sl, ⟨v0, v1, v2, v3, v4, v5, v6, v7, v8⟩, b, c, ht, l, hq, h3, h4, h5, h7, e⟩ | ⟨t, r, q, ⟨v0, v1, v2, v3, v4, v5, v6, v7, v8⟩, b, c, d, g, ht, l, hq, h4, e⟩ | ⟨t, q, a, b, c, e, ⟨v0, v1, v2, v3, v4, v5, v6, v7⟩, q0, q1, q2, q3, q4, q5, ht, k3, hq, ep⟩ | ⟨t, q, a, ⟨v0, v1, v2, v3, v4⟩, q0, q1, q2, ht, hq, ep⟩ | ⟨r, q, y, ⟨v0, v1, v2, v3, v4, v5, v6, v7, v8⟩, q0, q1, q2, q3, q4, hy, ht, l, hq, h4, ep⟩ | ⟨r, q, y, sl, g, ⟨v0, v1, v2, v3, v4, v5, v6, v7, v8⟩, q0, q1, q2, hy, ht, l, hq, h3, h4, h5, h7, ep⟩
  · exact Or.inl ⟨t, r, q, sl, ⟨hN, by rw [hck]; exact v1, by rw [hcv, eT t ht]; exact v2, by rw [hcv]; exact v3, by rw [hcv]; exact v4, by rw [hcv]; exact v5, by rw [hcv, d34]; exact v6, by rw [hcv]; exact v7, by rw [hcv]; exact v8⟩, by rw [s0]; exact b, by rw [s1]; exact c, by omega, lv r l, by rw [eS r l]; exact hq, by rw [(d3 t ht).1]; exact h3, by rw [(d3 t ht).2.1]; exact h4, by rw [(d3 t ht).2.2]; exact h5, by rw [d7 r q l hq]; exact h7, by rw [d34]; exact e⟩
  · exact Or.inr (Or.inl ⟨t, r, q, ⟨hN, by rw [hck]; exact v1, by rw [hcv, eT t ht]; exact v2, by rw [hcv]; exact v3, by rw [hcv, eH r l]; exact v4, by rw [hcv]; exact v5, by rw [hcv, d34]; exact v6, by rw [hcv]; exact v7, by rw [hcv]; exact v8⟩, by rw [s0]; exact b, by rw [s1]; exact c, by rw [s2]; exact d, by rw [s3]; exact g, by omega, lv r l, by rw [eS r l]; exact hq, by rw [(d3 t ht).2.1]; exact h4, by rw [d34]; exact e⟩)
  · exact Or.inr (Or.inr (Or.inl ⟨t, q, a, b, c, e, ⟨hN, by rw [hck]; exact v1, by rw [hcv, eT t ht]; exact v2, by rw [hcv]; exact v3, by rw [hcv]; exact v4, by rw [hcv]; exact v5, by rw [hcv]; exact v6, by rw [hcv, d18]; exact v7⟩, by rw [s0]; exact q0, by rw [s1]; exact q1, by rw [s2]; exact q2, by rw [s3]; exact q3, by rw [s4]; exact q4, by rw [s5]; exact q5, by omega, by rw [(ge.2.1 t ht).1]; exact k3, hq, by rw [d18]; exact ep⟩))
  · have eA : aA G' t = aA G t := ge_A hG ge ht
    exact Or.inr (Or.inr (Or.inr (Or.inl ⟨t, q, a, ⟨hN, by rw [hck]; exact v1, by rw [hcv, eA]; exact v2, by rw [hcv]; exact v3, by rw [hcv]; exact v4⟩, by rw [s0]; exact q0, by rw [s1]; exact q1, by rw [s2]; exact q2, by omega, hq, ep⟩)))
  · obtain ⟨g1, g2⟩ := ge.2.2.2 y hy
    exact Or.inr (Or.inr (Or.inr (Or.inr (Or.inl ⟨r, q, y, ⟨hN, by rw [hck]; exact v1, by rw [hcv, g1, eT _ ht]; exact v2, by rw [hcv]; exact v3, by rw [hcv, eH r l]; exact v4, by rw [hcv]; exact v5, by rw [hcv, d34, g2]; exact v6, by rw [hcv, eJ y hy]; exact v7, by rw [hcv]; exact v8⟩, by rw [s0]; exact q0, by rw [s1, g1]; exact q1, by rw [s2]; exact q2, by rw [s3]; exact q3, by rw [s4]; exact q4, by omega, by rw [g1]; omega, lv r l, by rw [eS r l]; exact hq, by rw [g1, (d3 _ ht).2.1]; exact h4, by rw [d34, g1, g2]; exact ep⟩))))
  · obtain ⟨g1, g2⟩ := ge.2.2.2 y hy
    exact Or.inr (Or.inr (Or.inr (Or.inr (Or.inr ⟨r, q, y, sl, g, ⟨hN, by rw [hck]; exact v1, by rw [hcv, g1, eT _ ht]; exact v2, by rw [hcv]; exact v3, by rw [hcv]; exact v4, by rw [hcv]; exact v5, by rw [hcv, d34]; exact v6, by rw [hcv, eJ y hy]; exact v7, by rw [hcv]; exact v8⟩, by rw [s0]; exact q0, by rw [s1]; exact q1, by rw [s2]; exact q2, by omega, by rw [g1]; omega, lv r l, by rw [eS r l]; exact hq, by rw [g1, (d3 _ ht).1]; exact h3, by rw [g1, (d3 _ ht).2.1]; exact h4, by rw [g1, (d3 _ ht).2.2]; exact h5, by rw [g1, d7 r q l hq]; exact h7, by rw [d34, g1]; exact ep⟩))))
theorem GE_rfl : GE G G := ⟨fun _ _ _ => rfl, fun _ _ => ⟨rfl, rfl⟩, fun _ _ => rfl, fun _ _ => ⟨rfl, rfl⟩⟩
theorem hf_Dm {f j : Nat} (h : Dm G f j) : hf f = true := by
  rcases h with ⟨h | h | h, _⟩ | ⟨h, _⟩ | ⟨h | h | h, _⟩ | ⟨h | h, _⟩ | ⟨h, _⟩ | ⟨h, _⟩ <;> subst h <;> rfl
theorem Ent_N {i : Nat} {P : Pw} (h : Ent G S C i P) : i < G.N := by
  rcases h with ⟨_, _, _, _, v, _⟩ | ⟨_, _, _, v, _⟩ | ⟨_, _, _, _, _, _, v, _⟩ | ⟨_, _, _, v, _⟩ | ⟨_, _, _, v, _⟩ | ⟨_, _, _, _, _, v, _⟩ <;> exact v.1
/-- all that was done holds on, in grown numbers -/
theorem Hs_grow {Q : Pw} (hG : OKG G) (ge : GE G G') (hT : G.T ≤ G'.T) (hA : G.A ≤ G'.A) (hH : G.H ≤ G'.H) (lv : ∀ r, lvR G r → lvR G' r) (hQ : ∀ f j, Q f j = none ∨ ¬ Dm G f j) (hJ : ∀ K, JK G K → JK G' (ow Q K)) : ∀ i C, (∀ x, x < i → x < G'.N ∧ G'.ck x = G.ck x ∧ G'.cv x = G.cv x) → (∀ j, j < 6 * i → S' 16 j = S 16 j) → Hs G S E i C → Hs G' S' E i (ow Q C) := by
  intro i
  induction i with
  | zero => intro C _ _ _; trivial
  | succ i ih =>
    intro C hc hS h
    obtain ⟨h1, h2, h3⟩ := h
    have dm := Ent_Dm h1
    have com : ow (E i) (ow Q C) = ow Q (ow (E i) C) := ow_com (fun f j => by
      rcases dm f j with a | a
      · exact Or.inl a
      · exact Or.inr ((hQ f j).resolve_right (fun b => b a)))
    obtain ⟨c1, c2, c3⟩ := hc i (by omega)
    refine ⟨Ent_mono hG ge hT hA hH lv c1 c2 c3 (fun j _ b => hS j (by omega)) (fun f j d => ow_n ((hQ f j).resolve_right (fun b => b d))) h1, ?_, ?_⟩
    · rw [com]; exact hJ _ h2
    · rw [com]; exact ih _ (fun x hx => hc x (by omega)) (fun j hj => hS j (by omega)) h3
theorem Hs_ext (hG : OKG G) : ∀ i (C C' : St), (∀ f, hf f = true → ∀ j, C' f j = C f j) → (∀ j, j < 6 * i → S' 16 j = S 16 j) → (∀ x, x < i → E' x = E x) → Hs G S E i C → Hs G S' E' i C' := by
  intro i
  induction i with
  | zero => intro C C' _ _ _ _; trivial
  | succ i ih =>
    intro C C' hC hS hE h
    obtain ⟨h1, h2, h3⟩ := h
    have N := Ent_N h1
    have e2 : ∀ f, hf f = true → ∀ j, ow (E' i) C' f j = ow (E i) C f j := fun f hf j => by
      rw [hE i (by omega)]
      unfold ow
      rw [hC f hf j]
    refine ⟨?_, JK_eq (fun f hk j => e2 f (by unfold hf; rw [hk]; rfl) j) h2, ih _ _ e2 (fun j hj => hS j (by omega)) (fun x hx => hE x (by omega)) h3⟩
    rw [hE i (by omega)]
    exact Ent_mono hG GE_rfl (Nat.le_refl _) (Nat.le_refl _) (Nat.le_refl _) (fun _ h => h) N rfl rfl (fun j _ b => hS j (by omega)) (fun f j d => hC f (hf_Dm d) j) h1
end DQ
