/-! ===== the class: what is made ===== -/
theorem cM_self {G' : Gh} {C : St} {M : Mm} (hG' : OKG G') (h : ∀ x, Lv G' x → ∀ j, M (G'.ad x) j = cW G' x j (C (loc x j).1 (loc x j).2)) : M = cM G' C M := by
  funext a j
  unfold cM
  by_cases hw : G'.W a = 0
  · rw [if_pos hw]
  · rw [if_neg hw]
    have q := hG'.1 a hw
    have e := h _ q.2 j
    rw [q.1] at e
    exact e
theorem cS_self {G' : Gh} {s : Nat → Nat × Nat} (hG' : OKG G') (h : ∀ x, Lv G' x → s (G'.ad x) = cT G' x) : s = cS G' s := by
  funext a
  unfold cS
  by_cases hw : G'.W a = 0
  · rw [if_pos hw]
  · rw [if_neg hw]
    have q := hG'.1 a hw
    have e := h _ q.2
    rw [q.1] at e
    exact e
def GE (G G' : Gh) : Prop := (∀ y, Lv G y → y < 3000 → G'.ad y = G.ad y) ∧ (∀ t, t < G.T → G'.kd t = G.kd t ∧ G'.vl t = G.vl t) ∧ (∀ r, lvR G r → G'.sl r = G.sl r) ∧ (∀ i, i < G.H → G'.ht i = G.ht i ∧ G'.hd i = G.hd i)
def VC (G : Gh) (C : St) : Prop := (∀ j, C 22 j < 0 ∨ ∃ a, a < G.A ∧ C 22 j = nI a) ∧ (∀ j, C 44 j < 0 ∨ ∃ t, t < G.T ∧ C 44 j = nI t) ∧ (∀ i, i < G.H → G.ht i < G.T)
section CE0
variable {G G' : Gh} {C C' : St} {m0 : Mm} {s0 : Nat → Nat × Nat} {n : Nat}
theorem ge_T (hG : OKG G) (ge : GE G G') {t : Nat} (h : t < G.T) : aT G' t = aT G t := by
  have b : t < 200 := by have := okT hG; omega
  rw [aT_e b, aT_e b]
  exact ge.1 _ (lvT h) (by omega)
theorem ge_H (hG : OKG G) (ge : GE G G') {r : Nat} (h : lvR G r) : aH G' r = aH G r := by
  have b := lr_212 hG h
  rw [aH_e b, aH_e b]
  exact ge.1 _ (lvH hG h) (by omega)
theorem ge_S (hG : OKG G) (ge : GE G G') {r : Nat} (h : lvR G r) : aS G' r = aS G r := by
  have b := lr_212 hG h
  rw [aS_e b, aS_e b]
  exact ge.1 _ (lvS hG h) (by omega)
theorem ge_A (hG : OKG G) (ge : GE G G') {a : Nat} (h : a < G.A) : aA G' a = aA G a := by
  have b : a < 40 := by have := okA hG; omega
  rw [aA_e b, aA_e b]
  exact ge.1 _ (lvA h) (by omega)
theorem ge_M (hG : OKG G) (ge : GE G G') {a : Nat} (h : a < G.A) : aM G' a = aM G a := by
  have b : a < 40 := by have := okA hG; omega
  rw [aM_e b, aM_e b]
  exact ge.1 _ (lvM h) (by omega)
theorem ge_J (hG : OKG G) (ge : GE G G') {a : Nat} (h : a < G.H) : aJ G' a = aJ G a := by
  have b : a < 300 := by have := okH hG; omega
  rw [aJ_e b, aJ_e b]
  exact ge.1 _ (lvJ h) (by omega)
theorem ge_Z (hG : OKG G) (ge : GE G G') {t : Nat} (h : t < G.T) (k : G.kd t ≤ 3) : aZ G' t = aZ G t ∧ aI G' t = aI G t ∧ aO G' t = aO G t := by
  have b : t < 200 := by have := okT hG; omega
  rw [aZ_e b, aZ_e b, aI_e b, aI_e b, aO_e b, aO_e b]
  exact ⟨ge.1 _ (lvZ h k) (by omega), ge.1 _ (lvI h k) (by omega), ge.1 _ (lvO h k) (by omega)⟩
theorem ge_V (hG : OKG G) (ge : GE G G') {t : Nat} (h : t < G.T) (k : 6 ≤ G.kd t) : aV G' t = aV G t := by
  have b : t < 200 := by have := okT hG; omega
  rw [aV_e b, aV_e b]
  exact ge.1 _ (lvV h k) (by omega)
theorem ge_0 (ge : GE G G') {y : Nat} (h : 1 ≤ y ∧ y ≤ 21) : G'.ad y = G.ad y := ge.1 y (Or.inl h) (by omega)
theorem ge_rfT (hG : OKG G) (ge : GE G G') {x : Int32} (h : x < 0 ∨ ∃ t, t < G.T ∧ x = nI t) : rfT G' x = rfT G x := by
  rcases h with h | ⟨t, ht, rfl⟩
  · rw [rfT_n h, rfT_n h]
  · have b : t < 2147483648 := by have := okT hG; omega
    rw [rfT_r b, rfT_r b, ge_T hG ge ht]
theorem ge_rfA (hG : OKG G) (ge : GE G G') {x : Int32} (h : x < 0 ∨ ∃ t, t < G.A ∧ x = nI t) : rfA G' x = rfA G x := by
  rcases h with h | ⟨t, ht, rfl⟩
  · rw [rfA_n h, rfA_n h]
  · have b : t < 2147483648 := by have := okA hG; omega
    rw [rfA_r b, rfA_r b, ge_A hG ge ht]
theorem ge_rfH (hG : OKG G) (ge : GE G G') {x : Int32} (h : x = -1 ∨ ∃ r, lvR G r ∧ x = hN r) : rfH G' x = rfH G x := by
  rcases h with rfl | ⟨r, hr, rfl⟩
  · rw [rfH_n m1_0, rfH_n m1_0]
  · have b := lr_212 hG hr
    rw [rfH_r b, rfH_r b, ge_H hG ge hr]
theorem wt1_b : ∀ j, j < 17 → wt1 j ≠ 0 → 1 ≤ wt1 j ∧ wt1 j ≤ 21 := by decide
theorem wt7_b : ∀ j, j < 18 → wt7 j ≠ 0 → 1 ≤ wt7 j ∧ wt7 j ≤ 21 := by decide
theorem cW0_ext (hG : OKG G) (ge : GE G G') (vc : VC G C) {x j : Nat} (hx : 1 ≤ x ∧ x ≤ 21) (hne : ¬ (2 ≤ x ∧ x ≤ 6)) : cW0 G' x j (C (loc x j).1 (loc x j).2) = cW0 G x j (C (loc x j).1 (loc x j).2) := by
  unfold cW0
  have n2 : ¬ x = 2 := by omega
  have n3 : ¬ x = 3 := by omega
  have n4 : ¬ x = 4 := by omega
  have n5 : ¬ x = 5 := by omega
  have n6 : ¬ x = 6 := by omega
  simp only [n2, n3, n4, n5, n6, if_false]
  by_cases h1 : x = 1
  · simp only [h1, if_true]
    by_cases q : 17 ≤ j
    · simp only [q, if_true]
    · simp only [q, if_false]
      by_cases z : wt1 j = 0
      · simp only [z, if_true]
      · simp only [z, if_false, ge_0 ge (wt1_b j (by omega) z)]
  · simp only [h1, if_false]
    by_cases h7 : x = 7
    · simp only [h7, if_true]
      by_cases q : 18 ≤ j
      · simp only [q, if_true]
      · simp only [q, if_false]
        by_cases z : wt7 j = 0
        · simp only [z, if_true]
        · simp only [z, if_false, ge_0 ge (wt7_b j (by omega) z)]
    · simp only [h7, if_false]
      by_cases h8 : x = 8
      · subst h8
        exact ge_rfA hG ge (vc.1 j)
      · by_cases h11 : x = 11
        · subst h11
          exact ge_rfT hG ge (vc.2.1 j)
        · simp only [h8, h11, if_false]
          have gP : j < 7 → aP G' j = aP G j ∧ aQ G' j = aQ G j ∧ aG G' j = aG G j := fun z => by
            rw [aP_e z, aP_e z, aQ_e z, aQ_e z, aG_e z, aG_e z]
            exact ⟨ge.1 _ (lvP z) (by omega), ge.1 _ (lvQ z) (by omega), ge.1 _ (lvG z) (by omega)⟩
          by_cases z : j < 7
          · simp only [z, if_true, (gP z).1, (gP z).2.1, (gP z).2.2]
          · simp only [z, if_false]
theorem cW_ext (hG : OKG G) (hK : OKC G C) (ge : GE G G') (vc : VC G C) {x j : Nat} (hx : Lv G x) (h3 : x < 3000) (hne : ¬ (2 ≤ x ∧ x ≤ 6)) : cW G' x j (C (loc x j).1 (loc x j).2) = cW G x j (C (loc x j).1 (loc x j).2) := by
  have hT := okT hG
  have hA := okA hG
  have hH := okH hG
  unfold cW
  by_cases h1 : x < 22
  · rw [if_pos h1, if_pos h1]
    refine cW0_ext hG ge vc ?_ hne
    unfold Lv at hx
    omega
  · rw [if_neg h1, if_neg h1]
    by_cases h2 : x < 100
    · rw [if_pos h2, if_pos h2]
    · rw [if_neg h2, if_neg h2]
      by_cases h4 : x < 300
      · rw [if_pos h4, if_pos h4]
        have ht : x - 100 < G.T := by unfold Lv at hx; omega
        have e : x = 100 + (x - 100) := by omega
        have el : loc x j = (lcT j, x - 100) := by
          have := loc_T (t := x - 100) (j := j) (by omega)
          rw [← e] at this
          exact this
        rw [el]
        generalize x - 100 = t at ht
        have kd := (ge.2.1 t ht).1
        unfold thW
        rw [kd]
        split <;> try rfl
        · exact ge_rfH hG ge (hK.2.2.2.2.1 t ht)
        · by_cases q : G.kd t = 4 ∨ G.kd t = 5
          · simp only [q, if_true, ge_H hG ge (Or.inl ⟨ht, q⟩)]
          · simp only [q, if_false]
        · by_cases q : G.kd t ≤ 3
          · simp only [q, if_true, (ge_Z hG ge ht q).1]
          · by_cases q6 : 6 ≤ G.kd t
            · simp only [q, q6, if_true, if_false, ge_V hG ge ht q6]
            · simp only [q, q6, if_false]
        · by_cases q : G.kd t ≤ 3
          · simp only [q, if_true, (ge_Z hG ge ht q).2.1]
          · simp only [q, if_false]
        · by_cases q : G.kd t ≤ 3
          · simp only [q, if_true, (ge_Z hG ge ht q).2.2]
          · simp only [q, if_false]
      · rw [if_neg h4, if_neg h4]
        by_cases h5 : x < 600
        · rw [if_pos h5, if_pos h5]
          have hr : lvR G (x - 300) := by
            unfold Lv at hx
            rcases hx with h | h | h | h | h | h | h | h | h | h | h | h | h | h | h
            all_goals first | (exfalso; omega) | exact h.2.2
          generalize x - 300 = r at hr
          unfold hoW
          split <;> try rfl
          · by_cases q : r < 200
            · simp only [q, if_true, ge_T hG ge (show r < G.T by unfold lvR at hr; omega)]
            · simp only [q, if_false]
          · rw [ge_S hG ge hr]
        · rw [if_neg h5, if_neg h5]
          by_cases h6 : x < 1000
          · rw [if_pos h6, if_pos h6]
            have hr : lvR G (x - 600) := by
              unfold Lv at hx
              rcases hx with h | h | h | h | h | h | h | h | h | h | h | h | h | h | h
              all_goals first | (exfalso; omega) | exact h.2.2
            have b := lr_212 hG hr
            have e : x = 600 + (x - 600) := by omega
            have s4 := hG.2.2.2.2.1 _ hr
            have el : j < 40 → loc x j = (7, 40 * (x - 600) + j) := fun hj => by
              have := loc_S (t := x - 600) (j := j) b hj
              rw [← e] at this
              exact this
            generalize x - 600 = r at hr s4 el
            rw [ge.2.2.1 r hr]
            by_cases q : j < G.sl r
            · rw [if_pos q, if_pos q, el (by omega)]
              refine ge_rfT hG ge ?_
              rcases hK.2.2.2.2.2 r hr j q with z | z
              · exact Or.inl (by rw [z]; exact m1_0)
              · exact Or.inr z
            · rw [if_neg q, if_neg q]
          · rw [if_neg h6, if_neg h6]
            by_cases h7 : x < 1600
            · rw [if_pos h7, if_pos h7]
            · rw [if_neg h7, if_neg h7]
              by_cases h8 : x < 2000
              · rw [if_pos h8, if_pos h8]
              · rw [if_neg h8, if_neg h8]
                by_cases h9 : x < 2100
                · rw [if_pos h9, if_pos h9, ge_M hG ge (show x - 2000 < G.A by unfold Lv at hx; omega)]
                · rw [if_neg h9, if_neg h9]
                  by_cases h10 : x < 2200
                  · rw [if_pos h10, if_pos h10]
                  · rw [if_neg h10, if_neg h10, if_pos h3, if_pos h3]
                    have hi : x - 2200 < G.H := by unfold Lv at hx; omega
                    generalize x - 2200 = i at hi
                    unfold hiW
                    rw [(ge.2.2.2 i hi).1, (ge.2.2.2 i hi).2, ge_T hG ge (vc.2.2 i hi)]
theorem cT_ext (hG : OKG G) (ge : GE G G') {x : Nat} (hx : Lv G x) (h3 : x < 3000) : cT G' x = cT G x := by
  have hT := okT hG
  have hA := okA hG
  have hH := okH hG
  unfold cT
  by_cases h4 : 100 ≤ x ∧ x < 300
  · have ht : x - 100 < G.T := by unfold Lv at hx; omega
    rw [(ge.2.1 _ ht).1]
    have : ¬ (600 ≤ x ∧ x < 1000) := by omega
    rw [if_neg (show ¬ x < 22 by omega), if_neg (show ¬ x < 100 by omega), if_pos h4.2, if_neg (show ¬ x < 22 by omega), if_neg (show ¬ x < 100 by omega), if_pos h4.2]
  · by_cases h6 : 600 ≤ x ∧ x < 1000
    · have hr : lvR G (x - 600) := by
        unfold Lv at hx
        rcases hx with h | h | h | h | h | h | h | h | h | h | h | h | h | h | h
        all_goals first | (exfalso; omega) | exact h.2.2
      rw [if_neg (show ¬ x < 22 by omega), if_neg (show ¬ x < 100 by omega), if_neg (show ¬ x < 300 by omega), if_neg (show ¬ x < 600 by omega), if_pos h6.2, if_neg (show ¬ x < 22 by omega), if_neg (show ¬ x < 100 by omega), if_neg (show ¬ x < 300 by omega), if_neg (show ¬ x < 600 by omega), if_pos h6.2, ge.2.2.1 _ hr]
    · by_cases h16 : 1600 ≤ x ∧ x < 2000
      · have ht : x - 1600 < G.T := by unfold Lv at hx; omega
        rw [if_neg (show ¬ x < 22 by omega), if_neg (show ¬ x < 100 by omega), if_neg (show ¬ x < 300 by omega), if_neg (show ¬ x < 600 by omega), if_neg (show ¬ x < 1000 by omega), if_neg (show ¬ x < 1600 by omega), if_pos h16.2, if_neg (show ¬ x < 22 by omega), if_neg (show ¬ x < 100 by omega), if_neg (show ¬ x < 300 by omega), if_neg (show ¬ x < 600 by omega), if_neg (show ¬ x < 1000 by omega), if_neg (show ¬ x < 1600 by omega), if_pos h16.2, (ge.2.1 _ ht).2]
      · by_cases q1 : x < 22
        · rw [if_pos q1, if_pos q1]
        · rw [if_neg q1, if_neg q1]
          by_cases q2 : x < 100
          · rw [if_pos q2, if_pos q2]
          · rw [if_neg q2, if_neg q2, if_neg (show ¬ x < 300 by omega), if_neg (show ¬ x < 300 by omega)]
            by_cases q3 : x < 600
            · rw [if_pos q3, if_pos q3]
            · rw [if_neg q3, if_neg q3, if_neg (show ¬ x < 1000 by omega), if_neg (show ¬ x < 1000 by omega)]
              by_cases q4 : x < 1600
              · rw [if_pos q4, if_pos q4]
              · rw [if_neg q4, if_neg q4, if_neg (show ¬ x < 2000 by omega), if_neg (show ¬ x < 2000 by omega)]
                by_cases q5 : x < 2100
                · rw [if_pos q5, if_pos q5]
                · rw [if_neg q5, if_neg q5]
                  by_cases q6 : x < 2200
                  · rw [if_pos q6, if_pos q6]
                  · rw [if_neg q6, if_neg q6, if_pos h3, if_pos h3]
/-- numbers that are the same wherever something lies -/
def Cxx (G : Gh) (C C' : St) : Prop := ∀ x j, Lv G x → C' (loc x j).1 (loc x j).2 = C (loc x j).1 (loc x j).2
theorem Cxx_rfl : Cxx G C C := fun _ _ _ => rfl
theorem Cxx_sup {f k : Nat} {v : Int32} (hf : f ≠ 99) (hd : ¬ Lv G (dec f k).1) (h : Cxx G C C') : Cxx G C (sup C' f k v) := by
  intro x j hx
  rw [← h x j hx]
  unfold sup
  rw [if_neg]
  intro z
  have q := dec_loc (x := x) (j := j) (by rw [z.1]; exact hf)
  rw [z.1, z.2] at q
  rw [q] at hd
  exact hd hx
theorem Cxx_fil {b a : Nat} {v : Int32} (hd : ∀ k, b ≤ k → k < b + a → ¬ Lv G (dec 7 k).1) (h : Cxx G C C') : Cxx G C (filS C' 7 b a v) := by
  intro x j hx
  rw [← h x j hx]
  unfold filS
  rw [if_neg]
  intro z
  have q := dec_loc (x := x) (j := j) (by rw [z.1]; decide)
  rw [z.1] at q
  have := hd _ z.2.1 z.2.2
  rw [q] at this
  exact this hx
/-- what is made lies at n and behind -/
theorem OKG_new {f : Nat → Nat} {len : Nat} (hG : OKG G) (hn : ∀ a, G.W a ≠ 0 → a < n) (hW : ∀ a, G'.W a = if n ≤ a ∧ a < n + len then f (a - n) else G.W a) (had : ∀ i, i < len → G'.ad (f i) = n + i) (had2 : ∀ x, Lv G x → G'.ad x = G.ad x) (h1 : ∀ i, i < len → Lv G' (f i)) (h2 : ∀ x, Lv G x → Lv G' x) (h3 : ∀ x, Lv G' x → Lv G x ∨ ∃ i, i < len ∧ x = f i) (hb : G'.T ≤ 200 ∧ G'.R ≤ 12 ∧ G'.A ≤ 40 ∧ G'.H ≤ 300 ∧ G'.N ≤ 512) (hk : ∀ t, t < G'.T → G'.kd t ≤ 8) (hs : ∀ r, lvR G' r → G'.sl r ≤ 40) (hv : ∀ t, t < G'.T → G'.vl t ≤ 40) : OKG G' := by
  refine ⟨?_, ?_, hb, hk, hs, hv⟩
  · intro a ha
    rw [hW] at ha ⊢
    by_cases q : n ≤ a ∧ a < n + len
    · rw [if_pos q] at ha ⊢
      exact ⟨by rw [had _ (by omega)]; omega, h1 _ (by omega)⟩
    · rw [if_neg q] at ha ⊢
      have z := hG.1 a ha
      exact ⟨by rw [had2 _ z.2]; exact z.1, h2 _ z.2⟩
  · intro x hx
    rcases h3 x hx with z | ⟨i, hi, rfl⟩
    · rw [had2 x z, hW]
      have e := hG.2.1 x z
      have x0 : x ≠ 0 := by unfold Lv at z; omega
      rw [if_neg]
      · exact e
      · intro y
        have := hn (G.ad x) (by rw [e]; exact x0)
        omega
    · rw [had i hi, hW, if_pos (by omega)]
      congr 1
      omega
/-- a thing, a rack, an actor, a hire is noted in its array -/
theorem grow {f : Nat → Nat} {len arr idx : Nat} (hG : OKG G) (hK : OKC G C) (vc : VC G C) (hG' : OKG G') (ge : GE G G') (cx : Cxx G C C') (hn : ∀ a, G.W a ≠ 0 → a < n) (had : ∀ i, i < len → G'.ad (f i) = n + i) (had2 : ∀ x, Lv G x → G'.ad x = G.ad x) (h3 : ∀ x, Lv G' x → Lv G x ∨ ∃ i, i < len ∧ x = f i) (ha : 2 ≤ arr ∧ arr ≤ 5) (hA : ∀ y, 2 ≤ y → y ≤ 6 → ∀ j v, cW0 G' y j v = if y = arr ∧ j = idx then .ref n else cW0 G y j v) (hc : ∀ i, i < G.N → G'.cv i = G.cv i) (hB : ∀ i, i < len → ∀ j, m0 (n + i) j = cW G' (f i) j (C' (loc (f i) j).1 (loc (f i) j).2)) : mup (cM G C m0) (G.ad arr) idx (.ref n) = cM G' C' (mup (cM G C m0) (G.ad arr) idx (.ref n)) := by
  refine cM_self hG' ?_
  have la : Lv G arr := Or.inl ⟨by omega, by omega⟩
  have ea := hG.2.1 _ la
  intro x hx j
  rcases h3 x hx with z | ⟨i, hi, rfl⟩
  · have ex := hG.2.1 x z
    have x0 : x ≠ 0 := by unfold Lv at z; omega
    rw [had2 x z]
    unfold mup
    have ein : (G.ad x = G.ad arr) ↔ x = arr := by
      constructor
      · intro q
        rw [q, ea] at ex
        exact ex.symm
      · intro q; rw [q]
    rw [show cM G C m0 (G.ad x) j = cW G x j (C (loc x j).1 (loc x j).2) from rdg hG z, cx x j z]
    by_cases q3 : x < 3000
    · by_cases hne : 2 ≤ x ∧ x ≤ 6
      · have e22 : x < 22 := by omega
        unfold cW
        rw [if_pos e22, if_pos e22, hA x hne.1 hne.2]
        by_cases q : x = arr ∧ j = idx
        · rw [if_pos ⟨ein.mpr q.1, q.2⟩, if_pos q]
        · rw [if_neg (fun y => q ⟨ein.mp y.1, y.2⟩), if_neg q]
      · rw [cW_ext hG hK ge vc z q3 hne, if_neg]
        intro y
        have := ein.mp y.1
        omega
    · rw [if_neg (fun y => by have := ein.mp y.1; omega)]
      unfold cW
      rw [if_neg (show ¬ x < 22 by omega), if_neg (show ¬ x < 100 by omega), if_neg (show ¬ x < 300 by omega), if_neg (show ¬ x < 600 by omega), if_neg (show ¬ x < 1000 by omega), if_neg (show ¬ x < 1600 by omega), if_neg (show ¬ x < 2000 by omega), if_neg (show ¬ x < 2100 by omega), if_neg (show ¬ x < 2200 by omega), if_neg q3, if_neg (show ¬ x < 22 by omega), if_neg (show ¬ x < 100 by omega), if_neg (show ¬ x < 300 by omega), if_neg (show ¬ x < 600 by omega), if_neg (show ¬ x < 1000 by omega), if_neg (show ¬ x < 1600 by omega), if_neg (show ¬ x < 2000 by omega), if_neg (show ¬ x < 2100 by omega), if_neg (show ¬ x < 2200 by omega), if_neg q3, hc]
      unfold Lv at z
      have hT := okT hG
      have hA := okA hG
      have hH := okH hG
      omega
  · rw [had i hi]
    unfold mup
    have hw : G.W (n + i) = 0 := by
      by_cases q : G.W (n + i) = 0
      · exact q
      · have := hn _ q
        omega
    rw [if_neg]
    · unfold cM
      rw [if_pos hw]
      exact hB i hi j
    · intro y
      rw [y.1, ea] at hw
      omega
theorem growS {f : Nat → Nat} {len : Nat} (hG : OKG G) (hG' : OKG G') (ge : GE G G') (hn : ∀ a, G.W a ≠ 0 → a < n) (had : ∀ i, i < len → G'.ad (f i) = n + i) (had2 : ∀ x, Lv G x → G'.ad x = G.ad x) (h3 : ∀ x, Lv G' x → Lv G x ∨ ∃ i, i < len ∧ x = f i) (hc : ∀ i, i < G.N → G'.ck i = G.ck i) (hB : ∀ i, i < len → s0 (n + i) = cT G' (f i)) : cS G s0 = cS G' (cS G s0) := by
  refine cS_self hG' ?_
  intro x hx
  rcases h3 x hx with z | ⟨i, hi, rfl⟩
  · rw [had2 x z, shg hG z]
    by_cases q3 : x < 3000
    · exact (cT_ext hG ge z q3).symm
    · unfold cT
      rw [if_neg (show ¬ x < 22 by omega), if_neg (show ¬ x < 100 by omega), if_neg (show ¬ x < 300 by omega), if_neg (show ¬ x < 600 by omega), if_neg (show ¬ x < 1000 by omega), if_neg (show ¬ x < 1600 by omega), if_neg (show ¬ x < 2000 by omega), if_neg (show ¬ x < 2100 by omega), if_neg (show ¬ x < 2200 by omega), if_neg q3, if_neg (show ¬ x < 22 by omega), if_neg (show ¬ x < 100 by omega), if_neg (show ¬ x < 300 by omega), if_neg (show ¬ x < 600 by omega), if_neg (show ¬ x < 1000 by omega), if_neg (show ¬ x < 1600 by omega), if_neg (show ¬ x < 2000 by omega), if_neg (show ¬ x < 2100 by omega), if_neg (show ¬ x < 2200 by omega), if_neg q3, hc]
      unfold Lv at z
      have hT := okT hG
      have hA := okA hG
      have hH := okH hG
      omega
  · rw [had i hi]
    have hw : G.W (n + i) = 0 := by
      by_cases q : G.W (n + i) = 0
      · exact q
      · have := hn _ q
        omega
    unfold cS
    rw [if_pos hw]
    exact hB i hi
end CE0
