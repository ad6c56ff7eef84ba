/-! ===== the class: what was before is remembered ===== -/
def gC (G : Gh) (n m tag : Nat) (vals : Nat → Value) : Gh := mkG (fun a => if a = n then 3000 + m else if m < G.N ∧ a = aC G m then 0 else G.W a) (fun x => if x = 3000 + m then n else G.ad x) G.T G.R G.A G.H (max G.N (m + 1)) G.kd G.sl G.vl G.ht G.hd (fun i => if i = m then tag else G.ck i) (fun i => if i = m then vals else G.cv i)
def mvV (G : Gh) (C : St) (t : Nat) (p : Int32) (h : Value) (st : Int32) : Nat → Value := fun i => if i = 6 then .int st else if i = 5 then h else if i = 4 then .int p else if i = 3 then .int (C 5 t) else if i = 2 then rfH G (C 4 t) else if i = 1 then .int (C 3 t) else if i = 0 then .ref (aT G t) else dfv (pty 4 i)
def rsV (G : Gh) (C : St) (t q : Nat) (sp : Int32) : Nat → Value := fun i => if i = 5 then .int sp else if i = 4 then .int (C 11 (6 * t + q)) else if i = 3 then .int (C 10 (6 * t + q)) else if i = 2 then .int (C 9 (6 * t + q)) else if i = 1 then .int (nI q) else if i = 0 then .ref (aT G t) else dfv (pty 7 i)
def rmV (G : Gh) (C : St) (a q : Nat) : Nat → Value := fun i => if i = 2 then .int (C 20 (6 * a + q)) else if i = 1 then .int (nI q) else if i = 0 then .ref (aA G a) else dfv (pty 6 i)
theorem tc25 : (21 ≤ 25 ∧ 25 ≤ 25) ↔ True := by decide
section CK
variable {d n k : Nat} {G : Gh} {C : St} {m0 m1 : Mm} {s0 s1 : Nat → Nat × Nat} {m tag : Nat} {vals : Nat → Value}
theorem Lv_C (hG : OKG G) (hm : m ≤ G.N) {x : Nat} : Lv (gC G n m tag vals) x ↔ (Lv G x ∨ x = 3000 + m) := by
  have hT := okT hG
  have hA := okA hG
  have hH := okH hG
  have l : ∀ r, lvR (gC G n m tag vals) r ↔ lvR G r := fun r => Iff.rfl
  have eN : (gC G n m tag vals).N = max G.N (m + 1) := rfl
  have eT : (gC G n m tag vals).T = G.T := rfl
  have eA : (gC G n m tag vals).A = G.A := rfl
  have eH : (gC G n m tag vals).H = G.H := rfl
  have ek : (gC G n m tag vals).kd = G.kd := rfl
  by_cases h3 : 3000 ≤ x
  · have e : ∀ K : Gh, OKG G → K.T = G.T → K.A = G.A → K.H = G.H → (Lv K x ↔ x < 3000 + K.N) := by
      intro K _ e1 e2 e3
      unfold Lv
      rw [e1, e2, e3]
      constructor
      · rintro (h | h | h | h | h | h | h | h | h | h | h | h | h | h | h) <;> omega
      · intro h
        exact Or.inr (Or.inr (Or.inr (Or.inr (Or.inr (Or.inr (Or.inr (Or.inr (Or.inr (Or.inr (Or.inr (Or.inr (Or.inr (Or.inr ⟨h3, h⟩)))))))))))))
    rw [e _ hG eT eA eH, e _ hG rfl rfl rfl, eN]
    omega
  · unfold Lv
    rw [eT, eA, eH, eN, ek]
    simp only [l]
    constructor
    · rintro (h | h | h | h | h | h | h | h | h | h | h | h | h | h | h)
      · exact Or.inl (Or.inl h)
      · exact Or.inl (Or.inr (Or.inl h))
      · exact Or.inl (Or.inr (Or.inr (Or.inl h)))
      · exact Or.inl (Or.inr (Or.inr (Or.inr (Or.inl h))))
      · exact Or.inl (Or.inr (Or.inr (Or.inr (Or.inr (Or.inl h)))))
      · exact Or.inl (Or.inr (Or.inr (Or.inr (Or.inr (Or.inr (Or.inl h))))))
      · exact Or.inl (Or.inr (Or.inr (Or.inr (Or.inr (Or.inr (Or.inr (Or.inl h)))))))
      · exact Or.inl (Or.inr (Or.inr (Or.inr (Or.inr (Or.inr (Or.inr (Or.inr (Or.inl h))))))))
      · exact Or.inl (Or.inr (Or.inr (Or.inr (Or.inr (Or.inr (Or.inr (Or.inr (Or.inr (Or.inl h)))))))))
      · exact Or.inl (Or.inr (Or.inr (Or.inr (Or.inr (Or.inr (Or.inr (Or.inr (Or.inr (Or.inr (Or.inl h))))))))))
      · exact Or.inl (Or.inr (Or.inr (Or.inr (Or.inr (Or.inr (Or.inr (Or.inr (Or.inr (Or.inr (Or.inr (Or.inl h)))))))))))
      · exact Or.inl (Or.inr (Or.inr (Or.inr (Or.inr (Or.inr (Or.inr (Or.inr (Or.inr (Or.inr (Or.inr (Or.inr (Or.inl h))))))))))))
      · exact Or.inl (Or.inr (Or.inr (Or.inr (Or.inr (Or.inr (Or.inr (Or.inr (Or.inr (Or.inr (Or.inr (Or.inr (Or.inr (Or.inl h)))))))))))))
      · exact Or.inl (Or.inr (Or.inr (Or.inr (Or.inr (Or.inr (Or.inr (Or.inr (Or.inr (Or.inr (Or.inr (Or.inr (Or.inr (Or.inr (Or.inl h))))))))))))))
      · omega
    · rintro ((h | h | h | h | h | h | h | h | h | h | h | h | h | h | h) | h)
      · exact Or.inl h
      · exact (Or.inr (Or.inl h))
      · exact (Or.inr (Or.inr (Or.inl h)))
      · exact (Or.inr (Or.inr (Or.inr (Or.inl h))))
      · exact (Or.inr (Or.inr (Or.inr (Or.inr (Or.inl h)))))
      · exact (Or.inr (Or.inr (Or.inr (Or.inr (Or.inr (Or.inl h))))))
      · exact (Or.inr (Or.inr (Or.inr (Or.inr (Or.inr (Or.inr (Or.inl h)))))))
      · exact (Or.inr (Or.inr (Or.inr (Or.inr (Or.inr (Or.inr (Or.inr (Or.inl h))))))))
      · exact (Or.inr (Or.inr (Or.inr (Or.inr (Or.inr (Or.inr (Or.inr (Or.inr (Or.inl h)))))))))
      · exact (Or.inr (Or.inr (Or.inr (Or.inr (Or.inr (Or.inr (Or.inr (Or.inr (Or.inr (Or.inl h))))))))))
      · exact (Or.inr (Or.inr (Or.inr (Or.inr (Or.inr (Or.inr (Or.inr (Or.inr (Or.inr (Or.inr (Or.inl h)))))))))))
      · exact (Or.inr (Or.inr (Or.inr (Or.inr (Or.inr (Or.inr (Or.inr (Or.inr (Or.inr (Or.inr (Or.inr (Or.inl h))))))))))))
      · exact (Or.inr (Or.inr (Or.inr (Or.inr (Or.inr (Or.inr (Or.inr (Or.inr (Or.inr (Or.inr (Or.inr (Or.inr (Or.inl h)))))))))))))
      · exact (Or.inr (Or.inr (Or.inr (Or.inr (Or.inr (Or.inr (Or.inr (Or.inr (Or.inr (Or.inr (Or.inr (Or.inr (Or.inr (Or.inl h))))))))))))))
      · omega
      · omega
theorem gC_ad2 {x : Nat} (h : x ≠ 3000 + m) : (gC G n m tag vals).ad x = G.ad x := if_neg h
theorem gC_ok (hG : OKG G) (hm : m ≤ G.N) (hm5 : m < 512) (hn : ∀ a, G.W a ≠ 0 → a < n) : OKG (gC G n m tag vals) := by
  have hb := hG.2.2.1
  refine ⟨?_, ?_, ⟨hb.1, hb.2.1, hb.2.2.1, hb.2.2.2.1, by show max G.N (m + 1) ≤ 512; omega⟩, hG.2.2.2.1, hG.2.2.2.2.1, hG.2.2.2.2.2⟩
  · intro a ha
    have e : (gC G n m tag vals).W a = if a = n then 3000 + m else if m < G.N ∧ a = aC G m then 0 else G.W a := rfl
    rw [e] at ha ⊢
    by_cases q : a = n
    · rw [if_pos q]
      exact ⟨by rw [q]; exact if_pos rfl, (Lv_C hG hm).mpr (Or.inr rfl)⟩
    · rw [if_neg q] at ha ⊢
      by_cases q2 : m < G.N ∧ a = aC G m
      · rw [if_pos q2] at ha
        exact absurd rfl ha
      · rw [if_neg q2] at ha ⊢
        have z := hG.1 a ha
        refine ⟨?_, (Lv_C hG hm).mpr (Or.inl z.2)⟩
        rw [gC_ad2]
        · exact z.1
        · intro y
          apply q2
          rw [y] at z
          have hN : m < G.N := by
            have := z.2
            unfold Lv at this
            have hT := okT hG
            have hA := okA hG
            have hH := okH hG
            omega
          exact ⟨hN, by rw [aC_e hm5]; exact z.1.symm⟩
  · intro x hx
    have e : ∀ a, (gC G n m tag vals).W a = if a = n then 3000 + m else if m < G.N ∧ a = aC G m then 0 else G.W a := fun _ => rfl
    by_cases q : x = 3000 + m
    · have e2 : (gC G n m tag vals).ad x = n := if_pos q
      rw [e2, e, if_pos rfl, q]
    · have z := ((Lv_C hG hm).mp hx).resolve_right q
      have w := hG.2.1 x z
      have x0 : x ≠ 0 := by unfold Lv at z; omega
      rw [gC_ad2 q, e, if_neg, if_neg]
      · exact w
      · intro y
        rw [aC_e hm5] at y
        rw [y.2, hG.2.1 _ (lvC y.1)] at w
        exact q w.symm
      · intro y
        have := hn (G.ad x) (by rw [w]; exact x0)
        omega
theorem gC_GE : GE G (gC G n m tag vals) := ⟨fun y _ h => gC_ad2 (by omega), fun t _ => ⟨rfl, rfl⟩, fun r _ => rfl, fun i _ => ⟨rfl, rfl⟩⟩
theorem gC_m (hG : OKG G) (hK : OKC G C) (vc : VC G C) (hm : m ≤ G.N) (hm5 : m < 512) (hn : ∀ a, G.W a ≠ 0 → a < n) (hv : ∀ j, m1 n j = vals j) : mup (cM G C m1) (G.ad 6) m (.ref n) = cM (gC G n m tag vals) C (mup (cM G C m1) (G.ad 6) m (.ref n)) := by
  have hG' : OKG (gC G n m tag vals) := gC_ok hG hm hm5 hn
  have ge : GE G (gC G n m tag vals) := gC_GE
  have hT := okT hG
  have hA := okA hG
  have hH := okH hG
  refine cM_self hG' ?_
  have la : Lv G 6 := Or.inl ⟨by omega, by omega⟩
  have ea := hG.2.1 _ la
  have wn : G.W n = 0 := W_n (G := G) hn 0
  have c3 : ∀ K : Gh, ∀ x j v, 3000 ≤ x → cW K x j v = K.cv (x - 3000) j := by
    intro K x j v h3
    unfold cW
    rw [if_neg (show ¬ x < 22 by omega), if_neg (show ¬ x < 100 by omega), if_neg (show ¬ x < 300 by omega), if_neg (show ¬ x < 600 by omega), if_neg (show ¬ x < 1000 by omega), if_neg (show ¬ x < 1600 by omega), if_neg (show ¬ x < 2000 by omega), if_neg (show ¬ x < 2100 by omega), if_neg (show ¬ x < 2200 by omega), if_neg (show ¬ x < 3000 by omega)]
  intro x hx j
  by_cases q : x = 3000 + m
  · have e2 : (gC G n m tag vals).ad x = n := if_pos q
    have e3 : (gC G n m tag vals).cv m = vals := if_pos rfl
    rw [e2, c3 _ _ _ _ (by omega), show x - 3000 = m by omega, e3]
    unfold mup
    rw [if_neg, cM_rd wn, hv]
    intro y
    rw [y.1, ea] at wn
    omega
  · have z := ((Lv_C hG hm).mp hx).resolve_right q
    have w := hG.2.1 x z
    rw [gC_ad2 q]
    unfold mup
    have ein : (G.ad x = G.ad 6) ↔ x = 6 := by
      constructor
      · intro q
        rw [q, ea] at w
        exact w.symm
      · intro q; rw [q]
    rw [show cM G C m1 (G.ad x) j = cW G x j (C (loc x j).1 (loc x j).2) from rdg hG z]
    by_cases q3 : x < 3000
    · by_cases hne : 2 ≤ x ∧ x ≤ 6
      · have e22 : x < 22 := by omega
        by_cases q6 : x = 6
        · subst q6
          unfold cW
          rw [if_pos e22, if_pos e22]
          show (if G.ad 6 = G.ad 6 ∧ j = m then Value.ref n else if j < G.N then Value.ref (aC G j) else .null) = if j < max G.N (m + 1) then Value.ref (aC (gC G n m tag vals) j) else .null
          by_cases y : j = m
          · rw [if_pos (show G.ad 6 = G.ad 6 ∧ j = m from ⟨rfl, y⟩), if_pos (show j < max G.N (m + 1) by omega), y, aC_e hm5]
            exact congrArg Value.ref (if_pos rfl).symm
          · rw [if_neg (show ¬ (G.ad 6 = G.ad 6 ∧ j = m) from fun u => y u.2)]
            by_cases y2 : j < G.N
            · have b : j < 512 := by have := okN hG; omega
              rw [if_pos y2, if_pos (show j < max G.N (m + 1) by omega), aC_e b, aC_e b, gC_ad2 (by omega)]
            · rw [if_neg y2, if_neg (show ¬ j < max G.N (m + 1) by omega)]
        · rw [if_neg (fun y => q6 (ein.mp y.1))]
          unfold cW
          rw [if_pos e22, if_pos e22]
          have : x = 2 ∨ x = 3 ∨ x = 4 ∨ x = 5 := by omega
          rcases this with rfl | rfl | rfl | rfl
          · show (if j < G.T then Value.ref (aT G j) else .null) = (if j < G.T then Value.ref (aT (gC G n m tag vals) j) else .null)
            by_cases y : j < G.T
            · rw [if_pos y, if_pos y, ge_T hG ge y]
            · rw [if_neg y, if_neg y]
          · show (if j < G.R then Value.ref (aH G (200 + j)) else .null) = (if j < G.R then Value.ref (aH (gC G n m tag vals) (200 + j)) else .null)
            by_cases y : j < G.R
            · rw [if_pos y, if_pos y, ge_H hG ge (Or.inr ⟨by omega, by omega⟩)]
            · rw [if_neg y, if_neg y]
          · show (if j < G.A then Value.ref (aA G j) else .null) = (if j < G.A then Value.ref (aA (gC G n m tag vals) j) else .null)
            by_cases y : j < G.A
            · rw [if_pos y, if_pos y, ge_A hG ge y]
            · rw [if_neg y, if_neg y]
          · show (if j < G.H then Value.ref (aJ G j) else .null) = (if j < G.H then Value.ref (aJ (gC G n m tag vals) j) else .null)
            by_cases y : j < G.H
            · rw [if_pos y, if_pos y, ge_J hG ge y]
            · rw [if_neg y, if_neg y]
      · rw [cW_ext hG hK ge vc z q3 hne, if_neg]
        intro y
        have := ein.mp y.1
        omega
    · rw [if_neg (fun y => by have := ein.mp y.1; omega), c3 _ _ _ _ (by omega), c3 _ _ _ _ (by omega)]
      have q' : ¬ x - 3000 = m := by omega
      generalize x - 3000 = i at q'
      show _ = (if i = m then vals else G.cv i) j
      rw [if_neg q']
theorem gC_s (hG : OKG G) (hm : m ≤ G.N) (hm5 : m < 512) (hn : ∀ a, G.W a ≠ 0 → a < n) (hs : s1 n = (tag, nfC tag)) : cS G s1 = cS (gC G n m tag vals) (cS G s1) := by
  have hG' : OKG (gC G n m tag vals) := gC_ok hG hm hm5 hn
  have ge : GE G (gC G n m tag vals) := gC_GE
  have wn : G.W n = 0 := W_n (G := G) hn 0
  refine cS_self hG' ?_
  have c3 : ∀ K : Gh, ∀ x, 3000 ≤ x → cT K x = (K.ck (x - 3000), nfC (K.ck (x - 3000))) := by
    intro K x h3
    unfold cT
    rw [if_neg (show ¬ x < 22 by omega), if_neg (show ¬ x < 100 by omega), if_neg (show ¬ x < 300 by omega), if_neg (show ¬ x < 600 by omega), if_neg (show ¬ x < 1000 by omega), if_neg (show ¬ x < 1600 by omega), if_neg (show ¬ x < 2000 by omega), if_neg (show ¬ x < 2100 by omega), if_neg (show ¬ x < 2200 by omega), if_neg (show ¬ x < 3000 by omega)]
  intro x hx
  by_cases q : x = 3000 + m
  · have e2 : (gC G n m tag vals).ad x = n := if_pos q
    have e3 : (gC G n m tag vals).ck m = tag := if_pos rfl
    rw [e2, c3 _ _ (by omega), show x - 3000 = m by omega, e3, cS_rd wn, hs]
  · have z := ((Lv_C hG hm).mp hx).resolve_right q
    rw [gC_ad2 q, shg hG z]
    by_cases q3 : x < 3000
    · exact (cT_ext hG ge z q3).symm
    · rw [c3 _ _ (by omega), c3 _ _ (by omega)]
      have q' : ¬ x - 3000 = m := by omega
      generalize x - 3000 = i at q'
      show _ = ((if i = m then tag else G.ck i), nfC (if i = m then tag else G.ck i))
      rw [if_neg q']
/-- what came is noted among the changes -/
theorem c115 {n2 : Nat} (hG : OKG G) (hK : OKC G C) (vc : VC G C) (hm : m ≤ G.N) (hm5 : m < 512) (h17 : C 17 0 = nI m) (hn : ∀ a, G.W a ≠ 0 → a < n) (hv : ∀ j, m1 n j = vals j) (hs : s1 n = (tag, nfC tag)) (ht : tag = 4 ∨ tag = 6 ∨ tag = 7) : ex d 115 0 [some (.ref (G.ad 1)), some (.ref n)] [] (cM G C m1, cS G s1, n2, k) = some (none, (cM (gC G n m tag vals) (sup C 17 0 (nI (m + 1))) (mup (cM G C m1) (G.ad 6) m (.ref n)), cS (gC G n m tag vals) (cS G s1), n2, k)) := by
  have hM := gC_m (tag := tag) hG hK vc hm hm5 hn hv
  have hS := gC_s (vals := vals) hG hm hm5 hn hs
  have hq : OKG (gC G n m tag vals) := gC_ok hG hm hm5 hn
  have wn : G.W n = 0 := W_n (G := G) hn 0
  have g : nI m < nI 512 := (nI_ltI (by omega) (by omega)).mpr hm5
  have mb : m < 2147483648 := by omega
  have hc : casts.contains (tag, elT 25) = true := by rcases ht with rfl | rfl | rfl <;> decide
  have a1 : (gC G n m tag vals).ad 1 = G.ad 1 := gC_ad2 (by omega)
  have run : ex d 115 0 [some (.ref (G.ad 1)), some (.ref n)] [] (cM G C m1, cS G s1, n2, k) = ex d 115 25 [some (.ref (G.ad 1)), some (.ref n)] [] (mup (cM G C m1) (G.ad 6) m (.ref n), cS G s1, n2, k) := by
    conv => lhs; simp only [x115_0, x115_1, x115_4, x115_7, x115_10, x115_11, x115_12, x115_15, x115_16, x115_19, x115_20, x115_23, x115_23n, x115_23q, x115_24, x115_24n, bnd_some, Option.toList_some, Option.toList_none, List.cons_append, List.nil_append, List.singleton_append, clr_i, clr_r, clr_n, clr_0, clr_q, clr_l, isR_r, isR_n, isR_q, cat1_i, cat1_r, b0, b1, if_true, if_false, not_true, not_false_eq_true, reduceCtorEq, ite_self, and_true, true_and, and_false, false_and, or_true, true_or, or_false, false_or, k_1_0 hG, k_1_1 hG, k_1_1w hG, k_1_2 hG, k_1_3 hG, k_1_3w hG, k_1_4 hG, k_1_5 hG, k_1_5w hG, k_1_6 hG, k_1_7 hG, k_1_7w hG, k_1_8 hG, k_1_9 hG, k_1_9w hG, k_1_10 hG, k_1_11 hG, k_1_11w hG, k_1_12 hG, k_1_12w hG, k_1_13 hG, k_1_13w hG, k_1_14 hG, k_1_14w hG, k_1_15 hG, k_1_15w hG, k_1_16 hG, k_1_16w hG, k_7_0 hG, k_7_1 hG, k_7_2 hG, k_7_2w hG, k_7_3 hG, k_7_4 hG, k_7_5 hG, k_7_5w hG, k_7_6 hG, k_7_7 hG, k_7_8 hG, k_7_9 hG, k_7_10 hG, k_7_11 hG, k_7_12 hG, k_7_13 hG, k_7_14 hG, k_7_15 hG, k_7_15w hG, k_7_16 hG, k_7_17 hG, k_7_17w hG, k_s1 hG, k_s2 hG, k_s3 hG, k_s4 hG, k_s5 hG, k_s6 hG, k_s7 hG, k_s8 hG, k_s9 hG, k_s10 hG, k_s11 hG, k_s12 hG, k_s13 hG, k_s14 hG, k_s15 hG, k_s16 hG, k_s17 hG, k_s18 hG, k_s19 hG, k_s20 hG, k_s21 hG, k_2 hG, k_3 hG, k_4 hG, k_5 hG, k_6 hG, k_13 hG, k_14 hG, k_16 hG, k_8 hG, k_8w hG, k_9 hG, k_9w hG, k_10 hG, k_10w hG, k_11 hG, k_11w hG, k_12 hG, k_12w hG, k_15 hG, k_15w hG, k_17 hG, k_17w hG, k_18 hG, k_18w hG, k_19 hG, k_19w hG, k_20 hG, k_20w hG, k_21 hG, k_21w hG, k_P hG, k_Pw hG, k_sP hG, k_Q hG, k_Qw hG, k_sQ hG, k_G hG, k_Gw hG, k_sG hG, k_Z hG, k_Zw hG, k_sZ hG, k_I hG, k_Iw hG, k_sI hG, k_O hG, k_Ow hG, k_sO hG, k_V hG, k_Vw hG, k_sV hG, k_M hG, k_Mw hG, k_sM hG, k_S hG, k_Sw hG, k_Swn hG, k_sS hG, k_T_0 hG, k_T_1 hG, k_T_2 hG, k_T_3 hG, k_T_4 hG, k_T_5 hG, k_T_6 hG, k_T_7 hG, k_T_8 hG, k_T_6v hG, k_T_2w hG, k_T_4w hG, k_T_3w hG, k_T_3wn hG, k_sT hG, k_H_0 hG, k_H_1 hG, k_H_2 hG, k_sH hG, k_A_0 hG, k_sA hG, k_J_0 hG, k_J_1 hG, k_J_2 hG, k_J_2w hG, k_sJ hG, k_C hG, k_sC hG, isTh_tg, isTh1, isTh8, isTh9, zT, oT, oF, zT0, oF0, h17, g, mb, hm5, tc25, cS_rd wn, hs, hc]
  have fin : ∀ (m' : Mm) (s' : Nat → Nat × Nat), ex d 115 25 [some (.ref ((gC G n m tag vals).ad 1)), some (.ref n)] [] (cM (gC G n m tag vals) C m', cS (gC G n m tag vals) s', n2, k) = some (none, (cM (gC G n m tag vals) (sup C 17 0 (nI (m + 1))) m', cS (gC G n m tag vals) s', n2, k)) := fun m' s' => by
    simp only [x115_25, x115_26, x115_26i, x115_27, x115_30, x115_31, x115_32, x115_35, bnd_some, Option.toList_some, Option.toList_none, List.cons_append, List.nil_append, List.singleton_append, clr_i, clr_r, clr_n, clr_0, clr_q, clr_l, isR_r, isR_n, isR_q, cat1_i, cat1_r, b0, b1, if_true, if_false, not_true, not_false_eq_true, reduceCtorEq, ite_self, and_true, true_and, and_false, false_and, or_true, true_or, or_false, false_or, k_1_0 hq, k_1_1 hq, k_1_1w hq, k_1_2 hq, k_1_3 hq, k_1_3w hq, k_1_4 hq, k_1_5 hq, k_1_5w hq, k_1_6 hq, k_1_7 hq, k_1_7w hq, k_1_8 hq, k_1_9 hq, k_1_9w hq, k_1_10 hq, k_1_11 hq, k_1_11w hq, k_1_12 hq, k_1_12w hq, k_1_13 hq, k_1_13w hq, k_1_14 hq, k_1_14w hq, k_1_15 hq, k_1_15w hq, k_1_16 hq, k_1_16w hq, k_7_0 hq, k_7_1 hq, k_7_2 hq, k_7_2w hq, k_7_3 hq, k_7_4 hq, k_7_5 hq, k_7_5w hq, k_7_6 hq, k_7_7 hq, k_7_8 hq, k_7_9 hq, k_7_10 hq, k_7_11 hq, k_7_12 hq, k_7_13 hq, k_7_14 hq, k_7_15 hq, k_7_15w hq, k_7_16 hq, k_7_17 hq, k_7_17w hq, k_s1 hq, k_s2 hq, k_s3 hq, k_s4 hq, k_s5 hq, k_s6 hq, k_s7 hq, k_s8 hq, k_s9 hq, k_s10 hq, k_s11 hq, k_s12 hq, k_s13 hq, k_s14 hq, k_s15 hq, k_s16 hq, k_s17 hq, k_s18 hq, k_s19 hq, k_s20 hq, k_s21 hq, k_2 hq, k_3 hq, k_4 hq, k_5 hq, k_6 hq, k_13 hq, k_14 hq, k_16 hq, k_8 hq, k_8w hq, k_9 hq, k_9w hq, k_10 hq, k_10w hq, k_11 hq, k_11w hq, k_12 hq, k_12w hq, k_15 hq, k_15w hq, k_17 hq, k_17w hq, k_18 hq, k_18w hq, k_19 hq, k_19w hq, k_20 hq, k_20w hq, k_21 hq, k_21w hq, k_P hq, k_Pw hq, k_sP hq, k_Q hq, k_Qw hq, k_sQ hq, k_G hq, k_Gw hq, k_sG hq, k_Z hq, k_Zw hq, k_sZ hq, k_I hq, k_Iw hq, k_sI hq, k_O hq, k_Ow hq, k_sO hq, k_V hq, k_Vw hq, k_sV hq, k_M hq, k_Mw hq, k_sM hq, k_S hq, k_Sw hq, k_Swn hq, k_sS hq, k_T_0 hq, k_T_1 hq, k_T_2 hq, k_T_3 hq, k_T_4 hq, k_T_5 hq, k_T_6 hq, k_T_7 hq, k_T_8 hq, k_T_6v hq, k_T_2w hq, k_T_4w hq, k_T_3w hq, k_T_3wn hq, k_sT hq, k_H_0 hq, k_H_1 hq, k_H_2 hq, k_sH hq, k_A_0 hq, k_sA hq, k_J_0 hq, k_J_1 hq, k_J_2 hq, k_J_2w hq, k_sJ hq, k_C hq, k_sC hq, isTh_tg, isTh1, isTh8, isTh9, zT, oT, oF, zT0, oF0, h17, nI_add]
  have mid : ex d 115 25 [some (.ref (G.ad 1)), some (.ref n)] [] (mup (cM G C m1) (G.ad 6) m (.ref n), cS G s1, n2, k) = ex d 115 25 [some (.ref ((gC G n m tag vals).ad 1)), some (.ref n)] [] (cM (gC G n m tag vals) C (mup (cM G C m1) (G.ad 6) m (.ref n)), cS (gC G n m tag vals) (cS G s1), n2, k) := by
    rw [← hM, ← hS, a1]
  rw [run, mid, fin]
theorem c11 {a t : Nat} {p st : Int32} {H : Value} {f : Nat → Value} (hG : OKG G) (wa : G.W a = 0) (ht : t < G.T) (hh : H = .null ∨ ∃ b, H = .ref b) (h4 : C 4 t = -1 ∨ ∃ r, lvR G r ∧ C 4 t = hN r) (hf : f = fun i => dfv (pty 4 i)) : ex (d + 1) 11 0 [some (.ref a), some (.ref (aT G t)), some (.int p), some H, some (.int st)] [] (cM G C (mnw m0 a f), cS G (mnw s0 a (4, 7)), n, k) = some (none, (cM G C (mnw m0 a (mvV G C t p H st)), cS G (mnw s0 a (4, 7)), n, k)) := by
  subst hf
  unfold mvV
  rcases h4 with h4 | ⟨r, hr, h4⟩
  · rcases hh with rfl | ⟨b, rfl⟩
    · simp only [x11_0, x11_1, x11_4, x11_5, x11_5n, x11_5q, x11_6, x11_6n, x11_6q, x11_9, x11_10, x11_10n, x11_10q, x11_11, x11_14, x11_17, x11_18, x11_18n, x11_18q, x11_19, x11_22, x11_22n, x11_22q, x11_25, x11_26, x11_26n, x11_26q, x11_27, x11_30, x11_33, x11_34, x11_35, x11_38, x11_39, x11_39n, x11_39q, x11_40, x11_40n, x11_40q, x11_43, x11_44, x11_46, x11_49, x1_0, x1_1, x1_4, bnd_some, Option.toList_some, Option.toList_none, List.cons_append, List.nil_append, List.singleton_append, clr_i, clr_r, clr_n, clr_0, clr_q, clr_l, isR_r, isR_n, isR_q, cat1_i, cat1_r, b0, b1, if_true, if_false, not_true, not_false_eq_true, reduceCtorEq, ite_self, and_true, true_and, and_false, false_and, or_true, true_or, or_false, false_or, cS_rd wa, mnw_at, cM_up wa, mup_nw, k_sT hG, k_T_2 hG, k_T_3 hG, k_T_4 hG, isTh_tg, ht, h4, rfH_n m1_0]
    · simp only [x11_0, x11_1, x11_4, x11_5, x11_5n, x11_5q, x11_6, x11_6n, x11_6q, x11_9, x11_10, x11_10n, x11_10q, x11_11, x11_14, x11_17, x11_18, x11_18n, x11_18q, x11_19, x11_22, x11_22n, x11_22q, x11_25, x11_26, x11_26n, x11_26q, x11_27, x11_30, x11_33, x11_34, x11_35, x11_38, x11_39, x11_39n, x11_39q, x11_40, x11_40n, x11_40q, x11_43, x11_44, x11_46, x11_49, x1_0, x1_1, x1_4, bnd_some, Option.toList_some, Option.toList_none, List.cons_append, List.nil_append, List.singleton_append, clr_i, clr_r, clr_n, clr_0, clr_q, clr_l, isR_r, isR_n, isR_q, cat1_i, cat1_r, b0, b1, if_true, if_false, not_true, not_false_eq_true, reduceCtorEq, ite_self, and_true, true_and, and_false, false_and, or_true, true_or, or_false, false_or, cS_rd wa, mnw_at, cM_up wa, mup_nw, k_sT hG, k_T_2 hG, k_T_3 hG, k_T_4 hG, isTh_tg, ht, h4, rfH_n m1_0]
  · have hr2 := lr_212 hG hr
    rcases hh with rfl | ⟨b, rfl⟩
    · simp only [x11_0, x11_1, x11_4, x11_5, x11_5n, x11_5q, x11_6, x11_6n, x11_6q, x11_9, x11_10, x11_10n, x11_10q, x11_11, x11_14, x11_17, x11_18, x11_18n, x11_18q, x11_19, x11_22, x11_22n, x11_22q, x11_25, x11_26, x11_26n, x11_26q, x11_27, x11_30, x11_33, x11_34, x11_35, x11_38, x11_39, x11_39n, x11_39q, x11_40, x11_40n, x11_40q, x11_43, x11_44, x11_46, x11_49, x1_0, x1_1, x1_4, bnd_some, Option.toList_some, Option.toList_none, List.cons_append, List.nil_append, List.singleton_append, clr_i, clr_r, clr_n, clr_0, clr_q, clr_l, isR_r, isR_n, isR_q, cat1_i, cat1_r, b0, b1, if_true, if_false, not_true, not_false_eq_true, reduceCtorEq, ite_self, and_true, true_and, and_false, false_and, or_true, true_or, or_false, false_or, cS_rd wa, mnw_at, cM_up wa, mup_nw, k_sT hG, k_T_2 hG, k_T_3 hG, k_T_4 hG, isTh_tg, ht, h4, rfH_r hr2]
    · simp only [x11_0, x11_1, x11_4, x11_5, x11_5n, x11_5q, x11_6, x11_6n, x11_6q, x11_9, x11_10, x11_10n, x11_10q, x11_11, x11_14, x11_17, x11_18, x11_18n, x11_18q, x11_19, x11_22, x11_22n, x11_22q, x11_25, x11_26, x11_26n, x11_26q, x11_27, x11_30, x11_33, x11_34, x11_35, x11_38, x11_39, x11_39n, x11_39q, x11_40, x11_40n, x11_40q, x11_43, x11_44, x11_46, x11_49, x1_0, x1_1, x1_4, bnd_some, Option.toList_some, Option.toList_none, List.cons_append, List.nil_append, List.singleton_append, clr_i, clr_r, clr_n, clr_0, clr_q, clr_l, isR_r, isR_n, isR_q, cat1_i, cat1_r, b0, b1, if_true, if_false, not_true, not_false_eq_true, reduceCtorEq, ite_self, and_true, true_and, and_false, false_and, or_true, true_or, or_false, false_or, cS_rd wa, mnw_at, cM_up wa, mup_nw, k_sT hG, k_T_2 hG, k_T_3 hG, k_T_4 hG, isTh_tg, ht, h4, rfH_r hr2]
theorem c33 {a t q : Nat} {sp : Int32} {f : Nat → Value} (hG : OKG G) (wa : G.W a = 0) (ht : t < G.T) (hk : G.kd t ≤ 3) (hq : q < 6) (hf : f = fun i => dfv (pty 7 i)) : ex (d + 1) 33 0 [some (.ref a), some (.ref (aT G t)), some (.int (nI q)), some (.int sp)] [] (cM G C (mnw m0 a f), cS G (mnw s0 a (7, 6)), n, k) = some (none, (cM G C (mnw m0 a (rsV G C t q sp)), cS G (mnw s0 a (7, 6)), n, k)) := by
  subst hf
  have e1 := tk1 hk
  have qb : q < 2147483648 := by omega
  unfold rsV
  simp only [x33_0, x33_1, x33_4, x33_5, x33_5n, x33_5q, x33_6, x33_6n, x33_6q, x33_9, x33_10, x33_11, x33_14, x33_15, x33_15n, x33_15q, x33_16, x33_19, x33_20, x33_21, x33_24, x33_25, x33_25n, x33_25q, x33_26, x33_29, x33_30, x33_31, x33_34, x33_35, x33_35n, x33_35q, x33_36, x33_39, x33_40, x33_41, x33_44, x33_45, x33_46, x33_49, x1_0, x1_1, x1_4, bnd_some, Option.toList_some, Option.toList_none, List.cons_append, List.nil_append, List.singleton_append, clr_i, clr_r, clr_n, clr_0, clr_q, clr_l, isR_r, isR_n, isR_q, cat1_i, cat1_r, b0, b1, if_true, if_false, not_true, not_false_eq_true, reduceCtorEq, ite_self, and_true, true_and, and_false, false_and, or_true, true_or, or_false, false_or, cS_rd wa, mnw_at, cM_up wa, mup_nw, k_sT hG, k_T_6 hG, k_T_7 hG, k_T_8 hG, k_sZ hG, k_Z hG, k_sI hG, k_I hG, k_sO hG, k_O hG, e1, ht, hk, hq, qb]
theorem c31 {a t q : Nat} {f : Nat → Value} (hG : OKG G) (wa : G.W a = 0) (ht : t < G.A) (hq : q < 6) (hf : f = fun i => dfv (pty 6 i)) : ex (d + 1) 31 0 [some (.ref a), some (.ref (aA G t)), some (.int (nI q))] [] (cM G C (mnw m0 a f), cS G (mnw s0 a (6, 3)), n, k) = some (none, (cM G C (mnw m0 a (rmV G C t q)), cS G (mnw s0 a (6, 3)), n, k)) := by
  subst hf
  have qb : q < 2147483648 := by omega
  unfold rmV
  simp only [x31_0, x31_1, x31_4, x31_5, x31_5n, x31_5q, x31_6, x31_6n, x31_6q, x31_9, x31_10, x31_11, x31_14, x31_15, x31_15n, x31_15q, x31_16, x31_19, x31_20, x31_21, x31_24, x1_0, x1_1, x1_4, bnd_some, Option.toList_some, Option.toList_none, List.cons_append, List.nil_append, List.singleton_append, clr_i, clr_r, clr_n, clr_0, clr_q, clr_l, isR_r, isR_n, isR_q, cat1_i, cat1_r, b0, b1, if_true, if_false, not_true, not_false_eq_true, reduceCtorEq, ite_self, and_true, true_and, and_false, false_and, or_true, true_or, or_false, false_or, cS_rd wa, mnw_at, cM_up wa, mup_nw, k_sA hG, k_A_0 hG, k_sM hG, k_M hG, ht, hq, qb]
end CK
