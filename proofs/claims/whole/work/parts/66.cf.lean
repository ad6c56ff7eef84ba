/-! ===== the class: wear, set, trunk, row are made ===== -/
section CF0
variable {G : Gh} {C : St} {m0 : Mm} {s0 : Nat → Nat × Nat} {n : Nat}
theorem cM_nw {f : Nat → Value} (h : G.W n = 0) : mnw (cM G C m0) n f = cM G C (mnw m0 n f) := by
  funext a j
  by_cases q : a = n
  · subst q
    rw [mnw_at]
    unfold cM
    rw [if_pos h, mnw_at]
  · rw [mnw_ne q]
    unfold cM
    rw [mnw_ne q]
theorem cS_nw {f : Nat × Nat} (h : G.W n = 0) : mnw (cS G s0) n f = cS G (mnw s0 n f) := by
  funext a
  by_cases q : a = n
  · subst q
    rw [mnw_at]
    unfold cS
    rw [if_pos h, mnw_at]
  · rw [mnw_ne q]
    unfold cS
    rw [mnw_ne q]
theorem cM_up {a j : Nat} {v : Value} (h : G.W a = 0) : mup (cM G C m0) a j v = cM G C (mup m0 a j v) := by
  funext b i
  unfold mup cM
  by_cases q : b = a
  · subst q
    simp only [h, if_true]
  · simp only [q, false_and, if_false]
theorem cM_rd {a j : Nat} (h : G.W a = 0) : cM G C m0 a j = m0 a j := by unfold cM; rw [if_pos h]
theorem cS_rd {a : Nat} (h : G.W a = 0) : cS G s0 a = s0 a := by unfold cS; rw [if_pos h]
theorem mup_nw {f : Nat → Value} {j : Nat} {v : Value} : mup (mnw m0 n f) n j v = mnw m0 n (fun i => if i = j then v else f i) := by
  funext a i
  unfold mup mnw
  by_cases q : a = n
  · subst q
    by_cases z : i = j
    · rw [if_pos ⟨rfl, z⟩, if_pos rfl]; simp only [z, if_true]
    · rw [if_neg (fun y => z y.2), if_pos rfl, if_pos rfl]; simp only [z, if_false]
  · rw [if_neg (fun z => q z.1), if_neg q, if_neg q]
theorem mup_nw2 {f g : Nat → Value} {a j : Nat} {v : Value} (h : ¬ a = n) : mup (mnw (mnw m0 n f) a g) n j v = mnw (mnw m0 n (fun i => if i = j then v else f i)) a g := by
  funext b i
  unfold mup mnw
  by_cases q : b = n
  · subst q
    have h' : ¬ b = a := fun z => h z.symm
    by_cases z : i = j
    · rw [if_pos ⟨rfl, z⟩, if_neg h', if_pos rfl]; simp only [z, if_true]
    · rw [if_neg (fun y => z y.2), if_neg h', if_pos rfl, if_neg h', if_pos rfl]; simp only [z, if_false]
  · rw [if_neg (fun z => q z.1)]
    by_cases q2 : b = a
    · rw [if_pos q2, if_pos q2]
    · rw [if_neg q2, if_neg q2, if_neg q, if_neg q]
theorem mup_nw3 {f g e : Nat → Value} {a b j : Nat} {v : Value} (h : ¬ a = n) (h2 : ¬ b = n) : mup (mnw (mnw (mnw m0 n f) a g) b e) n j v = mnw (mnw (mnw m0 n (fun i => if i = j then v else f i)) a g) b e := by
  funext c i
  by_cases q : c = b
  · subst q
    have : ¬ c = n := h2
    unfold mup mnw
    rw [if_neg (fun z => this z.1), if_pos rfl, if_pos rfl]
  · have := congrFun (congrFun (mup_nw2 (m0 := m0) (f := f) (g := g) (j := j) (v := v) h) c) i
    rw [mnw_ne q, ← this]
    unfold mup
    rw [mnw_ne q]
theorem mup_nw4 {f g e l : Nat → Value} {a b c j : Nat} {v : Value} (h : ¬ a = n) (h2 : ¬ b = n) (h3 : ¬ c = n) : mup (mnw (mnw (mnw (mnw m0 n f) a g) b e) c l) n j v = mnw (mnw (mnw (mnw m0 n (fun i => if i = j then v else f i)) a g) b e) c l := by
  funext x i
  by_cases q : x = c
  · subst q
    have : ¬ x = n := h3
    unfold mup mnw
    rw [if_neg (fun z => this z.1), if_pos rfl, if_pos rfl]
  · have := congrFun (congrFun (mup_nw3 (m0 := m0) (f := f) (g := g) (e := e) (j := j) (v := v) h h2) x) i
    rw [mnw_ne q, ← this]
    unfold mup
    rw [mnw_ne q]
end CF0
/-- a thing more: its kind, slots, values, the codes of what is made -/
def gT (G : Gh) (n len kd sl vl : Nat) (f : Nat → Nat) : Gh := mkG (fun a => if n ≤ a ∧ a < n + len then f (a - n) else G.W a) (fun x => if x = f 0 then n else if x = f 1 then n + 1 else if x = f 2 then n + 2 else if x = f 3 then n + 3 else G.ad x) (G.T + 1) G.R G.A G.H G.N (fun t => if t = G.T then kd else G.kd t) (fun r => if r = G.T then sl else G.sl r) (fun t => if t = G.T then vl else G.vl t) G.ht G.hd G.ck G.cv
def fGm (T i : Nat) : Nat := if i = 0 then 100 + T else if i = 1 then 1000 + T else if i = 2 then 1200 + T else 1400 + T
def fBx (T i : Nat) : Nat := if i = 0 then 100 + T else if i = 1 then 300 + T else if i = 2 then 600 + T else 0
def fRw (T i : Nat) : Nat := if i = 0 then 100 + T else if i = 1 then 1600 + T else 0
section CF
variable {d n k : Nat} {G : Gh} {C C' : St} {m0 : Mm} {s0 : Nat → Nat × Nat} {len kd sl vl : Nat} {f : Nat → Nat}
theorem Lv_old (hG : OKG G) (hT : G.T < 200) {x : Nat} (n1 : x ≠ 100 + G.T) (n3 : x ≠ 300 + G.T) (n6 : x ≠ 600 + G.T) (n10 : x ≠ 1000 + G.T) (n12 : x ≠ 1200 + G.T) (n14 : x ≠ 1400 + G.T) (n16 : x ≠ 1600 + G.T) : Lv (gT G n len kd sl vl f) x ↔ Lv G x := by
  have hA := okA hG
  have hH := okH hG
  have hR := okR hG
  have e3 : 300 ≤ x → (lvR (gT G n len kd sl vl f) (x - 300) ↔ lvR G (x - 300)) := fun h => by
    unfold lvR gT
    rw [mk_T, mk_kd, mk_R, if_neg (show ¬ x - 300 = G.T by omega)]
    omega
  have e6 : 600 ≤ x → (lvR (gT G n len kd sl vl f) (x - 600) ↔ lvR G (x - 600)) := fun h => by
    unfold lvR gT
    rw [mk_T, mk_kd, mk_R, if_neg (show ¬ x - 600 = G.T by omega)]
    omega
  have k10 : 1000 ≤ x → (gT G n len kd sl vl f).kd (x - 1000) = G.kd (x - 1000) := fun h => by
    unfold gT
    rw [mk_kd, if_neg (show ¬ x - 1000 = G.T by omega)]
  have k12 : 1200 ≤ x → (gT G n len kd sl vl f).kd (x - 1200) = G.kd (x - 1200) := fun h => by
    unfold gT
    rw [mk_kd, if_neg (show ¬ x - 1200 = G.T by omega)]
  have k14 : 1400 ≤ x → (gT G n len kd sl vl f).kd (x - 1400) = G.kd (x - 1400) := fun h => by
    unfold gT
    rw [mk_kd, if_neg (show ¬ x - 1400 = G.T by omega)]
  have k16 : 1600 ≤ x → (gT G n len kd sl vl f).kd (x - 1600) = G.kd (x - 1600) := fun h => by
    unfold gT
    rw [mk_kd, if_neg (show ¬ x - 1600 = G.T by omega)]
  have eT : (gT G n len kd sl vl f).T = G.T + 1 := rfl
  have eA : (gT G n len kd sl vl f).A = G.A := rfl
  have eH : (gT G n len kd sl vl f).H = G.H := rfl
  have eN : (gT G n len kd sl vl f).N = G.N := rfl
  unfold Lv
  rw [eT, eA, eH, eN]
  constructor
  · rintro (h | h | h | h | h | h | h | h | h | h | h | h | h | h | h)
    · exact Or.inl h
    · exact Or.inr (Or.inl h)
    · exact Or.inr (Or.inr (Or.inl h))
    · exact Or.inr (Or.inr (Or.inr (Or.inl h)))
    · exact Or.inr (Or.inr (Or.inr (Or.inr (Or.inl ⟨h.1, by omega⟩))))
    · exact Or.inr (Or.inr (Or.inr (Or.inr (Or.inr (Or.inl ⟨h.1, h.2.1, (e3 h.1).mp h.2.2⟩)))))
    · exact Or.inr (Or.inr (Or.inr (Or.inr (Or.inr (Or.inr (Or.inl ⟨h.1, h.2.1, (e6 h.1).mp h.2.2⟩))))))
    · exact Or.inr (Or.inr (Or.inr (Or.inr (Or.inr (Or.inr (Or.inr (Or.inl ⟨h.1, by omega, by rw [← k10 h.1]; exact h.2.2⟩)))))))
    · exact Or.inr (Or.inr (Or.inr (Or.inr (Or.inr (Or.inr (Or.inr (Or.inr (Or.inl ⟨h.1, by omega, by rw [← k12 h.1]; exact h.2.2⟩))))))))
    · exact Or.inr (Or.inr (Or.inr (Or.inr (Or.inr (Or.inr (Or.inr (Or.inr (Or.inr (Or.inl ⟨h.1, by omega, by rw [← k14 h.1]; exact h.2.2⟩)))))))))
    · exact Or.inr (Or.inr (Or.inr (Or.inr (Or.inr (Or.inr (Or.inr (Or.inr (Or.inr (Or.inr (Or.inl ⟨h.1, by omega, by rw [← k16 h.1]; exact h.2.2⟩))))))))))
    · exact Or.inr (Or.inr (Or.inr (Or.inr (Or.inr (Or.inr (Or.inr (Or.inr (Or.inr (Or.inr (Or.inr (Or.inl h)))))))))))
    · exact Or.inr (Or.inr (Or.inr (Or.inr (Or.inr (Or.inr (Or.inr (Or.inr (Or.inr (Or.inr (Or.inr (Or.inr (Or.inl h))))))))))))
    · exact Or.inr (Or.inr (Or.inr (Or.inr (Or.inr (Or.inr (Or.inr (Or.inr (Or.inr (Or.inr (Or.inr (Or.inr (Or.inr (Or.inl h)))))))))))))
    · exact Or.inr (Or.inr (Or.inr (Or.inr (Or.inr (Or.inr (Or.inr (Or.inr (Or.inr (Or.inr (Or.inr (Or.inr (Or.inr (Or.inr h)))))))))))))
  · rintro (h | h | h | h | h | h | h | h | h | h | h | h | h | h | h)
    · exact Or.inl h
    · exact Or.inr (Or.inl h)
    · exact Or.inr (Or.inr (Or.inl h))
    · exact Or.inr (Or.inr (Or.inr (Or.inl h)))
    · exact Or.inr (Or.inr (Or.inr (Or.inr (Or.inl ⟨h.1, by omega⟩))))
    · exact Or.inr (Or.inr (Or.inr (Or.inr (Or.inr (Or.inl ⟨h.1, h.2.1, (e3 h.1).mpr h.2.2⟩)))))
    · exact Or.inr (Or.inr (Or.inr (Or.inr (Or.inr (Or.inr (Or.inl ⟨h.1, h.2.1, (e6 h.1).mpr h.2.2⟩))))))
    · exact Or.inr (Or.inr (Or.inr (Or.inr (Or.inr (Or.inr (Or.inr (Or.inl ⟨h.1, by omega, by rw [k10 h.1]; exact h.2.2⟩)))))))
    · exact Or.inr (Or.inr (Or.inr (Or.inr (Or.inr (Or.inr (Or.inr (Or.inr (Or.inl ⟨h.1, by omega, by rw [k12 h.1]; exact h.2.2⟩))))))))
    · exact Or.inr (Or.inr (Or.inr (Or.inr (Or.inr (Or.inr (Or.inr (Or.inr (Or.inr (Or.inl ⟨h.1, by omega, by rw [k14 h.1]; exact h.2.2⟩)))))))))
    · exact Or.inr (Or.inr (Or.inr (Or.inr (Or.inr (Or.inr (Or.inr (Or.inr (Or.inr (Or.inr (Or.inl ⟨h.1, by omega, by rw [k16 h.1]; exact h.2.2⟩))))))))))
    · exact Or.inr (Or.inr (Or.inr (Or.inr (Or.inr (Or.inr (Or.inr (Or.inr (Or.inr (Or.inr (Or.inr (Or.inl h)))))))))))
    · exact Or.inr (Or.inr (Or.inr (Or.inr (Or.inr (Or.inr (Or.inr (Or.inr (Or.inr (Or.inr (Or.inr (Or.inr (Or.inl h))))))))))))
    · exact Or.inr (Or.inr (Or.inr (Or.inr (Or.inr (Or.inr (Or.inr (Or.inr (Or.inr (Or.inr (Or.inr (Or.inr (Or.inr (Or.inl h)))))))))))))
    · exact Or.inr (Or.inr (Or.inr (Or.inr (Or.inr (Or.inr (Or.inr (Or.inr (Or.inr (Or.inr (Or.inr (Or.inr (Or.inr (Or.inr h)))))))))))))
/-- the codes at which a new thing's parts could be are free -/
theorem Lv_free (hG : OKG G) (hT : G.T < 200) : ¬ Lv G (100 + G.T) ∧ ¬ Lv G (300 + G.T) ∧ ¬ Lv G (600 + G.T) ∧ ¬ Lv G (1000 + G.T) ∧ ¬ Lv G (1200 + G.T) ∧ ¬ Lv G (1400 + G.T) ∧ ¬ Lv G (1600 + G.T) := by
  have hA := okA hG
  have hH := okH hG
  have hR := okR hG
  have l : ¬ lvR G G.T := by unfold lvR; omega
  refine ⟨?_, ?_, ?_, ?_, ?_, ?_, ?_⟩
  all_goals intro h
  all_goals unfold Lv at h
  all_goals rcases h with h | h | h | h | h | h | h | h | h | h | h | h | h | h | h
  all_goals first
    | (exfalso; omega)
    | (have z := h.2.2; rw [Nat.add_sub_cancel_left] at z; exact l z)
/-- what holds of the codes of what is made -/
def Fm (G : Gh) (len kd sl vl : Nat) (f : Nat → Nat) : Prop := (kd ≤ 3 ∧ len = 4 ∧ f = fGm G.T ∧ vl = 0 ∧ sl = 0) ∨ ((kd = 4 ∨ kd = 5) ∧ len = 3 ∧ f = fBx G.T ∧ sl ≤ 40 ∧ vl = 0) ∨ (6 ≤ kd ∧ kd ≤ 8 ∧ len = 2 ∧ f = fRw G.T ∧ vl ≤ 40 ∧ sl = 0)
theorem gT_lv (hG : OKG G) (hT : G.T < 200) (fm : Fm G len kd sl vl f) : (∀ i, i < len → Lv (gT G n len kd sl vl f) (f i)) ∧ (∀ x, Lv (gT G n len kd sl vl f) x → Lv G x ∨ ∃ i, i < len ∧ x = f i) ∧ (∀ i, i < 4 → ¬ Lv G (f i)) ∧ (∀ i, i < len → (gT G n len kd sl vl f).ad (f i) = n + i) := by
  have hA := okA hG
  have hH := okH hG
  have hR := okR hG
  have eT : (gT G n len kd sl vl f).T = G.T + 1 := rfl
  have eR : (gT G n len kd sl vl f).R = G.R := rfl
  have ek : (gT G n len kd sl vl f).kd G.T = kd := by unfold gT; rw [mk_kd, if_pos rfl]
  have eA : (gT G n len kd sl vl f).A = G.A := rfl
  have eH : (gT G n len kd sl vl f).H = G.H := rfl
  have ead : ∀ x, (gT G n len kd sl vl f).ad x = if x = f 0 then n else if x = f 1 then n + 1 else if x = f 2 then n + 2 else if x = f 3 then n + 3 else G.ad x := fun x => rfl
  obtain ⟨z1, z3, z6, z10, z12, z14, z16⟩ := Lv_free hG hT
  have z0 : ¬ Lv G 0 := by unfold Lv; omega
  have l100 : Lv (gT G n len kd sl vl f) (100 + G.T) := lvT (by rw [eT]; omega)
  have fr : ∀ x, x = 300 + G.T ∨ x = 600 + G.T ∨ x = 1000 + G.T ∨ x = 1200 + G.T ∨ x = 1400 + G.T ∨ x = 1600 + G.T → Lv (gT G n len kd sl vl f) x → (x = 300 + G.T ∧ (kd = 4 ∨ kd = 5)) ∨ (x = 600 + G.T ∧ (kd = 4 ∨ kd = 5)) ∨ (x = 1000 + G.T ∧ kd ≤ 3) ∨ (x = 1200 + G.T ∧ kd ≤ 3) ∨ (x = 1400 + G.T ∧ kd ≤ 3) ∨ (x = 1600 + G.T ∧ 6 ≤ kd) := by
    intro x hx h
    have l3 : lvR (gT G n len kd sl vl f) G.T → kd = 4 ∨ kd = 5 := by
      unfold lvR
      rw [ek, eT, eR]
      omega
    unfold Lv at h
    rw [eT, eA, eH] at h
    rcases h with h | h | h | h | h | h | h | h | h | h | h | h | h | h | h
    · omega
    · omega
    · omega
    · omega
    · omega
    · rw [show x - 300 = G.T by omega] at h
      have := l3 h.2.2
      omega
    · rw [show x - 600 = G.T by omega] at h
      have := l3 h.2.2
      omega
    · rw [show x - 1000 = G.T by omega, ek] at h
      omega
    · rw [show x - 1200 = G.T by omega, ek] at h
      omega
    · rw [show x - 1400 = G.T by omega, ek] at h
      omega
    · rw [show x - 1600 = G.T by omega, ek] at h
      omega
    · omega
    · omega
    · omega
    · omega
  rcases fm with ⟨hk, hl, hf, -, -⟩ | ⟨hk, hl, hf, -⟩ | ⟨hk, hk8, hl, hf, -⟩
  · subst hl
    refine ⟨?_, ?_, ?_, ?_⟩
    · intro i hi
      have : i = 0 ∨ i = 1 ∨ i = 2 ∨ i = 3 := by omega
      rcases this with rfl | rfl | rfl | rfl
      · rw [hf] at l100 ⊢; exact l100
      · rw [hf] at ek ⊢
        exact lvZ (t := G.T) (by show G.T < G.T + 1; omega) (by rw [ek]; exact hk)
      · rw [hf] at ek ⊢
        exact lvI (t := G.T) (by show G.T < G.T + 1; omega) (by rw [ek]; exact hk)
      · rw [hf] at ek ⊢
        exact lvO (t := G.T) (by show G.T < G.T + 1; omega) (by rw [ek]; exact hk)
    · intro x hx
      by_cases q : x = 100 + G.T
      · exact Or.inr ⟨0, by omega, by rw [hf]; exact q⟩
      · by_cases q2 : x = 300 + G.T ∨ x = 600 + G.T ∨ x = 1000 + G.T ∨ x = 1200 + G.T ∨ x = 1400 + G.T ∨ x = 1600 + G.T
        · rcases fr x q2 hx with h | h | h | h | h | h
          · omega
          · omega
          · exact Or.inr ⟨1, by omega, by rw [hf]; exact h.1⟩
          · exact Or.inr ⟨2, by omega, by rw [hf]; exact h.1⟩
          · exact Or.inr ⟨3, by omega, by rw [hf]; exact h.1⟩
          · omega
        · exact Or.inl ((Lv_old hG hT q (by omega) (by omega) (by omega) (by omega) (by omega) (by omega)).mp hx)
    · intro i hi
      have : i = 0 ∨ i = 1 ∨ i = 2 ∨ i = 3 := by omega
      rcases this with rfl | rfl | rfl | rfl <;> rw [hf]
      · exact z1
      · exact z10
      · exact z12
      · exact z14
    · intro i hi
      rw [ead, hf]
      have : i = 0 ∨ i = 1 ∨ i = 2 ∨ i = 3 := by omega
      rcases this with rfl | rfl | rfl | rfl
      · exact if_pos rfl
      · exact (if_neg (show ¬ 1000 + G.T = 100 + G.T by omega)).trans (if_pos rfl)
      · exact (if_neg (show ¬ 1200 + G.T = 100 + G.T by omega)).trans ((if_neg (show ¬ 1200 + G.T = 1000 + G.T by omega)).trans (if_pos rfl))
      · exact (if_neg (show ¬ 1400 + G.T = 100 + G.T by omega)).trans ((if_neg (show ¬ 1400 + G.T = 1000 + G.T by omega)).trans ((if_neg (show ¬ 1400 + G.T = 1200 + G.T by omega)).trans (if_pos rfl)))
  · subst hl
    refine ⟨?_, ?_, ?_, ?_⟩
    · intro i hi
      have lr : lvR (gT G n 3 kd sl vl f) G.T := Or.inl ⟨by show G.T < G.T + 1; omega, by rw [ek]; exact hk⟩
      have : i = 0 ∨ i = 1 ∨ i = 2 := by omega
      rcases this with rfl | rfl | rfl
      · rw [hf] at l100 ⊢; exact l100
      · rw [hf] at lr ⊢
        show Lv _ (300 + G.T)
        unfold Lv
        rw [show 300 + G.T - 300 = G.T by omega]
        exact Or.inr (Or.inr (Or.inr (Or.inr (Or.inr (Or.inl ⟨by omega, by omega, lr⟩)))))
      · rw [hf] at lr ⊢
        show Lv _ (600 + G.T)
        unfold Lv
        rw [show 600 + G.T - 600 = G.T by omega]
        exact Or.inr (Or.inr (Or.inr (Or.inr (Or.inr (Or.inr (Or.inl ⟨by omega, by omega, lr⟩))))))
    · intro x hx
      by_cases q : x = 100 + G.T
      · exact Or.inr ⟨0, by omega, by rw [hf]; exact q⟩
      · by_cases q2 : x = 300 + G.T ∨ x = 600 + G.T ∨ x = 1000 + G.T ∨ x = 1200 + G.T ∨ x = 1400 + G.T ∨ x = 1600 + G.T
        · rcases fr x q2 hx with h | h | h | h | h | h
          · exact Or.inr ⟨1, by omega, by rw [hf]; exact h.1⟩
          · exact Or.inr ⟨2, by omega, by rw [hf]; exact h.1⟩
          · omega
          · omega
          · omega
          · omega
        · exact Or.inl ((Lv_old hG hT q (by omega) (by omega) (by omega) (by omega) (by omega) (by omega)).mp hx)
    · intro i hi
      have : i = 0 ∨ i = 1 ∨ i = 2 ∨ i = 3 := by omega
      rcases this with rfl | rfl | rfl | rfl <;> rw [hf]
      · exact z1
      · exact z3
      · exact z6
      · exact z0
    · intro i hi
      rw [ead, hf]
      have : i = 0 ∨ i = 1 ∨ i = 2 := by omega
      rcases this with rfl | rfl | rfl
      · exact if_pos rfl
      · exact (if_neg (show ¬ 300 + G.T = 100 + G.T by omega)).trans (if_pos rfl)
      · exact (if_neg (show ¬ 600 + G.T = 100 + G.T by omega)).trans ((if_neg (show ¬ 600 + G.T = 300 + G.T by omega)).trans (if_pos rfl))
  · subst hl
    refine ⟨?_, ?_, ?_, ?_⟩
    · intro i hi
      have : i = 0 ∨ i = 1 := by omega
      rcases this with rfl | rfl
      · rw [hf] at l100 ⊢; exact l100
      · rw [hf] at ek ⊢
        exact lvV (t := G.T) (by show G.T < G.T + 1; omega) (by rw [ek]; exact hk)
    · intro x hx
      by_cases q : x = 100 + G.T
      · exact Or.inr ⟨0, by omega, by rw [hf]; exact q⟩
      · by_cases q2 : x = 300 + G.T ∨ x = 600 + G.T ∨ x = 1000 + G.T ∨ x = 1200 + G.T ∨ x = 1400 + G.T ∨ x = 1600 + G.T
        · rcases fr x q2 hx with h | h | h | h | h | h
          · omega
          · omega
          · omega
          · omega
          · omega
          · exact Or.inr ⟨1, by omega, by rw [hf]; exact h.1⟩
        · exact Or.inl ((Lv_old hG hT q (by omega) (by omega) (by omega) (by omega) (by omega) (by omega)).mp hx)
    · intro i hi
      have : i = 0 ∨ i = 1 ∨ i = 2 ∨ i = 3 := by omega
      rcases this with rfl | rfl | rfl | rfl <;> rw [hf]
      · exact z1
      · exact z16
      · exact z0
      · exact z0
    · intro i hi
      rw [ead, hf]
      have : i = 0 ∨ i = 1 := by omega
      rcases this with rfl | rfl
      · exact if_pos rfl
      · exact (if_neg (show ¬ 1600 + G.T = 100 + G.T by omega)).trans (if_pos rfl)
theorem gT_ad2 (fr : ∀ i, i < 4 → ¬ Lv G (f i)) : ∀ x, Lv G x → (gT G n len kd sl vl f).ad x = G.ad x := by
  intro x hx
  have e : (gT G n len kd sl vl f).ad x = if x = f 0 then n else if x = f 1 then n + 1 else if x = f 2 then n + 2 else if x = f 3 then n + 3 else G.ad x := rfl
  have g : ∀ i, i < 4 → ¬ x = f i := fun i hi z => fr i hi (z ▸ hx)
  rw [e, if_neg (g 0 (by omega)), if_neg (g 1 (by omega)), if_neg (g 2 (by omega)), if_neg (g 3 (by omega))]
theorem gT_GE (fr : ∀ i, i < 4 → ¬ Lv G (f i)) (hR : G.R ≤ 12) (hT : G.T < 200) : GE G (gT G n len kd sl vl f) := by
  refine ⟨fun y hy _ => gT_ad2 fr y hy, ?_, ?_, fun i hi => ⟨rfl, rfl⟩⟩
  · intro t ht
    unfold gT
    rw [mk_kd, mk_vl, if_neg (by omega), if_neg (by omega)]
    exact ⟨rfl, rfl⟩
  · intro r hr
    unfold gT
    rw [mk_sl, if_neg (by unfold lvR at hr; omega)]
theorem gT_ok (hG : OKG G) (hT : G.T < 200) (fm : Fm G len kd sl vl f) (hn : ∀ a, G.W a ≠ 0 → a < n) : OKG (gT G n len kd sl vl f) := by
  obtain ⟨h1, h3, fr, had⟩ := gT_lv (n := n) hG hT fm
  have hb := hG.2.2.1
  have k8 : kd ≤ 8 := by unfold Fm at fm; omega
  have s40 : sl ≤ 40 := by unfold Fm at fm; omega
  have v40 : vl ≤ 40 := by unfold Fm at fm; omega
  refine OKG_new (f := f) (len := len) hG hn (fun a => rfl) had (gT_ad2 fr) h1 ?_ h3 ⟨by show G.T + 1 ≤ 200; omega, hb.2.1, hb.2.2.1, hb.2.2.2.1, hb.2.2.2.2⟩ ?_ ?_ ?_
  · intro x hx
    obtain ⟨z1, z3, z6, z10, z12, z14, z16⟩ := Lv_free hG hT
    exact (Lv_old hG hT (fun z => z1 (z ▸ hx)) (fun z => z3 (z ▸ hx)) (fun z => z6 (z ▸ hx)) (fun z => z10 (z ▸ hx)) (fun z => z12 (z ▸ hx)) (fun z => z14 (z ▸ hx)) (fun z => z16 (z ▸ hx))).mpr hx
  · intro t ht
    have ht' : t < G.T + 1 := ht
    unfold gT
    rw [mk_kd]
    split
    · exact k8
    · exact hG.2.2.2.1 t (by omega)
  · intro r hr
    unfold gT
    rw [mk_sl]
    split
    · exact s40
    · rename_i q
      refine hG.2.2.2.2.1 r ?_
      unfold lvR gT at hr
      rw [mk_T, mk_R, mk_kd, if_neg q] at hr
      unfold lvR
      omega
  · intro t ht
    have ht' : t < G.T + 1 := ht
    unfold gT
    rw [mk_vl]
    split
    · exact v40
    · exact hG.2.2.2.2.2 t (by omega)
end CF
