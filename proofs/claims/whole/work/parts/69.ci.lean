/-! ===== the class: racks, actors, hires come ===== -/
/-- a rack, an actor, a hire more -/
def gX (G : Gh) (n len R A H : Nat) (sl ht : Nat → Nat) (hd : Nat → Int32) (f : Nat → Nat) : Gh := mkG (fun a => if n ≤ a ∧ a < n + len then f (a - n) else G.W a) (fun x => if x = f 0 then n else if x = f 1 then n + 1 else G.ad x) G.T R A H G.N G.kd sl G.vl ht hd G.ck G.cv
def fRk (R i : Nat) : Nat := if i = 0 then 500 + R else 800 + R
def fAc (A i : Nat) : Nat := if i = 0 then 2000 + A else 2100 + A
def fHi (H i : Nat) : Nat := if i = 0 then 2200 + H else 0
def slR (G : Gh) (a r : Nat) : Nat := if r = 200 + G.R then a else G.sl r
def gR (G : Gh) (n a : Nat) : Gh := gX G n 2 (G.R + 1) G.A G.H (slR G a) G.ht G.hd (fRk G.R)
def gA (G : Gh) (n : Nat) : Gh := gX G n 2 G.R (G.A + 1) G.H G.sl G.ht G.hd (fAc G.A)
def gH (G : Gh) (n t : Nat) (c : Int32) : Gh := gX G n 1 G.R G.A (G.H + 1) G.sl (fun i => if i = G.H then t else G.ht i) (fun i => if i = G.H then c else G.hd i) (fHi G.H)
theorem Cxx_fill {G : Gh} {C C' : St} {f b a : Nat} {v : Int32} (hf : f ≠ 99) (hd : ∀ k, b ≤ k → k < b + a → ¬ Lv G (dec f k).1) (h : Cxx G C C') : Cxx G C (filS C' f b a v) := by
  intro x j hx
  rw [← h x j hx]
  unfold filS
  rw [if_neg]
  intro z
  have q := dec_loc (x := x) (j := j) (by rw [z.1]; exact hf)
  rw [z.1] at q
  have := hd _ z.2.1 z.2.2
  rw [q] at this
  exact this hx
section CI0
variable {n : Nat} {G : Gh}
theorem Lv_R (hG : OKG G) (hR : G.R < 12) {a x : Nat} : Lv (gR G n a) x ↔ (Lv G x ∨ x = 500 + G.R ∨ x = 800 + G.R) := by
  have hT := okT hG
  have hA := okA hG
  have hH := okH hG
  have l : ∀ r, lvR (gR G n a) r ↔ (lvR G r ∨ r = 200 + G.R) := by
    intro r
    show ((r < G.T ∧ (G.kd r = 4 ∨ G.kd r = 5)) ∨ (200 ≤ r ∧ r < 200 + (G.R + 1))) ↔ (((r < G.T ∧ (G.kd r = 4 ∨ G.kd r = 5)) ∨ (200 ≤ r ∧ r < 200 + G.R)) ∨ r = 200 + G.R)
    omega
  have eT : (gR G n a).T = G.T := rfl
  have eA : (gR G n a).A = G.A := rfl
  have eH : (gR G n a).H = G.H := rfl
  have eN : (gR G n a).N = G.N := rfl
  have ek : (gR G n a).kd = G.kd := rfl
  unfold Lv
  rw [eT, eA, eH, eN, ek]
  constructor
  · rintro (h | h | h | h | h | h | h | h | h | h | h | h | h | h | h)
    · exact Or.inl (Or.inl h)
    · exact Or.inl (Or.inr (Or.inl h))
    · exact Or.inl (Or.inr (Or.inr (Or.inl h)))
    · exact Or.inl (Or.inr (Or.inr (Or.inr (Or.inl h))))
    · exact Or.inl (Or.inr (Or.inr (Or.inr (Or.inr (Or.inl h)))))
    · rcases (l _).mp h.2.2 with z | z
      · exact Or.inl (Or.inr (Or.inr (Or.inr (Or.inr (Or.inr (Or.inl ⟨h.1, h.2.1, z⟩))))))
      · exact Or.inr (Or.inl (by omega))
    · rcases (l _).mp h.2.2 with z | z
      · exact Or.inl (Or.inr (Or.inr (Or.inr (Or.inr (Or.inr (Or.inr (Or.inl ⟨h.1, h.2.1, z⟩)))))))
      · exact Or.inr (Or.inr (by omega))
    · exact Or.inl (Or.inr (Or.inr (Or.inr (Or.inr (Or.inr (Or.inr (Or.inr (Or.inl h))))))))
    · exact Or.inl (Or.inr (Or.inr (Or.inr (Or.inr (Or.inr (Or.inr (Or.inr (Or.inr (Or.inl h)))))))))
    · exact Or.inl (Or.inr (Or.inr (Or.inr (Or.inr (Or.inr (Or.inr (Or.inr (Or.inr (Or.inr (Or.inl h))))))))))
    · exact Or.inl (Or.inr (Or.inr (Or.inr (Or.inr (Or.inr (Or.inr (Or.inr (Or.inr (Or.inr (Or.inr (Or.inl h)))))))))))
    · exact Or.inl (Or.inr (Or.inr (Or.inr (Or.inr (Or.inr (Or.inr (Or.inr (Or.inr (Or.inr (Or.inr (Or.inr (Or.inl h))))))))))))
    · exact Or.inl (Or.inr (Or.inr (Or.inr (Or.inr (Or.inr (Or.inr (Or.inr (Or.inr (Or.inr (Or.inr (Or.inr (Or.inr (Or.inl h)))))))))))))
    · exact Or.inl (Or.inr (Or.inr (Or.inr (Or.inr (Or.inr (Or.inr (Or.inr (Or.inr (Or.inr (Or.inr (Or.inr (Or.inr (Or.inr (Or.inl h))))))))))))))
    · exact Or.inl (Or.inr (Or.inr (Or.inr (Or.inr (Or.inr (Or.inr (Or.inr (Or.inr (Or.inr (Or.inr (Or.inr (Or.inr (Or.inr (Or.inr (h)))))))))))))))
  · rintro ((h | h | h | h | h | h | h | h | h | h | h | h | h | h | h) | h | h)
    · exact (Or.inl h)
    · exact (Or.inr (Or.inl h))
    · exact (Or.inr (Or.inr (Or.inl h)))
    · exact (Or.inr (Or.inr (Or.inr (Or.inl h))))
    · exact (Or.inr (Or.inr (Or.inr (Or.inr (Or.inl h)))))
    · exact (Or.inr (Or.inr (Or.inr (Or.inr (Or.inr (Or.inl ⟨h.1, h.2.1, (l _).mpr (Or.inl h.2.2)⟩))))))
    · exact (Or.inr (Or.inr (Or.inr (Or.inr (Or.inr (Or.inr (Or.inl ⟨h.1, h.2.1, (l _).mpr (Or.inl h.2.2)⟩)))))))
    · exact (Or.inr (Or.inr (Or.inr (Or.inr (Or.inr (Or.inr (Or.inr (Or.inl h))))))))
    · exact (Or.inr (Or.inr (Or.inr (Or.inr (Or.inr (Or.inr (Or.inr (Or.inr (Or.inl h)))))))))
    · exact (Or.inr (Or.inr (Or.inr (Or.inr (Or.inr (Or.inr (Or.inr (Or.inr (Or.inr (Or.inl h))))))))))
    · exact (Or.inr (Or.inr (Or.inr (Or.inr (Or.inr (Or.inr (Or.inr (Or.inr (Or.inr (Or.inr (Or.inl h)))))))))))
    · exact (Or.inr (Or.inr (Or.inr (Or.inr (Or.inr (Or.inr (Or.inr (Or.inr (Or.inr (Or.inr (Or.inr (Or.inl h))))))))))))
    · exact (Or.inr (Or.inr (Or.inr (Or.inr (Or.inr (Or.inr (Or.inr (Or.inr (Or.inr (Or.inr (Or.inr (Or.inr (Or.inl h)))))))))))))
    · exact (Or.inr (Or.inr (Or.inr (Or.inr (Or.inr (Or.inr (Or.inr (Or.inr (Or.inr (Or.inr (Or.inr (Or.inr (Or.inr (Or.inl h))))))))))))))
    · exact (Or.inr (Or.inr (Or.inr (Or.inr (Or.inr (Or.inr (Or.inr (Or.inr (Or.inr (Or.inr (Or.inr (Or.inr (Or.inr (Or.inr (h)))))))))))))))
    · exact (Or.inr (Or.inr (Or.inr (Or.inr (Or.inr (Or.inl ⟨by omega, by omega, (l _).mpr (Or.inr (by omega))⟩))))))
    · exact (Or.inr (Or.inr (Or.inr (Or.inr (Or.inr (Or.inr (Or.inl ⟨by omega, by omega, (l _).mpr (Or.inr (by omega))⟩)))))))
theorem Lv_A (hG : OKG G) (hA : G.A < 40) {x : Nat} : Lv (gA G n) x ↔ (Lv G x ∨ x = 2000 + G.A ∨ x = 2100 + G.A) := by
  have l : ∀ r, lvR (gA G n) r ↔ lvR G r := fun r => Iff.rfl
  have eT : (gA G n).T = G.T := rfl
  have eA : (gA G n).A = G.A + 1 := rfl
  have eH : (gA G n).H = G.H := rfl
  have eN : (gA G n).N = G.N := rfl
  have ek : (gA G n).kd = G.kd := rfl
  unfold Lv
  rw [eT, eA, eH, eN, ek]
  constructor
  · rintro (h | h | h | h | h | h | h | h | h | h | h | h | h | h | h)
    · exact Or.inl (Or.inl h)
    · exact Or.inl (Or.inr (Or.inl h))
    · exact Or.inl (Or.inr (Or.inr (Or.inl h)))
    · exact Or.inl (Or.inr (Or.inr (Or.inr (Or.inl h))))
    · exact Or.inl (Or.inr (Or.inr (Or.inr (Or.inr (Or.inl h)))))
    · exact Or.inl (Or.inr (Or.inr (Or.inr (Or.inr (Or.inr (Or.inl h))))))
    · exact Or.inl (Or.inr (Or.inr (Or.inr (Or.inr (Or.inr (Or.inr (Or.inl h)))))))
    · exact Or.inl (Or.inr (Or.inr (Or.inr (Or.inr (Or.inr (Or.inr (Or.inr (Or.inl h))))))))
    · exact Or.inl (Or.inr (Or.inr (Or.inr (Or.inr (Or.inr (Or.inr (Or.inr (Or.inr (Or.inl h)))))))))
    · exact Or.inl (Or.inr (Or.inr (Or.inr (Or.inr (Or.inr (Or.inr (Or.inr (Or.inr (Or.inr (Or.inl h))))))))))
    · exact Or.inl (Or.inr (Or.inr (Or.inr (Or.inr (Or.inr (Or.inr (Or.inr (Or.inr (Or.inr (Or.inr (Or.inl h)))))))))))
    · by_cases z : x = 2000 + G.A
      · exact Or.inr (Or.inl z)
      · exact Or.inl (Or.inr (Or.inr (Or.inr (Or.inr (Or.inr (Or.inr (Or.inr (Or.inr (Or.inr (Or.inr (Or.inr (Or.inl ⟨h.1, by omega⟩))))))))))))
    · by_cases z : x = 2100 + G.A
      · exact Or.inr (Or.inr z)
      · exact Or.inl (Or.inr (Or.inr (Or.inr (Or.inr (Or.inr (Or.inr (Or.inr (Or.inr (Or.inr (Or.inr (Or.inr (Or.inr (Or.inl ⟨h.1, by omega⟩)))))))))))))
    · exact Or.inl (Or.inr (Or.inr (Or.inr (Or.inr (Or.inr (Or.inr (Or.inr (Or.inr (Or.inr (Or.inr (Or.inr (Or.inr (Or.inr (Or.inl h))))))))))))))
    · exact Or.inl (Or.inr (Or.inr (Or.inr (Or.inr (Or.inr (Or.inr (Or.inr (Or.inr (Or.inr (Or.inr (Or.inr (Or.inr (Or.inr (Or.inr (h)))))))))))))))
  · rintro ((h | h | h | h | h | h | h | h | h | h | h | h | h | h | h) | h | h)
    · exact (Or.inl h)
    · exact (Or.inr (Or.inl h))
    · exact (Or.inr (Or.inr (Or.inl h)))
    · exact (Or.inr (Or.inr (Or.inr (Or.inl h))))
    · exact (Or.inr (Or.inr (Or.inr (Or.inr (Or.inl h)))))
    · exact (Or.inr (Or.inr (Or.inr (Or.inr (Or.inr (Or.inl h))))))
    · exact (Or.inr (Or.inr (Or.inr (Or.inr (Or.inr (Or.inr (Or.inl h)))))))
    · exact (Or.inr (Or.inr (Or.inr (Or.inr (Or.inr (Or.inr (Or.inr (Or.inl h))))))))
    · exact (Or.inr (Or.inr (Or.inr (Or.inr (Or.inr (Or.inr (Or.inr (Or.inr (Or.inl h)))))))))
    · exact (Or.inr (Or.inr (Or.inr (Or.inr (Or.inr (Or.inr (Or.inr (Or.inr (Or.inr (Or.inl h))))))))))
    · exact (Or.inr (Or.inr (Or.inr (Or.inr (Or.inr (Or.inr (Or.inr (Or.inr (Or.inr (Or.inr (Or.inl h)))))))))))
    · exact (Or.inr (Or.inr (Or.inr (Or.inr (Or.inr (Or.inr (Or.inr (Or.inr (Or.inr (Or.inr (Or.inr (Or.inl ⟨h.1, by omega⟩))))))))))))
    · exact (Or.inr (Or.inr (Or.inr (Or.inr (Or.inr (Or.inr (Or.inr (Or.inr (Or.inr (Or.inr (Or.inr (Or.inr (Or.inl ⟨h.1, by omega⟩)))))))))))))
    · exact (Or.inr (Or.inr (Or.inr (Or.inr (Or.inr (Or.inr (Or.inr (Or.inr (Or.inr (Or.inr (Or.inr (Or.inr (Or.inr (Or.inl h))))))))))))))
    · exact (Or.inr (Or.inr (Or.inr (Or.inr (Or.inr (Or.inr (Or.inr (Or.inr (Or.inr (Or.inr (Or.inr (Or.inr (Or.inr (Or.inr (h)))))))))))))))
    · exact (Or.inr (Or.inr (Or.inr (Or.inr (Or.inr (Or.inr (Or.inr (Or.inr (Or.inr (Or.inr (Or.inr (Or.inl ⟨by omega, by omega⟩))))))))))))
    · exact (Or.inr (Or.inr (Or.inr (Or.inr (Or.inr (Or.inr (Or.inr (Or.inr (Or.inr (Or.inr (Or.inr (Or.inr (Or.inl ⟨by omega, by omega⟩)))))))))))))
theorem Lv_H (hG : OKG G) (hH : G.H < 300) {t x : Nat} {c : Int32} : Lv (gH G n t c) x ↔ (Lv G x ∨ x = 2200 + G.H) := by
  have l : ∀ r, lvR (gH G n t c) r ↔ lvR G r := fun r => Iff.rfl
  have eT : (gH G n t c).T = G.T := rfl
  have eA : (gH G n t c).A = G.A := rfl
  have eH : (gH G n t c).H = G.H + 1 := rfl
  have eN : (gH G n t c).N = G.N := rfl
  have ek : (gH G n t c).kd = G.kd := rfl
  unfold Lv
  rw [eT, eA, eH, eN, ek]
  constructor
  · rintro (h | h | h | h | h | h | h | h | h | h | h | h | h | h | h)
    · exact Or.inl (Or.inl h)
    · exact Or.inl (Or.inr (Or.inl h))
    · exact Or.inl (Or.inr (Or.inr (Or.inl h)))
    · exact Or.inl (Or.inr (Or.inr (Or.inr (Or.inl h))))
    · exact Or.inl (Or.inr (Or.inr (Or.inr (Or.inr (Or.inl h)))))
    · exact Or.inl (Or.inr (Or.inr (Or.inr (Or.inr (Or.inr (Or.inl h))))))
    · exact Or.inl (Or.inr (Or.inr (Or.inr (Or.inr (Or.inr (Or.inr (Or.inl h)))))))
    · exact Or.inl (Or.inr (Or.inr (Or.inr (Or.inr (Or.inr (Or.inr (Or.inr (Or.inl h))))))))
    · exact Or.inl (Or.inr (Or.inr (Or.inr (Or.inr (Or.inr (Or.inr (Or.inr (Or.inr (Or.inl h)))))))))
    · exact Or.inl (Or.inr (Or.inr (Or.inr (Or.inr (Or.inr (Or.inr (Or.inr (Or.inr (Or.inr (Or.inl h))))))))))
    · exact Or.inl (Or.inr (Or.inr (Or.inr (Or.inr (Or.inr (Or.inr (Or.inr (Or.inr (Or.inr (Or.inr (Or.inl h)))))))))))
    · exact Or.inl (Or.inr (Or.inr (Or.inr (Or.inr (Or.inr (Or.inr (Or.inr (Or.inr (Or.inr (Or.inr (Or.inr (Or.inl h))))))))))))
    · exact Or.inl (Or.inr (Or.inr (Or.inr (Or.inr (Or.inr (Or.inr (Or.inr (Or.inr (Or.inr (Or.inr (Or.inr (Or.inr (Or.inl h)))))))))))))
    · by_cases z : x = 2200 + G.H
      · exact Or.inr z
      · exact Or.inl (Or.inr (Or.inr (Or.inr (Or.inr (Or.inr (Or.inr (Or.inr (Or.inr (Or.inr (Or.inr (Or.inr (Or.inr (Or.inr (Or.inl ⟨h.1, by omega⟩))))))))))))))
    · exact Or.inl (Or.inr (Or.inr (Or.inr (Or.inr (Or.inr (Or.inr (Or.inr (Or.inr (Or.inr (Or.inr (Or.inr (Or.inr (Or.inr (Or.inr (h)))))))))))))))
  · rintro ((h | h | h | h | h | h | h | h | h | h | h | h | h | h | h) | h)
    · exact (Or.inl h)
    · exact (Or.inr (Or.inl h))
    · exact (Or.inr (Or.inr (Or.inl h)))
    · exact (Or.inr (Or.inr (Or.inr (Or.inl h))))
    · exact (Or.inr (Or.inr (Or.inr (Or.inr (Or.inl h)))))
    · exact (Or.inr (Or.inr (Or.inr (Or.inr (Or.inr (Or.inl h))))))
    · exact (Or.inr (Or.inr (Or.inr (Or.inr (Or.inr (Or.inr (Or.inl h)))))))
    · exact (Or.inr (Or.inr (Or.inr (Or.inr (Or.inr (Or.inr (Or.inr (Or.inl h))))))))
    · exact (Or.inr (Or.inr (Or.inr (Or.inr (Or.inr (Or.inr (Or.inr (Or.inr (Or.inl h)))))))))
    · exact (Or.inr (Or.inr (Or.inr (Or.inr (Or.inr (Or.inr (Or.inr (Or.inr (Or.inr (Or.inl h))))))))))
    · exact (Or.inr (Or.inr (Or.inr (Or.inr (Or.inr (Or.inr (Or.inr (Or.inr (Or.inr (Or.inr (Or.inl h)))))))))))
    · exact (Or.inr (Or.inr (Or.inr (Or.inr (Or.inr (Or.inr (Or.inr (Or.inr (Or.inr (Or.inr (Or.inr (Or.inl h))))))))))))
    · exact (Or.inr (Or.inr (Or.inr (Or.inr (Or.inr (Or.inr (Or.inr (Or.inr (Or.inr (Or.inr (Or.inr (Or.inr (Or.inl h)))))))))))))
    · exact (Or.inr (Or.inr (Or.inr (Or.inr (Or.inr (Or.inr (Or.inr (Or.inr (Or.inr (Or.inr (Or.inr (Or.inr (Or.inr (Or.inl ⟨h.1, by omega⟩))))))))))))))
    · exact (Or.inr (Or.inr (Or.inr (Or.inr (Or.inr (Or.inr (Or.inr (Or.inr (Or.inr (Or.inr (Or.inr (Or.inr (Or.inr (Or.inr (h)))))))))))))))
    · exact (Or.inr (Or.inr (Or.inr (Or.inr (Or.inr (Or.inr (Or.inr (Or.inr (Or.inr (Or.inr (Or.inr (Or.inr (Or.inr (Or.inl ⟨by omega, by omega⟩))))))))))))))
theorem fr_R (hG : OKG G) (hR : G.R < 12) : ¬ Lv G (500 + G.R) ∧ ¬ Lv G (800 + G.R) := by
  have hT := okT hG
  have hA := okA hG
  have hH := okH hG
  have l : ¬ lvR G (200 + G.R) := by unfold lvR; omega
  refine ⟨?_, ?_⟩
  all_goals intro h
  all_goals unfold Lv at h
  all_goals rcases h with h | h | h | h | h | h | h | h | h | h | h | h | h | h | h
  all_goals first
    | (exfalso; omega)
    | (have z := h.2.2; rw [show 500 + G.R - 300 = 200 + G.R by omega] at z; exact l z)
    | (have z := h.2.2; rw [show 800 + G.R - 600 = 200 + G.R by omega] at z; exact l z)
theorem fr_A (hG : OKG G) (hA : G.A < 40) : ¬ Lv G (2000 + G.A) ∧ ¬ Lv G (2100 + G.A) := by
  have hT := okT hG
  have hH := okH hG
  refine ⟨?_, ?_⟩ <;> unfold Lv <;> omega
theorem fr_H (hG : OKG G) (hH : G.H < 300) : ¬ Lv G (2200 + G.H) := by
  have hT := okT hG
  have hA := okA hG
  unfold Lv
  omega
theorem gX_ad2 {len R A H : Nat} {sl ht : Nat → Nat} {hd : Nat → Int32} {f : Nat → Nat} (f0 : ¬ Lv G (f 0)) (f1 : ¬ Lv G (f 1)) : ∀ x, Lv G x → (gX G n len R A H sl ht hd f).ad x = G.ad x := by
  intro x hx
  have e : (gX G n len R A H sl ht hd f).ad x = if x = f 0 then n else if x = f 1 then n + 1 else G.ad x := rfl
  have g0 : ¬ x = f 0 := fun z => f0 (z ▸ hx)
  have g1 : ¬ x = f 1 := fun z => f1 (z ▸ hx)
  rw [e, if_neg g0, if_neg g1]
theorem gR_all (hG : OKG G) (hR : G.R < 12) {a : Nat} (ha : a ≤ 40) (hn : ∀ a, G.W a ≠ 0 → a < n) : OKG (gR G n a) ∧ GE G (gR G n a) ∧ (∀ i, i < 2 → (gR G n a).ad (fRk G.R i) = n + i) ∧ (∀ x, Lv G x → (gR G n a).ad x = G.ad x) ∧ (∀ x, Lv (gR G n a) x → Lv G x ∨ ∃ i, i < 2 ∧ x = fRk G.R i) := by
  obtain ⟨z0, z1⟩ := fr_R hG hR
  have had2 : ∀ x, Lv G x → (gR G n a).ad x = G.ad x := gX_ad2 z0 z1
  have had : ∀ i, i < 2 → (gR G n a).ad (fRk G.R i) = n + i := by
    intro i hi
    have : i = 0 ∨ i = 1 := by omega
    rcases this with rfl | rfl
    · exact if_pos rfl
    · exact (if_neg (show ¬ 800 + G.R = 500 + G.R by omega)).trans (if_pos rfl)
  have h3 : ∀ x, Lv (gR G n a) x → Lv G x ∨ ∃ i, i < 2 ∧ x = fRk G.R i := by
    intro x hx
    rcases (Lv_R hG hR).mp hx with h | h | h
    · exact Or.inl h
    · exact Or.inr ⟨0, by omega, h⟩
    · exact Or.inr ⟨1, by omega, h⟩
  have hb := hG.2.2.1
  have hs : ∀ r, lvR (gR G n a) r → (gR G n a).sl r ≤ 40 := by
    intro r hr
    show slR G a r ≤ 40
    unfold slR
    split
    · exact ha
    · rename_i q
      refine hG.2.2.2.2.1 r ?_
      have hr' : (r < G.T ∧ (G.kd r = 4 ∨ G.kd r = 5)) ∨ (200 ≤ r ∧ r < 200 + (G.R + 1)) := hr
      unfold lvR
      omega
  refine ⟨OKG_new (f := fRk G.R) (len := 2) hG hn (fun a => rfl) had had2 ?_ (fun x hx => (Lv_R hG hR).mpr (Or.inl hx)) h3 ⟨hb.1, by show G.R + 1 ≤ 12; omega, hb.2.2.1, hb.2.2.2.1, hb.2.2.2.2⟩ hG.2.2.2.1 hs hG.2.2.2.2.2, ⟨fun y hy _ => had2 y hy, fun t ht => ⟨rfl, rfl⟩, ?_, fun i hi => ⟨rfl, rfl⟩⟩, had, had2, h3⟩
  · intro i hi
    have : i = 0 ∨ i = 1 := by omega
    rcases this with rfl | rfl
    · exact (Lv_R hG hR).mpr (Or.inr (Or.inl rfl))
    · exact (Lv_R hG hR).mpr (Or.inr (Or.inr rfl))
  · intro r hr
    show slR G a r = G.sl r
    unfold slR
    rw [if_neg (by unfold lvR at hr; omega)]
theorem gA_all (hG : OKG G) (hA : G.A < 40) (hn : ∀ a, G.W a ≠ 0 → a < n) : OKG (gA G n) ∧ GE G (gA G n) ∧ (∀ i, i < 2 → (gA G n).ad (fAc G.A i) = n + i) ∧ (∀ x, Lv G x → (gA G n).ad x = G.ad x) ∧ (∀ x, Lv (gA G n) x → Lv G x ∨ ∃ i, i < 2 ∧ x = fAc G.A i) := by
  obtain ⟨z0, z1⟩ := fr_A hG hA
  have had2 : ∀ x, Lv G x → (gA G n).ad x = G.ad x := gX_ad2 z0 z1
  have had : ∀ i, i < 2 → (gA G n).ad (fAc G.A i) = n + i := by
    intro i hi
    have : i = 0 ∨ i = 1 := by omega
    rcases this with rfl | rfl
    · exact if_pos rfl
    · exact (if_neg (show ¬ 2100 + G.A = 2000 + G.A by omega)).trans (if_pos rfl)
  have h3 : ∀ x, Lv (gA G n) x → Lv G x ∨ ∃ i, i < 2 ∧ x = fAc G.A i := by
    intro x hx
    rcases (Lv_A hG hA).mp hx with h | h | h
    · exact Or.inl h
    · exact Or.inr ⟨0, by omega, h⟩
    · exact Or.inr ⟨1, by omega, h⟩
  have hb := hG.2.2.1
  refine ⟨OKG_new (f := fAc G.A) (len := 2) hG hn (fun a => rfl) had had2 ?_ (fun x hx => (Lv_A hG hA).mpr (Or.inl hx)) h3 ⟨hb.1, hb.2.1, by show G.A + 1 ≤ 40; omega, hb.2.2.2.1, hb.2.2.2.2⟩ hG.2.2.2.1 hG.2.2.2.2.1 hG.2.2.2.2.2, ⟨fun y hy _ => had2 y hy, fun t ht => ⟨rfl, rfl⟩, fun r hr => rfl, fun i hi => ⟨rfl, rfl⟩⟩, had, had2, h3⟩
  intro i hi
  have : i = 0 ∨ i = 1 := by omega
  rcases this with rfl | rfl
  · exact (Lv_A hG hA).mpr (Or.inr (Or.inl rfl))
  · exact (Lv_A hG hA).mpr (Or.inr (Or.inr rfl))
theorem gH_all (hG : OKG G) (hH : G.H < 300) {t : Nat} {c : Int32} (hn : ∀ a, G.W a ≠ 0 → a < n) : OKG (gH G n t c) ∧ GE G (gH G n t c) ∧ (∀ i, i < 1 → (gH G n t c).ad (fHi G.H i) = n + i) ∧ (∀ x, Lv G x → (gH G n t c).ad x = G.ad x) ∧ (∀ x, Lv (gH G n t c) x → Lv G x ∨ ∃ i, i < 1 ∧ x = fHi G.H i) := by
  have z0 := fr_H hG hH
  have z1 : ¬ Lv G 0 := by unfold Lv; omega
  have had2 : ∀ x, Lv G x → (gH G n t c).ad x = G.ad x := gX_ad2 z0 z1
  have had : ∀ i, i < 1 → (gH G n t c).ad (fHi G.H i) = n + i := by
    intro i hi
    have : i = 0 := by omega
    rcases this with rfl
    exact if_pos rfl
  have h3 : ∀ x, Lv (gH G n t c) x → Lv G x ∨ ∃ i, i < 1 ∧ x = fHi G.H i := by
    intro x hx
    rcases (Lv_H hG hH).mp hx with h | h
    · exact Or.inl h
    · exact Or.inr ⟨0, by omega, h⟩
  have hb := hG.2.2.1
  refine ⟨OKG_new (f := fHi G.H) (len := 1) hG hn (fun a => rfl) had had2 ?_ (fun x hx => (Lv_H hG hH).mpr (Or.inl hx)) h3 ⟨hb.1, hb.2.1, hb.2.2.1, by show G.H + 1 ≤ 300; omega, hb.2.2.2.2⟩ hG.2.2.2.1 hG.2.2.2.2.1 hG.2.2.2.2.2, ⟨fun y hy _ => had2 y hy, fun t ht => ⟨rfl, rfl⟩, fun r hr => rfl, ?_⟩, had, had2, h3⟩
  · intro i hi
    have : i = 0 := by omega
    rcases this with rfl
    exact (Lv_H hG hH).mpr (Or.inr rfl)
  · intro i hi
    constructor
    · show (if i = G.H then t else G.ht i) = G.ht i
      rw [if_neg (by omega)]
    · show (if i = G.H then c else G.hd i) = G.hd i
      rw [if_neg (by omega)]
end CI0
section CI
variable {d n k : Nat} {G G' : Gh} {C C1 : St} {m0 m1 m2 : Mm} {s0 s1 s2 : Nat → Nat × Nat}
/-- the arrays of things, racks, actors, hires, changes keep what they hold but for one more -/
theorem arr_ok {n arr idx : Nat} (hG : OKG G) (ge : GE G G') (had2 : ∀ x, Lv G x → G'.ad x = G.ad x) (hT : G'.T = G.T ∨ (arr = 2 ∧ idx = G.T ∧ G'.T = G.T + 1 ∧ aT G' G.T = n)) (hR : G'.R = G.R ∨ (arr = 3 ∧ idx = G.R ∧ G'.R = G.R + 1 ∧ aH G' (200 + G.R) = n)) (hA : G'.A = G.A ∨ (arr = 4 ∧ idx = G.A ∧ G'.A = G.A + 1 ∧ aA G' G.A = n)) (hH : G'.H = G.H ∨ (arr = 5 ∧ idx = G.H ∧ G'.H = G.H + 1 ∧ aJ G' G.H = n)) (hN : G'.N = G.N) (hx : (arr = 2 → G'.T = G.T + 1) ∧ (arr = 3 → G'.R = G.R + 1) ∧ (arr = 4 → G'.A = G.A + 1) ∧ (arr = 5 → G'.H = G.H + 1)) (ha : 2 ≤ arr ∧ arr ≤ 5) : ∀ y, 2 ≤ y → y ≤ 6 → ∀ j v, cW0 G' y j v = if y = arr ∧ j = idx then .ref n else cW0 G y j v := by
  intro y y2 y6 j v
  have : y = 2 ∨ y = 3 ∨ y = 4 ∨ y = 5 ∨ y = 6 := by omega
  rcases this with rfl | rfl | rfl | rfl | rfl
  · show (if j < G'.T then Value.ref (aT G' j) else .null) = if 2 = arr ∧ j = idx then .ref n else (if j < G.T then Value.ref (aT G j) else .null)
    rcases hT with h | ⟨h1, h2, h3, h4⟩
    · have : ¬ 2 = arr := fun z => by have := hx.1 z.symm; omega
      rw [h, if_neg (show ¬ (2 = arr ∧ j = idx) from fun z => this z.1)]
      by_cases q2 : j < G.T
      · rw [if_pos q2, if_pos q2, ge_T hG ge q2]
      · rw [if_neg q2, if_neg q2]
    · by_cases q : j = idx
      · rw [if_pos (show 2 = arr ∧ j = idx from ⟨h1.symm, q⟩), if_pos (show j < G'.T by omega), q, h2, h4]
      · rw [if_neg (show ¬ (2 = arr ∧ j = idx) from fun z => q z.2)]
        by_cases q2 : j < G.T
        · rw [if_pos (show j < G'.T by omega), if_pos q2, ge_T hG ge q2]
        · rw [if_neg (show ¬ j < G'.T by omega), if_neg q2]
  · show (if j < G'.R then Value.ref (aH G' (200 + j)) else .null) = if 3 = arr ∧ j = idx then .ref n else (if j < G.R then Value.ref (aH G (200 + j)) else .null)
    rcases hR with h | ⟨h1, h2, h3, h4⟩
    · have : ¬ 3 = arr := fun z => by have := hx.2.1 z.symm; omega
      rw [h, if_neg (show ¬ (3 = arr ∧ j = idx) from fun z => this z.1)]
      by_cases q2 : j < G.R
      · rw [if_pos q2, if_pos q2, ge_H hG ge (Or.inr ⟨by omega, by omega⟩)]
      · rw [if_neg q2, if_neg q2]
    · by_cases q : j = idx
      · rw [if_pos (show 3 = arr ∧ j = idx from ⟨h1.symm, q⟩), if_pos (show j < G'.R by omega), q, h2, h4]
      · rw [if_neg (show ¬ (3 = arr ∧ j = idx) from fun z => q z.2)]
        by_cases q2 : j < G.R
        · rw [if_pos (show j < G'.R by omega), if_pos q2, ge_H hG ge (Or.inr ⟨by omega, by omega⟩)]
        · rw [if_neg (show ¬ j < G'.R by omega), if_neg q2]
  · show (if j < G'.A then Value.ref (aA G' j) else .null) = if 4 = arr ∧ j = idx then .ref n else (if j < G.A then Value.ref (aA G j) else .null)
    rcases hA with h | ⟨h1, h2, h3, h4⟩
    · have : ¬ 4 = arr := fun z => by have := hx.2.2.1 z.symm; omega
      rw [h, if_neg (show ¬ (4 = arr ∧ j = idx) from fun z => this z.1)]
      by_cases q2 : j < G.A
      · rw [if_pos q2, if_pos q2, ge_A hG ge q2]
      · rw [if_neg q2, if_neg q2]
    · by_cases q : j = idx
      · rw [if_pos (show 4 = arr ∧ j = idx from ⟨h1.symm, q⟩), if_pos (show j < G'.A by omega), q, h2, h4]
      · rw [if_neg (show ¬ (4 = arr ∧ j = idx) from fun z => q z.2)]
        by_cases q2 : j < G.A
        · rw [if_pos (show j < G'.A by omega), if_pos q2, ge_A hG ge q2]
        · rw [if_neg (show ¬ j < G'.A by omega), if_neg q2]
  · show (if j < G'.H then Value.ref (aJ G' j) else .null) = if 5 = arr ∧ j = idx then .ref n else (if j < G.H then Value.ref (aJ G j) else .null)
    rcases hH with h | ⟨h1, h2, h3, h4⟩
    · have : ¬ 5 = arr := fun z => by have := hx.2.2.2 z.symm; omega
      rw [h, if_neg (show ¬ (5 = arr ∧ j = idx) from fun z => this z.1)]
      by_cases q2 : j < G.H
      · rw [if_pos q2, if_pos q2, ge_J hG ge q2]
      · rw [if_neg q2, if_neg q2]
    · by_cases q : j = idx
      · rw [if_pos (show 5 = arr ∧ j = idx from ⟨h1.symm, q⟩), if_pos (show j < G'.H by omega), q, h2, h4]
      · rw [if_neg (show ¬ (5 = arr ∧ j = idx) from fun z => q z.2)]
        by_cases q2 : j < G.H
        · rw [if_pos (show j < G'.H by omega), if_pos q2, ge_J hG ge q2]
        · rw [if_neg (show ¬ j < G'.H by omega), if_neg q2]
  · show (if j < G'.N then Value.ref (aC G' j) else .null) = if 6 = arr ∧ j = idx then .ref n else (if j < G.N then Value.ref (aC G j) else .null)
    rw [hN, if_neg (show ¬ (6 = arr ∧ j = idx) by omega)]
    by_cases q : j < G.N
    · have b : j < 512 := by have := okN hG; omega
      rw [if_pos q, if_pos q, aC_e b, aC_e b, had2 _ (lvC q)]
    · rw [if_neg q, if_neg q]
end CI
