/-! ===== how deep trunks stand: class and reference alike ===== -/
/-- what stands in what: ranks; boxes in which things are; what is in a slot knows it -/
def Rk (S : St) (T : Nat) (ρ : Nat → Nat) : Prop := ∀ u, u < T → (par S u = none → ρ u = 0) ∧ (∀ v, par S u = some v → v < T ∧ (S 2 v = nI 4 ∨ S 2 v = nI 5) ∧ ρ u = ρ v + 1 ∧ (S 2 v = nI 4 → ¬ nI 3 < S 2 u)) ∧ (S 2 u = nI 5 → ρ u ≤ 5) ∧ (S 2 u = nI 4 → ρ u ≤ 6) ∧ ρ u ≤ 7
theorem ite_ab {p q : Prop} [Decidable p] [Decidable q] {x y : Nat} (h : p ↔ q) : (if p then x else y) = if q then x else y := by
  by_cases hp : p
  · rw [if_pos hp, if_pos (h.mp hp)]
  · rw [if_neg hp, if_neg (fun w => hp (h.mpr w))]
theorem thr_f {S : St} {t : Nat} : ∀ f u, thr S f t u = false → upW S f t u = up0 S f u := by
  intro f
  induction f with
  | zero => intro u _; rfl
  | succ f ih =>
    intro u h
    unfold thr at h
    rw [Bool.or_eq_false_iff, decide_eq_false_iff_not] at h
    unfold upW up0
    rw [if_neg h.1]
    have h2 := h.2
    cases hp : par S u with
    | none => rfl
    | some v =>
      rw [hp] at h2
      simp only [] at h2 ⊢
      rw [ih v h2]
theorem thr_t {S : St} {t : Nat} : ∀ f u, thr S f t u = true → 100 ≤ upW S f t u := by
  intro f
  induction f with
  | zero => intro u h; cases h
  | succ f ih =>
    intro u h
    unfold thr at h
    rw [Bool.or_eq_true, decide_eq_true_eq] at h
    unfold upW
    by_cases q : u = t
    · rw [if_pos q]; omega
    · have h2 := h.resolve_left q
      cases hp : par S u with
      | none => rw [hp] at h2; cases h2
      | some v =>
        rw [hp] at h2
        simp only [] at h2 ⊢
        have := ih v h2
        omega
theorem tdM_at {g : Nat → Nat} {C : St} {t : Nat} : ∀ n s x, s < n → thI C t s = some x → g x ≤ tdM g C t n := by
  intro n
  induction n with
  | zero => intro s x h; omega
  | succ n ih =>
    intro s x hs hx
    unfold tdM
    by_cases e : s = n
    · subst e
      rw [hx]
      simp only []
      omega
    · have := ih s x (by omega) hx
      omega
theorem tdM_hit {g : Nat → Nat} {C : St} {t : Nat} : ∀ n, 0 < tdM g C t n → ∃ s x, s < n ∧ thI C t s = some x ∧ g x = tdM g C t n := by
  intro n
  induction n with
  | zero => intro h; exact absurd h (by unfold tdM; omega)
  | succ n ih =>
    intro h
    unfold tdM at h ⊢
    cases hx : thI C t n with
    | none =>
      rw [hx] at h
      simp only [Nat.max_zero] at h ⊢
      obtain ⟨s, x, h1, h2, h3⟩ := ih h
      exact ⟨s, x, by omega, h2, h3⟩
    | some x =>
      rw [hx] at h
      simp only [] at h ⊢
      by_cases q : tdM g C t n ≤ g x
      · exact ⟨n, x, by omega, hx, by omega⟩
      · obtain ⟨s, y, h1, h2, h3⟩ := ih (by omega)
        exact ⟨s, y, by omega, h2, by omega⟩
theorem tdM_mono {g g' : Nat → Nat} {C : St} {t : Nat} (h : ∀ x, g x ≤ g' x) : ∀ n, tdM g C t n ≤ tdM g' C t n := by
  intro n
  induction n with
  | zero => exact Nat.le_refl _
  | succ n ih =>
    unfold tdM
    cases thI C t n with
    | none => simp only []; omega
    | some x => simp only []; have := h x; omega
theorem tdC_mono {G : Gh} {C : St} : ∀ f x, tdC G C f x ≤ tdC G C (f + 1) x := by
  intro f
  induction f with
  | zero => intro x; exact Nat.zero_le _
  | succ f ih =>
    intro x
    have e : ∀ f, tdC G C (f + 1) x = if G.kd x = 5 then tdM (tdC G C f) C x (G.sl x) + 1 else 0 := fun _ => rfl
    rw [e, e]
    split
    · have := tdM_mono (C := C) (t := x) ih (G.sl x)
      omega
    · omega
theorem tdC_mn {G : Gh} {C : St} {x f : Nat} : ∀ k, tdC G C f x ≤ tdC G C (f + k) x := by
  intro k
  induction k with
  | zero => exact Nat.le_refl _
  | succ k ih => exact Nat.le_trans ih (tdC_mono (f + k) x)
section PZZ
variable {G : Gh} {C : St}
theorem par_slot (hG : OKG G) (hK : OKC G C) (wh : Wthg C G.T G.R) {u v : Nat} (hu : u < G.T) (hp : par C u = some v) : lvR G v ∧ v < 200 ∧ ∃ q, q < G.sl v ∧ C 7 (40 * v + q) = nI u := by
  obtain ⟨h3, h4, hv⟩ := par_some hp
  obtain ⟨r, q, h5, h6, h7, h8⟩ := wh u hu h3
  obtain ⟨lv, e⟩ := rowI_lv hG hK h5
  have hr := lr_212 hG lv
  have hT := okT hG
  have hR := okR hG
  have er : r = v := by
    rw [h4] at e
    unfold hN at e
    split at e
    · have := (nI_eq (by omega) (by omega)).mp e
      omega
    · have := (nI_eq (by omega) (by omega)).mp e
      omega
  subst er
  have sn := sN_c hG hK lv
  have v2 : r < 200 := by
    rw [h4] at h5
    rcases rowI_inv hR hT h5 with ⟨a, b, c⟩ | ⟨a, b, c⟩
    · omega
    · have := (nI_eq (by omega) (by omega)).mp c
      omega
  exact ⟨lv, v2, q, by rw [← sn]; exact h7, h8⟩
theorem slot_par (hG : OKG G) (hK : OKC G C) (ws : Wslot C G.T G.R) {v q u : Nat} (lv : lvR G v) (v2 : v < 200) (hq : q < G.sl v) (hu : u < G.T) (h7 : C 7 (40 * v + q) = nI u) : par C u = some v := by
  have hT := okT hG
  have sn := sN_c hG hK lv
  rcases ws (hN v) v q (lv_rowI hG hK lv) (by rw [sn]; exact hq) with h | ⟨t, ht, h1, h3, h4, h5⟩
  · rw [h7] at h
    have : ¬ nI u < 0 := nI_pos (by omega)
    rw [h] at this
    exact absurd m1_0 this
  · rw [h7] at h1
    have e : u = t := (nI_eq (by omega) (by omega)).mp h1
    subst e
    unfold par
    rw [h4]
    unfold hN
    rw [if_pos v2, if_pos ⟨h3, nI_le (by omega) (by omega)⟩, nI_clamp (by omega), Nat.add_sub_cancel_left]
/-- from a trunk up to another: so many steps, all of them trunks -/
theorem dn_td {ρ : Nat → Nat} (hG : OKG G) (hK : OKC G C) (wh : Wthg C G.T G.R) (rk : Rk C G.T ρ) {t : Nat} : ∀ f a c, a < G.T → C 2 a = nI 5 → dn C f t a = some c → ∃ j, ρ a = ρ t + j ∧ c = j + 1 ∧ ∀ g x, x ≤ tdC G C g a → x + j ≤ tdC G C (g + j) t := by
  have hT := okT hG
  intro f
  induction f with
  | zero => intro a c _ _ h; cases h
  | succ f ih =>
    intro a c ha h5 h
    unfold dn at h
    by_cases q : a = t
    · subst q
      rw [if_pos rfl] at h
      cases h
      refine ⟨0, rfl, ?_, fun g x hx => hx⟩
      unfold tkN
      rw [if_pos h5]
    · rw [if_neg q] at h
      cases hp : par C a with
      | none => rw [hp] at h; cases h
      | some v =>
        rw [hp] at h
        simp only [] at h
        obtain ⟨r1, r2, r3, r4, r5⟩ := rk a ha
        obtain ⟨v1, v2, v3, v4⟩ := r2 v hp
        have hv5 : C 2 v = nI 5 := by
          rcases v2 with e | e
          · have := v4 e
            rw [h5] at this
            exact absurd (by decide : nI 3 < nI 5) this
          · exact e
        cases hd : dn C f t v with
        | none => rw [hd] at h; cases h
        | some e =>
          rw [hd] at h
          simp only [] at h
          obtain ⟨j, j1, j2, j3⟩ := ih v e v1 hv5 hd
          cases h
          refine ⟨j + 1, by omega, ?_, ?_⟩
          · unfold tkN
            rw [if_pos h5]
            omega
          · intro g x hx
            obtain ⟨lv, vv, s, s1, s2⟩ := par_slot hG hK wh ha hp
            have kv : G.kd v = 5 := (kdE hG hK v1 (by omega)).mp hv5
            have e1 : tdC G C (g + 1) v = tdM (tdC G C g) C v (G.sl v) + 1 := by
              show (if G.kd v = 5 then tdM (tdC G C g) C v (G.sl v) + 1 else 0) = _
              rw [if_pos kv]
            have e2 := tdM_at (g := tdC G C g) (C := C) (t := v) (G.sl v) s a s1 (thI_s s2 (by omega))
            have := j3 (g + 1) (x + 1) (by omega)
            have e3 : g + 1 + j = g + (j + 1) := by omega
            rw [e3] at this
            omega
theorem dnM_le2 {f t : Nat} {M : Nat} : ∀ n, (∀ x c, x < n → C 2 x = nI 5 → dn C f t x = some c → c ≤ M) → dnM C f t n ≤ M := by
  intro n
  induction n with
  | zero => intro _; exact Nat.zero_le _
  | succ n ih =>
    intro h
    have I := ih (fun x c hx => h x c (by omega))
    unfold dnM
    split
    · rename_i h5
      cases hd : dn C f t n with
      | none => exact I
      | some c =>
        simp only []
        split
        · exact h n c (by omega) h5 hd
        · exact I
    · exact I
theorem dnM_ge {f t x c : Nat} (h5 : C 2 x = nI 5) (hd : dn C f t x = some c) : ∀ n, x < n → c ≤ dnM C f t n := by
  intro n
  induction n with
  | zero => intro h; omega
  | succ n ih =>
    intro hx
    unfold dnM
    by_cases e : x = n
    · subst e
      rw [if_pos h5, hd]
      simp only []
      split <;> omega
    · have I := ih (by omega)
      split
      · cases hd' : dn C f t n with
        | none => exact I
        | some c' =>
          simp only []
          split <;> omega
      · exact I
theorem dn_rho {ρ : Nat → Nat} (rk : Rk C G.T ρ) {v : Nat} : ∀ f w c, w < G.T → dn C f v w = some c → ρ v ≤ ρ w := by
  intro f
  induction f with
  | zero => intro w c _ h; cases h
  | succ f ihf =>
    intro w c hw h
    unfold dn at h
    by_cases q : w = v
    · rw [q]; exact Nat.le_refl _
    · rw [if_neg q] at h
      cases hpw : par C w with
      | none => rw [hpw] at h; cases h
      | some u =>
        rw [hpw] at h
        simp only [] at h
        obtain ⟨u1, u2, u3, u4⟩ := (rk w hw).2.1 u hpw
        cases hdu : dn C f v u with
        | none => rw [hdu] at h; cases h
        | some c => have := ihf u c u1 hdu; omega
theorem dn_fuel {t : Nat} : ∀ f y c, dn C f t y = some c → dn C (f + 1) t y = some c := by
  intro f
  induction f with
  | zero => intro y c h; cases h
  | succ f ih =>
    intro y c h
    have e : ∀ f, dn C (f + 1) t y = if y = t then some (tkN C y) else (match par C y with | none => none | some w => (match dn C f t w with | none => none | some c => some (tkN C y + c))) := fun _ => rfl
    rw [e] at h ⊢
    by_cases q : y = t
    · rw [if_pos q] at h ⊢; exact h
    · rw [if_neg q] at h ⊢
      cases hp : par C y with
      | none => rw [hp] at h; cases h
      | some w =>
        rw [hp] at h
        simp only [] at h ⊢
        cases hd : dn C f t w with
        | none => rw [hd] at h; cases h
        | some c' =>
          rw [hd] at h
          rw [ih w c' hd]
          exact h
/-- up a step further -/
theorem dn_up {ρ : Nat → Nat} (rk : Rk C G.T ρ) {v t : Nat} (hv : v < G.T) (hp : par C v = some t) : ∀ f y c, y < G.T → ρ t < ρ y → dn C f v y = some c → dn C (f + 1) t y = some (c + tkN C t) := by
  intro f
  induction f with
  | zero => intro y c _ _ h; cases h
  | succ f ih =>
    intro y c hy hr h
    have ne : ¬ y = t := fun e => by rw [e] at hr; omega
    have e : dn C (f + 1 + 1) t y = if y = t then some (tkN C y) else (match par C y with | none => none | some w => (match dn C (f + 1) t w with | none => none | some c => some (tkN C y + c))) := rfl
    rw [e, if_neg ne]
    unfold dn at h
    by_cases q : y = v
    · subst q
      rw [if_pos rfl] at h
      cases h
      rw [hp]
      simp only []
      unfold dn
      rw [if_pos rfl]
    · rw [if_neg q] at h
      cases hpy : par C y with
      | none => rw [hpy] at h; cases h
      | some w =>
        rw [hpy] at h
        simp only [] at h ⊢
        obtain ⟨w1, w2, w3, w4⟩ := (rk y hy).2.1 w hpy
        cases hd : dn C f v w with
        | none => rw [hd] at h; cases h
        | some c' =>
          rw [hd] at h
          simp only [] at h
          cases h
          have hrw : ρ t < ρ w := by
            have hvt := ((rk v hv).2.1 t hp).2.2.1
            have := dn_rho rk f w c' w1 hd
            omega
          rw [ih w c' w1 hrw hd]
          simp only []
          exact congrArg some (by omega)
theorem td_hit {ρ : Nat → Nat} (hG : OKG G) (hK : OKC G C) (ws : Wslot C G.T G.R) (rk : Rk C G.T ρ) : ∀ f x, x < G.T → 0 < tdC G C f x → ∃ y, y < G.T ∧ C 2 y = nI 5 ∧ dn C f x y = some (tdC G C f x) := by
  have hT := okT hG
  intro f
  induction f with
  | zero => intro x _ h; exact absurd h (by unfold tdC; omega)
  | succ f ih =>
    intro x hx h
    have e : tdC G C (f + 1) x = if G.kd x = 5 then tdM (tdC G C f) C x (G.sl x) + 1 else 0 := rfl
    rw [e] at h ⊢
    by_cases k5 : G.kd x = 5
    · rw [if_pos k5]
      have c5 : C 2 x = nI 5 := (kdE hG hK hx (by omega)).mpr k5
      have tk : tkN C x = 1 := by unfold tkN; rw [if_pos c5]
      by_cases hm : 0 < tdM (tdC G C f) C x (G.sl x)
      · obtain ⟨s, z, s1, s2, s3⟩ := tdM_hit (G.sl x) hm
        have lv : lvR G x := Or.inl ⟨hx, Or.inr k5⟩
        rcases hK.2.2.2.2.2 x lv s s1 with h7 | ⟨z', hz', h7⟩
        · rw [thI_n h7] at s2; cases s2
        · rw [thI_s h7 (by omega)] at s2
          cases s2
          have hp := slot_par hG hK ws lv (by omega) s1 hz' h7
          obtain ⟨y, y1, y2, y3⟩ := ih z hz' (by omega)
          have hr := ((rk z hz').2.1 x hp).2.2.1
          have hy := dn_rho rk f y _ y1 y3
          have U := dn_up rk hz' hp f y _ y1 (by omega) y3
          refine ⟨y, y1, y2, ?_⟩
          rw [U, s3, tk]
      · refine ⟨x, hx, c5, ?_⟩
        unfold dn
        rw [if_pos rfl, tk]
        exact congrArg some (by omega)
    · rw [if_neg k5] at h
      omega
theorem dn_td_eq {ρ : Nat → Nat} (hG : OKG G) (hK : OKC G C) (ws : Wslot C G.T G.R) (wh : Wthg C G.T G.R) (rk : Rk C G.T ρ) {t : Nat} (ht : t < G.T) : dnM C 8 t G.T = tdC G C 6 t := by
  have hT := okT hG
  apply Nat.le_antisymm
  · refine dnM_le2 G.T ?_
    intro x c hx h5 hd
    obtain ⟨j, j1, j2, j3⟩ := dn_td hG hK wh rk 8 x c hx h5 hd
    have r5 := (rk x hx).2.2.1 h5
    have k5 : G.kd x = 5 := (kdE hG hK hx (by omega)).mp h5
    have t1 : 1 ≤ tdC G C 1 x := by
      show 1 ≤ (if G.kd x = 5 then tdM (tdC G C 0) C x (G.sl x) + 1 else 0)
      rw [if_pos k5]
      omega
    have a := j3 1 1 t1
    have b := tdC_mn (G := G) (C := C) (x := t) (f := 1 + j) (5 - j)
    have e : 1 + j + (5 - j) = 6 := by omega
    rw [e] at b
    omega
  · by_cases h : 0 < tdC G C 6 t
    · obtain ⟨y, y1, y2, y3⟩ := td_hit hG hK ws rk 6 t ht h
      exact dnM_ge y2 (dn_fuel 7 y _ (dn_fuel 6 y _ y3)) G.T y1
    · omega
/-- why not: alike -/
theorem wh_ly {ρ : Nat → Nat} (hG : OKG G) (hK : OKC G C) (ws : Wslot C G.T G.R) (wh : Wthg C G.T G.R) (rk : Rk C G.T ρ) {r q t : Nat} (ht : t < G.T) : whF G C r q t = lyF C G.T r q t := by
  unfold whF lyF
  rw [dn_td_eq hG hK ws wh rk ht]
  by_cases h7 : 0 ≤ C 7 (40 * r + q)
  · rw [if_pos h7, if_pos h7]
  · rw [if_neg h7, if_neg h7]
    by_cases h4 : (r < 200 ∧ C 2 r = nI 4) ∧ nI 3 < C 2 t
    · rw [if_pos h4, if_pos ⟨h4.1.1, h4.1.2, h4.2⟩]
    · rw [if_neg h4, if_neg (show ¬ (r < 200 ∧ C 2 r = nI 4 ∧ nI 3 < C 2 t) from fun y => h4 ⟨⟨y.1, y.2.1⟩, y.2.2⟩)]
      refine ite_ab ?_
      by_cases hr : r < 200
      · rw [if_pos hr, if_pos hr]
        by_cases hth : thr C 8 t r = true
        · have := thr_t 8 r hth
          exact ⟨fun _ => by omega, fun _ => Or.inr ⟨hr, hth⟩⟩
        · have hf : thr C 8 t r = false := by simpa using hth
          rw [thr_f 8 r hf]
          exact ⟨fun y => y.elim id (fun w => absurd w.2 hth), Or.inl⟩
      · rw [if_neg hr, if_neg hr]
        exact ⟨fun y => y.elim id (fun w => absurd w.1 hr), Or.inl⟩
end PZZ
