/-! ===== plans: the class's positions, the reference's roles ===== -/
def sg (w : Nat → Nat) : Nat → Nat
  | 0 => 0
  | n + 1 => sg w n + w n
theorem sg_eq {w w' : Nat → Nat} : ∀ n, (∀ x, x < n → w x = w' x) → sg w n = sg w' n := by
  intro n
  induction n with
  | zero => intro _; rfl
  | succ n ih => intro h; unfold sg; rw [ih (fun x hx => h x (by omega)), h n (by omega)]
theorem sg_add {a b : Nat → Nat} : ∀ n, sg (fun x => a x + b x) n = sg a n + sg b n := by
  intro n
  induction n with
  | zero => rfl
  | succ n ih => unfold sg; rw [ih]; omega
theorem sg_zero : ∀ n, sg (fun _ => 0) n = 0 := by
  intro n
  induction n with
  | zero => rfl
  | succ n ih => unfold sg; rw [ih]
theorem sg_one {a v : Nat} : ∀ n, sg (fun x => if x = a then v else 0) n = if a < n then v else 0 := by
  intro n
  induction n with
  | zero => rfl
  | succ n ih =>
    unfold sg
    rw [ih]
    by_cases h : a < n
    · rw [if_pos h, if_neg (show ¬ n = a by omega), if_pos (show a < n + 1 by omega)]; rfl
    · by_cases e : n = a
      · rw [if_neg h, if_pos e, if_pos (show a < n + 1 by omega)]; omega
      · rw [if_neg h, if_neg e, if_neg (show ¬ a < n + 1 by omega)]
theorem sg_swap {F : Nat → Nat → Nat} {n : Nat} : ∀ m, sg (fun i => sg (fun x => F i x) n) m = sg (fun x => sg (fun i => F i x) m) n := by
  intro m
  induction m with
  | zero => exact (sg_zero n).symm
  | succ m ih =>
    have e : sg (fun x => sg (fun i => F i x) (m + 1)) n = sg (fun x => sg (fun i => F i x) m + F m x) n := rfl
    rw [e, sg_add, ← ih]
    rfl
theorem sg_perm {od inv w : Nat → Nat} {n : Nat} (ho : ∀ i, i < n → od i < n) (hv : ∀ x, x < n → inv x < n ∧ od (inv x) = x) (hi : ∀ i, i < n → inv (od i) = i) : sg (fun i => w (od i)) n = sg w n := by
  have e1 : sg (fun i => w (od i)) n = sg (fun i => sg (fun x => if x = od i then w (od i) else 0) n) n := sg_eq n (fun i h => by rw [sg_one, if_pos (ho i h)])
  rw [e1, sg_swap]
  refine sg_eq n (fun x hx => ?_)
  obtain ⟨v1, v2⟩ := hv x hx
  have e2 : sg (fun i => if x = od i then w (od i) else 0) n = sg (fun i => if i = inv x then w x else 0) n := sg_eq n (fun i h => by
    by_cases q : x = od i
    · rw [if_pos q, if_pos (by rw [q, hi i h]), ← q]
    · rw [if_neg q, if_neg (fun y => q (by rw [y, v2]))])
  rw [e2, sg_one, if_pos v1]
theorem smP_b {pc : Nat → Nat → Nat} {od f : Nat → Nat} : ∀ k x, smP pc od f x (k + 1) = smP pc od f x k + pc (od (x + k)) (f (x + k)) := by
  intro k
  induction k with
  | zero => intro x; rw [smP_s]; show pc (od x) (f x) + 0 = 0 + pc (od (x + 0)) (f (x + 0)); rw [Nat.add_zero x]; omega
  | succ k ih =>
    intro x
    rw [smP_s, ih (x + 1), smP_s, show x + 1 + k = x + (k + 1) by omega]
    omega
theorem smP_sg {pc : Nat → Nat → Nat} {od f : Nat → Nat} : ∀ k, smP pc od f 0 k = sg (fun i => pc (od i) (f i)) k := by
  intro k
  induction k with
  | zero => rfl
  | succ k ih => rw [smP_b, ih, Nat.zero_add]; rfl
theorem smF_b {pr : Nat → Nat → Nat} {f : Nat → Nat} : ∀ k x, smF pr f x (k + 1) = smF pr f x k + pr (x + k) (f (x + k)) := by
  intro k
  induction k with
  | zero => intro x; rw [smF_s]; show pr x (f x) + 0 = 0 + pr (x + 0) (f (x + 0)); rw [Nat.add_zero x]; omega
  | succ k ih =>
    intro x
    rw [smF_s, ih (x + 1), smF_s, show x + 1 + k = x + (k + 1) by omega]
    omega
theorem smF_sg {pr : Nat → Nat → Nat} {f : Nat → Nat} : ∀ k, smF pr f 0 k = sg (fun i => pr i (f i)) k := by
  intro k
  induction k with
  | zero => rfl
  | succ k ih => rw [smF_b, ih, Nat.zero_add]; rfl
theorem clK_iff {C : St} {od tl : Nat → Nat} {x c : Nat} : ∀ u i, clK C od tl x c i u = false ↔ ∀ y, i ≤ y → y < i + u → clB C x c (od y) (tl y) = false := by
  intro u
  induction u with
  | zero => intro i; exact ⟨fun _ y a b => by omega, fun _ => rfl⟩
  | succ u ih =>
    intro i
    unfold clK
    rw [Bool.or_eq_false_iff, ih (i + 1)]
    constructor
    · rintro ⟨a, b⟩ y h1 h2
      by_cases e : y = i
      · rw [e]; exact a
      · exact b y (by omega) (by omega)
    · intro h
      exact ⟨h i (Nat.le_refl _) (by omega), fun y h1 h2 => h y (by omega) (by omega)⟩
/-- a plan by roles is sound -/
def Snd (C : St) (nr Cn : Nat) (al : Nat → Nat → Bool) (F : Nat → Nat) : Prop := ∀ x, x < nr → F x < Cn ∧ al x (F x) = true ∧ ∀ y, y < nr → y ≠ x → clB C x (F x) y (F y) = false
/-- an order of the roles and its inverse -/
def Ord (nr : Nat) (od inv : Nat → Nat) : Prop := (∀ i, i < nr → od i < nr) ∧ (∀ x, x < nr → inv x < nr ∧ od (inv x) = x) ∧ (∀ i, i < nr → inv (od i) = i)
/-- what clashes does so both ways -/
def Sym (C : St) (nr : Nat) : Prop := ∀ r c q b, r < nr → q < nr → r ≠ q → clB C r c q b = clB C q b r c
/-- class and reference: prices, clashes -/
def Alk (C : St) (nr Cn : Nat) (al : Nat → Nat → Bool) (pc pr : Nat → Nat → Nat) (fx : Nat → Int32) (ag : Nat → Nat → Nat → Nat → Bool) : Prop := (∀ x c, x < nr → c < Cn → al x c = alB fx pr x c) ∧ (∀ x c, x < nr → c < Cn → al x c = true → pc x c = pr x c) ∧ (∀ r c q b, r < nr → q < nr → r ≠ q → c < Cn → b < Cn → clB C r c q b = !(ag r c q b)) ∧ (∀ x c, pc x c ≤ 1000000) ∧ nr ≤ 7
section DJ
variable {C : St} {nr Cn : Nat} {al : Nat → Nat → Bool} {pc pr : Nat → Nat → Nat} {fx : Nat → Int32} {ag : Nat → Nat → Nat → Nat → Bool} {od inv : Nat → Nat}
theorem vps_snd (o : Ord nr od inv) (sy : Sym C nr) {f : Nat → Nat} : Vps Cn al (clsF C od 0) od f 0 nr ↔ Snd C nr Cn al (fun x => f (inv x)) := by
  obtain ⟨o1, o2, o3⟩ := o
  constructor
  · intro v x hx
    obtain ⟨x1, x2⟩ := o2 x hx
    obtain ⟨a, b, c⟩ := v (inv x) (Nat.zero_le _) (by omega)
    rw [x2] at b
    refine ⟨a, b, fun y hy ne => ?_⟩
    obtain ⟨y1, y2⟩ := o2 y hy
    have nei : inv y ≠ inv x := fun e => ne (by rw [← y2, e, x2])
    by_cases lt : inv y < inv x
    · have := (clK_iff (inv x - 0) 0).mp c (inv y) (Nat.zero_le _) (by omega)
      rw [x2, y2] at this
      exact this
    · obtain ⟨a', b', c'⟩ := v (inv y) (Nat.zero_le _) (by omega)
      have := (clK_iff (inv y - 0) 0).mp c' (inv x) (Nat.zero_le _) (by omega)
      rw [x2, y2] at this
      rw [sy x _ y _ hx hy (fun e => ne e.symm)]
      exact this
  · intro s i h1 h2
    have hi : i < nr := by omega
    have ho := o1 i hi
    obtain ⟨a, b, c⟩ := s (od i) ho
    simp only [o3 i hi] at a b c
    refine ⟨a, b, (clK_iff (i - 0) 0).mpr (fun y y1 y2 => ?_)⟩
    have hy : y < nr := by omega
    have := c (od y) (o1 y hy) (fun e => by
      have := congrArg inv e
      rw [o3 y hy, o3 i hi] at this
      omega)
    rw [o3 y hy] at this
    exact this
theorem vpl_snd (k : Alk C nr Cn al pc pr fx ag) (sy : Sym C nr) {F : Nat → Nat} : Vpl Cn (alB fx pr) ag F 0 nr ↔ Snd C nr Cn al F := by
  obtain ⟨k1, k2, k3, k4, k5⟩ := k
  constructor
  · intro v x hx
    obtain ⟨a, b, c⟩ := v x (Nat.zero_le _) (by omega)
    refine ⟨a, by rw [k1 x _ hx a]; exact b, fun y hy ne => ?_⟩
    obtain ⟨a', b', c'⟩ := v y (Nat.zero_le _) (by omega)
    by_cases lt : y < x
    · rw [k3 x _ y _ hx hy (fun e => ne e.symm) a a', c y lt]; rfl
    · rw [sy x _ y _ hx hy (fun e => ne e.symm), k3 y _ x _ hy hx ne a' a, c' x (by omega)]; rfl
  · intro s i h1 h2
    have hi : i < nr := by omega
    obtain ⟨a, b, c⟩ := s i hi
    refine ⟨a, by rw [← k1 i _ hi a]; exact b, fun q hq => ?_⟩
    obtain ⟨a', b', c'⟩ := s q (by omega)
    have := c q (by omega) (by omega)
    rw [k3 i _ q _ hi (by omega) (by omega) a a'] at this
    simpa using this
theorem snd_sum (k : Alk C nr Cn al pc pr fx ag) (o : Ord nr od inv) {f : Nat → Nat} (s : Snd C nr Cn al (fun x => f (inv x))) : smP pc od f 0 nr = smF pr (fun x => f (inv x)) 0 nr := by
  obtain ⟨k1, k2, k3, k4, k5⟩ := k
  obtain ⟨o1, o2, o3⟩ := o
  rw [smP_sg, smF_sg, ← sg_perm (w := fun x => pr x (f (inv x))) o1 o2 o3]
  refine sg_eq nr (fun i hi => ?_)
  obtain ⟨a, b, c⟩ := s (od i) (o1 i hi)
  simp only [o3 i hi] at a b ⊢
  exact k2 (od i) (f i) (o1 i hi) a b
/-- the least cost: alike -/
theorem rs_lc (k : Alk C nr Cn al pc pr fx ag) (o : Ord nr od inv) (sy : Sym C nr) : (rsT C Cn al pc od nr 0 < 2147483647 ↔ lcF Cn nr fx pr ag < 100000000) ∧ (rsT C Cn al pc od nr 0 < 2147483647 → rsT C Cn al pc od nr 0 = lcF Cn nr fx pr ag) := by
  have k4 := k.2.2.2.1
  have k5 := k.2.2.2.2
  have up : rsT C Cn al pc od nr 0 < 2147483647 → lcF Cn nr fx pr ag ≤ rsT C Cn al pc od nr 0 := fun h => by
    obtain ⟨f, f1, f2, f3⟩ := skV_hit (clsF_tl (C := C) (od := od) (x := 0)) (nr - 0) 0 (fun _ => 0) 0 h
    have s := (vps_snd o sy).mp f2
    have := lcF_le ((vpl_snd k sy).mpr s)
    rw [← snd_sum k o s] at this
    unfold rsT
    rw [f3]
    simp only [Nat.sub_zero]
    omega
  have dn : lcF Cn nr fx pr ag < 100000000 → rsT C Cn al pc od nr 0 ≤ lcF Cn nr fx pr ag := fun h => by
    obtain ⟨F, F1, F2⟩ := lcF_hit h
    have s := (vpl_snd k sy).mp F1
    have s' : Snd C nr Cn al (fun x => (fun i => F (od i)) (inv x)) := fun x hx => by
      obtain ⟨a, b, c⟩ := s x hx
      obtain ⟨x1, x2⟩ := o.2.1 x hx
      simp only [x2]
      refine ⟨a, b, fun y hy ne => ?_⟩
      rw [(o.2.1 y hy).2]
      exact c y hy ne
    have v := (vps_snd (f := fun i => F (od i)) o sy).mpr s'
    have le := skV_le (pc := pc) (clsF_tl (C := C) (od := od) (x := 0)) (nr - 0) 0 (fun i => F (od i)) 0 (fun x hx => by omega) v
    have e := snd_sum (f := fun i => F (od i)) k o s'
    have e2 : smF pr (fun x => (fun i => F (od i)) (inv x)) 0 nr = smF pr F 0 nr := smF_eq nr 0 (fun x h1 h2 => by
      simp only []
      rw [(o.2.1 x (by omega)).2])
    have lo := rsT_low (C := C) (Cn := Cn) (al := al) (pc := pc) (od := od) (nr := nr) (Nat.le_refl 0) (fun i => F (od i)) 0 nr (by omega)
    have t := rsT_top (C := C) (Cn := Cn) (al := al) (pc := pc) (od := od) (nr := nr) (x := 0)
    simp only [Nat.sub_zero, Nat.zero_add] at le lo
    rw [e, e2, F2] at le
    omega
  have big : rsT C Cn al pc od nr 0 < 2147483647 → rsT C Cn al pc od nr 0 ≤ 10000000 := fun h => rsT_ub k4 k5 h
  refine ⟨⟨fun h => ?_, fun h => ?_⟩, fun h => ?_⟩
  · have := up h; have := big h; omega
  · have := dn h; omega
  · have := up h
    have := big h
    have := dn (by omega)
    omega
/-- groups do not hinder one another -/
def Grp (C : St) (nr : Nat) (gr od : Nat → Nat) : Prop := (∀ a b, a < nr → b < nr → a ≠ b → gr a ≠ gr b → ∀ c e, clB C a c b e = false) ∧ (∀ i j, i < j → j < nr → gr (od i) < gr (od j) ∨ (gr (od i) = gr (od j) ∧ od i < od j))
theorem mix_snd {gr : Nat → Nat} {γ : Nat} (g : ∀ a b, a < nr → b < nr → a ≠ b → gr a ≠ gr b → ∀ c e, clB C a c b e = false) {F H : Nat → Nat} (sF : Snd C nr Cn al F) (sH : Snd C nr Cn al H) : Snd C nr Cn al (fun x => if gr x = γ then H x else F x) := by
  intro x hx
  obtain ⟨a, b, c⟩ := sF x hx
  obtain ⟨a', b', c'⟩ := sH x hx
  by_cases e : gr x = γ
  · simp only [e, if_true]
    refine ⟨a', b', fun y hy ne => ?_⟩
    by_cases e2 : gr y = γ
    · simp only [e2, if_true]
      exact c' y hy ne
    · simp only [e2, if_false]
      exact g x y hx hy (fun z => ne z.symm) (fun z => e2 (by rw [← z]; exact e)) _ _
  · simp only [e, if_false]
    refine ⟨a, b, fun y hy ne => ?_⟩
    by_cases e2 : gr y = γ
    · simp only [e2, if_true]
      exact g x y hx hy (fun z => ne z.symm) (fun z => e (by rw [z]; exact e2)) _ _
    · simp only [e2, if_false]
      exact c y hy ne
theorem mix_sum {gr : Nat → Nat} {γ : Nat} {F H : Nat → Nat} : smF pr (fun x => if gr x = γ then H x else F x) 0 nr + smF pr (fun x => if gr x = γ then F x else H x) 0 nr = smF pr H 0 nr + smF pr F 0 nr := by
  simp only [smF_sg]
  rw [← sg_add, ← sg_add]
  refine sg_eq nr (fun x hx => ?_)
  by_cases e : gr x = γ
  · simp only [e, if_true]
  · simp only [e, if_false]
    omega
/-- the plan that the class gives is the one that the reference gives -/
theorem plan_eq {gr : Nat → Nat} (k : Alk C nr Cn al pc pr fx ag) (o : Ord nr od inv) (sy : Sym C nr) (g : Grp C nr gr od) (hlt : lcF Cn nr fx pr ag < 100000000) {f h : Nat → Nat} (vf : Vps Cn al (clsF C od 0) od f 0 nr) (cf : smP pc od f 0 nr = rsT C Cn al pc od nr 0) (lf : ∀ e : Nat → Nat, Vps Cn al (clsF C od 0) od e 0 nr → smP pc od e 0 nr = rsT C Cn al pc od nr 0 → (∀ i, i < nr → e i = f i) ∨ ∃ y, y < nr ∧ (∀ i, i < y → e i = f i) ∧ f y < e y) (vh : Vpl Cn (alB fx pr) ag h 0 nr) (ch : smF pr h 0 nr = lcF Cn nr fx pr ag) (lx : Lex Cn nr fx pr ag h nr) : ∀ x, x < nr → h x = f (inv x) := by
  obtain ⟨r1, r2⟩ := rs_lc (od := od) (inv := inv) k o sy
  have rlt := r1.mpr hlt
  have req := r2 rlt
  have sF := (vps_snd o sy).mp vf
  have sH := (vpl_snd k sy).mp vh
  have cF : smF pr (fun x => f (inv x)) 0 nr = lcF Cn nr fx pr ag := by rw [← snd_sum k o sF, cf, req]
  rcases lx (fun x => f (inv x)) ((vpl_snd k sy).mpr sF) cF with q | ⟨r0, h0, h1, h2⟩
  · intro x hx
    exact (q x hx).symm
  · exfalso
    have sg1 := mix_snd (γ := gr r0) g.1 sF sH
    have sg2 := mix_snd (γ := gr r0) g.1 sH sF
    have ms := mix_sum (pr := pr) (nr := nr) (gr := gr) (γ := gr r0) (F := fun x => f (inv x)) (H := h)
    have l1 := lcF_le ((vpl_snd k sy).mpr sg1)
    have l2 := lcF_le ((vpl_snd k sy).mpr sg2)
    have c1 : smF pr (fun x => if gr x = gr r0 then h x else f (inv x)) 0 nr = lcF Cn nr fx pr ag := by
      rw [cF, ch] at ms
      omega
    have s3 : Snd C nr Cn al (fun x => (fun i => if gr (od i) = gr r0 then h (od i) else f i) (inv x)) := fun x hx => by
      obtain ⟨a, b, c⟩ := sg1 x hx
      simp only [(o.2.1 x hx).2]
      refine ⟨a, b, fun y hy ne => ?_⟩
      simp only [(o.2.1 y hy).2]
      exact c y hy ne
    have v3 := (vps_snd (f := fun i => if gr (od i) = gr r0 then h (od i) else f i) o sy).mpr s3
    have e3 := snd_sum (f := fun i => if gr (od i) = gr r0 then h (od i) else f i) k o s3
    have e4 : smF pr (fun x => (fun i => if gr (od i) = gr r0 then h (od i) else f i) (inv x)) 0 nr = smF pr (fun x => if gr x = gr r0 then h x else f (inv x)) 0 nr := smF_eq nr 0 (fun x a b => by
      simp only []
      rw [(o.2.1 x (by omega)).2])
    rcases lf _ v3 (by rw [e3, e4, c1, req]) with q | ⟨y, y0, y1, y2⟩
    · have := q (inv r0) (o.2.1 r0 h0).1
      simp only [(o.2.1 r0 h0).2, if_true] at this
      omega
    · have yo := o.1 y y0
      by_cases eg : gr (od y) = gr r0
      · simp only [eg, if_true] at y2
        by_cases lt : od y < r0
        · have := h1 (od y) lt
          simp only [o.2.2 y y0] at this
          omega
        · by_cases eo : od y = r0
          · rw [eo] at y2
            have : f (inv r0) = f y := by rw [← eo, o.2.2 y y0]
            omega
          · obtain ⟨i1, i2⟩ := o.2.1 r0 h0
            have iy : inv r0 < y := by
              rcases Nat.lt_trichotomy (inv r0) y with z | z | z
              · exact z
              · exact absurd (by rw [← z]; exact i2) eo
              · rcases g.2 y (inv r0) z i1 with w | w
                · rw [i2, eg] at w; omega
                · rw [i2] at w; omega
            have := y1 (inv r0) iy
            simp only [i2, if_true] at this
            omega
      · simp only [eg, if_false] at y2
        omega
end DJ
