/-! ===== the class: the search for the cheapest ===== -/
def mnN (f : Nat → Nat) : Nat → Nat
  | 0 => 2147483647
  | c + 1 => min (mnN f c) (f c)
def mnL (v : Nat → Nat) (ch : Nat → Nat) : Nat → Nat
  | 0 => 2147483647
  | i + 1 => min (mnL v ch i) (v (ch i))
/-- the least that the positions from at on cost, after s -/
def skV (Cn : Nat) (al : Nat → Nat → Bool) (pc : Nat → Nat → Nat) (cl : Nat → (Nat → Nat) → Nat → Bool) (od : Nat → Nat) : Nat → Nat → (Nat → Nat) → Nat → Nat
  | 0, _, _, s => s
  | k + 1, i, tl, s => mnN (fun c => if (al (od i) c && !(cl i tl c)) = true then skV Cn al pc cl od k (i + 1) (upN tl i c) (s + pc (od i) c) else 2147483647) Cn
theorem mnN_le (f : Nat → Nat) : ∀ C c, c < C → mnN f C ≤ f c := by
  intro C
  induction C with
  | zero => intro c h; omega
  | succ C ih =>
    intro c hc
    unfold mnN
    by_cases e : c = C
    · subst e; omega
    · have := ih c (by omega); omega
theorem mnN_top (f : Nat → Nat) : ∀ C, mnN f C ≤ 2147483647 := by
  intro C
  induction C with
  | zero => exact Nat.le_refl _
  | succ C ih => unfold mnN; omega
theorem mnN_low {f : Nat → Nat} {x : Nat} (hx : x ≤ 2147483647) : ∀ C, (∀ c, c < C → x ≤ f c) → x ≤ mnN f C := by
  intro C
  induction C with
  | zero => intro _; exact hx
  | succ C ih =>
    intro h
    unfold mnN
    have := ih (fun c hc => h c (by omega))
    have := h C (by omega)
    omega
theorem mnL_le (v ch : Nat → Nat) : ∀ n i, i < n → mnL v ch n ≤ v (ch i) := by
  intro n
  induction n with
  | zero => intro i h; omega
  | succ n ih =>
    intro i hi
    unfold mnL
    by_cases e : i = n
    · subst e; omega
    · have := ih i (by omega); omega
theorem mnL_top (v ch : Nat → Nat) : ∀ n, mnL v ch n ≤ 2147483647 := by
  intro n
  induction n with
  | zero => exact Nat.le_refl _
  | succ n ih => unfold mnL; omega
theorem mnL_low {v ch : Nat → Nat} {x : Nat} (hx : x ≤ 2147483647) : ∀ n, (∀ i, i < n → x ≤ v (ch i)) → x ≤ mnL v ch n := by
  intro n
  induction n with
  | zero => intro _; exact hx
  | succ n ih =>
    intro h
    unfold mnL
    have := ih (fun i hi => h i (by omega))
    have := h n (by omega)
    omega
theorem mnL_mono {v ch : Nat → Nat} {i n : Nat} (hi : i ≤ n) : mnL v ch n ≤ mnL v ch i := by
  have a : ∀ w, mnL v ch (i + w) ≤ mnL v ch i := by
    intro w
    induction w with
    | zero => exact Nat.le_refl _
    | succ w ih =>
      show min (mnL v ch (i + w)) _ ≤ _
      omega
  have b := a (n - i)
  rw [show i + (n - i) = n by omega] at b
  exact b
theorem mnL_tail {v ch : Nat → Nat} {i n x : Nat} (hi : i ≤ n) (h : ∀ j, i ≤ j → j < n → x ≤ v (ch j)) : min x (mnL v ch n) = min x (mnL v ch i) := by
  have a : ∀ w, mnL v ch (i + w) ≤ mnL v ch i := by
    intro w
    induction w with
    | zero => exact Nat.le_refl _
    | succ w ih =>
      show min (mnL v ch (i + w)) _ ≤ _
      omega
  have b := a (n - i)
  rw [show i + (n - i) = n by omega] at b
  have c : min x (mnL v ch i) ≤ mnL v ch n := mnL_low (by have := mnL_top v ch i; omega) n (fun j hj => by
    by_cases e : j < i
    · have := mnL_le v ch i j e; omega
    · have := h j (by omega) hj; omega)
  omega
theorem mnN_L {v ch : Nat → Nat} {Cn cc : Nat} {A : Nat → Prop} (h1 : ∀ x, (∃ i, i < cc ∧ ch i = x) ↔ A x) (h2 : ∀ x, A x → x < Cn) (h3 : ∀ x, x < Cn → ¬ A x → v x = 2147483647) : mnN v Cn = mnL v ch cc := by
  apply Nat.le_antisymm
  · refine mnL_low (mnN_top v Cn) cc (fun i hi => mnN_le v Cn (ch i) (h2 _ ((h1 _).mp ⟨i, hi, rfl⟩)))
  · refine mnN_low (mnL_top v ch cc) Cn (fun c hc => ?_)
    by_cases q : ∃ i, i < cc ∧ ch i = c
    · obtain ⟨i, hi, e⟩ := q
      rw [← e]
      exact mnL_le v ch cc i hi
    · rw [h3 c hc (fun y => q ((h1 c).mpr y))]
      exact mnL_top v ch cc
section DA
variable {d n k : Nat} {G : Gh} {C0 : St} {m0 : Mm} {s0 : Nat → Nat × Nat} {nr Cn : Nat}
def SC2 (C0 C : St) : Prop := ∀ f j, f ≠ 53 → f ≠ 54 → C f j = C0 f j
/-- a problem as it lies in the class's cells -/
def Pcl (C0 : St) (nr Cn fr : Nat) (od : Nat → Nat) (cc : Nat → Nat) (ch pc : Nat → Nat → Nat) (al : Nat → Nat → Bool) (rs : Nat → Nat) : Prop := C0 21 0 = nI nr ∧ nr ≤ 7 ∧ Cn ≤ 8 ∧ (∀ i, i < nr → od i < nr ∧ C0 51 i = nI (od i)) ∧ (∀ x, x < nr → cc x ≤ Cn ∧ Chp C0 x (cc x) (ch x) (pc x) (fun c => c < Cn ∧ al x c = true)) ∧ (∀ x c, x < nr → c < Cn → al x c = true → C0 46 (8 * x + c) = nI (pc x c)) ∧ (∀ x c, pc x c ≤ 1000000) ∧ (∀ i, fr < i → i ≤ nr → C0 52 i = nI (rs i) ∧ rs i ≤ 10000000) ∧ rs nr = 0
theorem clB_eq {C : St} (h : SC2 C0 C) (r c q b : Nat) : clB C r c q b = clB C0 r c q b := by
  unfold clB
  rw [h 23 r (by decide) (by decide), h 23 q (by decide) (by decide), h 49 _ (by decide) (by decide), h 45 _ (by decide) (by decide)]
theorem clK_eq {C : St} {od tl : Nat → Nat} (h : SC2 C0 C) (x c : Nat) : ∀ u i, clK C od tl x c i u = clK C0 od tl x c i u := by
  intro u
  induction u with
  | zero => intro i; rfl
  | succ u ih =>
    intro i
    unfold clK
    rw [clB_eq h, ih]
theorem c27 {fr : Nat} {od cc rs : Nat → Nat} {ch pc : Nat → Nat → Nat} {al : Nat → Nat → Bool} (hG : OKG G) (pcl : Pcl C0 nr Cn fr od cc ch pc al rs) (hlow : ∀ kk x tl s, fr < x → x + kk = nr → min 2147483647 (s + rs x) ≤ skV Cn al pc (fun i tl c => clK C0 od tl (od i) c fr (i - fr)) od kk x tl s) : ∀ kk x C tl s best, fr ≤ x → x + kk = nr → SC2 C0 C → C 54 0 = nI best → best ≤ 2147483647 → (kk = 0 → s < best) → s ≤ 1000000 * x → (∀ i, fr ≤ i → i < x → tl i < 8 ∧ C 53 i = nI (tl i)) → ∃ C', SC2 C0 C' ∧ C' 54 0 = nI (min best (skV Cn al pc (fun i tl c => clK C0 od tl (od i) c fr (i - fr)) od kk x tl s)) ∧ (∀ i, i < x → C' 53 i = C 53 i) ∧ ex (d + 2 + kk) 27 0 [some (.ref (G.ad 7)), some (.int (nI fr)), some (.int (nI x)), some (.int (nI s)), none, none, none, none] [] (cM G C m0, cS G s0, n, k) = some (none, (cM G C' m0, cS G s0, n, k)) := by
  obtain ⟨h21, hn7, hC8, hod, hch, h46, hpc, hrs, hr0⟩ := pcl
  intro kk
  induction kk with
  | zero =>
    intro x C tl s best hf hx sz h54 hb hsb hs htl
    have e : x = nr := by omega
    subst e
    have z21 : C 21 0 = nI x := by rw [sz 21 0 (by decide) (by decide)]; exact h21
    have g : ¬ nI x < nI x := fun y => absurd ((nI_ltI (by omega) (by omega)).mp y) (by omega)
    have := hsb rfl
    refine ⟨sup C 54 0 (nI s), fun f j a b => by rw [sup_f b]; exact sz f j a b, by rw [sup_eq]; exact congrArg nI (by unfold skV; omega), fun i hi => sup_f (by decide), ?_⟩
    simp only [x27_0, x27_1, x27_2, x27_5, x27_8, x27_9, x27_10, x27_13, bnd_some, Option.toList_some, Option.toList_none, List.cons_append, List.nil_append, List.singleton_append, clr_i, clr_r, clr_n, clr_0, clr_q, clr_l, isR_r, isR_n, isR_q, cat1_i, cat1_r, b0, b1, if_true, if_false, not_true, not_false_eq_true, reduceCtorEq, ite_self, and_true, true_and, and_false, false_and, or_true, true_or, or_false, false_or, k_1_0 hG, k_1_1 hG, k_1_1w hG, k_1_2 hG, k_1_3 hG, k_1_3w hG, k_1_4 hG, k_1_5 hG, k_1_5w hG, k_1_6 hG, k_1_7 hG, k_1_7w hG, k_1_8 hG, k_1_9 hG, k_1_9w hG, k_1_10 hG, k_1_11 hG, k_1_11w hG, k_1_12 hG, k_1_12w hG, k_1_13 hG, k_1_13w hG, k_1_14 hG, k_1_14w hG, k_1_15 hG, k_1_15w hG, k_1_16 hG, k_1_16w hG, k_7_0 hG, k_7_1 hG, k_7_2 hG, k_7_2w hG, k_7_3 hG, k_7_4 hG, k_7_5 hG, k_7_5w hG, k_7_6 hG, k_7_7 hG, k_7_8 hG, k_7_9 hG, k_7_10 hG, k_7_11 hG, k_7_12 hG, k_7_13 hG, k_7_14 hG, k_7_15 hG, k_7_15w hG, k_7_16 hG, k_7_17 hG, k_7_17w hG, k_s1 hG, k_s2 hG, k_s3 hG, k_s4 hG, k_s5 hG, k_s6 hG, k_s7 hG, k_s8 hG, k_s9 hG, k_s10 hG, k_s11 hG, k_s12 hG, k_s13 hG, k_s14 hG, k_s15 hG, k_s16 hG, k_s17 hG, k_s18 hG, k_s19 hG, k_s20 hG, k_s21 hG, k_2 hG, k_3 hG, k_4 hG, k_5 hG, k_6 hG, k_13 hG, k_14 hG, k_16 hG, k_8 hG, k_8w hG, k_9 hG, k_9w hG, k_10 hG, k_10w hG, k_11 hG, k_11w hG, k_12 hG, k_12w hG, k_15 hG, k_15w hG, k_17 hG, k_17w hG, k_18 hG, k_18w hG, k_19 hG, k_19w hG, k_20 hG, k_20w hG, k_21 hG, k_21w hG, k_P hG, k_Pw hG, k_sP hG, k_Q hG, k_Qw hG, k_sQ hG, k_G hG, k_Gw hG, k_sG hG, k_Z hG, k_Zw hG, k_sZ hG, k_I hG, k_Iw hG, k_sI hG, k_O hG, k_Ow hG, k_sO hG, k_V hG, k_Vw hG, k_sV hG, k_M hG, k_Mw hG, k_sM hG, k_S hG, k_Sw hG, k_Swn hG, k_sS hG, k_T_0 hG, k_T_1 hG, k_T_2 hG, k_T_3 hG, k_T_4 hG, k_T_5 hG, k_T_6 hG, k_T_7 hG, k_T_8 hG, k_T_6v hG, k_T_2w hG, k_T_4w hG, k_T_3w hG, k_T_3wn hG, k_sT hG, k_H_0 hG, k_H_1 hG, k_H_2 hG, k_sH hG, k_A_0 hG, k_sA hG, k_J_0 hG, k_J_1 hG, k_J_2 hG, k_J_2w hG, k_sJ hG, k_C hG, k_sC hG, isTh_tg, isTh1, isTh8, isTh9, zT, oT, oF, zT0, oF0, z21, g]
  | succ kk ihk =>
    intro x C tl s best hf hx sz h54 hb hsb hs htl
    have x7 : x < 7 := by omega
    have xb : x < 2147483648 := by omega
    have x18 : x + 1 < 8 := by omega
    have x1b : x + 1 < 2147483648 := by omega
    obtain ⟨o1, o2⟩ := hod x (by omega)
    have o7 : od x < 7 := by omega
    have ob : od x < 2147483648 := by omega
    obtain ⟨hcc, q48, q47, qs, qA⟩ := hch (od x) o1
    obtain ⟨r1, r2⟩ := hrs (x + 1) (by omega) (by omega)
    have g : nI x < nI nr := (nI_ltI (by omega) (by omega)).mpr (by omega)
    have ed : d + 2 + (kk + 1) = d + 2 + kk + 1 := rfl
    generalize hv : (fun c => if (al (od x) c && !(clK C0 od tl (od x) c fr (x - fr))) = true then skV Cn al pc (fun i tl c => clK C0 od tl (od i) c fr (i - fr)) od kk (x + 1) (upN tl x c) (s + pc (od x) c) else 2147483647) = v
    have ev : skV Cn al pc (fun i tl c => clK C0 od tl (od i) c fr (i - fr)) od (kk + 1) x tl s = mnN v Cn := by rw [← hv]; rfl
    have eL : mnN v Cn = mnL v (ch (od x)) (cc (od x)) := mnN_L qA (fun y hy => hy.1) (fun y hy hn => by
      rw [← hv]
      have : al (od x) y = false := by
        cases h : al (od x) y with
        | false => rfl
        | true => exact absurd ⟨hy, h⟩ hn
      simp only [this, Bool.false_and, Bool.false_eq_true, if_false])
    have vlow : ∀ c, c < Cn → min 2147483647 (s + pc (od x) c + rs (x + 1)) ≤ v c := by
      intro c hc
      rw [← hv]
      simp only []
      split
      · exact hlow kk (x + 1) _ _ (by omega) (by omega)
      · omega
    rw [ev, eL]
    have loop : ∀ u i C1 bz l6 l7, i + u = cc (od x) → SC2 C0 C1 → C1 54 0 = nI bz → bz = min best (mnL v (ch (od x)) i) → (∀ y, y < x → C1 53 y = C 53 y) → ∃ C', SC2 C0 C' ∧ C' 54 0 = nI (min best (mnL v (ch (od x)) (cc (od x)))) ∧ (∀ y, y < x → C' 53 y = C 53 y) ∧ ex (d + 2 + kk + 1) 27 25 [some (.ref (G.ad 7)), some (.int (nI fr)), some (.int (nI x)), some (.int (nI s)), some (.int (nI (od x))), some (.int (nI i)), l6, l7] [] (cM G C1 m0, cS G s0, n, k) = some (none, (cM G C' m0, cS G s0, n, k)) := by
      intro u
      induction u with
      | zero =>
        intro i C1 bz l6 l7 hi s1 h1 eb hy
        have e : i = cc (od x) := by omega
        have g2 : nI (cc (od x)) ≤ nI i := nI_le (by omega) (by omega)
        have z48 : C1 48 (od x) = nI (cc (od x)) := by rw [s1 48 _ (by decide) (by decide)]; exact q48
        refine ⟨C1, s1, by rw [h1, eb, e], hy, ?_⟩
        simp only [x27_25, x27_27, x27_28, x27_31, x27_33, x27_34, x27_117, bnd_some, Option.toList_some, Option.toList_none, List.cons_append, List.nil_append, List.singleton_append, clr_i, clr_r, clr_n, clr_0, clr_q, clr_l, isR_r, isR_n, isR_q, cat1_i, cat1_r, b0, b1, if_true, if_false, not_true, not_false_eq_true, reduceCtorEq, ite_self, and_true, true_and, and_false, false_and, or_true, true_or, or_false, false_or, k_1_0 hG, k_1_1 hG, k_1_1w hG, k_1_2 hG, k_1_3 hG, k_1_3w hG, k_1_4 hG, k_1_5 hG, k_1_5w hG, k_1_6 hG, k_1_7 hG, k_1_7w hG, k_1_8 hG, k_1_9 hG, k_1_9w hG, k_1_10 hG, k_1_11 hG, k_1_11w hG, k_1_12 hG, k_1_12w hG, k_1_13 hG, k_1_13w hG, k_1_14 hG, k_1_14w hG, k_1_15 hG, k_1_15w hG, k_1_16 hG, k_1_16w hG, k_7_0 hG, k_7_1 hG, k_7_2 hG, k_7_2w hG, k_7_3 hG, k_7_4 hG, k_7_5 hG, k_7_5w hG, k_7_6 hG, k_7_7 hG, k_7_8 hG, k_7_9 hG, k_7_10 hG, k_7_11 hG, k_7_12 hG, k_7_13 hG, k_7_14 hG, k_7_15 hG, k_7_15w hG, k_7_16 hG, k_7_17 hG, k_7_17w hG, k_s1 hG, k_s2 hG, k_s3 hG, k_s4 hG, k_s5 hG, k_s6 hG, k_s7 hG, k_s8 hG, k_s9 hG, k_s10 hG, k_s11 hG, k_s12 hG, k_s13 hG, k_s14 hG, k_s15 hG, k_s16 hG, k_s17 hG, k_s18 hG, k_s19 hG, k_s20 hG, k_s21 hG, k_2 hG, k_3 hG, k_4 hG, k_5 hG, k_6 hG, k_13 hG, k_14 hG, k_16 hG, k_8 hG, k_8w hG, k_9 hG, k_9w hG, k_10 hG, k_10w hG, k_11 hG, k_11w hG, k_12 hG, k_12w hG, k_15 hG, k_15w hG, k_17 hG, k_17w hG, k_18 hG, k_18w hG, k_19 hG, k_19w hG, k_20 hG, k_20w hG, k_21 hG, k_21w hG, k_P hG, k_Pw hG, k_sP hG, k_Q hG, k_Qw hG, k_sQ hG, k_G hG, k_Gw hG, k_sG hG, k_Z hG, k_Zw hG, k_sZ hG, k_I hG, k_Iw hG, k_sI hG, k_O hG, k_Ow hG, k_sO hG, k_V hG, k_Vw hG, k_sV hG, k_M hG, k_Mw hG, k_sM hG, k_S hG, k_Sw hG, k_Swn hG, k_sS hG, k_T_0 hG, k_T_1 hG, k_T_2 hG, k_T_3 hG, k_T_4 hG, k_T_5 hG, k_T_6 hG, k_T_7 hG, k_T_8 hG, k_T_6v hG, k_T_2w hG, k_T_4w hG, k_T_3w hG, k_T_3wn hG, k_sT hG, k_H_0 hG, k_H_1 hG, k_H_2 hG, k_sH hG, k_A_0 hG, k_sA hG, k_J_0 hG, k_J_1 hG, k_J_2 hG, k_J_2w hG, k_sJ hG, k_C hG, k_sC hG, isTh_tg, isTh1, isTh8, isTh9, zT, oT, oF, zT0, oF0, o7, ob, z48, g2]
      | succ u ihu =>
        intro i C1 bz l6 l7 hi s1 h1 eb hy
        have g2 : ¬ nI (cc (od x)) ≤ nI i := nI_ge (by omega) (by omega)
        have z48 : C1 48 (od x) = nI (cc (od x)) := by rw [s1 48 _ (by decide) (by decide)]; exact q48
        obtain ⟨c1, c2⟩ := q47 i (by omega)
        have i8 : i < 8 := by omega
        have ib : i < 2147483648 := by omega
        have cb : ch (od x) i < 2147483648 := by omega
        have hA := (qA (ch (od x) i)).mp ⟨i, by omega, rfl⟩
        have z47 : C1 47 (8 * od x + i) = nI (ch (od x) i) := by rw [s1 47 _ (by decide) (by decide)]; exact c1
        have z46 : C1 46 (8 * od x + ch (od x) i) = nI (pc (od x) (ch (od x) i)) := by rw [s1 46 _ (by decide) (by decide)]; exact h46 (od x) _ o1 hA.1 hA.2
        have z52 : C1 52 (x + 1) = nI (rs (x + 1)) := by rw [s1 52 _ (by decide) (by decide)]; exact r1
        have hp1 := hpc (od x) (ch (od x) i)
        have hbz : bz ≤ 2147483647 := by omega
        have lt : (nI (s + pc (od x) (ch (od x) i) + rs (x + 1)) < nI bz) ↔ s + pc (od x) (ch (od x) i) + rs (x + 1) < bz := nI_ltI (by omega) (by omega)
        by_cases hlt : s + pc (od x) (ch (od x) i) + rs (x + 1) < bz
        · have M := c29 (d := d + 1 + kk) (C := C1) (m0 := m0) (s0 := s0) (n := n) (k := k) (fr := fr) (at' := x) (c := ch (od x) i) (od := od) (tl := tl) hG hf x7 c2 (fun y hy => ⟨by have := (hod y (by omega)).1; omega, by rw [s1 51 _ (by decide) (by decide)]; exact (hod y (by omega)).2⟩) (fun y h1 h2 => ⟨(htl y h1 h2).1, by rw [hy y h2]; exact (htl y h1 h2).2⟩)
          rw [clK_eq s1, show d + 1 + kk + 1 = d + 2 + kk by omega] at M
          by_cases hcl : clK C0 od tl (od x) (ch (od x) i) fr (x - fr) = true
          · rw [hcl] at M
            have ve : v (ch (od x) i) = 2147483647 := by
              rw [← hv]
              simp only [hcl, Bool.not_true, Bool.and_false, Bool.false_eq_true, if_false]
            obtain ⟨C', i1, i2, i3, i4⟩ := ihu (i + 1) C1 bz (some (.int (nI (ch (od x) i)))) (some (.int (nI (s + pc (od x) (ch (od x) i))))) (by omega) s1 h1 (by
              have e : mnL v (ch (od x)) (i + 1) = min (mnL v (ch (od x)) i) (v (ch (od x) i)) := rfl
              rw [e, ve]
              have := mnL_top v (ch (od x)) i
              omega) hy
            refine ⟨C', i1, i2, i3, ?_⟩
            rw [← i4]
            conv => lhs; simp only [x27_25, x27_27, x27_28, x27_31, x27_33, x27_34, bnd_some, Option.toList_some, Option.toList_none, List.cons_append, List.nil_append, List.singleton_append, clr_i, clr_r, clr_n, clr_0, clr_q, clr_l, isR_r, isR_n, isR_q, cat1_i, cat1_r, b0, b1, if_true, if_false, not_true, not_false_eq_true, reduceCtorEq, ite_self, and_true, true_and, and_false, false_and, or_true, true_or, or_false, false_or, k_1_0 hG, k_1_1 hG, k_1_1w hG, k_1_2 hG, k_1_3 hG, k_1_3w hG, k_1_4 hG, k_1_5 hG, k_1_5w hG, k_1_6 hG, k_1_7 hG, k_1_7w hG, k_1_8 hG, k_1_9 hG, k_1_9w hG, k_1_10 hG, k_1_11 hG, k_1_11w hG, k_1_12 hG, k_1_12w hG, k_1_13 hG, k_1_13w hG, k_1_14 hG, k_1_14w hG, k_1_15 hG, k_1_15w hG, k_1_16 hG, k_1_16w hG, k_7_0 hG, k_7_1 hG, k_7_2 hG, k_7_2w hG, k_7_3 hG, k_7_4 hG, k_7_5 hG, k_7_5w hG, k_7_6 hG, k_7_7 hG, k_7_8 hG, k_7_9 hG, k_7_10 hG, k_7_11 hG, k_7_12 hG, k_7_13 hG, k_7_14 hG, k_7_15 hG, k_7_15w hG, k_7_16 hG, k_7_17 hG, k_7_17w hG, k_s1 hG, k_s2 hG, k_s3 hG, k_s4 hG, k_s5 hG, k_s6 hG, k_s7 hG, k_s8 hG, k_s9 hG, k_s10 hG, k_s11 hG, k_s12 hG, k_s13 hG, k_s14 hG, k_s15 hG, k_s16 hG, k_s17 hG, k_s18 hG, k_s19 hG, k_s20 hG, k_s21 hG, k_2 hG, k_3 hG, k_4 hG, k_5 hG, k_6 hG, k_13 hG, k_14 hG, k_16 hG, k_8 hG, k_8w hG, k_9 hG, k_9w hG, k_10 hG, k_10w hG, k_11 hG, k_11w hG, k_12 hG, k_12w hG, k_15 hG, k_15w hG, k_17 hG, k_17w hG, k_18 hG, k_18w hG, k_19 hG, k_19w hG, k_20 hG, k_20w hG, k_21 hG, k_21w hG, k_P hG, k_Pw hG, k_sP hG, k_Q hG, k_Qw hG, k_sQ hG, k_G hG, k_Gw hG, k_sG hG, k_Z hG, k_Zw hG, k_sZ hG, k_I hG, k_Iw hG, k_sI hG, k_O hG, k_Ow hG, k_sO hG, k_V hG, k_Vw hG, k_sV hG, k_M hG, k_Mw hG, k_sM hG, k_S hG, k_Sw hG, k_Swn hG, k_sS hG, k_T_0 hG, k_T_1 hG, k_T_2 hG, k_T_3 hG, k_T_4 hG, k_T_5 hG, k_T_6 hG, k_T_7 hG, k_T_8 hG, k_T_6v hG, k_T_2w hG, k_T_4w hG, k_T_3w hG, k_T_3wn hG, k_sT hG, k_H_0 hG, k_H_1 hG, k_H_2 hG, k_sH hG, k_A_0 hG, k_sA hG, k_J_0 hG, k_J_1 hG, k_J_2 hG, k_J_2w hG, k_sJ hG, k_C hG, k_sC hG, isTh_tg, isTh1, isTh8, isTh9, zT, oT, oF, zT0, oF0, o7, ob, z48, g2]
            conv => lhs; simp only [x27_37, x27_38, x27_41, x27_43, x27_44, x27_46, x27_47, x27_49, x27_50, x27_51, x27_54, x27_56, x27_57, x27_59, x27_60, x27_61, x27_63, x27_65, x27_66, x27_69, x27_70, x27_71, x27_72, x27_73, x27_74, x27_75, x27_78, bnd_some, Option.toList_some, Option.toList_none, List.cons_append, List.nil_append, List.singleton_append, clr_i, clr_r, clr_n, clr_0, clr_q, clr_l, isR_r, isR_n, isR_q, cat1_i, cat1_r, b0, b1, if_true, if_false, not_true, not_false_eq_true, reduceCtorEq, ite_self, and_true, true_and, and_false, false_and, or_true, true_or, or_false, false_or, k_1_0 hG, k_1_1 hG, k_1_1w hG, k_1_2 hG, k_1_3 hG, k_1_3w hG, k_1_4 hG, k_1_5 hG, k_1_5w hG, k_1_6 hG, k_1_7 hG, k_1_7w hG, k_1_8 hG, k_1_9 hG, k_1_9w hG, k_1_10 hG, k_1_11 hG, k_1_11w hG, k_1_12 hG, k_1_12w hG, k_1_13 hG, k_1_13w hG, k_1_14 hG, k_1_14w hG, k_1_15 hG, k_1_15w hG, k_1_16 hG, k_1_16w hG, k_7_0 hG, k_7_1 hG, k_7_2 hG, k_7_2w hG, k_7_3 hG, k_7_4 hG, k_7_5 hG, k_7_5w hG, k_7_6 hG, k_7_7 hG, k_7_8 hG, k_7_9 hG, k_7_10 hG, k_7_11 hG, k_7_12 hG, k_7_13 hG, k_7_14 hG, k_7_15 hG, k_7_15w hG, k_7_16 hG, k_7_17 hG, k_7_17w hG, k_s1 hG, k_s2 hG, k_s3 hG, k_s4 hG, k_s5 hG, k_s6 hG, k_s7 hG, k_s8 hG, k_s9 hG, k_s10 hG, k_s11 hG, k_s12 hG, k_s13 hG, k_s14 hG, k_s15 hG, k_s16 hG, k_s17 hG, k_s18 hG, k_s19 hG, k_s20 hG, k_s21 hG, k_2 hG, k_3 hG, k_4 hG, k_5 hG, k_6 hG, k_13 hG, k_14 hG, k_16 hG, k_8 hG, k_8w hG, k_9 hG, k_9w hG, k_10 hG, k_10w hG, k_11 hG, k_11w hG, k_12 hG, k_12w hG, k_15 hG, k_15w hG, k_17 hG, k_17w hG, k_18 hG, k_18w hG, k_19 hG, k_19w hG, k_20 hG, k_20w hG, k_21 hG, k_21w hG, k_P hG, k_Pw hG, k_sP hG, k_Q hG, k_Qw hG, k_sQ hG, k_G hG, k_Gw hG, k_sG hG, k_Z hG, k_Zw hG, k_sZ hG, k_I hG, k_Iw hG, k_sI hG, k_O hG, k_Ow hG, k_sO hG, k_V hG, k_Vw hG, k_sV hG, k_M hG, k_Mw hG, k_sM hG, k_S hG, k_Sw hG, k_Swn hG, k_sS hG, k_T_0 hG, k_T_1 hG, k_T_2 hG, k_T_3 hG, k_T_4 hG, k_T_5 hG, k_T_6 hG, k_T_7 hG, k_T_8 hG, k_T_6v hG, k_T_2w hG, k_T_4w hG, k_T_3w hG, k_T_3wn hG, k_sT hG, k_H_0 hG, k_H_1 hG, k_H_2 hG, k_sH hG, k_A_0 hG, k_sA hG, k_J_0 hG, k_J_1 hG, k_J_2 hG, k_J_2w hG, k_sJ hG, k_C hG, k_sC hG, isTh_tg, isTh1, isTh8, isTh9, zT, oT, oF, zT0, oF0, ta26, o7, ob, i8, ib, z47, c2, cb, z46, x18, x1b, z52, h1, nI_add, lt, hlt]
            conv => lhs; simp only [x27_82, x27_83, x27_84, x27_85, x27_87, x27_90, bnd_some, Option.toList_some, Option.toList_none, List.cons_append, List.nil_append, List.singleton_append, clr_i, clr_r, clr_n, clr_0, clr_q, clr_l, isR_r, isR_n, isR_q, cat1_i, cat1_r, b0, b1, if_true, if_false, not_true, not_false_eq_true, reduceCtorEq, ite_self, and_true, true_and, and_false, false_and, or_true, true_or, or_false, false_or, k_s7 hG, M, b2T, oF, not_false_eq_true]
            conv => lhs; simp only [x27_111, x27_114, bnd_some, Option.toList_some, Option.toList_none, List.cons_append, List.nil_append, List.singleton_append, clr_i, clr_r, clr_n, clr_0, clr_q, clr_l, isR_r, isR_n, isR_q, cat1_i, cat1_r, b0, b1, if_true, if_false, not_true, not_false_eq_true, reduceCtorEq, ite_self, and_true, true_and, and_false, false_and, or_true, true_or, or_false, false_or, nI_add]
          · have hcl' : clK C0 od tl (od x) (ch (od x) i) fr (x - fr) = false := by simpa using hcl
            rw [hcl'] at M
            have ve : v (ch (od x) i) = skV Cn al pc (fun i tl c => clK C0 od tl (od i) c fr (i - fr)) od kk (x + 1) (upN tl x (ch (od x) i)) (s + pc (od x) (ch (od x) i)) := by
              rw [← hv]
              simp only [hcl', hA.2, Bool.not_false, Bool.and_self, if_true]
            obtain ⟨C2, j1, j2, j3, j4⟩ := ihk (x + 1) (sup C1 53 x (nI (ch (od x) i))) (upN tl x (ch (od x) i)) (s + pc (od x) (ch (od x) i)) bz (by omega) (by omega) (fun f j a b => by rw [sup_f a]; exact s1 f j a b) (by rw [sup_f (by decide)]; exact h1) hbz (fun y => by
              have : x + 1 = nr := by omega
              rw [this, hr0] at hlt
              omega) (by omega) (fun y h1 h2 => by
              unfold upN
              by_cases e : y = x
              · subst e
                rw [if_pos rfl, sup_eq]
                exact ⟨c2, rfl⟩
              · rw [if_neg e, sup_j e, hy y (by omega)]
                exact htl y h1 (by omega))
            rw [← ve] at j2
            obtain ⟨C', i1, i2, i3, i4⟩ := ihu (i + 1) C2 _ (some (.int (nI (ch (od x) i)))) (some (.int (nI (s + pc (od x) (ch (od x) i))))) (by omega) j1 j2 (by
              have e : mnL v (ch (od x)) (i + 1) = min (mnL v (ch (od x)) i) (v (ch (od x) i)) := rfl
              rw [e]
              omega) (fun y hy2 => by rw [j3 y (by omega), sup_j (by omega)]; exact hy y hy2)
            refine ⟨C', i1, i2, i3, ?_⟩
            rw [← i4]
            conv => lhs; simp only [x27_25, x27_27, x27_28, x27_31, x27_33, x27_34, bnd_some, Option.toList_some, Option.toList_none, List.cons_append, List.nil_append, List.singleton_append, clr_i, clr_r, clr_n, clr_0, clr_q, clr_l, isR_r, isR_n, isR_q, cat1_i, cat1_r, b0, b1, if_true, if_false, not_true, not_false_eq_true, reduceCtorEq, ite_self, and_true, true_and, and_false, false_and, or_true, true_or, or_false, false_or, k_1_0 hG, k_1_1 hG, k_1_1w hG, k_1_2 hG, k_1_3 hG, k_1_3w hG, k_1_4 hG, k_1_5 hG, k_1_5w hG, k_1_6 hG, k_1_7 hG, k_1_7w hG, k_1_8 hG, k_1_9 hG, k_1_9w hG, k_1_10 hG, k_1_11 hG, k_1_11w hG, k_1_12 hG, k_1_12w hG, k_1_13 hG, k_1_13w hG, k_1_14 hG, k_1_14w hG, k_1_15 hG, k_1_15w hG, k_1_16 hG, k_1_16w hG, k_7_0 hG, k_7_1 hG, k_7_2 hG, k_7_2w hG, k_7_3 hG, k_7_4 hG, k_7_5 hG, k_7_5w hG, k_7_6 hG, k_7_7 hG, k_7_8 hG, k_7_9 hG, k_7_10 hG, k_7_11 hG, k_7_12 hG, k_7_13 hG, k_7_14 hG, k_7_15 hG, k_7_15w hG, k_7_16 hG, k_7_17 hG, k_7_17w hG, k_s1 hG, k_s2 hG, k_s3 hG, k_s4 hG, k_s5 hG, k_s6 hG, k_s7 hG, k_s8 hG, k_s9 hG, k_s10 hG, k_s11 hG, k_s12 hG, k_s13 hG, k_s14 hG, k_s15 hG, k_s16 hG, k_s17 hG, k_s18 hG, k_s19 hG, k_s20 hG, k_s21 hG, k_2 hG, k_3 hG, k_4 hG, k_5 hG, k_6 hG, k_13 hG, k_14 hG, k_16 hG, k_8 hG, k_8w hG, k_9 hG, k_9w hG, k_10 hG, k_10w hG, k_11 hG, k_11w hG, k_12 hG, k_12w hG, k_15 hG, k_15w hG, k_17 hG, k_17w hG, k_18 hG, k_18w hG, k_19 hG, k_19w hG, k_20 hG, k_20w hG, k_21 hG, k_21w hG, k_P hG, k_Pw hG, k_sP hG, k_Q hG, k_Qw hG, k_sQ hG, k_G hG, k_Gw hG, k_sG hG, k_Z hG, k_Zw hG, k_sZ hG, k_I hG, k_Iw hG, k_sI hG, k_O hG, k_Ow hG, k_sO hG, k_V hG, k_Vw hG, k_sV hG, k_M hG, k_Mw hG, k_sM hG, k_S hG, k_Sw hG, k_Swn hG, k_sS hG, k_T_0 hG, k_T_1 hG, k_T_2 hG, k_T_3 hG, k_T_4 hG, k_T_5 hG, k_T_6 hG, k_T_7 hG, k_T_8 hG, k_T_6v hG, k_T_2w hG, k_T_4w hG, k_T_3w hG, k_T_3wn hG, k_sT hG, k_H_0 hG, k_H_1 hG, k_H_2 hG, k_sH hG, k_A_0 hG, k_sA hG, k_J_0 hG, k_J_1 hG, k_J_2 hG, k_J_2w hG, k_sJ hG, k_C hG, k_sC hG, isTh_tg, isTh1, isTh8, isTh9, zT, oT, oF, zT0, oF0, o7, ob, z48, g2]
            conv => lhs; simp only [x27_37, x27_38, x27_41, x27_43, x27_44, x27_46, x27_47, x27_49, x27_50, x27_51, x27_54, x27_56, x27_57, x27_59, x27_60, x27_61, x27_63, x27_65, x27_66, x27_69, x27_70, x27_71, x27_72, x27_73, x27_74, x27_75, x27_78, bnd_some, Option.toList_some, Option.toList_none, List.cons_append, List.nil_append, List.singleton_append, clr_i, clr_r, clr_n, clr_0, clr_q, clr_l, isR_r, isR_n, isR_q, cat1_i, cat1_r, b0, b1, if_true, if_false, not_true, not_false_eq_true, reduceCtorEq, ite_self, and_true, true_and, and_false, false_and, or_true, true_or, or_false, false_or, k_1_0 hG, k_1_1 hG, k_1_1w hG, k_1_2 hG, k_1_3 hG, k_1_3w hG, k_1_4 hG, k_1_5 hG, k_1_5w hG, k_1_6 hG, k_1_7 hG, k_1_7w hG, k_1_8 hG, k_1_9 hG, k_1_9w hG, k_1_10 hG, k_1_11 hG, k_1_11w hG, k_1_12 hG, k_1_12w hG, k_1_13 hG, k_1_13w hG, k_1_14 hG, k_1_14w hG, k_1_15 hG, k_1_15w hG, k_1_16 hG, k_1_16w hG, k_7_0 hG, k_7_1 hG, k_7_2 hG, k_7_2w hG, k_7_3 hG, k_7_4 hG, k_7_5 hG, k_7_5w hG, k_7_6 hG, k_7_7 hG, k_7_8 hG, k_7_9 hG, k_7_10 hG, k_7_11 hG, k_7_12 hG, k_7_13 hG, k_7_14 hG, k_7_15 hG, k_7_15w hG, k_7_16 hG, k_7_17 hG, k_7_17w hG, k_s1 hG, k_s2 hG, k_s3 hG, k_s4 hG, k_s5 hG, k_s6 hG, k_s7 hG, k_s8 hG, k_s9 hG, k_s10 hG, k_s11 hG, k_s12 hG, k_s13 hG, k_s14 hG, k_s15 hG, k_s16 hG, k_s17 hG, k_s18 hG, k_s19 hG, k_s20 hG, k_s21 hG, k_2 hG, k_3 hG, k_4 hG, k_5 hG, k_6 hG, k_13 hG, k_14 hG, k_16 hG, k_8 hG, k_8w hG, k_9 hG, k_9w hG, k_10 hG, k_10w hG, k_11 hG, k_11w hG, k_12 hG, k_12w hG, k_15 hG, k_15w hG, k_17 hG, k_17w hG, k_18 hG, k_18w hG, k_19 hG, k_19w hG, k_20 hG, k_20w hG, k_21 hG, k_21w hG, k_P hG, k_Pw hG, k_sP hG, k_Q hG, k_Qw hG, k_sQ hG, k_G hG, k_Gw hG, k_sG hG, k_Z hG, k_Zw hG, k_sZ hG, k_I hG, k_Iw hG, k_sI hG, k_O hG, k_Ow hG, k_sO hG, k_V hG, k_Vw hG, k_sV hG, k_M hG, k_Mw hG, k_sM hG, k_S hG, k_Sw hG, k_Swn hG, k_sS hG, k_T_0 hG, k_T_1 hG, k_T_2 hG, k_T_3 hG, k_T_4 hG, k_T_5 hG, k_T_6 hG, k_T_7 hG, k_T_8 hG, k_T_6v hG, k_T_2w hG, k_T_4w hG, k_T_3w hG, k_T_3wn hG, k_sT hG, k_H_0 hG, k_H_1 hG, k_H_2 hG, k_sH hG, k_A_0 hG, k_sA hG, k_J_0 hG, k_J_1 hG, k_J_2 hG, k_J_2w hG, k_sJ hG, k_C hG, k_sC hG, isTh_tg, isTh1, isTh8, isTh9, zT, oT, oF, zT0, oF0, ta26, o7, ob, i8, ib, z47, c2, cb, z46, x18, x1b, z52, h1, nI_add, lt, hlt]
            conv => lhs; simp only [x27_82, x27_83, x27_84, x27_85, x27_87, x27_90, bnd_some, Option.toList_some, Option.toList_none, List.cons_append, List.nil_append, List.singleton_append, clr_i, clr_r, clr_n, clr_0, clr_q, clr_l, isR_r, isR_n, isR_q, cat1_i, cat1_r, b0, b1, if_true, if_false, not_true, not_false_eq_true, reduceCtorEq, ite_self, and_true, true_and, and_false, false_and, or_true, true_or, or_false, false_or, k_s7 hG, M, Bool.false_eq_true, b2F, zT, not_true]
            conv => lhs; simp only [x27_93, x27_94, x27_97, x27_98, x27_100, x27_101, x27_102, x27_103, x27_104, x27_105, x27_106, x27_108, bnd_some, Option.toList_some, Option.toList_none, List.cons_append, List.nil_append, List.singleton_append, clr_i, clr_r, clr_n, clr_0, clr_q, clr_l, isR_r, isR_n, isR_q, cat1_i, cat1_r, b0, b1, if_true, if_false, not_true, not_false_eq_true, reduceCtorEq, ite_self, and_true, true_and, and_false, false_and, or_true, true_or, or_false, false_or, k_1_0 hG, k_1_1 hG, k_1_1w hG, k_1_2 hG, k_1_3 hG, k_1_3w hG, k_1_4 hG, k_1_5 hG, k_1_5w hG, k_1_6 hG, k_1_7 hG, k_1_7w hG, k_1_8 hG, k_1_9 hG, k_1_9w hG, k_1_10 hG, k_1_11 hG, k_1_11w hG, k_1_12 hG, k_1_12w hG, k_1_13 hG, k_1_13w hG, k_1_14 hG, k_1_14w hG, k_1_15 hG, k_1_15w hG, k_1_16 hG, k_1_16w hG, k_7_0 hG, k_7_1 hG, k_7_2 hG, k_7_2w hG, k_7_3 hG, k_7_4 hG, k_7_5 hG, k_7_5w hG, k_7_6 hG, k_7_7 hG, k_7_8 hG, k_7_9 hG, k_7_10 hG, k_7_11 hG, k_7_12 hG, k_7_13 hG, k_7_14 hG, k_7_15 hG, k_7_15w hG, k_7_16 hG, k_7_17 hG, k_7_17w hG, k_s1 hG, k_s2 hG, k_s3 hG, k_s4 hG, k_s5 hG, k_s6 hG, k_s7 hG, k_s8 hG, k_s9 hG, k_s10 hG, k_s11 hG, k_s12 hG, k_s13 hG, k_s14 hG, k_s15 hG, k_s16 hG, k_s17 hG, k_s18 hG, k_s19 hG, k_s20 hG, k_s21 hG, k_2 hG, k_3 hG, k_4 hG, k_5 hG, k_6 hG, k_13 hG, k_14 hG, k_16 hG, k_8 hG, k_8w hG, k_9 hG, k_9w hG, k_10 hG, k_10w hG, k_11 hG, k_11w hG, k_12 hG, k_12w hG, k_15 hG, k_15w hG, k_17 hG, k_17w hG, k_18 hG, k_18w hG, k_19 hG, k_19w hG, k_20 hG, k_20w hG, k_21 hG, k_21w hG, k_P hG, k_Pw hG, k_sP hG, k_Q hG, k_Qw hG, k_sQ hG, k_G hG, k_Gw hG, k_sG hG, k_Z hG, k_Zw hG, k_sZ hG, k_I hG, k_Iw hG, k_sI hG, k_O hG, k_Ow hG, k_sO hG, k_V hG, k_Vw hG, k_sV hG, k_M hG, k_Mw hG, k_sM hG, k_S hG, k_Sw hG, k_Swn hG, k_sS hG, k_T_0 hG, k_T_1 hG, k_T_2 hG, k_T_3 hG, k_T_4 hG, k_T_5 hG, k_T_6 hG, k_T_7 hG, k_T_8 hG, k_T_6v hG, k_T_2w hG, k_T_4w hG, k_T_3w hG, k_T_3wn hG, k_sT hG, k_H_0 hG, k_H_1 hG, k_H_2 hG, k_sH hG, k_A_0 hG, k_sA hG, k_J_0 hG, k_J_1 hG, k_J_2 hG, k_J_2w hG, k_sJ hG, k_C hG, k_sC hG, isTh_tg, isTh1, isTh8, isTh9, zT, oT, oF, zT0, oF0, x7, xb, nI_add, j4]
            conv => lhs; simp only [x27_111, x27_114, bnd_some, Option.toList_some, Option.toList_none, List.cons_append, List.nil_append, List.singleton_append, clr_i, clr_r, clr_n, clr_0, clr_q, clr_l, isR_r, isR_n, isR_q, cat1_i, cat1_r, b0, b1, if_true, if_false, not_true, not_false_eq_true, reduceCtorEq, ite_self, and_true, true_and, and_false, false_and, or_true, true_or, or_false, false_or, nI_add]
        · have hlt' : ¬ nI (s + pc (od x) (ch (od x) i) + rs (x + 1)) < nI bz := fun y => hlt (lt.mp y)
          have tail := mnL_tail (v := v) (ch := ch (od x)) (i := i) (n := cc (od x)) (x := bz) (by omega) (fun j h1 h2 => by
            have hj := (qA (ch (od x) j)).mp ⟨j, h2, rfl⟩
            have a := vlow (ch (od x) j) hj.1
            have b : pc (od x) (ch (od x) i) ≤ pc (od x) (ch (od x) j) := by
              by_cases e : i = j
              · subst e; exact Nat.le_refl _
              · exact qs i j (by omega) h2
            omega)
          have mono := mnL_mono (v := v) (ch := ch (od x)) (i := i) (n := cc (od x)) (by omega)
          refine ⟨C1, s1, by rw [h1]; exact congrArg nI (by omega), hy, ?_⟩
          conv => lhs; simp only [x27_25, x27_27, x27_28, x27_31, x27_33, x27_34, bnd_some, Option.toList_some, Option.toList_none, List.cons_append, List.nil_append, List.singleton_append, clr_i, clr_r, clr_n, clr_0, clr_q, clr_l, isR_r, isR_n, isR_q, cat1_i, cat1_r, b0, b1, if_true, if_false, not_true, not_false_eq_true, reduceCtorEq, ite_self, and_true, true_and, and_false, false_and, or_true, true_or, or_false, false_or, k_1_0 hG, k_1_1 hG, k_1_1w hG, k_1_2 hG, k_1_3 hG, k_1_3w hG, k_1_4 hG, k_1_5 hG, k_1_5w hG, k_1_6 hG, k_1_7 hG, k_1_7w hG, k_1_8 hG, k_1_9 hG, k_1_9w hG, k_1_10 hG, k_1_11 hG, k_1_11w hG, k_1_12 hG, k_1_12w hG, k_1_13 hG, k_1_13w hG, k_1_14 hG, k_1_14w hG, k_1_15 hG, k_1_15w hG, k_1_16 hG, k_1_16w hG, k_7_0 hG, k_7_1 hG, k_7_2 hG, k_7_2w hG, k_7_3 hG, k_7_4 hG, k_7_5 hG, k_7_5w hG, k_7_6 hG, k_7_7 hG, k_7_8 hG, k_7_9 hG, k_7_10 hG, k_7_11 hG, k_7_12 hG, k_7_13 hG, k_7_14 hG, k_7_15 hG, k_7_15w hG, k_7_16 hG, k_7_17 hG, k_7_17w hG, k_s1 hG, k_s2 hG, k_s3 hG, k_s4 hG, k_s5 hG, k_s6 hG, k_s7 hG, k_s8 hG, k_s9 hG, k_s10 hG, k_s11 hG, k_s12 hG, k_s13 hG, k_s14 hG, k_s15 hG, k_s16 hG, k_s17 hG, k_s18 hG, k_s19 hG, k_s20 hG, k_s21 hG, k_2 hG, k_3 hG, k_4 hG, k_5 hG, k_6 hG, k_13 hG, k_14 hG, k_16 hG, k_8 hG, k_8w hG, k_9 hG, k_9w hG, k_10 hG, k_10w hG, k_11 hG, k_11w hG, k_12 hG, k_12w hG, k_15 hG, k_15w hG, k_17 hG, k_17w hG, k_18 hG, k_18w hG, k_19 hG, k_19w hG, k_20 hG, k_20w hG, k_21 hG, k_21w hG, k_P hG, k_Pw hG, k_sP hG, k_Q hG, k_Qw hG, k_sQ hG, k_G hG, k_Gw hG, k_sG hG, k_Z hG, k_Zw hG, k_sZ hG, k_I hG, k_Iw hG, k_sI hG, k_O hG, k_Ow hG, k_sO hG, k_V hG, k_Vw hG, k_sV hG, k_M hG, k_Mw hG, k_sM hG, k_S hG, k_Sw hG, k_Swn hG, k_sS hG, k_T_0 hG, k_T_1 hG, k_T_2 hG, k_T_3 hG, k_T_4 hG, k_T_5 hG, k_T_6 hG, k_T_7 hG, k_T_8 hG, k_T_6v hG, k_T_2w hG, k_T_4w hG, k_T_3w hG, k_T_3wn hG, k_sT hG, k_H_0 hG, k_H_1 hG, k_H_2 hG, k_sH hG, k_A_0 hG, k_sA hG, k_J_0 hG, k_J_1 hG, k_J_2 hG, k_J_2w hG, k_sJ hG, k_C hG, k_sC hG, isTh_tg, isTh1, isTh8, isTh9, zT, oT, oF, zT0, oF0, o7, ob, z48, g2]
          simp only [x27_37, x27_38, x27_41, x27_43, x27_44, x27_46, x27_47, x27_49, x27_50, x27_51, x27_54, x27_56, x27_57, x27_59, x27_60, x27_61, x27_63, x27_65, x27_66, x27_69, x27_70, x27_71, x27_72, x27_73, x27_74, x27_75, x27_78, x27_81, bnd_some, Option.toList_some, Option.toList_none, List.cons_append, List.nil_append, List.singleton_append, clr_i, clr_r, clr_n, clr_0, clr_q, clr_l, isR_r, isR_n, isR_q, cat1_i, cat1_r, b0, b1, if_true, if_false, not_true, not_false_eq_true, reduceCtorEq, ite_self, and_true, true_and, and_false, false_and, or_true, true_or, or_false, false_or, k_1_0 hG, k_1_1 hG, k_1_1w hG, k_1_2 hG, k_1_3 hG, k_1_3w hG, k_1_4 hG, k_1_5 hG, k_1_5w hG, k_1_6 hG, k_1_7 hG, k_1_7w hG, k_1_8 hG, k_1_9 hG, k_1_9w hG, k_1_10 hG, k_1_11 hG, k_1_11w hG, k_1_12 hG, k_1_12w hG, k_1_13 hG, k_1_13w hG, k_1_14 hG, k_1_14w hG, k_1_15 hG, k_1_15w hG, k_1_16 hG, k_1_16w hG, k_7_0 hG, k_7_1 hG, k_7_2 hG, k_7_2w hG, k_7_3 hG, k_7_4 hG, k_7_5 hG, k_7_5w hG, k_7_6 hG, k_7_7 hG, k_7_8 hG, k_7_9 hG, k_7_10 hG, k_7_11 hG, k_7_12 hG, k_7_13 hG, k_7_14 hG, k_7_15 hG, k_7_15w hG, k_7_16 hG, k_7_17 hG, k_7_17w hG, k_s1 hG, k_s2 hG, k_s3 hG, k_s4 hG, k_s5 hG, k_s6 hG, k_s7 hG, k_s8 hG, k_s9 hG, k_s10 hG, k_s11 hG, k_s12 hG, k_s13 hG, k_s14 hG, k_s15 hG, k_s16 hG, k_s17 hG, k_s18 hG, k_s19 hG, k_s20 hG, k_s21 hG, k_2 hG, k_3 hG, k_4 hG, k_5 hG, k_6 hG, k_13 hG, k_14 hG, k_16 hG, k_8 hG, k_8w hG, k_9 hG, k_9w hG, k_10 hG, k_10w hG, k_11 hG, k_11w hG, k_12 hG, k_12w hG, k_15 hG, k_15w hG, k_17 hG, k_17w hG, k_18 hG, k_18w hG, k_19 hG, k_19w hG, k_20 hG, k_20w hG, k_21 hG, k_21w hG, k_P hG, k_Pw hG, k_sP hG, k_Q hG, k_Qw hG, k_sQ hG, k_G hG, k_Gw hG, k_sG hG, k_Z hG, k_Zw hG, k_sZ hG, k_I hG, k_Iw hG, k_sI hG, k_O hG, k_Ow hG, k_sO hG, k_V hG, k_Vw hG, k_sV hG, k_M hG, k_Mw hG, k_sM hG, k_S hG, k_Sw hG, k_Swn hG, k_sS hG, k_T_0 hG, k_T_1 hG, k_T_2 hG, k_T_3 hG, k_T_4 hG, k_T_5 hG, k_T_6 hG, k_T_7 hG, k_T_8 hG, k_T_6v hG, k_T_2w hG, k_T_4w hG, k_T_3w hG, k_T_3wn hG, k_sT hG, k_H_0 hG, k_H_1 hG, k_H_2 hG, k_sH hG, k_A_0 hG, k_sA hG, k_J_0 hG, k_J_1 hG, k_J_2 hG, k_J_2w hG, k_sJ hG, k_C hG, k_sC hG, isTh_tg, isTh1, isTh8, isTh9, zT, oT, oF, zT0, oF0, ta26, o7, ob, i8, ib, z47, c2, cb, z46, x18, x1b, z52, h1, nI_add, hlt']
    obtain ⟨C', i1, i2, i3, i4⟩ := loop (cc (od x)) 0 C best none none (by omega) sz h54 (by unfold mnL; omega) (fun y _ => rfl)
    refine ⟨C', i1, i2, i3, ?_⟩
    have z21 : C 21 0 = nI nr := by rw [sz 21 0 (by decide) (by decide)]; exact h21
    have z51 : C 51 x = nI (od x) := by rw [sz 51 x (by decide) (by decide)]; exact o2
    rw [← i4, ed]
    conv => lhs; simp only [x27_0, x27_1, x27_2, x27_5, x27_8, x27_9, x27_10, x27_13, x27_14, x27_15, x27_18, x27_19, x27_20, x27_22, x27_23, bnd_some, Option.toList_some, Option.toList_none, List.cons_append, List.nil_append, List.singleton_append, clr_i, clr_r, clr_n, clr_0, clr_q, clr_l, isR_r, isR_n, isR_q, cat1_i, cat1_r, b0, b1, if_true, if_false, not_true, not_false_eq_true, reduceCtorEq, ite_self, and_true, true_and, and_false, false_and, or_true, true_or, or_false, false_or, k_1_0 hG, k_1_1 hG, k_1_1w hG, k_1_2 hG, k_1_3 hG, k_1_3w hG, k_1_4 hG, k_1_5 hG, k_1_5w hG, k_1_6 hG, k_1_7 hG, k_1_7w hG, k_1_8 hG, k_1_9 hG, k_1_9w hG, k_1_10 hG, k_1_11 hG, k_1_11w hG, k_1_12 hG, k_1_12w hG, k_1_13 hG, k_1_13w hG, k_1_14 hG, k_1_14w hG, k_1_15 hG, k_1_15w hG, k_1_16 hG, k_1_16w hG, k_7_0 hG, k_7_1 hG, k_7_2 hG, k_7_2w hG, k_7_3 hG, k_7_4 hG, k_7_5 hG, k_7_5w hG, k_7_6 hG, k_7_7 hG, k_7_8 hG, k_7_9 hG, k_7_10 hG, k_7_11 hG, k_7_12 hG, k_7_13 hG, k_7_14 hG, k_7_15 hG, k_7_15w hG, k_7_16 hG, k_7_17 hG, k_7_17w hG, k_s1 hG, k_s2 hG, k_s3 hG, k_s4 hG, k_s5 hG, k_s6 hG, k_s7 hG, k_s8 hG, k_s9 hG, k_s10 hG, k_s11 hG, k_s12 hG, k_s13 hG, k_s14 hG, k_s15 hG, k_s16 hG, k_s17 hG, k_s18 hG, k_s19 hG, k_s20 hG, k_s21 hG, k_2 hG, k_3 hG, k_4 hG, k_5 hG, k_6 hG, k_13 hG, k_14 hG, k_16 hG, k_8 hG, k_8w hG, k_9 hG, k_9w hG, k_10 hG, k_10w hG, k_11 hG, k_11w hG, k_12 hG, k_12w hG, k_15 hG, k_15w hG, k_17 hG, k_17w hG, k_18 hG, k_18w hG, k_19 hG, k_19w hG, k_20 hG, k_20w hG, k_21 hG, k_21w hG, k_P hG, k_Pw hG, k_sP hG, k_Q hG, k_Qw hG, k_sQ hG, k_G hG, k_Gw hG, k_sG hG, k_Z hG, k_Zw hG, k_sZ hG, k_I hG, k_Iw hG, k_sI hG, k_O hG, k_Ow hG, k_sO hG, k_V hG, k_Vw hG, k_sV hG, k_M hG, k_Mw hG, k_sM hG, k_S hG, k_Sw hG, k_Swn hG, k_sS hG, k_T_0 hG, k_T_1 hG, k_T_2 hG, k_T_3 hG, k_T_4 hG, k_T_5 hG, k_T_6 hG, k_T_7 hG, k_T_8 hG, k_T_6v hG, k_T_2w hG, k_T_4w hG, k_T_3w hG, k_T_3wn hG, k_sT hG, k_H_0 hG, k_H_1 hG, k_H_2 hG, k_sH hG, k_A_0 hG, k_sA hG, k_J_0 hG, k_J_1 hG, k_J_2 hG, k_J_2w hG, k_sJ hG, k_C hG, k_sC hG, isTh_tg, isTh1, isTh8, isTh9, zT, oT, oF, zT0, oF0, z21, g, x7, xb, z51]
end DA
