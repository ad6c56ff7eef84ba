/-! ===== the class: plan, least ===== -/
def pcF (C : St) (L : List Nat) (ac : Nat → Nat) (x c : Nat) : Nat := min 1000000 (costV C (ac x) (L.getD c 0)).toNatClampNeg
theorem gpV_sym {C : St} {nr r q : Nat} : gpV C nr r q = gpV C nr q r := by
  unfold gpV
  by_cases h : C 23 r < C 23 q
  · have h2 : ¬ C 23 q < C 23 r := fun y => Int32.lt_asymm h y
    rw [if_pos h, if_neg h2, if_pos h]
  · by_cases h2 : C 23 q < C 23 r
    · rw [if_neg h, if_pos h2, if_pos h2]
    · rw [if_neg h, if_neg h2, if_neg h2, if_neg h]
theorem clB_sym {C : St} {nr r q c b : Nat} (h49 : ∀ x q, x < nr → q < nr → C 49 (8 * x + q) = gpV C nr x q) (hr : r < nr) (hq : q < nr) : clB C r c q b = clB C q b r c := by
  unfold clB
  rw [h49 r q hr hq, h49 q r hq hr, gpV_sym (r := q) (q := r)]
  by_cases e : C 23 r = C 23 q
  · rw [if_pos e, if_pos e.symm, Bool.eq_iff_iff, decide_eq_true_eq, decide_eq_true_eq]
    exact ⟨fun y => y.symm, fun y => y.symm⟩
  · rw [if_neg e, if_neg (show ¬ C 23 q = C 23 r from fun y => e y.symm)]
    by_cases e2 : gpV C nr r q < 0 ∨ c = b
    · rw [if_pos e2, if_pos (show gpV C nr r q < 0 ∨ b = c from e2.elim Or.inl (fun y => Or.inr y.symm))]
    · rw [if_neg e2, if_neg (show ¬ (gpV C nr r q < 0 ∨ b = c) from fun y => e2 (y.elim Or.inl (fun z => Or.inr z.symm)))]
      rcases Int32.lt_or_lt_of_ne e with y | y
      · rw [if_neg (fun z => Int32.lt_asymm y z), if_pos y]
      · rw [if_pos y, if_neg (fun z => Int32.lt_asymm y z)]
/-- what solve leaves -/
def Slv (C3 C2 : St) (nr : Nat) (gr od inv : Nat → Nat) : Prop := (∀ f j, f < 46 ∨ 54 < f → C2 f j = C3 f j) ∧ (∀ x q, x < nr → q < nr → C2 49 (8 * x + q) = gpV C2 nr x q) ∧ Ord nr od inv ∧ Sym C2 nr ∧ Grp C2 nr gr od
section DL
variable {d n k : Nat} {G : Gh} {C : St} {m0 : Mm} {s0 : Nat → Nat × Nat} {nr : Nat} {L : List Nat} {ac : Nat → Nat} {to : Nat → Option Nat} {pc : Nat → Nat → Nat}
theorem slv18 {fr : Int32} {tv : Option Nat} (hG : OKG G) (sv : Sv G C nr L ac to pc) (hto : ∀ x, x < nr → (nI x = fr ∧ to x = tv) ∨ (¬ nI x = fr ∧ to x = none)) : ∃ (C2 : St) (gr od inv : Nat → Nat), Slv C C2 nr gr od inv ∧ (rsT C2 L.length (alG C L ac to) pc od nr 0 < 2147483647 → Pc2 C2 nr L.length od pc (alG C L ac to) (rsT C2 L.length (alG C L ac to) pc od nr)) ∧ ex (d + 10) 18 0 [some (.ref (G.ad 7)), some (.int fr), some (thO G tv), none] [] (cM G C m0, cS G s0, n, k) = some (some (.int (nI (rsT C2 L.length (alG C L ac to) pc od nr 0))), (cM G C2 m0, cS G s0, n, k)) := by
  obtain ⟨C2, gr, od, h1, h2, h3, h4, h5, h6, h7, h8⟩ := c18 (d := d) (m0 := m0) (s0 := s0) (n := n) (k := k) hG sv hto
  have hx : ∀ x, ∃ i, x < nr → i < nr ∧ od i = x := fun x => by
    by_cases h : x < nr
    · obtain ⟨i, a, b⟩ := h6 x h
      exact ⟨i, fun _ => ⟨a, b⟩⟩
    · exact ⟨0, fun y => absurd y h⟩
  obtain ⟨inv, hinv⟩ := Classical.axiomOfChoice hx
  have gv : ∀ x q, gpV C2 nr x q = gpV C nr x q := fun x q => gpV_eq (fun j => h1 22 j (Or.inl (by decide))) (fun j => h1 23 j (Or.inl (by decide))) (fun j => h1 24 j (Or.inl (by decide))) nr x q
  have g49 : ∀ x q, x < nr → q < nr → C2 49 (8 * x + q) = gpV C2 nr x q := fun x q a b => by rw [gv]; exact h2 x q a b
  have inj : ∀ i j, i < nr → j < nr → od i = od j → i = j := fun i j hi hj e => by
    rcases Nat.lt_trichotomy i j with z | z | z
    · rcases h5 i j z hj with w | w
      · rw [e] at w; omega
      · rw [e] at w; omega
    · exact z
    · rcases h5 j i z hi with w | w
      · rw [e] at w; omega
      · rw [e] at w; omega
  have sy : Sym C2 nr := fun r c q b hr hq _ => clB_sym g49 hr hq
  refine ⟨C2, gr, od, inv, ⟨h1, g49, ⟨fun i hi => (h4 i hi).1, hinv, fun i hi => ?_⟩, sy, ?_, h5⟩, h7, h8⟩
  · obtain ⟨a, b⟩ := hinv (od i) (h4 i hi).1
    exact inj _ _ a hi b
  · have one : ∀ a b, b < a → a < nr → gr a ≠ gr b → ∀ c e, clB C2 a c b e = false := fun a b hb ha ne c e => by
      have nr' : ¬ relB C2 a b := fun y => ne (h3 a b hb ha y)
      unfold relB at nr'
      have n1 : ¬ C2 23 a = C2 23 b := fun y => nr' (Or.inl y)
      have n2 : C2 49 (8 * a + b) < 0 := Classical.byContradiction (fun y => nr' (Or.inr y))
      unfold clB
      rw [if_neg n1, if_pos (Or.inl n2)]
    intro a b ha hb ne ng c e
    by_cases lt : b < a
    · exact one a b lt ha ng c e
    · rw [sy a c b e ha hb ne]
      exact one b a (by omega) hb (fun y => ng y.symm) e c
theorem inv_as {x y z : Int32} : x + y + z - z - y = x := by rw [i_as, i_as]
/-- numbers behind locking, gathering -/
def Gst (C C3 : St) (L : List Nat) : Prop := (∀ f j, f ≠ 14 → f ≠ 15 → f ≠ 42 → f ≠ 43 → f ≠ 44 → f ≠ 45 → C3 f j = C f j) ∧ (∀ f j, f = 14 ∨ f = 15 → C3 f j = gS1 C f j) ∧ C3 43 0 = nI L.length ∧ (∀ i, i < L.length → C3 44 i = nI (L.getD i 0) ∧ C3 45 i = minV C3 (L.getD i 0)) ∧ (∀ j, L.length ≤ j → C3 44 j = C 44 j)
theorem gat_eq {S Z : St} (h2 : ∀ j, Z 2 j = S 2 j) (h3 : ∀ j, Z 3 j = S 3 j) (h4 : ∀ j, Z 4 j = S 4 j) : ∀ t, gat Z t = gat S t := by
  intro t
  induction t with
  | zero => rfl
  | succ t ih =>
    unfold gat
    rw [ih]
    have : onR Z t ↔ onR S t := by unfold onR; rw [h2, h3, h4]
    by_cases e : (gat S t).length < 8 ∧ onR S t
    · rw [if_pos e, if_pos ⟨e.1, this.mpr e.2⟩]
    · rw [if_neg e, if_neg (fun y => e ⟨y.1, this.mp y.2⟩)]
theorem gst_of {L : List Nat} {R : Nat} {C3 : St} (h8 : C 8 0 = nI R) (gq : GCq (lkR C R) L C3) : Gst C C3 L ∧ C3 42 0 = C 42 0 + nI 1 + nI R ∧ ∀ j, j ≠ 0 → C3 42 j = C 42 j := by
  obtain ⟨g1, g2, g3, g4⟩ := gq
  refine ⟨⟨fun f j a b c e g h => ?_, fun f j h => ?_, g2, fun i hi => ⟨(g3 i hi).1, ?_⟩, fun j hj => ?_⟩, ?_, fun j hj => ?_⟩
  · rw [g1 f j e g h]
    unfold lkR
    rw [sup_f c, sup_f b, sup_f a]
  · rw [g1 f j (by omega) (by omega) (by omega)]
    unfold lkR gS1
    rw [sup_f (by omega), h8]
  · rw [(g3 i hi).2]
    exact (minV_eq (fun j => g1 2 j (by decide) (by decide) (by decide)) (fun j => g1 7 j (by decide) (by decide) (by decide)) _).symm
  · rw [g4 j hj]
    unfold lkR
    rw [sup_f (by decide), sup_f (by decide), sup_f (by decide)]
  · rw [g1 42 0 (by decide) (by decide) (by decide)]
    unfold lkR
    rw [sup_eq]
  · rw [g1 42 j (by decide) (by decide) (by decide)]
    unfold lkR
    rw [sup_j hj, sup_f (by decide), sup_f (by decide)]
/-- what holds where a plan is asked for -/
def Wpc (G : Gh) (C : St) (nr : Nat) : Prop := OKC G C ∧ Wnum C ∧ Wset C G.T ∧ W4 G ∧ Wro G C nr ∧ Whm G C ∧ (∀ t, t < G.T → C 3 t = nI 1 → ¬ C 4 t = -1)
theorem costV_n {T : Nat} {a t : Nat} (wn : Wnum C) (ws : Wset C T) (hT : T ≤ 200) (ht : t < T) (hk : ∃ c, c ≤ 4 ∧ C 2 t = nI c) : ∃ y, y ≤ 1000000 ∧ costV C a t = nI y := by
  obtain ⟨c, c1, c2⟩ := hk
  have one : ∀ x e, e ≤ 3 → C 2 x = nI e → ∃ y, y ≤ 30004 ∧ prc (C 2 x) (costG C a x 6) = nI y := fun x e e1 e2 => by
    obtain ⟨y, y1, y2⟩ := costG_n wn a x 6
    obtain ⟨z, z1, z2⟩ := prc_n (kd := e) (y := y) e1 (by omega)
    exact ⟨z, by omega, by rw [e2, y2, z2]⟩
  unfold costV
  by_cases e4 : C 2 t = nI 4
  · rw [if_pos e4]
    have all : ∀ u, u ≤ 6 → ∃ y, y ≤ 30004 * u ∧ costB C a t u = nI y := by
      intro u
      induction u with
      | zero => intro _; exact ⟨0, Nat.le_refl _, rfl⟩
      | succ u ih =>
        intro hu
        obtain ⟨y, y1, y2⟩ := ih (by omega)
        unfold costB
        rcases ws t ht e4 u (by omega) with z | ⟨x, x1, x2, e, e1, e2⟩
        · rw [thI_n z, y2]
          exact ⟨y, by omega, by rw [nI_add, Nat.add_zero]⟩
        · obtain ⟨w, w1, w2⟩ := one x e e1 e2
          rw [thI_s x2 (by omega), y2]
          simp only [w2, nI_add]
          exact ⟨y + w, by omega, rfl⟩
    obtain ⟨y, y1, y2⟩ := all 6 (Nat.le_refl _)
    exact ⟨y, by omega, y2⟩
  · rw [if_neg e4]
    obtain ⟨y, y1, y2⟩ := one t c (by
      rcases Nat.lt_or_ge c 4 with q | q
      · omega
      · exact absurd (by rw [c2, show c = 4 by omega]) e4) c2
    exact ⟨y, by omega, y2⟩
end DL
