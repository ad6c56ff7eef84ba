/-! ===== a run of the small machine is a run of the machine ===== -/
def isCR (i : Instr) : Bool := match i with
  | .invokestatic _ => true
  | .invokespecial _ => true
  | .invokevirtual _ => true
  | .ireturn => true
  | .areturn => true
  | .return_ => true
  | _ => false
section GOR
variable {mi pc pc' len : Nat} {L L' A : Lc} {st st' : List Value} {h h' h2 : Hp}
/-- a straight step: what it leaves -/
def okO (h : Hp) (o : Option Ou) : Prop := match o with
  | none => True
  | some (.inl (_, _, _, h')) => h.2.2.1 ≤ h'.2.2.1 ∧ h.2.2.2 ≤ h'.2.2.2
  | some (.inr _) => False
theorem ok_none : okO h none := trivial
theorem ok_nxt {x : Hp} (h1 : h.2.2.1 ≤ x.2.2.1) (h2 : h.2.2.2 ≤ x.2.2.2) : okO h (nxt pc len L st x) := ⟨h1, h2⟩
theorem ok_nxt0 : okO h (nxt pc len L st h) := ⟨Nat.le_refl _, Nat.le_refl _⟩
theorem ok_jmp {off : Int} : okO h (jmp pc off L st h) := by
  unfold jmp
  split
  · trivial
  · exact ⟨Nat.le_refl _, Nat.le_refl _⟩
theorem ok_brq {C : Prop} [Decidable C] {off : Int} : okO h (brq C off L pc len st h) := by
  unfold brq
  split
  · trivial
  · split
    · exact ⟨Nat.le_refl _, Nat.le_refl _⟩
    · exact ok_nxt0
theorem ok_lnq {n : Nat} {x : Option Ou} (q : okO h x) : okO h (lnq len n x) := by
  unfold lnq
  split
  · exact q
  · trivial
theorem ok_arrq {t n : Nat} {v : Value} : okO h (arrq t n v L pc len st h) := by
  unfold arrq
  split
  · exact ⟨Nat.le_succ _, Nat.le_add_right _ _⟩
  · trivial
theorem ok_stp {i : Instr} (hi : isCR i = false) : okO h (stp mi pc i len L st h) := by
  cases i <;> simp only [stp] <;> first
    | exact ok_none
    | exact ok_lnq ok_nxt0
    | exact ok_lnq ok_jmp
    | (refine ok_lnq ?_; unfold ldI; split <;> first | exact ok_nxt0 | exact ok_none)
    | (refine ok_lnq ?_; unfold ldL; split <;> first | exact ok_nxt0 | exact ok_none)
    | (refine ok_lnq ?_; unfold ldA; split <;> first | exact ok_none | (split <;> first | exact ok_nxt0 | exact ok_none))
    | (refine ok_lnq ?_; unfold stI; split <;> first | exact ok_none | (split <;> first | exact ok_nxt0 | exact ok_none))
    | (refine ok_lnq ?_; unfold stA; split <;> first | exact ok_none | (split <;> first | exact ok_nxt0 | exact ok_none))
    | (refine ok_lnq ?_; unfold stJ; split <;> first | exact ok_none | (split <;> first | exact ok_nxt0 | exact ok_none))
    | (refine ok_lnq ?_; unfold iop; split <;> first | exact ok_nxt0 | exact ok_none)
    | (refine ok_lnq ?_; unfold lop; split <;> first | exact ok_nxt0 | exact ok_none)
    | (refine ok_lnq ?_; unfold icmpq; split <;> first | exact ok_none | (split <;> exact ok_brq))
    | (refine ok_lnq ?_; unfold ifq; split <;> first | exact ok_none | (split <;> exact ok_brq))
    | (refine ok_lnq ?_; unfold acmpq; split <;> first | exact ok_none | (split <;> first | exact ok_none | (split <;> exact ok_brq)))
    | (refine ok_lnq ?_; split <;> first | exact ok_none | exact ok_nxt0 | exact ok_jmp)
    | (refine ok_lnq ?_; split <;> first | exact ok_none | (split <;> first | exact ok_none | exact ok_nxt0 | exact ok_jmp))
    | (refine ok_lnq ?_; split <;> first | exact ok_none | (unfold getq; split <;> first | exact ok_none | (split <;> first | exact ok_nxt0 | exact ok_none)))
    | (refine ok_lnq ?_; split <;> first | exact ok_none | (unfold putq; split <;> first | exact ok_none | (split <;> first | exact ok_nxt (Nat.le_refl _) (Nat.le_refl _) | exact ok_none)))
    | (refine ok_lnq ?_; split <;> first | exact ok_none | (split <;> first | exact ok_none | exact ok_nxt (Nat.le_refl _) (Nat.le_refl _)))
    | (refine ok_lnq ?_; split <;> first | exact ok_none | (unfold nwaq; split <;> first | exact ok_none | (split <;> first | exact ok_none | exact ok_arrq)))
    | (refine ok_lnq ?_; split <;> first | exact ok_none | (unfold anwq; split <;> first | exact ok_none | (split <;> first | exact ok_none | exact ok_arrq)))
    | (refine ok_lnq ?_; split <;> first | exact ok_none | (unfold mnaq; split <;> first | exact ok_none | (split <;> first | exact ok_none | (unfold arr2q; split <;> first | exact ok_none | exact ok_nxt (by simp; omega) (by simp; omega)))))
    | (refine ok_lnq ?_; split <;> first | exact ok_none | (split <;> first | exact ok_none | exact ok_nxt (Nat.le_succ _) (Nat.le_add_right _ _)))
    | (refine ok_lnq ?_; split <;> first | exact ok_none | (unfold ckcq; split <;> first | exact ok_none | (split <;> first | exact ok_nxt0 | exact ok_none)))
    | (refine ok_lnq ?_; split <;> first | exact ok_none | (unfold insq; split <;> first | exact ok_none | exact ok_nxt0 | (split <;> first | exact ok_nxt0 | (split <;> first | exact ok_nxt0 | exact ok_none))))
    | (split <;> first | exact ok_none | (split <;> first | exact ok_jmp | exact ok_none))
    | (split <;> first | exact ok_none | (split <;> first | exact ok_jmp | (split <;> first | exact ok_jmp | exact ok_none)))
    | (simp [isCR] at hi; done)
/-- a call or a return leaves the cells; a call goes to a method with its arguments -/
theorem callq_inv {c : Nat} {vs : List Value} {z : Ou} (hs : callq c vs L pc len st h = some z) : z = .inr (.inl (c, ent c vs, pc + len, L, st, h)) ∧ vs.all cat1 = true ∧ st.length ≤ 4 ∧ vs.length ≤ mL c := by
  unfold callq at hs
  split at hs
  · rename_i hc
    exact ⟨(Option.some.inj hs).symm, hc⟩
  · cases hs
theorem invq_grow {x op : Nat} {z : Ou} (hs : invq mi x op L pc len st h = some z) : (∃ pc' L' st', z = .inl (pc', L', st', h)) ∨ ∃ c vs pc' st', z = .inr (.inl (c, ent c vs, pc', L, st', h)) := by
  unfold invq at hs
  split at hs
  · cases hs
  · split at hs
    · split at hs
      · split at hs
        · exact Or.inr ⟨_, _, _, _, (callq_inv hs).1⟩
        · cases hs
      · split at hs
        · exact Or.inr ⟨_, _, _, _, (callq_inv hs).1⟩
        · cases hs
      · split at hs
        · exact Or.inl ⟨_, _, _, (Option.some.inj hs).symm⟩
        · cases hs
      · split at hs
        · exact Or.inl ⟨_, _, _, (Option.some.inj hs).symm⟩
        · cases hs
      · split at hs
        · exact Or.inl ⟨_, _, _, (Option.some.inj hs).symm⟩
        · cases hs
      · cases hs
    · split at hs
      · split at hs
        · exact Or.inr ⟨_, _, _, _, (callq_inv hs).1⟩
        · exact Or.inr ⟨_, _, _, _, (callq_inv hs).1⟩
        · split at hs
          · exact Or.inl ⟨_, _, _, (Option.some.inj hs).symm⟩
          · cases hs
        · cases hs
      · split at hs
        · unfold virq at hs
          split at hs
          · split at hs
            · exact Or.inr ⟨_, _, _, _, (callq_inv hs).1⟩
            · cases hs
          · cases hs
        · cases hs
def grw (h : Hp) (z : Ou) : Prop := match z with
  | .inl (_, _, _, h') => h.2.2.1 ≤ h'.2.2.1 ∧ h.2.2.2 ≤ h'.2.2.2
  | .inr (.inl (_, _, _, _, _, h')) => h' = h
  | .inr (.inr (_, h')) => h' = h
theorem stp_grow {i : Instr} {z : Ou} (hs : stp mi pc i len L st h = some z) : grw h z := by
  by_cases hi : isCR i = true
  · have inv : ∀ {x op : Nat}, invq mi x op L pc len st h = some z → grw h z := by
      intro x op q
      rcases invq_grow q with ⟨_, _, _, rfl⟩ | ⟨_, _, _, _, rfl⟩
      · exact ⟨Nat.le_refl _, Nat.le_refl _⟩
      · rfl
    cases i <;> simp only [isCR, Bool.false_eq_true] at hi <;> simp only [stp] at hs <;> obtain ⟨-, hs⟩ := lnq_inv hs
    · unfold aretq at hs
      split at hs
      · split at hs
        · cases hs; rfl
        · cases hs
      · cases hs
    · exact inv hs
    · exact inv hs
    · exact inv hs
    · unfold retq at hs
      split at hs
      · split at hs
        · cases hs; rfl
        · cases hs
      · cases hs
    · split at hs
      · cases hs; rfl
      · cases hs
  · have h1 := ok_stp (mi := mi) (pc := pc) (len := len) (L := L) (st := st) (h := h) (i := i) (by simpa using hi)
    rw [hs] at h1
    match z with
    | .inl (_, _, _, _) => exact h1
    | .inr _ => exact h1.elim
theorem rn_grow : ∀ (f d mi pc : Nat) (L : Lc) (st : List Value) (h : Hp) (r : Option Value) (h' : Hp), rn f d mi pc L st h = some (r, h') → h.2.2.1 ≤ h'.2.2.1 ∧ h.2.2.2 ≤ h'.2.2.2 := by
  intro f
  induction f with
  | zero => intro d mi pc L st h r h' q; exact absurd q (by simp [rn])
  | succ f ih =>
    intro d mi pc L st h r h' q
    simp only [rn] at q
    unfold one at q
    split at q
    · rename_i qi hdq
      cases hz : stp mi pc qi.1 qi.2 L st h with
      | none => rw [hz] at q; exact absurd q (by simp [fin])
      | some z =>
        rw [hz] at q
        have hg := stp_grow hz
        match z, hg with
        | .inl (pc', L', st', h1), hg =>
          have := ih _ _ _ _ _ _ _ _ q
          exact ⟨Nat.le_trans hg.1 this.1, Nat.le_trans hg.2 this.2⟩
        | .inr (.inr (r', h1)), hg =>
          simp only [fin, Option.some.injEq, Prod.mk.injEq] at q
          have hg' : h1 = h := hg
          rw [← q.2, hg']
          exact ⟨Nat.le_refl _, Nat.le_refl _⟩
        | .inr (.inl (c, A, pc', L', st', h1)), hg =>
          have hg' : h1 = h := hg
          subst hg'
          match d with
          | 0 => exact absurd q (by simp [fin])
          | e + 1 =>
            simp only [fin] at q
            cases hc : rn f e c 0 A [] h1 with
            | none => rw [hc] at q; exact absurd q (by simp [bnd])
            | some w =>
              obtain ⟨v, h3⟩ := w
              rw [hc] at q
              have i1 := ih _ _ _ _ _ _ _ _ hc
              have i2 := ih _ _ _ _ _ _ _ _ (show rn f (e + 1) mi pc' L' (v.toList ++ st') h3 = some (r, h') from q)
              exact ⟨Nat.le_trans i1.1 i2.1, Nat.le_trans i1.2 i2.2⟩
    · exact absurd q (by simp [fin])
end GOR
