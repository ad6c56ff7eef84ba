/-! ===== every method's contract, out of the small machine ===== -/
section GOM
variable {p : Program} {l : Launch} {e : Env} {R : Room} {s : State} {m : MethodId} {args : Array Value} {below : List Frame} {meth : Method} {c : Code} {Q : State → Prop} {D : va_G} {dA : Nat → ClassId} {bs b : Nat} {scr : Cell} {mi pc pc' len cells slots : Nat} {L L' A : Lc} {st st' : List Value} {h h1 h2 : Hp} {c0 : Nat} {r : Option Value}
/-- what a call asks of the method that is called, and what it gives -/
def Cal (p : Program) (l : Launch) (e : Env) (R : Room) (s : State) (m : MethodId) (args : Array Value) (below : List Frame) (meth : Method) (c : Code) (Q : State → Prop) (D : va_G) (dA : Nat → ClassId) (bs b : Nat) (scr : Cell) (mi pc pc' : Nat) (L L' : Lc) (st st' : List Value) (h : Hp) (cells slots c0 : Nat) (vs : List Value) : Prop :=
  ∀ (d mc ms : Nat) (r : Option Value) (h2 : Hp), d + 2 ≤ R.frames → 64 * (d + 2) ≤ R.locals → cells + mc ≤ R.cells → slots + ms ≤ R.slots → Met l (mY c0) (wsM c0) (rmM d mc ms) (PcM D dA bs b scr vs h) (QcM D dA bs b scr r h2) mc ms (fun x => bs ≤ x) →
    Go p l e R s m args below meth c Q D dA bs b scr mi pc' L' (r.toList ++ st') h2 (cells + mc) (slots + ms) → Go p l e R s m args below meth c Q D dA bs b scr mi pc L st h cells slots
theorem call_eqs {c' : Nat} {vs : List Value} {pcn' : Nat} {L1 : Lc} {s1 : List Value} {h0 : Hp} (hz : (Sum.inr (Sum.inl (c0, A, pc', L', st', h1)) : Ou) = .inr (.inl (c', ent c' vs, pcn', L1, s1, h0))) : c0 = c' ∧ A = ent c' vs ∧ pc' = pcn' ∧ L' = L1 ∧ st' = s1 ∧ h1 = h0 := by
  simp only [Sum.inr.injEq, Sum.inl.injEq, Prod.mk.injEq] at hz
  exact hz
theorem sim_call (C : Cx p s m args meth c D dA scr mi) {i : Instr} (hd : decode (mB mi) pc = .ok (i, len)) (hs : stp mi pc i len L st h = some (.inr (.inl (c0, A, pc', L', st', h1)))) :
    h1 = h ∧ ∃ vs, A = ent c0 vs ∧ vs.all cat1 = true ∧ vs.length ≤ mL c0 ∧ c0 < 209 ∧ Cal p l e R s m args below meth c Q D dA bs b scr mi pc pc' L L' st st' h cells slots c0 vs := by
  by_cases hi : isCR i = true
  · cases i <;> simp only [isCR, Bool.false_eq_true] at hi <;> simp only [stp] at hs <;> obtain ⟨hlen, hs⟩ := lnq_inv hs
    · unfold aretq at hs
      split at hs
      · split at hs <;> cases hs
      · cases hs
    · rename_i x
      subst hlen
      unfold invq at hs
      split at hs
      · cases hs
      · rename_i kk kd n E P hf
        simp only [Nat.one_ne_zero, if_false, if_true] at hs
        split at hs
        · rename_i t c' E' a rest hdr
          obtain ⟨hz, a1, a2, a3⟩ := callq_inv hs
          obtain ⟨rfl, rfl, rfl, rfl, rfl, rfl⟩ := call_eqs hz
          exact ⟨rfl, _, rfl, a1, a3, (link_i C hf).1, fun d mc ms r h2 q1 q2 q3 q4 hM k => go_special C (Or.inl rfl) hf hd hdr a2 q1 q2 q3 q4 hM k⟩
        · rename_i t c' E' a rest hdr
          obtain ⟨hz, a1, a2, a3⟩ := callq_inv hs
          obtain ⟨rfl, rfl, rfl, rfl, rfl, rfl⟩ := call_eqs hz
          exact ⟨rfl, _, rfl, a1, a3, (link_in C hf).1, fun d mc ms r h2 q1 q2 q3 q4 hM k => go_special C (Or.inr rfl) hf hd hdr a2 q1 q2 q3 q4 hM k⟩
        · split at hs <;> cases hs
        · cases hs
    · rename_i x
      subst hlen
      unfold invq at hs
      split at hs
      · cases hs
      · rename_i kk kd n E P hf
        simp only [if_true] at hs
        split at hs
        · rename_i t c' E' st0
          split at hs
          · rename_i hn
            obtain ⟨hz, a1, a2, a3⟩ := callq_inv hs
            obtain ⟨rfl, rfl, rfl, rfl, rfl, rfl⟩ := call_eqs hz
            exact ⟨rfl, _, rfl, a1, a3, (link_s C hf).1, fun d mc ms r h2 q1 q2 q3 q4 hM k => go_static C (Or.inl rfl) hf hd hn a2 q1 q2 q3 q4 hM k⟩
          · cases hs
        · rename_i t c' E' st0
          split at hs
          · rename_i hn
            obtain ⟨hz, a1, a2, a3⟩ := callq_inv hs
            obtain ⟨rfl, rfl, rfl, rfl, rfl, rfl⟩ := call_eqs hz
            exact ⟨rfl, _, rfl, a1, a3, (link_sn C hf).1, fun d mc ms r h2 q1 q2 q3 q4 hM k => go_static C (Or.inr rfl) hf hd hn a2 q1 q2 q3 q4 hM k⟩
          · cases hs
        · split at hs <;> cases hs
        · split at hs <;> cases hs
        · split at hs <;> cases hs
        · cases hs
    · rename_i x
      subst hlen
      unfold invq at hs
      split at hs
      · cases hs
      · rename_i kk kd n E P hf
        simp only [show ¬ (2 = 0) by decide, show ¬ (2 = 1) by decide, if_false] at hs
        split at hs
        · rename_i hkd
          subst hkd
          unfold virq at hs
          split at hs
          · rename_i a rest hdr
            split at hs
            · rename_i q hq
              obtain ⟨hz, a1, a2, a3⟩ := callq_inv hs
              obtain ⟨rfl, rfl, rfl, rfl, rfl, rfl⟩ := call_eqs hz
              have hm := List.mem_of_find?_eq_some hq
              have ht := List.find?_some hq
              simp only [beq_iff_eq] at ht
              obtain ⟨y, -, -, hV⟩ := link_v C hf hm
              have hlt : q.2 < 209 := by
                unfold okV at hV
                simp only [Bool.and_eq_true, decide_eq_true_eq] at hV
                exact hV.1.1.1
              exact ⟨rfl, _, rfl, a1, a3, hlt, fun d mc ms r h2 q1 q2 q3 q4 hM k => go_virtual C hf hm ht hd hdr a2 q1 q2 q3 q4 hM k⟩
            · cases hs
          · cases hs
        · cases hs
    · unfold retq at hs
      split at hs
      · split at hs <;> cases hs
      · cases hs
    · split at hs <;> cases hs
  · have h1 := ok_stp (mi := mi) (pc := pc) (len := len) (L := L) (st := st) (h := h) (i := i) (by simpa using hi)
    rw [hs] at h1
    exact h1.elim
/-- the end of a method -/
theorem sim_ret (C : Cx p s m args meth c D dA scr mi) {i : Instr} (hd : decode (mB mi) pc = .ok (i, len)) (hs : stp mi pc i len L st h = some (.inr (.inr (r, h1)))) {H : Heap} {locs : List Loc} {ls : Array Slot} (hR : Rl D dA bs b scr h1 H) (hq : ∀ q ∈ locs, bs ≤ q.base) :
    W p l e R s m args below meth c H locs cells slots (MQ below (QcM D dA bs b scr r h1) args s cells slots (fun x => bs ≤ x)) (F0 m pc ls st) := by
  have hlk := C.2.2.2.2.2.2.2.1
  by_cases hi : isCR i = true
  · have inv : ∀ {x op : Nat}, ¬ invq mi x op L pc len st h = some (.inr (.inr (r, h1))) := by
      intro x op q
      rcases invq_grow q with ⟨_, _, _, h9⟩ | ⟨_, _, _, _, h9⟩ <;> cases h9
    cases i <;> simp only [isCR, Bool.false_eq_true] at hi <;> simp only [stp] at hs <;> obtain ⟨hlen, hs⟩ := lnq_inv hs <;> subst hlen
    · unfold aretq at hs
      split at hs
      · rename_i v
        split at hs
        · rename_i hv
          cases hs
          cases hm : mR mi with
          | none => rw [hm] at hv; simp at hv
          | some t =>
            rw [hm] at hv
            have hr := C.2.2.2.1
            rw [hm] at hr
            have ht : ∃ n, t = .object n := by
              cases t <;> simp at hv
              exact ⟨_, rfl⟩
            exact W.aret C.1 C.2.1 hr (Or.inl ht) (by obtain ⟨w, rfl⟩ := isR_rf hv.1; exact va_rf_or w) (fun t ht hW => ⟨rfl, by rw [ht]; exact hR⟩) hq hd hlk
        · cases hs
      · cases hs
    · exact absurd hs inv
    · exact absurd hs inv
    · exact absurd hs inv
    · unfold retq at hs
      split at hs
      · rename_i x
        split at hs
        · rename_i hv
          cases hs
          have hr := C.2.2.2.1
          rcases hv with hv | ⟨hv, hx⟩
          · rw [hv] at hr
            exact W.iret C.1 C.2.1 hr (fun t ht hW => ⟨rfl, by rw [ht]; exact hR⟩) hq hd hlk
          · rw [hv] at hr
            exact W.zret C.1 C.2.1 hr (by rcases hx with rfl | rfl <;> rfl) (fun t ht hW => ⟨rfl, by rw [ht]; exact hR⟩) hq hd hlk
        · cases hs
      · cases hs
    · split at hs
      · rename_i hv
        cases hs
        have hr := C.2.2.2.1
        rw [hv.1] at hr
        rw [hv.2]
        exact W.vret C.1 C.2.1 hr (fun t ht hW => ⟨rfl, by rw [ht]; exact hR⟩) hq hd hlk
      · cases hs
  · have h1 := ok_stp (mi := mi) (pc := pc) (len := len) (L := L) (st := st) (h := h) (i := i) (by simpa using hi)
    rw [hs] at h1
    exact h1.elim
/-- a run of the small machine, to its end -/
theorem sim_run (C : Cx p s m args meth c D dA scr mi) {d mc ms : Nat} {rE : Option Value} {hE : Hp} (hF : d + 1 ≤ R.frames) (hLo : 64 * (d + 1) ≤ R.locals) (hc1 : mc ≤ R.cells) (hc2 : ms ≤ R.slots)
    (hcall : ∀ (d' c0 : Nat) (vs : List Value) (h : Hp) (r : Option Value) (h2 : Hp), d = d' + 1 → c0 < 209 → vs.all cat1 = true → vs.length ≤ mL c0 → (∃ f, rn f d' c0 0 (ent c0 vs) [] h = some (r, h2)) → Met l (mY c0) (wsM c0) (rmM d' (h2.2.2.1 - h.2.2.1) (h2.2.2.2 - h.2.2.2)) (PcM D dA bs b scr vs h) (QcM D dA bs b scr r h2) (h2.2.2.1 - h.2.2.1) (h2.2.2.2 - h.2.2.2) (fun x => bs ≤ x))
    (hret : ∀ (pc len : Nat) (i : Instr) (L : Lc) (st : List Value) (h : Hp) (H : Heap) (locs : List Loc) (ls : Array Slot), decode (mB mi) pc = .ok (i, len) → stp mi pc i len L st h = some (.inr (.inr (rE, hE))) → Rl D dA bs b scr hE H → (∀ q ∈ locs, bs ≤ q.base) → W p l e R s m args below meth c H locs mc ms Q (F0 m pc ls st)) :
    ∀ (f pc : Nat) (L : Lc) (st : List Value) (h : Hp) (cells slots : Nat), rn f d mi pc L st h = some (rE, hE) → cells + (hE.2.2.1 - h.2.2.1) = mc → slots + (hE.2.2.2 - h.2.2.2) = ms → Go p l e R s m args below meth c Q D dA bs b scr mi pc L st h cells slots := by
  intro f
  induction f with
  | zero => intro pc L st h cells slots q; exact absurd q (by simp [rn])
  | succ f ih =>
    intro pc L st h cells slots q e1 e2
    have q0 := q
    simp only [rn] at q
    unfold one at q
    split at q
    · rename_i qi hdq
      obtain ⟨i, len⟩ := qi
      cases hz : stp mi pc i len L st h with
      | none => rw [hz] at q; exact absurd q (by simp [fin])
      | some z =>
        rw [hz] at q
        have hg := stp_grow hz
        match z, hg with
        | .inl (pc', L', st', h1), hg =>
          have hg2 := rn_grow _ _ _ _ _ _ _ _ _ (show rn f d mi pc' L' st' h1 = some (rE, hE) from q)
          obtain ⟨g1, g2⟩ := hg
          refine sim_next C ⟨by omega, by omega⟩ hdq hz (by omega) (by omega) (ih _ _ _ _ _ _ q (by omega) (by omega))
        | .inr (.inr (r', h1)), hg =>
          simp only [fin, Option.some.injEq, Prod.mk.injEq] at q
          obtain ⟨rfl, rfl⟩ := q
          have hg' : h1 = h := hg
          intro H locs ls hR hL hn hq
          have e3 : cells = mc := by rw [hg'] at e1; omega
          have e4 : slots = ms := by rw [hg'] at e2; omega
          rw [e3, e4]
          exact hret pc len i L st h H locs ls hdq hz (by rw [hg']; exact hR) hq
        | .inr (.inl (c0, A, pc', L', st', h1)), hg =>
          obtain ⟨rfl, vs, rfl, v1, v2, v3, v4⟩ := sim_call (l := l) (e := e) (R := R) (below := below) (Q := Q) (bs := bs) (b := b) (cells := cells) (slots := slots) C hdq hz
          match d, hF, hLo, hcall, ih, q with
          | 0, _, _, _, _, q => exact absurd q (by simp [fin])
          | d' + 1, hF, hLo, hcall, ih, q =>
            simp only [fin] at q
            cases hc : rn f d' c0 0 (ent c0 vs) [] h1 with
            | none => rw [hc] at q; exact absurd q (by simp [bnd])
            | some w =>
              obtain ⟨v, h3⟩ := w
              rw [hc] at q
              have q' : rn f (d' + 1) mi pc' L' (v.toList ++ st') h3 = some (rE, hE) := q
              have i1 := rn_grow _ _ _ _ _ _ _ _ _ hc
              have i2 := rn_grow _ _ _ _ _ _ _ _ _ q'
              exact v4 d' _ _ v h3 (by omega) (by omega) (by omega) (by omega) (hcall d' c0 vs h1 v h3 rfl v3 v1 v2 ⟨f, hc⟩) (ih _ _ _ _ _ _ q' (by omega) (by omega))
    · exact absurd q (by simp [fin])
theorem sim_met (l : Launch) (D : va_G) (dA : Nat → ClassId) (bs b : Nat) (scr : Cell) : ∀ (d c0 : Nat) (vs : List Value) (h : Hp) (r : Option Value) (h2 : Hp), c0 < 209 → vs.all cat1 = true → vs.length ≤ mL c0 → (∃ f, rn f d c0 0 (ent c0 vs) [] h = some (r, h2)) →
    Met l (mY c0) (wsM c0) (rmM d (h2.2.2.1 - h.2.2.1) (h2.2.2.2 - h.2.2.2)) (PcM D dA bs b scr vs h) (QcM D dA bs b scr r h2) (h2.2.2.1 - h.2.2.1) (h2.2.2.2 - h.2.2.2) (fun x => bs ≤ x) := by
  intro d
  induction d with
  | zero =>
    intro c0 vs h r h2 hc hv hl hf
    obtain ⟨f, hf⟩ := hf
    obtain ⟨b1, -, b3, -⟩ := mth_facts hc
    refine Met.ofW (cc := mB c0) (maxL := mL c0) (ret := mR c0) b3 rfl ?_
    intro p e s m args below meth c s₁ B hml hP
    obtain ⟨rfl, hR, hK⟩ := hP
    have hin : isInit c0 = true → meth.name = "<init>" := fun q => (name_of_methodNamed B.named B.method).1.trans (by unfold isInit at q; simpa using q)
    have C : Cx p s m vs.toArray meth c D dA scr c0 := ⟨B.exec, B.bytes, hml, B.returns, by rw [b1]; exact findClass_of_methodNamed B.named, fun w hw => atoms_spec (ws := wsM c0) B.pre w (List.mem_cons_of_mem _ hw), hK, B.notSynchronized, hin⟩
    have G := sim_run (l := l) (e := e) (R := (headSpec (wsM c0) (rmM 0 (h2.2.2.1 - h.2.2.1) (h2.2.2.2 - h.2.2.2))).room) (below := below) (Q := MQ below (QcM D dA bs b scr r h2) vs.toArray s (h2.2.2.1 - h.2.2.1) (h2.2.2.2 - h.2.2.2) (fun x => bs ≤ x)) (bs := bs) (b := b) (mc := h2.2.2.1 - h.2.2.1) (ms := h2.2.2.2 - h.2.2.2) (d := 0) (rE := r) (hE := h2) C (Nat.le_refl _) (Nat.le_refl _) (Nat.le_refl _) (Nat.le_refl _)
      (fun d' _ _ _ _ _ q => absurd q (by omega)) (fun pc len i L st h' H locs ls q1 q2 q3 q4 => sim_ret C q1 q2 q3 q4) f 0 (ent c0 vs) [] h 0 0 hf (by omega) (by omega)
    rw [lg_entry_eq]
    exact G s.heap [] _ hR (Ls.entry hv hl) (by unfold ent; simp; omega) (fun _ q => absurd q List.not_mem_nil)
  | succ d ih =>
    intro c0 vs h r h2 hc hv hl hf
    obtain ⟨f, hf⟩ := hf
    obtain ⟨b1, -, b3, -⟩ := mth_facts hc
    refine Met.ofW (cc := mB c0) (maxL := mL c0) (ret := mR c0) b3 rfl ?_
    intro p e s m args below meth c s₁ B hml hP
    obtain ⟨rfl, hR, hK⟩ := hP
    have hin : isInit c0 = true → meth.name = "<init>" := fun q => (name_of_methodNamed B.named B.method).1.trans (by unfold isInit at q; simpa using q)
    have C : Cx p s m vs.toArray meth c D dA scr c0 := ⟨B.exec, B.bytes, hml, B.returns, by rw [b1]; exact findClass_of_methodNamed B.named, fun w hw => atoms_spec (ws := wsM c0) B.pre w (List.mem_cons_of_mem _ hw), hK, B.notSynchronized, hin⟩
    have G := sim_run (l := l) (e := e) (R := (headSpec (wsM c0) (rmM (d + 1) (h2.2.2.1 - h.2.2.1) (h2.2.2.2 - h.2.2.2))).room) (below := below) (Q := MQ below (QcM D dA bs b scr r h2) vs.toArray s (h2.2.2.1 - h.2.2.1) (h2.2.2.2 - h.2.2.2) (fun x => bs ≤ x)) (bs := bs) (b := b) (mc := h2.2.2.1 - h.2.2.1) (ms := h2.2.2.2 - h.2.2.2) (d := d + 1) (rE := r) (hE := h2) C (Nat.le_refl _) (Nat.le_refl _) (Nat.le_refl _) (Nat.le_refl _)
      (fun d' c1 vs1 h1 r1 h3 q a1 a2 a3 a4 => by
        have e1 : d' = d := by omega
        subst e1
        exact ih c1 vs1 h1 r1 h3 a1 a2 a3 a4) (fun pc len i L st h' H locs ls q1 q2 q3 q4 => sim_ret C q1 q2 q3 q4) f 0 (ent c0 vs) [] h 0 0 hf (by omega) (by omega)
    rw [lg_entry_eq]
    exact G s.heap [] _ hR (Ls.entry hv hl) (by unfold ent; simp; omega) (fun _ q => absurd q List.not_mem_nil)
end GOM
