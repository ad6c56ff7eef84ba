/-! ===== calls ===== -/
def wsM (c : Nat) : List Cond := Cond.code (mY c) (mB c) (mL c) (mR c) :: gtb
def rmM (d mc ms : Nat) : Room := { frames := d + 1, cells := mc, slots := ms, locals := 64 * (d + 1) }
def PcM (D : va_G) (dA : Nat → ClassId) (bs b : Nat) (scr : Cell) (vs : List Value) (h : Hp) : Array Value → State → Prop := fun a U => a = vs.toArray ∧ Rl D dA bs b scr h U.heap ∧ KK D dA scr U
def QcM (D : va_G) (dA : Nat → ClassId) (bs b : Nat) (scr : Cell) (r : Option Value) (h : Hp) : Array Value → State → Outcome → State → Prop := fun _ _ o t => o = .returned r ∧ Rl D dA bs b scr h t.heap
theorem KK.same {D : va_G} {dA : Nat → ClassId} {scr : Cell} {s U : State} (hv : s.vm = U.vm) (h : KK D dA scr s) : KK D dA scr U := by
  obtain ⟨h1, h2, h3, h4, h5, h6, h7, h8⟩ := h
  have hA : s.vm.Alike U.vm := by rw [hv]; exact Vm.Alike.refl _
  refine ⟨fun t ht => u_Kn_moved hA (h1 t ht), fun t a b => ⟨fun n z => State.isArrayOf_alike hA ((h2 t a b).1 n z), va_RA.moved hA (h2 t a b).2⟩, fun w hw => ?_, fun q hq => va_Nc.moved hA (h4 q hq), fun t a b => va_AO.moved hA (h5 t a b), aovA_moved hA h6, State.isArrayOf_alike hA h7, h8⟩
  have hg := (List.mem_filter.mp hw).2
  refine va_Nw.same ?_ hv (h3 w hw)
  cases w <;> first | rfl | (exact absurd hg (by simp [isNw]))
theorem PcM_blind {D : va_G} {dA : Nat → ClassId} {bs b : Nat} {scr : Cell} {vs : List Value} {h : Hp} : FrameBlind (PcM D dA bs b scr vs h) := by
  intro a U g mk q
  exact ⟨q.1, q.2.1, KK.same (s := U) (U := U.calling g mk a) rfl q.2.2⟩
theorem good_ws {c : Nat} (hc : c < 209) : GoodIn gtb (wsM c) := by
  intro w hw
  rcases List.mem_cons.mp hw with rfl | hw
  · exact ⟨pmc_ok c hc, gtb_good (pmc_ok c hc)⟩
  · exact ⟨hw, gtb_good hw⟩
theorem good_of {ws : List Cond} (h : ∀ w ∈ ws, w ∈ gtb) : GoodIn gtb ws := fun w hw => ⟨h w hw, gtb_good (h w hw)⟩
theorem mth_facts {c : Nat} (hc : c < 209) : pcn.getD (mO c) "" = (mY c).cls ∧ mL c ≤ 40 ∧ plainName (mY c).cls = true ∧ (mY c).cls ≠ "java/lang/invoke/MethodHandle" ∧ (mY c).cls ≠ "java/lang/invoke/VarHandle" ∧ Cond.initialized (mY c).cls ∈ gtb ∧
    ((pmp.getD c (0, 0, true)).2.2 = true → Cond.static (mY c) ∈ gtb) ∧ ((pmp.getD c (0, 0, true)).2.2 = false → Cond.instanceMethod (mY c) ∈ gtb) := by
  have h := pml_ok c hc
  unfold okM at h
  simp only [Bool.and_eq_true, decide_eq_true_eq] at h
  obtain ⟨⟨⟨⟨⟨⟨h1, h2⟩, h3⟩, h4⟩, h5⟩, h6⟩, h7⟩ := h
  refine ⟨h1, h3, h4, h5, h6, ?_, fun q => ?_, fun q => ?_⟩
  · have := wAt_g (pci_ok (mO c) h2) rfl
    rw [h1] at this
    exact this
  · rw [q] at h7
    exact wAt_g h7 rfl
  · rw [q] at h7
    exact wAt_g h7 rfl
section GOC
variable {p : Program} {l : Launch} {e : Env} {R : Room} {s : State} {m : MethodId} {args : Array Value} {below : List Frame} {meth : Method} {c : Code} {Q : State → Prop} {D : va_G} {dA : Nat → ClassId} {bs b : Nat} {scr : Cell} {mi pc pc' len cells slots : Nat} {L L' A : Lc} {st st' : List Value} {h h' h2 : Hp} {c0 d mc ms : Nat} {r : Option Value}
theorem cMm {H : Heap} {locs : List Loc} {g : JFrame} {rest : List Value} {Qa : State → Outcome → State → Prop} {free : Addr → Prop} (hr : CallRun p l e R s m args below meth c H locs cells slots mc ms g rest Qa free)
    (kk : ∀ (v : Option Value) (st₀ t : State) (L' : List Loc), st₀.heap = H → Qa st₀ (.returned v) t → (∀ q ∈ L', free q.base) → W p l e R s m args below meth c t.heap (locs ++ L') (cells + mc) (slots + ms) Q { g with pc := g.pc + 3, stack := v.toList ++ rest }) : W p l e R s m args below meth c H locs cells slots Q g := by
  intro T hT X
  obtain ⟨v, st₀, t, T', L, h0, X', hL, e1, hq, stp⟩ := hr T hT X
  obtain ⟨t2, a1, b1⟩ := kk v st₀ t L h0 hq hL T' e1 X'
  exact ⟨t2, stp t2 a1, b1⟩
/-- behind a call -/
theorem cMk {H : Heap} {locs : List Loc} {ls : Array Slot} {a : Array Value} {sk rest : List Value} (hL : Ls ls L) (hn : L.length = mL mi) (hq : ∀ q ∈ locs, bs ≤ q.base)
    (hr : CallRun p l e R s m args below meth c H locs cells slots mc ms (F0 m pc ls sk) rest (QcM D dA bs b scr r h2 a) (fun x => bs ≤ x)) (k : Go p l e R s m args below meth c Q D dA bs b scr mi (pc + 3) L (r.toList ++ rest) h2 (cells + mc) (slots + ms)) :
    W p l e R s m args below meth c H locs cells slots Q (F0 m pc ls sk) := by
  refine cMm hr (fun v st₀ t L' h0 hQ hL' => ?_)
  obtain ⟨hv, hRl⟩ := hQ
  cases hv
  refine k t.heap _ ls hRl hL hn (fun q hq' => ?_)
  rcases List.mem_append.mp hq' with hq' | hq'
  · exact hq q hq'
  · exact hL' q hq'
theorem preS (C : Cx p s m args meth c D dA scr mi) {H : Heap} (hR : Rl D dA bs b scr h H) (vs : List Value) : PreS s H (PcM D dA bs b scr vs h) vs :=
  ⟨PcM_blind, fun U hU hW => ⟨rfl, by rw [hU]; exact hR, KK.moved hW C.2.2.2.2.2.2.1⟩⟩
theorem preV (C : Cx p s m args meth c D dA scr mi) {H : Heap} (hR : Rl D dA bs b scr h H) {a : Nat} (ht : (h.2.1 a).1 < 12) (vs : List Value) : PreV s H (cOf (h.2.1 a).1).1 a (PcM D dA bs b scr (.ref a :: vs) h) vs := by
  obtain ⟨cell, q1, q2, q3, q4, -⟩ := cell_of C hR (a := a) ht
  refine ⟨PcM_blind, ⟨cell, q1, by rw [q2]; rfl, ?_⟩, fun U hU hW => ⟨rfl, by rw [hU]; exact hR, KK.moved hW C.2.2.2.2.2.2.1⟩⟩
  rw [(pcm_ok _ ht).2]
  exact q4
theorem fix (C : Cx p s m args meth c D dA scr mi) : CallFix p m c (mB mi) (mL mi) s args gtb (pcn.getD (mO mi) "") := ⟨C.1, C.2.1, C.2.2.1, C.2.2.2.2.1, C.2.2.2.2.2.1⟩
theorem roomM (hc : c0 < 209) (hF : d + 2 ≤ R.frames) (hLo : 64 * (d + 2) ≤ R.locals) : (rmM d mc ms).frames + 1 ≤ R.frames ∧ 8 + (mL c0 + 11) + (rmM d mc ms).locals ≤ R.locals := by
  have := (mth_facts hc).2.1
  refine ⟨hF, ?_⟩
  show 8 + (mL c0 + 11) + 64 * (d + 1) ≤ R.locals
  omega
/-- what the pool says of a method -/
theorem link_s (C : Cx p s m args meth c D dA scr mi) {x k n P t : Nat} {E : List (Nat × Nat)} (hf : iOf (mO mi) x = some (k, 0, n, (t, c0) :: E, P)) :
    c0 < 209 ∧ Cond.methodLink (pcn.getD (mO mi) "") x (mY c0) ∈ gtb ∧ (parseMethodDescriptor (mY c0).desc).map (fun d => d.parameters.length) = some n ∧ (pmp.getD c0 (0, 0, true)).2.2 = true := by
  obtain ⟨h1, h2, h3⟩ := inv_facts C hf
  unfold okI at h1
  simp only at h1 h2 h3
  split at h1
  · rename_i o i y hw
    simp only [Bool.and_eq_true, decide_eq_true_eq] at h1
    obtain ⟨⟨⟨a1, a2⟩, a3⟩, ⟨a4, a5⟩, a6⟩ := h1
    rw [h2] at a1
    rw [h3] at a2
    subst a1; subst a2; subst a5
    exact ⟨a4, gtb_of _ hw rfl, of_decide_eq_true a3, a6⟩
  · simp at h1
  · cases h1
theorem link_sn (C : Cx p s m args meth c D dA scr mi) {x k n P t : Nat} {E : List (Nat × Nat)} (hf : iOf (mO mi) x = some (k, 1, n, (t, c0) :: E, P)) :
    c0 < 209 ∧ (∃ ho, Cond.methodLinkNest (pcn.getD (mO mi) "") x (mY c0) ho ∈ nwb) ∧ (parseMethodDescriptor (mY c0).desc).map (fun d => d.parameters.length) = some n ∧ (pmp.getD c0 (0, 0, true)).2.2 = true := by
  obtain ⟨h1, h2, h3⟩ := inv_facts C hf
  unfold okI at h1
  simp only at h1 h2 h3
  split at h1
  · simp at h1
  · rename_i o i y ht hw
    simp only [Bool.and_eq_true, decide_eq_true_eq] at h1
    obtain ⟨⟨⟨a1, a2⟩, a3⟩, ⟨a4, a5⟩, a6⟩ := h1
    rw [h2] at a1
    rw [h3] at a2
    subst a1; subst a2; subst a5
    exact ⟨a4, ⟨_, nwb_of _ hw rfl⟩, of_decide_eq_true a3, a6⟩
  · cases h1
theorem link_i (C : Cx p s m args meth c D dA scr mi) {x k n P t : Nat} {E : List (Nat × Nat)} (hf : iOf (mO mi) x = some (k, 2, n, (t, c0) :: E, P)) :
    c0 < 209 ∧ Cond.methodLink (pcn.getD (mO mi) "") x (mY c0) ∈ gtb ∧ (parseMethodDescriptor (mY c0).desc).map (fun d => d.parameters.length) = some n ∧ (pmp.getD c0 (0, 0, true)).2.2 = false ∧ (mY c0).name = "<init>" ∧ mR c0 = none := by
  obtain ⟨h1, h2, h3⟩ := inv_facts C hf
  unfold okI at h1
  simp only at h1 h2 h3
  split at h1
  · rename_i o i y hw
    simp only [Bool.and_eq_true, decide_eq_true_eq, Bool.not_eq_true'] at h1
    obtain ⟨⟨⟨a1, a2⟩, a3⟩, ⟨⟨⟨a4, a5⟩, a6⟩, a7⟩, a8⟩ := h1
    rw [h2] at a1
    rw [h3] at a2
    subst a1; subst a2; subst a5
    exact ⟨a4, gtb_of _ hw rfl, of_decide_eq_true a3, a6, a7, a8⟩
  · simp at h1
  · cases h1
theorem link_in (C : Cx p s m args meth c D dA scr mi) {x k n P t : Nat} {E : List (Nat × Nat)} (hf : iOf (mO mi) x = some (k, 3, n, (t, c0) :: E, P)) :
    c0 < 209 ∧ (∃ ho, Cond.methodLinkNest (pcn.getD (mO mi) "") x (mY c0) ho ∈ nwb) ∧ (parseMethodDescriptor (mY c0).desc).map (fun d => d.parameters.length) = some n ∧ (pmp.getD c0 (0, 0, true)).2.2 = false ∧ (mY c0).name = "<init>" ∧ mR c0 = none := by
  obtain ⟨h1, h2, h3⟩ := inv_facts C hf
  unfold okI at h1
  simp only at h1 h2 h3
  split at h1
  · simp at h1
  · rename_i o i y ht hw
    simp only [Bool.and_eq_true, decide_eq_true_eq, Bool.not_eq_true'] at h1
    obtain ⟨⟨⟨a1, a2⟩, a3⟩, ⟨⟨⟨a4, a5⟩, a6⟩, a7⟩, a8⟩ := h1
    rw [h2] at a1
    rw [h3] at a2
    subst a1; subst a2; subst a5
    exact ⟨a4, ⟨_, nwb_of _ hw rfl⟩, of_decide_eq_true a3, a6, a7, a8⟩
  · cases h1
theorem link_v (C : Cx p s m args meth c D dA scr mi) {x k n P : Nat} {E : List (Nat × Nat)} (hf : iOf (mO mi) x = some (k, 5, n, E, P)) {q : Nat × Nat} (hq : q ∈ E) :
    ∃ y, Cond.methodLink (pcn.getD (mO mi) "") x y ∈ gtb ∧ (parseMethodDescriptor y.desc).map (fun d => d.parameters.length) = some n ∧ okV k y q = true := by
  obtain ⟨h1, h2, h3⟩ := inv_facts C hf
  unfold okI at h1
  simp only at h1 h2 h3
  split at h1
  · rename_i o i y hw
    simp only [Bool.and_eq_true, decide_eq_true_eq] at h1
    obtain ⟨⟨⟨a1, a2⟩, a3⟩, a4⟩ := h1
    rw [h2] at a1
    rw [h3] at a2
    subst a1; subst a2
    exact ⟨y, gtb_of _ hw rfl, of_decide_eq_true a3, List.all_eq_true.mp a4 q hq⟩
  · simp at h1
  · cases h1
theorem csum_room {ls : Array Slot} {sk rest : List Value} (h : rest.length ≤ 4) : 2 * (F0 m pc ls sk).monitorRoom + (rest.map fun v => v.category).sum ≤ 8 := by
  have := csum4 rest h
  show 2 * 0 + _ ≤ 8
  omega
theorem go_static (C : Cx p s m args meth c D dA scr mi) {x k n P t kd : Nat} {E : List (Nat × Nat)} (hk : kd = 0 ∨ kd = 1) (hf : iOf (mO mi) x = some (k, kd, n, (t, c0) :: E, P)) (hd : decode (mB mi) pc = .ok (.invokestatic x, 3)) (hn : n ≤ st.length) (hl : (st.drop n).length ≤ 4)
    (hF : d + 2 ≤ R.frames) (hLo : 64 * (d + 2) ≤ R.locals) (hr1 : cells + mc ≤ R.cells) (hr2 : slots + ms ≤ R.slots)
    (hM : Met l (mY c0) (wsM c0) (rmM d mc ms) (PcM D dA bs b scr (st.take n).reverse h) (QcM D dA bs b scr r h2) mc ms (fun x => bs ≤ x))
    (kk : Go p l e R s m args below meth c Q D dA bs b scr mi (pc + 3) L (r.toList ++ st.drop n) h2 (cells + mc) (slots + ms)) :
    Go p l e R s m args below meth c Q D dA bs b scr mi pc L st h cells slots := by
  intro H locs ls hR hL hnn hq
  have hst : (F0 m pc ls st).stack = ((st.take n).reverse).reverse ++ st.drop n := by
    show st = _
    rw [List.reverse_reverse, List.take_append_drop]
  have hlen : ((st.take n).reverse).length = n := by simp [hn]
  rcases hk with rfl | rfl
  · obtain ⟨a1, a2, a3, a4⟩ := link_s C hf
    obtain ⟨b1, b2, b3, b4, b5, b6, b7, -⟩ := mth_facts a1
    have cw := va_cwS (R := R) (s := s) (args := args) (own := pcn.getD (mO mi) "") (index := x) (y := mY c0) (bytes := mB c0) (maxL := mL c0) (mc := mc) (ms := ms) (ret := mR c0) (Ts := gtb) (ws := wsM c0) (ws' := gtb) (rm := rmM d mc ms) n C.2.2.2.2.2.1 (by
      refine good_of (fun w hw => ?_)
      unfold va_wsS at hw
      rcases List.mem_append.mp hw with hw | hw
      · simp only [List.mem_cons, List.not_mem_nil, or_false] at hw
        rcases hw with rfl | rfl | rfl
        · exact a2
        · exact b7 a4
        · exact b6
      · exact (good_ws a1 w hw).1) rfl rfl rfl ⟨b4, b5, a3⟩ (roomM a1 hF hLo)
    exact cMk hL hnn hq (W.runS (fix C) hM cw (preS C hR _) rfl hlen (by show ls.size = _; rw [hL.1, hnn]) hst (csum_room hl) hd ⟨hr1, hr2⟩) kk
  · obtain ⟨a1, ⟨ho, a2⟩, a3, a4⟩ := link_sn C hf
    obtain ⟨b1, b2, b3, b4, b5, b6, b7, -⟩ := mth_facts a1
    have cw := va_cnB (R := R) (s := s) (args := args) (own := pcn.getD (mO mi) "") (host := ho) (index := x) (y := mY c0) (bytes := mB c0) (maxL := mL c0) (mc := mc) (ms := ms) (ret := mR c0) (Ts := gtb) (ws := wsM c0) (ws' := gtb) (rm := rmM d mc ms) n C.2.2.2.2.2.1 (good_ws a1) rfl rfl rfl (C.2.2.2.2.2.2.1.2.2.1 _ a2) (C.2.2.2.2.2.1 _ b6) ⟨b4, b5, a3⟩ (roomM a1 hF hLo)
    exact cMk hL hnn hq (va_runSN (fix C) hM ⟨cw, C.2.2.2.2.2.1 _ (b7 a4), trivial⟩ (preS C hR _) rfl hlen (by show ls.size = _; rw [hL.1, hnn]) hst (csum_room hl) hd ⟨hr1, hr2⟩).run kk
theorem go_special (C : Cx p s m args meth c D dA scr mi) {x k n P t kd a : Nat} {rest : List Value} {E : List (Nat × Nat)} (hk : kd = 2 ∨ kd = 3) (hf : iOf (mO mi) x = some (k, kd, n, (t, c0) :: E, P)) (hd : decode (mB mi) pc = .ok (.invokespecial x, 3)) (hdr : st.drop n = .ref a :: rest) (hl : rest.length ≤ 4)
    (hF : d + 2 ≤ R.frames) (hLo : 64 * (d + 2) ≤ R.locals) (hr1 : cells + mc ≤ R.cells) (hr2 : slots + ms ≤ R.slots)
    (hM : Met l (mY c0) (wsM c0) (rmM d mc ms) (PcM D dA bs b scr (.ref a :: (st.take n).reverse) h) (QcM D dA bs b scr r h2) mc ms (fun x => bs ≤ x))
    (kk : Go p l e R s m args below meth c Q D dA bs b scr mi (pc + 3) L (r.toList ++ rest) h2 (cells + mc) (slots + ms)) :
    Go p l e R s m args below meth c Q D dA bs b scr mi pc L st h cells slots := by
  intro H locs ls hR hL hnn hq
  have hst : (F0 m pc ls st).stack = ((st.take n).reverse).reverse ++ .ref a :: rest := by
    show st = _
    rw [List.reverse_reverse, ← hdr, List.take_append_drop]
  have hn : n ≤ st.length := by
    rcases Nat.lt_or_ge st.length n with q | q
    · rw [List.drop_eq_nil_of_le (by omega)] at hdr
      cases hdr
    · exact q
  have hlen : ((st.take n).reverse).length = n := by simp [hn]
  rcases hk with rfl | rfl
  · obtain ⟨a1, a2, a3, a4, a5, a6⟩ := link_i C hf
    obtain ⟨b1, b2, b3, b4, b5, b6, -, b8⟩ := mth_facts a1
    have hG := good_ws a1
    have hwc : wsM c0 = Cond.code (mY c0) (mB c0) (mL c0) none :: gtb := by unfold wsM; rw [a6]
    have cw := cwI (R := R) (s := s) (args := args) (own := pcn.getD (mO mi) "") (index := x) (y := mY c0) (bytes := mB c0) (maxL := mL c0) (mc := mc) (ms := ms) (Ts := gtb) (ws := wsM c0) (ws' := gtb) (rm := rmM d mc ms) n C.2.2.2.2.2.1 hG hwc rfl rfl (C.2.2.2.2.2.1 _ b6) (C.2.2.2.2.2.1 _ a2) (C.2.2.2.2.2.1 _ (b8 a4)) a5 ⟨b4, b5, a3⟩ (roomM a1 hF hLo)
    exact cMk hL hnn hq (W.runI (fix C) hM cw (preS C hR _) rfl hlen (by show ls.size = _; rw [hL.1, hnn]) hst (csum_room hl) hd ⟨hr1, hr2⟩) kk
  · obtain ⟨a1, ⟨ho, a2⟩, a3, a4, a5, a6⟩ := link_in C hf
    obtain ⟨b1, b2, b3, b4, b5, b6, -, b8⟩ := mth_facts a1
    have hwc : wsM c0 = Cond.code (mY c0) (mB c0) (mL c0) none :: gtb := by unfold wsM; rw [a6]
    have cw := va_cnB (R := R) (s := s) (args := args) (own := pcn.getD (mO mi) "") (host := ho) (index := x) (y := mY c0) (bytes := mB c0) (maxL := mL c0) (mc := mc) (ms := ms) (ret := none) (Ts := gtb) (ws := wsM c0) (ws' := gtb) (rm := rmM d mc ms) n C.2.2.2.2.2.1 (good_ws a1) hwc rfl rfl (C.2.2.2.2.2.2.1.2.2.1 _ a2) (C.2.2.2.2.2.1 _ b6) ⟨b4, b5, a3⟩ (roomM a1 hF hLo)
    exact cMk hL hnn hq (va_runIN (fix C) hM ⟨cw, a5, C.2.2.2.2.2.1 _ (b8 a4)⟩ (preS C hR _) rfl hlen (by show ls.size = _; rw [hL.1, hnn]) hst (csum_room hl) hd ⟨hr1, hr2⟩).run kk
theorem go_virtual (C : Cx p s m args meth c D dA scr mi) {x k n P a : Nat} {rest : List Value} {E : List (Nat × Nat)} {q : Nat × Nat} (hf : iOf (mO mi) x = some (k, 5, n, E, P)) (hq0 : q ∈ E) (ht : q.1 = (h.2.1 a).1) (hd : decode (mB mi) pc = .ok (.invokevirtual x, 3)) (hdr : st.drop n = .ref a :: rest) (hl : rest.length ≤ 4)
    (hF : d + 2 ≤ R.frames) (hLo : 64 * (d + 2) ≤ R.locals) (hr1 : cells + mc ≤ R.cells) (hr2 : slots + ms ≤ R.slots)
    (hM : Met l (mY q.2) (wsM q.2) (rmM d mc ms) (PcM D dA bs b scr (.ref a :: (st.take n).reverse) h) (QcM D dA bs b scr r h2) mc ms (fun x => bs ≤ x))
    (kk : Go p l e R s m args below meth c Q D dA bs b scr mi (pc + 3) L (r.toList ++ rest) h2 (cells + mc) (slots + ms)) :
    Go p l e R s m args below meth c Q D dA bs b scr mi pc L st h cells slots := by
  intro H locs ls hR hL hnn hq
  have hst : (F0 m pc ls st).stack = ((st.take n).reverse).reverse ++ .ref a :: rest := by
    show st = _
    rw [List.reverse_reverse, ← hdr, List.take_append_drop]
  have hn : n ≤ st.length := by
    rcases Nat.lt_or_ge st.length n with q | q
    · rw [List.drop_eq_nil_of_le (by omega)] at hdr
      cases hdr
    · exact q
  have hlen : ((st.take n).reverse).length = n := by simp [hn]
  obtain ⟨y, a2, a3, a4⟩ := link_v C hf hq0
  unfold okV at a4
  simp only [Bool.and_eq_true, Bool.or_eq_true, decide_eq_true_eq, Bool.not_eq_true'] at a4
  obtain ⟨⟨⟨a1, a5⟩, a6⟩, a7⟩ := a4
  obtain ⟨b1, b2, b3, b4, b5, b6, -, b8⟩ := mth_facts a1
  have hpre := preV C hR (a := a) (by rw [← ht]; exact a5) (st.take n).reverse
  rw [← ht] at hpre
  rcases a7 with ⟨⟨rfl, c2⟩, c3⟩ | ⟨⟨⟨⟨c1, c2⟩, c3⟩, c4⟩, c5⟩
  · have cw := cwV (R := R) (s := s) (args := args) (own := pcn.getD (mO mi) "") (C := (cOf q.1).1) (index := x) (y := mY q.2) (bytes := mB q.2) (maxL := mL q.2) (mc := mc) (ms := ms) (ret := mR q.2) (Ts := gtb) (ws := wsM q.2) (ws' := gtb) (rm := rmM d mc ms) n C.2.2.2.2.2.1 (by
      refine good_of (fun w hw => ?_)
      unfold wsV at hw
      rcases List.mem_append.mp hw with hw | hw
      · simp only [List.mem_cons, List.not_mem_nil, or_false] at hw
        rcases hw with rfl | rfl | rfl | rfl
        · exact a2
        · exact b8 a6
        · exact wAt_g c3 rfl
        · rw [← c2]; exact b6
      · exact (good_ws a1 w hw).1) rfl rfl rfl ⟨c2, b4, b5, a3⟩ (roomM a1 hF hLo)
    exact cMk hL hnn hq (W.runV (fix C) hM cw hpre rfl hlen (by show ls.size = _; rw [hL.1, hnn]) hst (csum_room hl) hd ⟨hr1, hr2⟩) kk
  · have hG : GoodIn gtb (va_wsU (pcn.getD (mO mi) "") x (cOf q.1).1 y.cls y (mY q.2) (wsM q.2)) := by
      refine good_of (fun w hw => ?_)
      unfold va_wsU at hw
      rcases List.mem_append.mp hw with hw | hw
      · simp only [List.mem_cons, List.not_mem_nil, or_false] at hw
        rcases hw with rfl | rfl | rfl | rfl | rfl
        · exact a2
        · exact wAt_g c2 rfl
        · exact wAt_g c1 rfl
        · exact b8 a6
        · exact b6
      · exact (good_ws a1 w hw).1
    have cw : va_CU R s args (pcn.getD (mO mi) "") (cOf q.1).1 y.cls x y (mY q.2) (mB q.2) (mL q.2) (mR q.2) (wsM q.2) (rmM d mc ms) mc ms n := by
      rcases c3 with c3 | c3
      · exact va_cwU n C.2.2.2.2.2.1 hG rfl rfl rfl c3.symm ⟨c4, c5, a3⟩ (roomM a1 hF hLo)
      · exact va_cwA n C.2.2.2.2.2.1 hG rfl rfl rfl (C.2.2.2.2.2.2.1.2.2.1 _ (wAt_n c3 rfl)) ⟨c4, c5, a3⟩ (roomM a1 hF hLo)
    exact cMk hL hnn hq (va_runU (fix C) hM cw hpre rfl hlen (by show ls.size = _; rw [hL.1, hnn]) hst (csum_room hl) hd ⟨hr1, hr2⟩).run kk
end GOC
