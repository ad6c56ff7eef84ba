/-! ===== new int[n][k]: an outer array, and n inner ones behind it ===== -/
def mnO (cA : ClassId) (N q i : Nat) : Cell := arrV cA N (fun j => if j < i then .ref (q + 1 + j) else .null)
def mnI (cI : ClassId) (M : Nat) : Cell := arrV cI M (fun _ => .int 0)
/-- the state when i inner arrays stand -/
def mnS (T : State) (cA cI : ClassId) (N M : Nat) : Nat → State
  | 0 => T.pushCell (mnO cA N T.heap.size 0)
  | i + 1 => ((mnS T cA cI N M i).pushCell (mnI cI M)).setCell T.heap.size (mnO cA N T.heap.size (i + 1))
theorem mnO_0 (cA : ClassId) (N q : Nat) : mnO cA N q 0 = { cls := cA, slots := Array.replicate N .null, vm := .none } := by
  rw [arrV_new]
  unfold mnO
  congr 1
theorem mnI_eq (cI : ClassId) (M : Nat) : mnI cI M = { cls := cI, slots := Array.replicate M (.int 0), vm := .none } := by
  rw [arrV_new]
  rfl
theorem mnO_next (cA : ClassId) (N q i : Nat) : (mnO cA N q i).setSlot i (.ref (q + 1 + i)) = mnO cA N q (i + 1) := by
  unfold mnO
  rw [arrV_store]
  congr 1
  funext j
  by_cases hj : j = i
  · subst hj
    simp [updV]
  · by_cases h : j < i
    · simp [updV, hj, h, Nat.lt_succ_of_lt h]
    · have : ¬ j < i + 1 := by omega
      simp [updV, hj, h, this]
theorem mnS_at (T : State) (cA cI : ClassId) (N M : Nat) : ∀ i, (mnS T cA cI N M i).heap.size = T.heap.size + 1 + i ∧ (mnS T cA cI N M i).heap[T.heap.size]? = some (mnO cA N T.heap.size i) ∧ (mnS T cA cI N M i).vm = T.vm ∧ (mnS T cA cI N M i).slotsUsed = T.slotsUsed + N + i * M := by
  intro i
  induction i with
  | zero =>
    refine ⟨by simp [mnS], by simp [mnS], rfl, ?_⟩
    simp only [mnS, State.slotsUsed_pushCell, mnO, arrV_size]
    omega
  | succ i ih =>
    obtain ⟨a, b, c, d⟩ := ih
    have hlt : T.heap.size < (mnS T cA cI N M i).heap.size := by omega
    have hb : ((mnS T cA cI N M i).pushCell (mnI cI M)).heap[T.heap.size]? = some (mnO cA N T.heap.size i) := by rw [State.heap_pushCell_of_lt (h := hlt)]; exact b
    refine ⟨?_, State.heap_setCell_self hb, c, ?_⟩
    · show (((mnS T cA cI N M i).pushCell (mnI cI M)).setCell T.heap.size _).heap.size = _
      rw [size_setCell, size_pushCell, a]
      omega
    · simp only [mnS, State.slotsUsed_setCell, State.slotsUsed_pushCell, d, mnI, arrV_size, Nat.succ_mul]
      omega
theorem mnS_old (T : State) (cA cI : ClassId) (N M : Nat) {a : Nat} (ha : a < T.heap.size) : ∀ i, (mnS T cA cI N M i).heap[a]? = T.heap[a]? := by
  intro i
  induction i with
  | zero => exact State.heap_pushCell_of_lt _ _ ha
  | succ i ih =>
    have h1 := (mnS_at T cA cI N M i).1
    show (((mnS T cA cI N M i).pushCell (mnI cI M)).setCell T.heap.size _).heap[a]? = _
    have h2 : a < (mnS T cA cI N M i).heap.size := by omega
    have h3 : T.heap.size ≠ a := by omega
    rw [State.heap_setCell_other h3, State.heap_pushCell_of_lt (h := h2), ih]
theorem mnS_in (T : State) (cA cI : ClassId) (N M : Nat) : ∀ i j, j < i → (mnS T cA cI N M i).heap[T.heap.size + 1 + j]? = some (mnI cI M) := by
  intro i
  induction i with
  | zero => intro j h; omega
  | succ i ih =>
    intro j h
    have h1 := (mnS_at T cA cI N M i).1
    show (((mnS T cA cI N M i).pushCell (mnI cI M)).setCell T.heap.size _).heap[T.heap.size + 1 + j]? = _
    have h3 : T.heap.size ≠ T.heap.size + 1 + j := by omega
    rw [State.heap_setCell_other h3]
    by_cases hj : j < i
    · have h2 : T.heap.size + 1 + j < (mnS T cA cI N M i).heap.size := by omega
      rw [State.heap_pushCell_of_lt (h := h2)]
      exact ih j hj
    · have e : T.heap.size + 1 + j = (mnS T cA cI N M i).heap.size := by omega
      rw [e]
      exact State.heap_pushCell_size _ _
theorem mnS_top (T : State) (f : JFrame) (cA cI : ClassId) (N M : Nat) : ∀ i, mnS (T.setTop f) cA cI N M i = (mnS T cA cI N M i).setTop f := by
  intro i
  induction i with
  | zero => rfl
  | succ i ih => simp only [mnS, ih, State.heap_setTop, State.pushCell_setTop, State.setCell_setTop]
section MNA
variable {p : Program} {l : Launch} {e : Env} {R : Room} {s : State} {m : MethodId} {args : Array Value} {below : List Frame} {meth : Method} {c : Code} {T : State} {locs : List Loc} {cells slots : Nat}
theorem mn_stand (X : Stand p l e R s m args below meth c T locs cells slots) (cA cI : ClassId) (N M : Nat) : ∀ i, Stand p l e R s m args below meth c (mnS T cA cI N M i) locs (cells + 1 + i) (slots + N + i * M) := by
  intro i
  induction i with
  | zero =>
    have h := X.pushed (mnO cA N T.heap.size 0)
    have e1 : (mnO cA N T.heap.size 0).slots.size = N := by unfold mnO; rw [arrV_size]
    rw [e1] at h
    simpa [mnS] using h
  | succ i ih =>
    obtain ⟨a, b, -, -⟩ := mnS_at T cA cI N M i
    have hb : ((mnS T cA cI N M i).pushCell (mnI cI M)).heap[T.heap.size]? = some (mnO cA N T.heap.size i) := by rw [State.heap_pushCell_of_lt (h := (by omega : T.heap.size < (mnS T cA cI N M i).heap.size))]; exact b
    have h := (ih.pushed (mnI cI M)).stored hb i (.ref (T.heap.size + 1 + i))
    have e1 : (mnI cI M).slots.size = M := by unfold mnI; rw [arrV_size]
    rw [e1, mnO_next] at h
    have h2 := h.dropFresh (J := [⟨T.heap.size, i⟩]) (fun x hx => by rw [List.mem_singleton.mp hx]; exact X.heapGrown)
    have e3 : slots + N + (i + 1) * M = slots + N + i * M + M := by rw [Nat.succ_mul]; omega
    rw [e3, show cells + 1 + (i + 1) = cells + 1 + i + 1 by omega]
    exact h2
end MNA
section MNW
variable {E : CtlPost} {e : Env} {d : Bool} {acts : List Action} {s : State}
theorem wp_mn {cA cI cc : ClassId} {kA kI : Class} {n k : Int32} (hA : s.vm.classes[cA]? = some kA) (hkA : kA.kind = .array cI (.array .int)) (hI : s.vm.classes[cI]? = some kI) (hkI : kI.kind = .array cc .int) (hn : ¬ n < 0) (hk : ¬ k < 0)
    (l1 : ¬ n.toNatClampNeg > e.platform.arrayLengthLimit) (b1 : ¬ n.toNatClampNeg * componentBytes (.array .int) > e.platform.maxHeapBytes) (l2 : ¬ k.toNatClampNeg > e.platform.arrayLengthLimit) (b2 : ¬ k.toNatClampNeg * componentBytes .int > e.platform.maxHeapBytes)
    (r1 : s.heap.size + 1 + n.toNatClampNeg ≤ e.platform.maxCells) (r2 : s.slotsUsed + n.toNatClampNeg + n.toNatClampNeg * k.toNatClampNeg ≤ e.platform.maxSlots) {Q : Addr → Pre} (hq : ∀ d' acts', Q s.heap.size d' acts' (mnS s cA cI n.toNatClampNeg k.toNatClampNeg n.toNatClampNeg)) :
    wp (multianewarray.make cA [n, k]) Q E e d acts s := by
  have hfind : ([k].find? (· < 0)) = none := by simp [hk]
  have hm0 := Nat.zero_le (n.toNatClampNeg * k.toNatClampNeg)
  rw [multianewarray.make]
  simp only [wp_bind', W.ite, hn, if_false, wp_pure', W.theClass, hA, hkA, Option.some.injEq, exists_eq_left']
  refine W.newArray_of hA hkA l1 b1 (by omega) (by omega) rfl (fun acts' => ?_)
  simp only [hfind]
  rw [ite_self, wp_bind', Std.Legacy.Range.forIn_eq_forIn_range']
  have hsz : ([:n.toNatClampNeg] : Std.Legacy.Range).size = n.toNatClampNeg := by simp [Std.Legacy.Range.size]
  rw [hsz]
  have h0 : s.pushCell { cls := cA, slots := Array.replicate n.toNatClampNeg Value.null } = mnS s cA cI n.toNatClampNeg k.toNatClampNeg 0 := by
    show _ = s.pushCell _
    rw [mnO_0]
  rw [h0]
  refine wp_forIn_inv (fun rest s' => ∃ i, i ≤ n.toNatClampNeg ∧ rest = List.range' i (n.toNatClampNeg - i) ∧ s' = mnS s cA cI n.toNatClampNeg k.toNatClampNeg i) _ _ ⟨0, Nat.zero_le _, rfl, rfl⟩ ?_ ?_
  · rintro x rest s' d' acts1 Q' ⟨i, hi, hl, rfl⟩ hnext
    have hlt : i < n.toNatClampNeg := by
      rcases Nat.lt_or_ge i n.toNatClampNeg with q | q
      · exact q
      · rw [show n.toNatClampNeg - i = 0 by omega] at hl
        cases hl
    rw [show n.toNatClampNeg - i = (n.toNatClampNeg - (i + 1)) + 1 by omega, List.range'_succ] at hl
    obtain ⟨rfl, rfl⟩ := List.cons.inj hl
    obtain ⟨f1, f2, f3, f4⟩ := mnS_at s cA cI n.toNatClampNeg k.toNatClampNeg x
    have hmul : x * k.toNatClampNeg + k.toNatClampNeg ≤ n.toNatClampNeg * k.toNatClampNeg := by
      have := Nat.mul_le_mul_right k.toNatClampNeg (show x + 1 ≤ n.toNatClampNeg from hlt)
      rwa [Nat.succ_mul] at this
    simp only [wp_bind']
    rw [multianewarray.make]
    have hI' : (mnS s cA cI n.toNatClampNeg k.toNatClampNeg x).vm.classes[cI]? = some kI := by rw [f3]; exact hI
    simp only [wp_bind', W.ite, hk, if_false, wp_pure', W.theClass, hI', hkI, Option.some.injEq, exists_eq_left']
    refine W.newArray_of hI' hkI l2 b2 (by rw [f1]; omega) (by rw [f4]; omega) rfl (fun acts2 => ?_)
    have hp : ({ cls := cI, slots := Array.replicate k.toNatClampNeg (defaultValue .int) } : Cell) = mnI cI k.toNatClampNeg := (mnI_eq _ _).symm
    rw [hp]
    have hb : ((mnS s cA cI n.toNatClampNeg k.toNatClampNeg x).pushCell (mnI cI k.toNatClampNeg)).heap[s.heap.size]? = some (mnO cA n.toNatClampNeg s.heap.size x) := by rw [State.heap_pushCell_of_lt (h := (by omega : s.heap.size < (mnS s cA cI n.toNatClampNeg k.toNatClampNeg x).heap.size))]; exact f2
    simp only [wp_bind', W.writeLoc, wp_pure']
    have hu : (mnO cA n.toNatClampNeg s.heap.size x).vm ≠ .unknown := by intro q; cases q
    have hz : x < (mnO cA n.toNatClampNeg s.heap.size x).slots.size := by unfold mnO; rw [arrV_size]; exact hlt
    refine ⟨mnO cA n.toNatClampNeg s.heap.size x, hb, hu, hz, ?_, hnext _ _ _ ⟨x + 1, hlt, rfl, ?_⟩⟩
    · simp [State.fitsSlot, State.slotType?, f3, hA, hkA, mnO, arrV, fits]
    · rw [f1, mnO_next]
      rfl
  · rintro s' d' acts1 ⟨i, hi, hl, rfl⟩
    have hiN : i = n.toNatClampNeg := by
      rcases Nat.lt_or_ge i n.toNatClampNeg with q | q
      · rw [show n.toNatClampNeg - i = (n.toNatClampNeg - (i + 1)) + 1 by omega, List.range'_succ] at hl
        cases hl
      · omega
    rw [hiN]
    simp only [wp_pure']
    exact hq _ _
end MNW
section MNG
variable {p : Program} {l : Launch} {e : Env} {R : Room} {s : State} {m : MethodId} {args : Array Value} {below : List Frame} {meth : Method} {c : Code} {T : State} {locs : List Loc} {cells slots : Nat}
theorem mn_step (X : Stand p l e R s m args below meth c T locs cells slots) (hexec : p.tables.exec = Jvm.exec) {own : String} {index : Nat} (hown : s.vm.findClass own = some m.cls) (hcl : (Cond.classLink own index "[[I").before args s = true)
    {cA cI cc : ClassId} {kA kI : Class} (hnA : s.vm.findClass "[[I" = some cA) (hA : s.vm.classes[cA]? = some kA) (hkA : kA.kind = .array cI (.array .int)) (hI : s.vm.classes[cI]? = some kI) (hkI : kI.kind = .array cc .int)
    {g : JFrame} (hg : g.method = m) (hdg : decode c.code g.pc = .ok (.multianewarray index 2, 4)) {n k : Int32} {rest : List Value} (hstack : g.stack = .int k :: .int n :: rest) (hn : ¬ n < 0) (hk : ¬ k < 0) (hn1 : n.toNatClampNeg ≤ 1000) (hk1 : k.toNatClampNeg ≤ 1000)
    (hcells : cells + (1 + n.toNatClampNeg) ≤ R.cells) (hslots : slots + (n.toNatClampNeg + n.toNatClampNeg * k.toNatClampNeg) ≤ R.slots) :
    ∃ vm₁ : Vm, Stand p l e R s m args below meth c (mnS (T.setVm vm₁) cA cI n.toNatClampNeg k.toNatClampNeg n.toNatClampNeg) locs (cells + 1 + n.toNatClampNeg) (slots + n.toNatClampNeg + n.toNatClampNeg * k.toNatClampNeg) ∧
      ∀ target, Steps p.tables e below ((mnS (T.setVm vm₁) cA cI n.toNatClampNeg k.toNatClampNeg n.toNatClampNeg).setTop { g with pc := g.pc + 4, stack := .ref T.heap.size :: rest }) target → Steps p.tables e below (T.setTop g) target := by
  subst hg
  have hpl : e.platform.magicAccessors = ({} : Platform).magicAccessors := by rw [X.admits.platform]
  obtain ⟨c0, hfc0, hcl0⟩ := Cond.classLink_spec hown hcl e.platform hpl
  cases hnA.symm.trans hfc0
  obtain ⟨hg₁, hwarm₁, hready₁⟩ := State.classEntry (e := e) X.warmed hcl0
  generalize T.vm.noted g.method.cls index (.cls cA) = vm₁ at hg₁ hwarm₁ hready₁
  obtain ⟨kA₁, hA₁, eA⟩ := hwarm₁.alike.2.2 _ _ hA
  obtain ⟨kI₁, hI₁, eI⟩ := hwarm₁.alike.2.2 _ _ hI
  have X₁ := X.noted hwarm₁
  have XF := mn_stand X₁ cA cI n.toNatClampNeg k.toNatClampNeg n.toNatClampNeg
  obtain ⟨hr1, hr2⟩ := X.roomAbove hcells hslots
  refine ⟨vm₁, XF, fun target hrest => ?_⟩
  have q1 : ¬ n.toNatClampNeg > e.platform.arrayLengthLimit := by rw [Launch.admits_arrayLengthLimit X.admits]; omega
  have q2 : ¬ n.toNatClampNeg * componentBytes (.array .int) > e.platform.maxHeapBytes := by
    rw [Launch.admits_maxHeapBytes X.admits]; show ¬ n.toNatClampNeg * 4 > 536870912; omega
  have q3 : ¬ k.toNatClampNeg > e.platform.arrayLengthLimit := by rw [Launch.admits_arrayLengthLimit X.admits]; omega
  have q4 : ¬ k.toNatClampNeg * componentBytes .int > e.platform.maxHeapBytes := by
    rw [Launch.admits_maxHeapBytes X.admits]; show ¬ k.toNatClampNeg * 4 > 536870912; omega
  jvm_step X.here [hexec, hdg]
  simp only [multianewarray.sem, wp_bind', W.resolveClassAt_links (State.method?_setTop g X.here.top) hg₁]
  rw [W.popN, if_neg (by decide)]
  refine ⟨g, State.topJava?_setTop' (s := T.setVm vm₁) g X.here.top, [.int n, .int k], rest, rfl, hstack, ?_⟩
  simp only [List.mapM_cons, List.mapM_nil, wp_bind', wp_pure']
  refine wp_mn (kA := kA₁) (kI := kI₁) (cI := cI) (cc := cc) hA₁ (by rw [eA]; exact hkA) hI₁ (by rw [eI]; exact hkI) hn hk q1 q2 q3 q4 (by show T.heap.size + 1 + _ ≤ _; omega) (by show T.slotsUsed + _ + _ ≤ _; omega) (fun d' acts' => ?_)
  have eS : ((T.setTop g).setVm vm₁).setTop { g with stack := rest } = (T.setVm vm₁).setTop { g with stack := rest } := by
    show ((T.setVm vm₁).setTop g).setTop _ = _
    rw [State.setTop_setTop]
  rw [eS, mnS_top]
  simp only [wp_bind', W.mark, W.pushRef, State.topJava?_setTop' _ XF.here.top, Option.some.injEq, exists_eq_left', State.setTop_setTop, State.heap_setTop]
  intro acts
  simp [jvm, XF.here.top]
  exact hrest
end MNG
theorem aovA_spec {s : State} (h : (Cond.arrayOver (.array .int)).before #[] s = true) : ∃ (c : ClassId) (k : Class) (comp : ClassId), s.vm.findClass (FieldType.array .int).toString = some comp ∧ (s.vm.classes.findIdx? fun (x : Class) => match x.kind with | .array component _ => component == comp | _ => false) = some c ∧ s.vm.classes[c]? = some k ∧ k.kind = .array comp (.array .int) ∧ s.vm.findClass ("[" ++ (FieldType.array .int).toString) = some c := by
  unfold Cond.before Cond.holds at h
  simp only [Cond.value] at h
  cases hc : s.vm.findClass (FieldType.array .int).toString with
  | none => rw [hc] at h; simp at h
  | some comp =>
    rw [hc] at h
    simp only [Option.bind_some, beq_iff_eq, Option.bind_eq_some_iff, Option.map_eq_some_iff] at h
    obtain ⟨c, hi, k, hk, hb⟩ := h
    obtain ⟨hlt, hp, -⟩ := Array.findIdx?_eq_some_iff_getElem.mp hi
    have hkk : s.vm.classes[c] = k := (Array.getElem?_eq_some_iff.mp hk).2
    rw [hkk] at hp
    cases hkind : k.kind with
    | array component ty =>
      rw [hkind] at hb hp
      simp at hb hp
      exact ⟨c, k, comp, rfl, hi, hk, by rw [hkind, hp, hb.1], hb.2⟩
    | _ => rw [hkind] at hb; simp at hb
