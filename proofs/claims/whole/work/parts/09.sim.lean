/-! ===== a step of the small machine is steps of the machine: all straight instructions ===== -/
section GOS
variable {p : Program} {l : Launch} {e : Env} {R : Room} {s : State} {m : MethodId} {args : Array Value} {below : List Frame} {meth : Method} {c : Code} {Q : State → Prop} {D : va_G} {dA : Nat → ClassId} {bs b : Nat} {scr : Cell} {mi pc pc' len cells slots : Nat} {L L' : Lc} {st st' : List Value} {h h' : Hp}
theorem csum4 : ∀ (r : List Value), r.length ≤ 4 → (r.map fun v => v.category).sum ≤ 8 := by
  intro r hr
  have key : ∀ (r : List Value), (r.map fun v => v.category).sum ≤ 2 * r.length := by
    intro r
    induction r with
    | nil => simp
    | cons v t ih =>
      have := lv_cat v
      simp only [List.map_cons, List.sum_cons, List.length_cons]
      omega
  have := key r
  omega
theorem go_iop (C : Cx p s m args meth c D dA scr mi) {f : Int32 → Int32 → Int32} (hs : iop f L pc 1 st h = some (.inl (pc', L', st', h'))) (k : Go p l e R s m args below meth c Q D dA bs b scr mi pc' L' st' h' (cells + (h'.2.2.1 - h.2.2.1)) (slots + (h'.2.2.2 - h.2.2.2)))
    (row : ∀ (x y : Int32) (H : Heap) (locs : List Loc) (ls : Array Slot) (r : List Value), W p l e R s m args below meth c H locs cells slots Q (F0 m (pc + 1) ls (.int (f x y) :: r)) → W p l e R s m args below meth c H locs cells slots Q (F0 m pc ls (.int y :: .int x :: r))) :
    Go p l e R s m args below meth c Q D dA bs b scr mi pc L st h cells slots := by
  unfold iop at hs
  split at hs
  · obtain ⟨rfl, rfl, rfl, rfl⟩ := nxt_inv hs
    intro H locs ls hR hL hn hq
    exact row _ _ H locs ls _ (go0 k H locs ls hR hL hn hq)
  · cases hs
theorem go_lop (C : Cx p s m args meth c D dA scr mi) {f : Int64 → Int64 → Int64} (hs : lop f L pc 1 st h = some (.inl (pc', L', st', h'))) (k : Go p l e R s m args below meth c Q D dA bs b scr mi pc' L' st' h' (cells + (h'.2.2.1 - h.2.2.1)) (slots + (h'.2.2.2 - h.2.2.2)))
    (row : ∀ (x y : Int64) (H : Heap) (locs : List Loc) (ls : Array Slot) (r : List Value), W p l e R s m args below meth c H locs cells slots Q (F0 m (pc + 1) ls (.long (f x y) :: r)) → W p l e R s m args below meth c H locs cells slots Q (F0 m pc ls (.long y :: .long x :: r))) :
    Go p l e R s m args below meth c Q D dA bs b scr mi pc L st h cells slots := by
  unfold lop at hs
  split at hs
  · obtain ⟨rfl, rfl, rfl, rfl⟩ := nxt_inv hs
    intro H locs ls hR hL hn hq
    exact row _ _ H locs ls _ (go0 k H locs ls hR hL hn hq)
  · cases hs
theorem cst_facts (C : Cx p s m args meth c D dA scr mi) {x : Nat} {f : Nat × Int32 × Nat} (hf : sOf (mO mi) x = some f) : (Cond.constant (pcn.getD (mO mi) "") x f.2.1).before args s = true := by
  obtain ⟨h1, h2, h3⟩ := key_inv hf
  have h4 := pcst_ok f h1
  have hown : ownOf f.1 = pcn.getD (mO mi) "" := by unfold ownOf; rw [h2]
  rw [hown, h3] at h4
  exact C.2.2.2.2.2.1 _ (wAt_g h4 rfl)
theorem cst2_facts (C : Cx p s m args meth c D dA scr mi) {x : Nat} {f : Nat × Int64 × Nat} (hf : s2Of (mO mi) x = some f) : (Cond.constantLong (pcn.getD (mO mi) "") x f.2.1).before args s = true := by
  obtain ⟨h1, h2, h3⟩ := key_inv hf
  have h4 := pcst2_ok f h1
  have hown : ownOf f.1 = pcn.getD (mO mi) "" := by unfold ownOf; rw [h2]
  rw [hown, h3] at h4
  exact C.2.2.2.2.2.1 _ (wAt_g h4 rfl)
theorem go_arrq {t n : Nat} {v : Value} (hs : arrq t n v L pc len st h = some (.inl (pc', L', st', h'))) (k : Go p l e R s m args below meth c Q D dA bs b scr mi pc' L' st' h' (cells + (h'.2.2.1 - h.2.2.1)) (slots + (h'.2.2.2 - h.2.2.2))) (hr1 : cells + (h'.2.2.1 - h.2.2.1) ≤ R.cells) (hr2 : slots + (h'.2.2.2 - h.2.2.2) ≤ R.slots) :
    n ≤ 10000 ∧ cells + 1 ≤ R.cells ∧ slots + n ≤ R.slots ∧ Go p l e R s m args below meth c Q D dA bs b scr mi (pc + len) L (.ref h.2.2.1 :: st) (mnw h.1 h.2.2.1 (fun _ => v), mnw h.2.1 h.2.2.1 (t, n), h.2.2.1 + 1, h.2.2.2 + n) (cells + 1) (slots + n) := by
  unfold arrq at hs
  split at hs
  · rename_i hb
    obtain ⟨rfl, rfl, rfl, rfl⟩ := nxt_inv hs
    simp only [Nat.add_sub_cancel_left] at k hr1 hr2
    exact ⟨hb, hr1, hr2, k⟩
  · cases hs
/-- new int[n][m] -/
theorem mn_str : "[" ++ (FieldType.array .int).toString = "[[I" ∧ (FieldType.array .int).toString = "[" ++ FieldType.int.toString := ⟨rfl, rfl⟩
theorem Rl.push2 {H H1 : Heap} {N M k : Nat} (r : Rl D dA bs b scr h H) (z : H1.size = h.2.2.1 + 1 + N) (oq : ∀ q : Nat, q < h.2.2.1 → H1[q]? = H[q]?) (ho : H1[h.2.2.1]? = some (mnO (dA 26) N h.2.2.1 N)) (hi : ∀ j, j < N → H1[h.2.2.1 + 1 + j]? = some (mnI (dA 20) M)) :
    Rl D dA bs b scr (fun x => if x = h.2.2.1 then (fun j => if j < N then .ref (h.2.2.1 + 1 + j) else .null) else if h.2.2.1 < x ∧ x ≤ h.2.2.1 + N then (fun _ => .int 0) else h.1 x, fun x => if x = h.2.2.1 then (26, N) else if h.2.2.1 < x ∧ x ≤ h.2.2.1 + N then (20, M) else h.2.1 x, h.2.2.1 + 1 + N, k) H1 := by
  obtain ⟨r1, r2, r3, r4, r5⟩ := r
  refine ⟨z, by show bs ≤ h.2.2.1 + 1 + N; omega, r3, by rw [oq b (by omega)]; exact r4, fun x hx => ?_⟩
  by_cases h1 : x = h.2.2.1
  · subst h1
    refine Or.inl ?_
    simp only [if_true]
    exact ⟨by decide, r2, by omega, Or.inr ⟨(show 20 ≤ 26 by decide), (show 26 ≤ 26 by decide), ho⟩⟩
  · by_cases h2 : h.2.2.1 < x ∧ x ≤ h.2.2.1 + N
    · refine Or.inl ?_
      simp only [h1, if_false, h2, and_self, if_true]
      refine ⟨by decide, by omega, by omega, Or.inr ⟨(show 20 ≤ 20 by decide), (show 20 ≤ 26 by decide), ?_⟩⟩
      have := hi (x - (h.2.2.1 + 1)) (by omega)
      rw [show h.2.2.1 + 1 + (x - (h.2.2.1 + 1)) = x by omega] at this
      exact this
    · simp only [h1, if_false, h2] at hx ⊢
      rcases r5 x hx with ⟨a1, a2, a3, a4⟩ | a4
      · exact Or.inl ⟨a1, a2, by omega, a4.kept (oq x a3)⟩
      · exact Or.inr a4
theorem go_mna (C : Cx p s m args meth c D dA scr mi) {x : Nat} {f : Nat × Nat × Nat} (hf : kOf (mO mi) x = some f) (hd : decode (mB mi) pc = .ok (.multianewarray x 2, 4)) (h26 : f.2.1 = 26) {n k : Int32} (hn0 : ¬ n < 0) (hk0 : ¬ k < 0) (hs : arr2q n.toNatClampNeg k.toNatClampNeg L pc 4 st h = some (.inl (pc', L', st', h')))
    (kk : Go p l e R s m args below meth c Q D dA bs b scr mi pc' L' st' h' (cells + (h'.2.2.1 - h.2.2.1)) (slots + (h'.2.2.2 - h.2.2.2))) (hr1 : cells + (h'.2.2.1 - h.2.2.1) ≤ R.cells) (hr2 : slots + (h'.2.2.2 - h.2.2.2) ≤ R.slots) :
    Go p l e R s m args below meth c Q D dA bs b scr mi pc L (.int k :: .int n :: st) h cells slots := by
  unfold arr2q at hs
  split at hs
  · rename_i hb
    obtain ⟨rfl, rfl, rfl, rfl⟩ := nxt_inv hs
    have z1 : h.2.2.1 + 1 + n.toNatClampNeg - h.2.2.1 = 1 + n.toNatClampNeg := by omega
    have z2 : h.2.2.2 + n.toNatClampNeg + n.toNatClampNeg * k.toNatClampNeg - h.2.2.2 = n.toNatClampNeg + n.toNatClampNeg * k.toNatClampNeg := by omega
    simp only [z1, z2] at kk hr1 hr2
    intro H locs ls hR hL hn hq T hT X
    have hcl := cls_facts C hf
    rw [h26, show tagC 26 = "[[I" from rfl] at hcl
    obtain ⟨k1, k2, k3, k4, k5, k6, k7, k8⟩ := C.2.2.2.2.2.2.1
    obtain ⟨cA, kA, cI, f1, f2, f3, f4, f5⟩ := aovA_spec k6
    have hA26 := (k2 26 (by omega) (by omega)).2
    have hA20 := k2 20 (by omega) (by omega)
    rw [show aTy 26 = .array .int from rfl] at hA26
    rw [show aTy 20 = .int from rfl] at hA20
    have e1 : cA = dA 26 := Option.some.inj (f5.symm.trans hA26)
    have e2 : cI = dA 20 := by
      rw [mn_str.2] at f1
      exact Option.some.inj (f1.symm.trans hA20.2)
    subst e1; subst e2
    obtain ⟨-, kI, hI, cc, hkI⟩ := hA20.1 0 (fun _ => .null)
    rw [mn_str.1] at f5
    obtain ⟨vm₁, X', step⟩ := mn_step X C.1 C.2.2.2.2.1 hcl f5 f3 f4 hI hkI (g := F0 m pc ls (.int k :: .int n :: st)) rfl (by rw [C.2.1]; exact hd) rfl hn0 hk0 hb.1 hb.2 hr1 hr2
    obtain ⟨g1, g2, -, -⟩ := mnS_at (T.setVm vm₁) (dA 26) (dA 20) n.toNatClampNeg k.toNatClampNeg n.toNatClampNeg
    have hsz : T.heap.size = h.2.2.1 := by rw [hT]; exact hR.1
    have hh : (T.setVm vm₁).heap = T.heap := rfl
    rw [hh, hsz] at g1 g2
    have hR' := hR.push2 (k := h.2.2.2 + n.toNatClampNeg + n.toNatClampNeg * k.toNatClampNeg) (N := n.toNatClampNeg) (M := k.toNatClampNeg) (H1 := (mnS (T.setVm vm₁) (dA 26) (dA 20) n.toNatClampNeg k.toNatClampNeg n.toNatClampNeg).heap) g1 (fun q hq' => by
        rw [mnS_old (T.setVm vm₁) _ _ _ _ (by rw [hh, hsz]; exact hq'), hh, hT]) g2 (fun j hj => by
        have := mnS_in (T.setVm vm₁) (dA 26) (dA 20) n.toNatClampNeg k.toNatClampNeg n.toNatClampNeg j hj
        rw [hh, hsz] at this
        exact this)
    have w := kk _ locs ls hR' hL hn hq
    rw [show cells + (1 + n.toNatClampNeg) = cells + 1 + n.toNatClampNeg by omega, show slots + (n.toNatClampNeg + n.toNatClampNeg * k.toNatClampNeg) = slots + n.toNatClampNeg + n.toNatClampNeg * k.toNatClampNeg by omega] at w
    obtain ⟨t, a1, b1⟩ := w _ rfl X'
    refine ⟨t, step t ?_, b1⟩
    rw [hsz]
    exact a1
  · cases hs
theorem inv_facts (C : Cx p s m args meth c D dA scr mi) {x : Nat} {f : Nat × Nat × Nat × List (Nat × Nat) × Nat} (hf : iOf (mO mi) x = some f) : okI f = true ∧ ownOf f.1 = pcn.getD (mO mi) "" ∧ f.1 % 1000 = x := by
  obtain ⟨h1, h2, h3⟩ := key_inv hf
  exact ⟨pin_ok f h1, by unfold ownOf; rw [h2], h3⟩
/-- the pool's own methods: Object's constructor, and Math's -/
theorem jdk_facts (C : Cx p s m args meth c D dA scr mi) {x kd n P : Nat} {E : List (Nat × Nat)} {k : Nat} (hf : iOf (mO mi) x = some (k, kd, n, E, P)) :
    (kd = 4 → (Cond.methodLink (pcn.getD (mO mi) "") x Lib.objectInit).before args s = true) ∧ (kd = 6 → (Cond.methodLink (pcn.getD (mO mi) "") x Lib.Math.abs.name).before args s = true) ∧ (kd = 7 → (Cond.methodLink (pcn.getD (mO mi) "") x Lib.Math.max.name).before args s = true) ∧ (kd = 8 → (Cond.methodLink (pcn.getD (mO mi) "") x Lib.Math.min.name).before args s = true) := by
  obtain ⟨h1, h2, h3⟩ := inv_facts C hf
  unfold okI at h1
  simp only at h1 h2 h3
  split at h1
  · rename_i o i y hw
    simp only [Bool.and_eq_true, decide_eq_true_eq] at h1
    obtain ⟨⟨⟨a1, a2⟩, a3⟩, a4⟩ := h1
    rw [h2] at a1
    rw [h3] at a2
    subst a1; subst a2
    have hw' := C.2.2.2.2.2.1 _ (gtb_of _ hw rfl)
    refine ⟨?_, ?_, ?_, ?_⟩ <;> rintro rfl <;> simp only [decide_eq_true_eq] at a4 <;> rw [← a4] <;> exact hw'
  · simp only [Bool.and_eq_true] at h1
    refine ⟨?_, ?_, ?_, ?_⟩ <;> rintro rfl <;> simp at h1
  · cases h1
theorem go_jdk (C : Cx p s m args meth c D dA scr mi) (hF : 1 ≤ R.frames ∧ 32 ≤ R.locals) {x op : Nat} (hd : (op = 0 ∧ decode (mB mi) pc = .ok (.invokestatic x, 3)) ∨ (op = 1 ∧ decode (mB mi) pc = .ok (.invokespecial x, 3)) ∨ op = 2) (hs : invq mi x op L pc 3 st h = some (.inl (pc', L', st', h')))
    (k : Go p l e R s m args below meth c Q D dA bs b scr mi pc' L' st' h' (cells + (h'.2.2.1 - h.2.2.1)) (slots + (h'.2.2.2 - h.2.2.2))) (hr1 : cells + (h'.2.2.1 - h.2.2.1) ≤ R.cells) (hr2 : slots + (h'.2.2.2 - h.2.2.2) ≤ R.slots) :
    Go p l e R s m args below meth c Q D dA bs b scr mi pc L st h cells slots := by
  have hcq : ∀ {c0 : Nat} {vs : List Value} {r : List Value}, ¬ callq c0 vs L pc 3 r h = some (.inl (pc', L', st', h')) := by
    intro c0 vs r q
    unfold callq at q
    split at q <;> simp at q
  have J := jdk_ok
  unfold invq at hs
  split at hs
  · cases hs
  · rename_i kk kd n E P hf
    have hj := jdk_facts C hf
    split at hs
    · rename_i hop
      have hd : decode (mB mi) pc = .ok (.invokestatic x, 3) := by
        rcases hd with ⟨-, hd⟩ | ⟨h9, -⟩ | h9
        · exact hd
        · omega
        · omega
      have hini := C.2.2.2.2.2.1 _ (wAt_g J.1 rfl)
      split at hs
      · split at hs
        · exact absurd hs hcq
        · cases hs
      · split at hs
        · exact absurd hs hcq
        · cases hs
      · split at hs
        · rename_i hl
          obtain ⟨rfl, rfl, rfl, rfl⟩ := nxt_inv hs
          simp only [Nat.sub_self, Nat.add_zero] at hr1 hr2
          intro H locs ls hR hL hn hq
          have := csum4 _ hl
          exact va_mabs C.1 C.2.1 (by rw [hL.1, hn]; exact C.2.2.1) C.2.2.2.2.1 (hj.2.1 rfl) (C.2.2.2.2.2.1 _ (wAt_g J.2.2.2.2.2.1 rfl)) hini (C.2.2.2.2.2.1 _ (wAt_g J.2.2.2.2.2.2.1 rfl)) hF.1 (by omega) hr1 hr2 hd (go0 k H locs ls hR hL hn hq)
        · cases hs
      · split at hs
        · rename_i hl
          obtain ⟨rfl, rfl, rfl, rfl⟩ := nxt_inv hs
          simp only [Nat.sub_self, Nat.add_zero] at hr1 hr2
          intro H locs ls hR hL hn hq
          have := csum4 _ hl
          exact va_mmax C.1 C.2.1 (by rw [hL.1, hn]; exact C.2.2.1) C.2.2.2.2.1 (hj.2.2.1 rfl) (C.2.2.2.2.2.1 _ (wAt_g J.2.2.2.1 rfl)) hini (C.2.2.2.2.2.1 _ (wAt_g J.2.2.2.2.1 rfl)) hF.1 (by omega) hr1 hr2 hd (go0 k H locs ls hR hL hn hq)
        · cases hs
      · split at hs
        · rename_i hl
          obtain ⟨rfl, rfl, rfl, rfl⟩ := nxt_inv hs
          simp only [Nat.sub_self, Nat.add_zero] at hr1 hr2
          intro H locs ls hR hL hn hq
          have := csum4 _ hl
          exact va_mmin C.1 C.2.1 (by rw [hL.1, hn]; exact C.2.2.1) C.2.2.2.2.1 (hj.2.2.2 rfl) (C.2.2.2.2.2.1 _ (wAt_g J.2.2.2.2.2.2.2.1 rfl)) hini (C.2.2.2.2.2.1 _ (wAt_g J.2.2.2.2.2.2.2.2 rfl)) hF.1 (by omega) hr1 hr2 hd (go0 k H locs ls hR hL hn hq)
        · cases hs
      · cases hs
    · split at hs
      · rename_i hop
        have hd : decode (mB mi) pc = .ok (.invokespecial x, 3) := by
          rcases hd with ⟨h9, -⟩ | ⟨-, hd⟩ | h9
          · omega
          · exact hd
          · omega
        split at hs
        · exact absurd hs hcq
        · exact absurd hs hcq
        · rename_i a r hst
          split at hs
          · rename_i hl
            obtain ⟨rfl, rfl, rfl, rfl⟩ := nxt_inv hs
            rw [hl.1] at hst
            simp only [List.drop_zero] at hst
            subst hst
            intro H locs ls hR hL hn hq
            have := csum4 _ hl.2
            exact W.objInit C.1 C.2.1 C.2.2.2.2.1 (hj.1 rfl) (C.2.2.2.2.2.1 _ (wAt_g J.2.1 rfl)) (C.2.2.2.2.2.1 _ (wAt_g J.2.2.1 rfl)) rfl (by show ls.size = _; rw [hL.1, hn]; exact C.2.2.1.symm) rfl hd hF.1 (by show 2 * 0 + _ + 12 ≤ _; omega) (go0 k H locs ls hR hL hn hq)
          · cases hs
        · cases hs
      · split at hs
        · unfold virq at hs
          split at hs
          · split at hs
            · exact absurd hs hcq
            · cases hs
          · cases hs
        · cases hs
theorem anw_ok {t : Nat} (h : ¬ anwT t = 0) : 21 ≤ anwT t ∧ anwT t ≤ 25 ∧ t = elT (anwT t) := by
  unfold anwT at h ⊢
  split at h <;> first | (exact absurd rfl h) | (refine ⟨by decide, by decide, rfl⟩)
theorem cast2_lt : ∀ q ∈ casts, q.2 < 14 := by decide +kernel
theorem nocast2_lt : ∀ q ∈ nocasts, q.2 < 14 := by decide +kernel
theorem sim_next (C : Cx p s m args meth c D dA scr mi) (hF : 1 ≤ R.frames ∧ 32 ≤ R.locals) {i : Instr} (hd : decode (mB mi) pc = .ok (i, len)) (hs : stp mi pc i len L st h = some (.inl (pc', L', st', h')))
    (hr1 : cells + (h'.2.2.1 - h.2.2.1) ≤ R.cells) (hr2 : slots + (h'.2.2.2 - h.2.2.2) ≤ R.slots) (k : Go p l e R s m args below meth c Q D dA bs b scr mi pc' L' st' h' (cells + (h'.2.2.1 - h.2.2.1)) (slots + (h'.2.2.2 - h.2.2.2))) :
    Go p l e R s m args below meth c Q D dA bs b scr mi pc L st h cells slots := by
  cases i <;> simp only [stp] at hs <;> (try (cases hs; done))
  case iconst n =>
    obtain ⟨rfl, hs⟩ := lnq_inv hs
    obtain ⟨rfl, rfl, rfl, rfl⟩ := nxt_inv hs
    exact fun H locs ls hR hL hn hq => lv_iconst C.1 C.2.1 hd rfl (go0 k H locs ls hR hL hn hq)
  case bipush n =>
    obtain ⟨rfl, hs⟩ := lnq_inv hs
    obtain ⟨rfl, rfl, rfl, rfl⟩ := nxt_inv hs
    exact fun H locs ls hR hL hn hq => lv_bipush C.1 C.2.1 hd rfl (go0 k H locs ls hR hL hn hq)
  case sipush n =>
    obtain ⟨rfl, hs⟩ := lnq_inv hs
    obtain ⟨rfl, rfl, rfl, rfl⟩ := nxt_inv hs
    exact fun H locs ls hR hL hn hq => lv_sipush C.1 C.2.1 hd rfl (go0 k H locs ls hR hL hn hq)
  case lconst n =>
    obtain ⟨rfl, hs⟩ := lnq_inv hs
    obtain ⟨rfl, rfl, rfl, rfl⟩ := nxt_inv hs
    exact fun H locs ls hR hL hn hq => lv_lconst C.1 C.2.1 hd rfl (go0 k H locs ls hR hL hn hq)
  case aconst_null =>
    obtain ⟨rfl, hs⟩ := lnq_inv hs
    obtain ⟨rfl, rfl, rfl, rfl⟩ := nxt_inv hs
    exact fun H locs ls hR hL hn hq => lv_null C.1 C.2.1 hd (go0 k H locs ls hR hL hn hq)
  case ldc x =>
    obtain ⟨rfl, hs⟩ := lnq_inv hs
    split at hs
    · rename_i f hf
      obtain ⟨rfl, rfl, rfl, rfl⟩ := nxt_inv hs
      exact fun H locs ls hR hL hn hq => lv_ldc C.1 C.2.1 C.2.2.2.2.1 (cst_facts C hf) hd (go0 k H locs ls hR hL hn hq)
    · cases hs
  case ldc_w x =>
    obtain ⟨rfl, hs⟩ := lnq_inv hs
    split at hs
    · rename_i f hf
      obtain ⟨rfl, rfl, rfl, rfl⟩ := nxt_inv hs
      exact fun H locs ls hR hL hn hq => lv_ldcw C.1 C.2.1 C.2.2.2.2.1 (cst_facts C hf) hd (go0 k H locs ls hR hL hn hq)
    · cases hs
  case ldc2_w x =>
    obtain ⟨rfl, hs⟩ := lnq_inv hs
    split at hs
    · rename_i f hf
      obtain ⟨rfl, rfl, rfl, rfl⟩ := nxt_inv hs
      exact fun H locs ls hR hL hn hq => lv_ldc2 C.1 C.2.1 C.2.2.2.2.1 (cst2_facts C hf) hd (go0 k H locs ls hR hL hn hq)
    · cases hs
  case iload_n f =>
    obtain ⟨rfl, hs⟩ := lnq_inv hs
    have e := (go_ldI C (Or.inl ⟨f, rfl, rfl, hd⟩) hs k).1
    subst e
    exact (go_ldI C (Or.inl ⟨f, rfl, rfl, hd⟩) hs (go0 k)).2
  case iload f =>
    obtain ⟨rfl, hs⟩ := lnq_inv hs
    have e := (go_ldI C (Or.inr ⟨rfl, hd⟩) hs k).1
    subst e
    exact (go_ldI C (Or.inr ⟨rfl, hd⟩) hs (go0 k)).2
  case lload f =>
    obtain ⟨rfl, hs⟩ := lnq_inv hs
    unfold ldL at hs
    split at hs
    · rename_i x hx
      obtain ⟨rfl, rfl, rfl, rfl⟩ := nxt_inv hs
      exact fun H locs ls hR hL hn hq => lv_lload C.1 C.2.1 hd (hL.get hx) (go0 k H locs ls hR hL hn hq)
    · cases hs
  case aload_n f =>
    obtain ⟨rfl, hs⟩ := lnq_inv hs
    have e := (go_ldA C (Or.inl ⟨f, rfl, rfl, hd⟩) hs k).1
    subst e
    exact (go_ldA C (Or.inl ⟨f, rfl, rfl, hd⟩) hs (go0 k)).2
  case aload f =>
    obtain ⟨rfl, hs⟩ := lnq_inv hs
    have e := (go_ldA C (Or.inr ⟨rfl, hd⟩) hs k).1
    subst e
    exact (go_ldA C (Or.inr ⟨rfl, hd⟩) hs (go0 k)).2
  case istore_n f =>
    obtain ⟨rfl, hs⟩ := lnq_inv hs
    have e := (go_stI C (Or.inl ⟨f, rfl, rfl, hd⟩) hs k).1
    subst e
    exact (go_stI C (Or.inl ⟨f, rfl, rfl, hd⟩) hs (go0 k)).2
  case istore f =>
    obtain ⟨rfl, hs⟩ := lnq_inv hs
    have e := (go_stI C (Or.inr ⟨rfl, hd⟩) hs k).1
    subst e
    exact (go_stI C (Or.inr ⟨rfl, hd⟩) hs (go0 k)).2
  case lstore f =>
    obtain ⟨rfl, hs⟩ := lnq_inv hs
    unfold stJ at hs
    split at hs
    · split at hs
      · rename_i x st0 hj
        obtain ⟨rfl, rfl, rfl, rfl⟩ := nxt_inv hs
        exact fun H locs ls hR hL hn hq => lv_lstore C.1 C.2.1 hd hL hj rfl (fun ls' hl => go0 k H locs ls' hR (Ls.stored2 hj hl) (by rw [List.length_set, stL_len]; exact hn) hq)
      · cases hs
    · cases hs
  case astore_n f =>
    obtain ⟨rfl, hs⟩ := lnq_inv hs
    have e := (go_stA C (Or.inl ⟨f, rfl, rfl, hd⟩) hs k).1
    subst e
    exact (go_stA C (Or.inl ⟨f, rfl, rfl, hd⟩) hs (go0 k)).2
  case astore f =>
    obtain ⟨rfl, hs⟩ := lnq_inv hs
    have e := (go_stA C (Or.inr ⟨rfl, hd⟩) hs k).1
    subst e
    exact (go_stA C (Or.inr ⟨rfl, hd⟩) hs (go0 k)).2
  case iinc j n =>
    obtain ⟨rfl, hs⟩ := lnq_inv hs
    split at hs
    · rename_i x hx
      obtain ⟨rfl, rfl, rfl, rfl⟩ := nxt_inv hs
      intro H locs ls hR hL hn hq
      obtain ⟨q, hq1, hq2⟩ := List.getElem_of_mem (prs_mem.mpr (show L[((j, Value.int x) : Nat × Value).1]? = some (some ((j, Value.int x) : Nat × Value).2) from hx))
      exact lv_iinc C.1 C.2.1 hd hL (k := q) (by rw [List.getElem?_eq_getElem hq1, hq2]) rfl (List.getElem?_eq_some_iff.mp hx).1 rfl (fun ls' hl => go0 k H locs ls' hR (Ls.stored rfl hl) (by rw [stL_len]; exact hn) hq)
    · cases hs
  case iadd =>
    obtain ⟨rfl, hs⟩ := lnq_inv hs
    exact go_iop C hs k (fun x y H locs ls r q => lv_iadd C.1 C.2.1 hd q)
  case isub =>
    obtain ⟨rfl, hs⟩ := lnq_inv hs
    exact go_iop C hs k (fun x y H locs ls r q => lv_isub C.1 C.2.1 hd q)
  case imul =>
    obtain ⟨rfl, hs⟩ := lnq_inv hs
    exact go_iop C hs k (fun x y H locs ls r q => lv_imul C.1 C.2.1 hd q)
  case iand =>
    obtain ⟨rfl, hs⟩ := lnq_inv hs
    exact go_iop C hs k (fun x y H locs ls r q => lv_iand C.1 C.2.1 hd q)
  case ishr =>
    obtain ⟨rfl, hs⟩ := lnq_inv hs
    exact go_iop C hs k (fun x y H locs ls r q => lv_ishr C.1 C.2.1 hd q)
  case idiv =>
    obtain ⟨rfl, hs⟩ := lnq_inv hs
    split at hs
    · split at hs
      · cases hs
      · rename_i hne
        obtain ⟨rfl, rfl, rfl, rfl⟩ := nxt_inv hs
        exact fun H locs ls hR hL hn hq => lv_idiv C.1 C.2.1 hd hne (go0 k H locs ls hR hL hn hq)
    · cases hs
  case irem =>
    obtain ⟨rfl, hs⟩ := lnq_inv hs
    split at hs
    · split at hs
      · cases hs
      · rename_i hne
        obtain ⟨rfl, rfl, rfl, rfl⟩ := nxt_inv hs
        exact fun H locs ls hR hL hn hq => lv_irem C.1 C.2.1 hd hne (go0 k H locs ls hR hL hn hq)
    · cases hs
  case ineg =>
    obtain ⟨rfl, hs⟩ := lnq_inv hs
    split at hs
    · obtain ⟨rfl, rfl, rfl, rfl⟩ := nxt_inv hs
      exact fun H locs ls hR hL hn hq => lv_ineg C.1 C.2.1 hd (go0 k H locs ls hR hL hn hq)
    · cases hs
  case ladd =>
    obtain ⟨rfl, hs⟩ := lnq_inv hs
    exact go_lop C hs k (fun x y H locs ls r q => lv_ladd C.1 C.2.1 hd q)
  case lsub =>
    obtain ⟨rfl, hs⟩ := lnq_inv hs
    exact go_lop C hs k (fun x y H locs ls r q => lv_lsub C.1 C.2.1 hd q)
  case i2l =>
    obtain ⟨rfl, hs⟩ := lnq_inv hs
    split at hs
    · obtain ⟨rfl, rfl, rfl, rfl⟩ := nxt_inv hs
      exact fun H locs ls hR hL hn hq => lv_i2l C.1 C.2.1 hd rfl (go0 k H locs ls hR hL hn hq)
    · cases hs
  case l2i =>
    obtain ⟨rfl, hs⟩ := lnq_inv hs
    split at hs
    · obtain ⟨rfl, rfl, rfl, rfl⟩ := nxt_inv hs
      exact fun H locs ls hR hL hn hq => lv_l2i C.1 C.2.1 hd rfl (go0 k H locs ls hR hL hn hq)
    · cases hs
  case lcmp =>
    obtain ⟨rfl, hs⟩ := lnq_inv hs
    split at hs
    · obtain ⟨rfl, rfl, rfl, rfl⟩ := nxt_inv hs
      exact fun H locs ls hR hL hn hq => W.lcmp C.1 C.2.1 hd (go0 k H locs ls hR hL hn hq)
    · cases hs
  case dup =>
    obtain ⟨rfl, hs⟩ := lnq_inv hs
    split at hs
    · split at hs
      · rename_i hc
        obtain ⟨rfl, rfl, rfl, rfl⟩ := nxt_inv hs
        exact fun H locs ls hR hL hn hq => lv_dup C.1 C.2.1 hd (cat1_1 hc) (go0 k H locs ls hR hL hn hq)
      · cases hs
    · cases hs
  case pop =>
    obtain ⟨rfl, hs⟩ := lnq_inv hs
    split at hs
    · split at hs
      · rename_i hc
        obtain ⟨rfl, rfl, rfl, rfl⟩ := nxt_inv hs
        exact fun H locs ls hR hL hn hq => lv_pop C.1 C.2.1 hd (cat1_1 hc) (go0 k H locs ls hR hL hn hq)
      · cases hs
    · cases hs
  case dup2 =>
    obtain ⟨rfl, hs⟩ := lnq_inv hs
    split at hs
    · split at hs
      · rename_i hc
        obtain ⟨rfl, rfl, rfl, rfl⟩ := nxt_inv hs
        exact fun H locs ls hR hL hn hq => lv_dup2_11 C.1 C.2.1 hd (cat1_1 hc.1) (cat1_1 hc.2) (go0 k H locs ls hR hL hn hq)
      · cases hs
    · cases hs
  case if_icmp cd off =>
    obtain ⟨rfl, hs⟩ := lnq_inv hs
    have e : h' = h := by
      unfold icmpq at hs
      split at hs
      · cases cd <;> exact (brq_inv hs).2.2.2
      · cases hs
    subst e
    exact go_icmp C hd hs (go0 k)
  case ifCond cd off =>
    obtain ⟨rfl, hs⟩ := lnq_inv hs
    have e : h' = h := by
      unfold ifq at hs
      split at hs
      · cases cd <;> exact (brq_inv hs).2.2.2
      · cases hs
    subst e
    exact go_if C hd hs (go0 k)
  case goto off =>
    obtain ⟨rfl, hs⟩ := lnq_inv hs
    obtain ⟨ht, rfl, rfl, rfl⟩ := jmp_inv hs
    exact fun H locs ls hR hL hn hq => lv_goto C.1 C.2.1 hd ht (go0 k H locs ls hR hL hn hq)
  case ifnull off =>
    obtain ⟨rfl, hs⟩ := lnq_inv hs
    split at hs
    · obtain ⟨ht, rfl, rfl, rfl⟩ := jmp_inv hs
      exact fun H locs ls hR hL hn hq => lv_ifnullN C.1 C.2.1 hd ht (go0 k H locs ls hR hL hn hq)
    · obtain ⟨rfl, rfl, rfl, rfl⟩ := nxt_inv hs
      exact fun H locs ls hR hL hn hq => lv_ifnull C.1 C.2.1 hd (go0 k H locs ls hR hL hn hq)
    · cases hs
  case ifnonnull off =>
    obtain ⟨rfl, hs⟩ := lnq_inv hs
    split at hs
    · obtain ⟨rfl, rfl, rfl, rfl⟩ := nxt_inv hs
      exact fun H locs ls hR hL hn hq => lv_ifnonnullN C.1 C.2.1 hd (go0 k H locs ls hR hL hn hq)
    · obtain ⟨ht, rfl, rfl, rfl⟩ := jmp_inv hs
      exact fun H locs ls hR hL hn hq => lv_ifnonnull C.1 C.2.1 hd ht (go0 k H locs ls hR hL hn hq)
    · cases hs
  case if_acmp cd off =>
    obtain ⟨rfl, hs⟩ := lnq_inv hs
    have e : h' = h := by
      unfold acmpq at hs
      split at hs
      · split at hs
        · split at hs <;> exact (brq_inv hs).2.2.2
        · cases hs
      · cases hs
    subst e
    exact go_acmp C hd hs (go0 k)
  case lookupswitch dflt ps =>
    split at hs
    · split at hs
      · rename_i hp
        obtain ⟨ht, rfl, rfl, rfl⟩ := jmp_inv hs
        exact fun H locs ls hR hL hn hq => lv_lookup C.1 C.2.1 hd hp.1 (swq_offset _ _ _ hp.2) ht (go0 k H locs ls hR hL hn hq)
      · cases hs
    · cases hs
  case tableswitch dflt lo hi offs =>
    split at hs
    · split at hs
      · rename_i hp
        obtain ⟨ht, rfl, rfl, rfl⟩ := jmp_inv hs
        exact fun H locs ls hR hL hn hq => lv_tableOut C.1 C.2.1 hd hp ht (go0 k H locs ls hR hL hn hq)
      · rename_i hp
        split at hs
        · rename_i off hoff
          obtain ⟨ht, rfl, rfl, rfl⟩ := jmp_inv hs
          exact fun H locs ls hR hL hn hq => lv_tableIn C.1 C.2.1 hd (fun q => hp (Or.inl q)) (fun q => hp (Or.inr q)) hoff ht (go0 k H locs ls hR hL hn hq)
        · cases hs
    · cases hs
  case getfield x =>
    obtain ⟨rfl, hs⟩ := lnq_inv hs
    split at hs
    · rename_i f hf
      unfold getq at hs
      split at hs
      · split at hs
        · rename_i ht
          obtain ⟨rfl, rfl, rfl, rfl⟩ := nxt_inv hs
          exact go_get C hf hd ht (go0 k)
        · cases hs
      · cases hs
    · cases hs
  case putfield x =>
    obtain ⟨rfl, hs⟩ := lnq_inv hs
    split at hs
    · rename_i f hf
      have e := (go_put C hf hd hs k).1
      rw [e] at k
      exact (go_put C hf hd hs (go0 k)).2
    · cases hs
  case arraylength =>
    obtain ⟨rfl, hs⟩ := lnq_inv hs
    split at hs
    · split at hs
      · rename_i hc
        obtain ⟨rfl, rfl, rfl, rfl⟩ := nxt_inv hs
        exact go_alen C hd hc.1 hc.2 (go0 k)
      · cases hs
    · cases hs
  case iaload =>
    obtain ⟨rfl, hs⟩ := lnq_inv hs
    split at hs
    · split at hs
      · rename_i hc
        obtain ⟨rfl, rfl, rfl, rfl⟩ := nxt_inv hs
        exact go_iald C hd hc (go0 k)
      · cases hs
    · cases hs
  case iastore =>
    obtain ⟨rfl, hs⟩ := lnq_inv hs
    split at hs
    · split at hs
      · rename_i hc
        obtain ⟨rfl, rfl, rfl, rfl⟩ := nxt_inv hs
        exact go_iast C hd hc (go0 k)
      · cases hs
    · cases hs
  case aaload =>
    obtain ⟨rfl, hs⟩ := lnq_inv hs
    split at hs
    · split at hs
      · rename_i hc
        obtain ⟨rfl, rfl, rfl, rfl⟩ := nxt_inv hs
        exact go_aald C hd hc (go0 k)
      · cases hs
    · cases hs
  case aastore =>
    obtain ⟨rfl, hs⟩ := lnq_inv hs
    split at hs
    · split at hs
      · rename_i hc
        obtain ⟨rfl, rfl, rfl, rfl⟩ := nxt_inv hs
        exact go_aastN C hd hc (go0 k)
      · cases hs
    · split at hs
      · rename_i hc
        obtain ⟨rfl, rfl, rfl, rfl⟩ := nxt_inv hs
        exact go_aast C hd hc (go0 k)
      · cases hs
    · cases hs
  case newarray t =>
    obtain ⟨rfl, hs⟩ := lnq_inv hs
    split at hs
    · unfold nwaq at hs
      split at hs
      · split at hs
        · cases hs
        · rename_i hn0
          obtain ⟨a1, a2, a3, a4⟩ := go_arrq hs k hr1 hr2
          exact go_newa C hd hn0 a1 a2 a3 a4
      · cases hs
    · cases hs
  case anewarray x =>
    obtain ⟨rfl, hs⟩ := lnq_inv hs
    split at hs
    · rename_i f hf
      unfold anwq at hs
      split at hs
      · split at hs
        · cases hs
        · rename_i hn0
          obtain ⟨a1, a2, a3, a4⟩ := go_arrq hs k hr1 hr2
          exact go_newr C hf (anw_ok (fun q => hn0 (Or.inr q))) hd (fun q => hn0 (Or.inl q)) a1 a2 a3 a4
      · cases hs
    · cases hs
  case multianewarray x dd =>
    obtain ⟨rfl, hs⟩ := lnq_inv hs
    split at hs
    · rename_i f hf
      unfold mnaq at hs
      split at hs
      · split at hs
        · rename_i hc
          obtain ⟨hdd, h26, hn0, hk0⟩ := hc
          rw [hdd] at hd
          exact go_mna C hf hd h26 hn0 hk0 hs k hr1 hr2
        · cases hs
      · cases hs
    · cases hs
  case new x =>
    obtain ⟨rfl, hs⟩ := lnq_inv hs
    split at hs
    · rename_i f hf
      split at hs
      · rename_i hlt
        unfold newq at hs
        obtain ⟨rfl, rfl, rfl, rfl⟩ := nxt_inv hs
        simp only [Nat.add_sub_cancel_left] at k hr1 hr2
        exact go_new C hf hlt hd hr1 hr2 k
      · cases hs
    · cases hs
  case checkcast x =>
    obtain ⟨rfl, hs⟩ := lnq_inv hs
    split at hs
    · rename_i f hf
      unfold ckcq at hs
      split at hs
      · rename_i a st0
        split at hs
        · rename_i hc
          obtain ⟨rfl, rfl, rfl, rfl⟩ := nxt_inv hs
          exact go_cast C hf (cast2_lt _ (List.mem_of_elem_eq_true hc)) hd hc (go0 k)
        · cases hs
      · cases hs
    · cases hs
  case instanceof x =>
    obtain ⟨rfl, hs⟩ := lnq_inv hs
    split at hs
    · rename_i f hf
      unfold insq at hs
      split at hs
      · obtain ⟨rfl, rfl, rfl, rfl⟩ := nxt_inv hs
        exact fun H locs ls hR hL hn hq => lv_instN C.1 C.2.1 hd (go0 k H locs ls hR hL hn hq)
      · rename_i a st0
        split at hs
        · rename_i hc
          obtain ⟨rfl, rfl, rfl, rfl⟩ := nxt_inv hs
          exact go_inst C hf (cast2_lt _ (List.mem_of_elem_eq_true hc)) hd hc (go0 k)
        · split at hs
          · rename_i hc
            obtain ⟨rfl, rfl, rfl, rfl⟩ := nxt_inv hs
            exact go_instNo C hf (nocast2_lt _ (List.mem_of_elem_eq_true hc)) hd hc (go0 k)
          · cases hs
      · cases hs
    · cases hs
  case invokestatic x =>
    obtain ⟨rfl, hs⟩ := lnq_inv hs
    exact go_jdk C hF (Or.inl ⟨rfl, hd⟩) hs k hr1 hr2
  case invokespecial x =>
    obtain ⟨rfl, hs⟩ := lnq_inv hs
    exact go_jdk C hF (Or.inr (Or.inl ⟨rfl, hd⟩)) hs k hr1 hr2
  case invokevirtual x =>
    obtain ⟨rfl, hs⟩ := lnq_inv hs
    exact go_jdk C hF (Or.inr (Or.inr rfl)) hs k hr1 hr2
  case ireturn =>
    obtain ⟨rfl, hs⟩ := lnq_inv hs
    unfold retq at hs
    split at hs
    · split at hs <;> cases hs
    · cases hs
  case areturn =>
    obtain ⟨rfl, hs⟩ := lnq_inv hs
    unfold aretq at hs
    split at hs
    · split at hs <;> cases hs
    · cases hs
  case return_ =>
    obtain ⟨rfl, hs⟩ := lnq_inv hs
    split at hs <;> cases hs
end GOS
