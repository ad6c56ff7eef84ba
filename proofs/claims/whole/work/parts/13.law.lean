/-! THE CLAIM OUT OF ONE WALK OF THE LAW'S BODY. Your part is whole_start (and what it stands on); all else here is the same for every law, but numbers. -/
def R_law : String := "CostumeStockLaw"
def lw_P (b : Addr) (xs : List Int32) (args : Array Value) (s : State) : Prop := args = #[.ref b] ∧ s.IntsAt b xs ∧ xs.length ≤ 2560 ∧ (Jvm.Cond.and given_1 narrow_1).before args s = true
def lw_Q (_ : Array Value) (s : State) (o : Outcome) (t : State) : Prop := o = .returned (some (.int 1)) ∧ Framed s o t [] 600000 7302250
def lw_Z (below : List Frame) (a : Array Value) (s : State) : State → Prop := fun t => ∃ o, t.status = .running ∧ Ended t below o ∧ lw_Q a s o t
/-- the law's own end, with 1 on the stack, nothing written that was there before, its room as the claim has it -/
theorem lw_ret {p : Program} {l : Launch} {e : Env} {s : State} {m : MethodId} {below : List Frame} {meth : Method} {c : Code} {b : Nat} (hx : p.tables.exec = Jvm.exec) (hb : c.code = code) (hr : meth.sig.returnType = ret) (hlocks : meth.locks = false) {pc : Nat} {H : Heap} {ls : Array Slot} (hdg : decode code pc = .ok (.ireturn, 1)) : W p l e room_1 s m #[Value.ref b] below meth c H [] 600000 7302250 (lw_Z below #[Value.ref b] s) (F0 m pc ls [.int 1]) := by
  intro T hT X
  obtain ⟨fs, hret, hrun, hended, hW, hframe⟩ := X.leave (v := some (.int 1)) (hlocks := hlocks) (fun h => by rw [hr] at h; cases h)
  have hmeth' : T.vm.method? m = some meth := X.method'
  refine ⟨T.setFrames fs, ?_, .returned (some (.int 1)), hrun, hended, rfl, ⟨_, rfl⟩, hW, hframe⟩
  jvm_step X.here [X.here.top, hx, hb, hdg, hmeth', hr, ret, narrow_b1]
  (try refine ⟨rfl, ?_⟩); (try refine ⟨rfl, ?_⟩)
  first | (intro acts; rw [hret _ acts rfl rfl rfl]) | rw [hret _ _ rfl rfl rfl]
  exact Steps.refl _
/-- what holds at the law's entry: the machine, the code, the tables' words (any of lw_tbl by 'hts w (by decide +kernel)'), the script of L ints xs at the cell b, what the Statement gives of the start (any of its parts by flat_of_before) -/
def lw_At (p : Program) (s : State) (m : MethodId) (meth : Method) (c : Code) (b L : Nat) (xs : Nat → Int32) : Prop :=
  p.tables.exec = Jvm.exec ∧ c.code = code ∧ meth.sig.returnType = ret ∧ c.maxLocals = 4 ∧ s.vm.findClass R_law = some m.cls ∧ (∀ w ∈ lw_tbl, w.before #[Value.ref b] s = true) ∧ va_X b L xs s s.heap ∧ b < s.heap.size ∧ meth.locks = false ∧ (Jvm.Cond.and given_1 narrow_1).before #[Value.ref b] s = true
/-! ===== the law's entry, out of the small machine ===== -/
theorem aov_in : ∀ t, 21 ≤ t → t ≤ 25 → Cond.arrayOver (.object (aNm t)) ∈ lw_tbl := by
  have h : ∀ q ∈ [(21, 90), (22, 92), (23, 94), (24, 96), (25, 98)], wAt q.2 (.arrayOver (.object (aNm q.1))) = true := by decide +kernel
  intro t h1 h2
  have : t = 21 ∨ t = 22 ∨ t = 23 ∨ t = 24 ∨ t = 25 := by omega
  rcases this with rfl | rfl | rfl | rfl | rfl
  · exact List.mem_of_getElem? (of_decide_eq_true (h (21, 90) (by decide)))
  · exact List.mem_of_getElem? (of_decide_eq_true (h (22, 92) (by decide)))
  · exact List.mem_of_getElem? (of_decide_eq_true (h (23, 94) (by decide)))
  · exact List.mem_of_getElem? (of_decide_eq_true (h (24, 96) (by decide)))
  · exact List.mem_of_getElem? (of_decide_eq_true (h (25, 98) (by decide)))
theorem aovA_in : Cond.arrayOver (.array .int) ∈ lw_tbl := List.mem_of_getElem? (of_decide_eq_true (show wAt 108 (.arrayOver (.array .int)) = true by decide +kernel))
theorem nocasts_in : ∀ q ∈ nocasts, Cond.not (.castable (pcn.getD q.1 "") (pcn.getD q.2 "")) ∈ flatC (Jvm.Cond.and given_1 narrow_1) := by decide +kernel
theorem KK_start {s : State} {args : Array Value} {scr : Cell} (hts : ∀ w ∈ lw_tbl, w.before args s = true) (hgv : (Jvm.Cond.and given_1 narrow_1).before args s = true) (h7 : s.isArrayOf scr .int) (h8 : scr.vm ≠ .unknown) : ∃ (D : va_G) (dA : Nat → ClassId), KK D dA scr s := by
  have hg : ∀ w ∈ gtb, w.before args s = true := fun w hw => hts w (gtb_in hw)
  have hK : ∀ t, ∃ q : ClassId × (Nat → Nat), t < 12 → u_Kn s (cOf t).1 (cOf t).2.1 (cOf t).2.2 q.1 q.2 := by
    intro t
    by_cases ht : t < 12
    · obtain ⟨cC, iS, h⟩ := u_known hg (ws_in t ht) (hg _ (wAt_g (pcm_ok t ht).1 rfl))
      exact ⟨(cC, iS), fun _ => h⟩
    · exact ⟨(0, fun _ => 0), fun q => absurd q ht⟩
  have hA : ∀ t, ∃ cA : ClassId, 20 ≤ t → t ≤ 26 → ArrOfT s cA (aTy t) ∧ va_RA s cA (aTy t) := by
    intro t
    by_cases ht : 20 ≤ t ∧ t ≤ 26
    · by_cases h20 : t = 20
      · subst h20
        obtain ⟨cA, kA, comp, f1, f2, f3⟩ := Cond.arrayClass_spec (hg _ (wAt_g ac_ok rfl))
        exact ⟨cA, fun _ _ => ⟨fun n z => ⟨(fun k h => by cases h), kA, f2, comp, f3⟩, f1⟩⟩
      · by_cases h26 : t = 26
        · subst h26
          obtain ⟨c, k, comp, f1, f2, f3, f4, f5⟩ := aovA_spec (s := s) (hts _ aovA_in)
          exact ⟨c, fun _ _ => ⟨fun n z => ⟨(fun k h => by cases h), k, f3, comp, f4⟩, f5⟩⟩
        · obtain ⟨e1, e2⟩ := elT_ok t (by omega) (by omega)
          obtain ⟨comp, c, k, f1, f2, f3, f4, f5⟩ := Cond.arrayOver_spec (hts _ (aov_in t (by omega) (by omega)))
          refine ⟨c, fun _ _ => ?_⟩
          rw [e2]
          exact ⟨fun n z => ⟨(fun k h => by cases h), k, f3, comp, f4⟩, k, comp, f3, f4, f1, f5⟩
    · exact ⟨0, fun a b => absurd ⟨a, b⟩ ht⟩
  refine ⟨(fun t => (Classical.choose (hK t)).1, fun t => (Classical.choose (hK t)).2), fun t => Classical.choose (hA t), fun t ht => Classical.choose_spec (hK t) ht, fun t a b => Classical.choose_spec (hA t) a b, fun w hw => ?_, fun q hq => va_Nc.of (flat_of_before _ hgv _ (nocasts_in q hq)), fun t a b => hts _ (aov_in t a b), hts _ aovA_in, h7, h8⟩
  have hm := List.mem_filter.mp hw
  have hg := hm.2
  refine va_Nw.of ?_ (hts w hm.1)
  cases w <;> first | rfl | (exact absurd hg (by simp [isNw]))
/-- the cells at the law's entry: the script alone -/
def hp0 (b L : Nat) (xs : Nat → Int32) (bs : Nat) : Hp := (fun a j => if a = b then .int (xs j) else .null, fun a => if a = b then (30, L) else (99, 0), bs, 0)
/-- the law, walked by the small machine, gives the walk of the law's body -/
theorem start_of {p : Program} {e : Env} {s : State} {m : MethodId} {below : List Frame} {meth : Method} {c : Code} (l : Launch) {b L : Nat} {xs : Nat → Int32} (C0 : lw_At p s m meth c b L xs) {d : Nat} (hd : d ≤ 1000) {hE : Hp} (hx : ex d 209 0 [some (.ref b), none, none, none] [] (hp0 b L xs s.heap.size) = some (some (.int 1), hE)) (hc : hE.2.2.1 ≤ s.heap.size + 600000) (hs : hE.2.2.2 ≤ 7302250) :
    W p l e room_1 s m #[Value.ref b] below meth c s.heap [] 0 0 (lw_Z below #[Value.ref b] s) (entryFrame m ([Value.ref b] : List Value).toArray 4) := by
  obtain ⟨f, hx⟩ := ex_iff.mp hx
  obtain ⟨g1, g2, g3, g4, g5, g6, ⟨scr, x1, x2, x3, x4, x5⟩, g8, g9, g10⟩ := C0
  obtain ⟨D, dA, hK⟩ := KK_start g6 g10 x2 x3
  have C : Cx p s m #[Value.ref b] meth c D dA scr 209 := ⟨g1, g2, g4, g3, g5, fun w hw => g6 w (gtb_in hw), hK, g9, fun q => absurd q (by decide +kernel)⟩
  have hgr := rn_grow _ _ _ _ _ _ _ _ _ hx
  have hR : Rl D dA s.heap.size b scr (hp0 b L xs s.heap.size) s.heap := by
    refine ⟨rfl, Nat.le_refl _, g8, x1, fun a ha => ?_⟩
    by_cases hab : a = b
    · subst hab
      refine Or.inr ⟨by simp [hp0], rfl, by simp [hp0, x4], fun j hj => ?_⟩
      rw [x4] at hj
      simp [hp0, x5 j hj]
    · simp [hp0, hab] at ha
  have G := sim_run (l := l) (e := e) (R := room_1) (below := below) (Q := lw_Z below #[Value.ref b] s) (bs := s.heap.size) (b := b) (mc := hE.2.2.1 - s.heap.size) (ms := hE.2.2.2 - 0) (d := d) (rE := some (.int 1)) (hE := hE) C (by show d + 1 ≤ 2048; omega) (by show 64 * (d + 1) ≤ 84000; omega) (by show _ ≤ 600000; omega) (by show _ ≤ 7302250; omega)
    (fun d' c1 vs1 h1 r1 h3 q a1 a2 a3 a4 => sim_met l D dA s.heap.size b scr d' c1 vs1 h1 r1 h3 a1 a2 a3 a4)
    (fun pc len i L' st h' H locs ls q1 q2 q3 q4 => by
      refine va_forget q4 (W.widen (k := 600000) (n := 7302250) (by omega) (by omega) ?_)
      by_cases hi : isCR i = true
      · have inv : ∀ {x op : Nat}, ¬ invq 209 x op L' pc len st h' = some (.inr (.inr (some (.int 1), hE))) := by
          intro x op q
          rcases invq_grow q with ⟨_, _, _, h9⟩ | ⟨_, _, _, _, h9⟩ <;> cases h9
        cases i <;> simp only [isCR, Bool.false_eq_true] at hi <;> simp only [stp] at q2 <;> obtain ⟨hlen, q2⟩ := lnq_inv q2 <;> subst hlen
        · unfold aretq at q2
          split at q2
          · split at q2
            · rename_i hv
              cases q2
              simp [isR] at hv
            · cases q2
          · cases q2
        · exact absurd q2 inv
        · exact absurd q2 inv
        · exact absurd q2 inv
        · unfold retq at q2
          split at q2
          · split at q2
            · cases q2
              exact lw_ret g1 g2 g3 g9 q1
            · cases q2
          · cases q2
        · split at q2 <;> cases q2
      · have h1 := ok_stp (mi := 209) (pc := pc) (len := len) (L := L') (st := st) (h := h') (i := i) (by simpa using hi)
        rw [q2] at h1
        exact h1.elim) f 0 [some (.ref b), none, none, none] [] (hp0 b L xs s.heap.size) 0 0 hx (by show 0 + (hE.2.2.1 - s.heap.size) = _; omega) (by show 0 + (hE.2.2.2 - 0) = _; omega)
  rw [lg_entry_eq]
  exact G s.heap [] _ hR (Ls.entry (vs := [.ref b]) (n := 4) rfl (by simp)) rfl (fun _ q => absurd q List.not_mem_nil)
