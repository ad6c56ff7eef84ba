/-! ===== a step of the small machine is steps of the machine: straight instructions ===== -/
/-- the method mi runs: its code, its tables -/
def Cx (p : Program) (s : State) (m : MethodId) (args : Array Value) (meth : Method) (c : Code) (D : va_G) (dA : Nat → ClassId) (scr : Cell) (mi : Nat) : Prop :=
  p.tables.exec = Jvm.exec ∧ c.code = mB mi ∧ c.maxLocals = mL mi ∧ meth.sig.returnType = mR mi ∧ s.vm.findClass (pcn.getD (mO mi) "") = some m.cls ∧ (∀ w ∈ gtb, w.before args s = true) ∧ KK D dA scr s ∧ meth.locks = false ∧ (isInit mi = true → meth.name = "<init>")
/-- from this point of the small machine on the machine comes to Q -/
def Go (p : Program) (l : Launch) (e : Env) (R : Room) (s : State) (m : MethodId) (args : Array Value) (below : List Frame) (meth : Method) (c : Code) (Q : State → Prop) (D : va_G) (dA : Nat → ClassId) (bs b : Nat) (scr : Cell) (mi pc : Nat) (L : Lc) (st : List Value) (h : Hp) (cells slots : Nat) : Prop :=
  ∀ (H : Heap) (locs : List Loc) (ls : Array Slot), Rl D dA bs b scr h H → Ls ls L → L.length = mL mi → (∀ q ∈ locs, bs ≤ q.base) → W p l e R s m args below meth c H locs cells slots Q (F0 m pc ls st)
theorem lnq_inv {len n : Nat} {x : Option Ou} {y : Ou} (h : lnq len n x = some y) : len = n ∧ x = some y := by
  unfold lnq at h
  split at h
  · exact ⟨by assumption, h⟩
  · cases h
theorem nxt_inv {pc len pc' : Nat} {L L' : Lc} {st st' : List Value} {h h' : Hp} (q : nxt pc len L st h = some (.inl (pc', L', st', h'))) : pc' = pc + len ∧ L' = L ∧ st' = st ∧ h' = h := by
  simp only [nxt, Option.some.injEq, Sum.inl.injEq, Prod.mk.injEq] at q
  obtain ⟨a, b, c, d⟩ := q
  exact ⟨a.symm, b.symm, c.symm, d.symm⟩
theorem jmp_inv {pc pc' : Nat} {off : Int} {L L' : Lc} {st st' : List Value} {h h' : Hp} (q : jmp pc off L st h = some (.inl (pc', L', st', h'))) : (pc : Int) + off = (pc' : Int) ∧ L' = L ∧ st' = st ∧ h' = h := by
  unfold jmp at q
  split at q
  · cases q
  · simp only [Option.some.injEq, Sum.inl.injEq, Prod.mk.injEq] at q
    obtain ⟨a, b, c, d⟩ := q
    refine ⟨?_, b.symm, c.symm, d.symm⟩
    rw [← a]
    omega
theorem brq_inv {C : Prop} [Decidable C] {pc len pc' : Nat} {off : Int} {L L' : Lc} {st st' : List Value} {h h' : Hp} (q : brq C off L pc len st h = some (.inl (pc', L', st', h'))) : (∃ tgt : Nat, (pc : Int) + off = (tgt : Int) ∧ ((C ∧ pc' = tgt) ∨ (¬ C ∧ pc' = pc + len))) ∧ L' = L ∧ st' = st ∧ h' = h := by
  unfold brq at q
  split at q
  · cases q
  · split at q
    · simp only [Option.some.injEq, Sum.inl.injEq, Prod.mk.injEq] at q
      obtain ⟨a, b, c, d⟩ := q
      exact ⟨⟨_, by rw [Int.toNat_of_nonneg (by omega)], Or.inl ⟨by assumption, a.symm⟩⟩, b.symm, c.symm, d.symm⟩
    · obtain ⟨a, b⟩ := nxt_inv q
      exact ⟨⟨((pc : Int) + off).toNat, by rw [Int.toNat_of_nonneg (by omega)], Or.inr ⟨by assumption, a⟩⟩, b⟩
theorem key_inv {α : Type} {l : List (Nat × α)} {o x : Nat} {e : Nat × α} (h : l.find? (fun e => e.1 == 1000 * o + x && decide (x < 1000)) = some e) : e ∈ l ∧ e.1 / 1000 = o ∧ e.1 % 1000 = x := by
  have h1 := List.mem_of_find?_eq_some h
  have h2 := List.find?_some h
  simp only [Bool.and_eq_true, beq_iff_eq, decide_eq_true_eq] at h2
  exact ⟨h1, by omega, by omega⟩
theorem swq_offset (x : Int32) (d : Int) : ∀ ps : List (Int × Int), ps.all (fun q => decide ((Int32.ofInt q.1).toInt = q.1)) = true → Op.lookupswitch.offset ps d x.toInt = swq ps d x
  | [], _ => rfl
  | (a, o) :: r, h => by
    simp only [List.all_cons, Bool.and_eq_true, decide_eq_true_eq] at h
    unfold swq
    split
    · rename_i q
      subst q
      simp [Op.lookupswitch.offset, h.1]
    · rename_i q
      rw [lv_osw q h.1]
      exact swq_offset x d r h.2
section GO
variable {p : Program} {l : Launch} {e : Env} {R : Room} {s : State} {m : MethodId} {args : Array Value} {below : List Frame} {meth : Method} {c : Code} {Q : State → Prop} {D : va_G} {dA : Nat → ClassId} {bs b : Nat} {scr : Cell} {mi pc pc' len cells slots : Nat} {L L' : Lc} {st st' : List Value} {h h' : Hp}
theorem go0 {n k : Nat} (q : Go p l e R s m args below meth c Q D dA bs b scr mi pc L st h (cells + (n - n)) (slots + (k - k))) : Go p l e R s m args below meth c Q D dA bs b scr mi pc L st h cells slots := by
  simpa using q
/-- a branch: both ways of the row -/
theorem go_br {C : Prop} {P : Nat → Prop} {pc' tgt n : Nat} (hc : (C ∧ pc' = tgt) ∨ (¬ C ∧ pc' = n)) (k : P pc') : (C → P tgt) ∧ (¬ C → P n) := by
  rcases hc with ⟨hc, rfl⟩ | ⟨hc, rfl⟩
  · exact ⟨fun _ => k, fun x => absurd hc x⟩
  · exact ⟨fun x => absurd x hc, fun _ => k⟩
theorem go_icmp (C : Cx p s m args meth c D dA scr mi) {cd : ClassFile.Cond} {off : Int} (hd : decode (mB mi) pc = .ok (.if_icmp cd off, 3)) (hs : icmpq cd off L pc 3 st h = some (.inl (pc', L', st', h'))) (k : Go p l e R s m args below meth c Q D dA bs b scr mi pc' L' st' h' cells slots) :
    Go p l e R s m args below meth c Q D dA bs b scr mi pc L st h cells slots := by
  unfold icmpq at hs
  split at hs
  · cases cd <;> simp only at hs <;> obtain ⟨⟨tgt, ht, hc⟩, rfl, rfl, rfl⟩ := brq_inv hs <;> intro H locs ls hR hL hn hq <;> obtain ⟨k1, k2⟩ := go_br (P := fun pc' => W p l e R s m args below meth c H locs cells slots Q (F0 m pc' ls _)) hc (k H locs ls hR hL hn hq)
    · exact lv_icmp_eq C.1 C.2.1 hd ht k1 k2
    · exact lv_icmp_ne C.1 C.2.1 hd ht k1 (fun x => k2 (fun y => y x))
    · exact lv_icmp_lt C.1 C.2.1 hd ht k1 k2
    · exact lv_icmp_ge C.1 C.2.1 hd ht k1 k2
    · exact lv_icmp_gt C.1 C.2.1 hd ht k1 k2
    · exact lv_icmp_le C.1 C.2.1 hd ht k1 k2
  · cases hs
theorem go_if (C : Cx p s m args meth c D dA scr mi) {cd : ClassFile.Cond} {off : Int} (hd : decode (mB mi) pc = .ok (.ifCond cd off, 3)) (hs : ifq cd off L pc 3 st h = some (.inl (pc', L', st', h'))) (k : Go p l e R s m args below meth c Q D dA bs b scr mi pc' L' st' h' cells slots) :
    Go p l e R s m args below meth c Q D dA bs b scr mi pc L st h cells slots := by
  unfold ifq at hs
  split at hs
  · cases cd <;> simp only at hs <;> obtain ⟨⟨tgt, ht, hc⟩, rfl, rfl, rfl⟩ := brq_inv hs <;> intro H locs ls hR hL hn hq <;> obtain ⟨k1, k2⟩ := go_br (P := fun pc' => W p l e R s m args below meth c H locs cells slots Q (F0 m pc' ls _)) hc (k H locs ls hR hL hn hq)
    · exact lv_if_eq C.1 C.2.1 hd ht k1 k2
    · exact lv_if_ne C.1 C.2.1 hd ht k1 (fun x => k2 (fun y => y x))
    · exact lv_if_lt C.1 C.2.1 hd ht k1 k2
    · exact lv_if_ge C.1 C.2.1 hd ht k1 k2
    · exact lv_if_gt C.1 C.2.1 hd ht k1 k2
    · exact lv_if_le C.1 C.2.1 hd ht k1 k2
  · cases hs
theorem isR_rf {v : Value} (h : isR v = true) : ∃ r : Option Nat, v = va_rf r := by
  cases v <;> first | exact ⟨none, rfl⟩ | exact ⟨some _, rfl⟩ | (simp [isR] at h)
theorem rf_inj {x y : Option Nat} : va_rf x = va_rf y ↔ x = y := by
  cases x <;> cases y <;> simp [va_rf]
theorem go_acmp (C : Cx p s m args meth c D dA scr mi) {cd : ACond} {off : Int} (hd : decode (mB mi) pc = .ok (.if_acmp cd off, 3)) (hs : acmpq (acb cd) off L pc 3 st h = some (.inl (pc', L', st', h'))) (k : Go p l e R s m args below meth c Q D dA bs b scr mi pc' L' st' h' cells slots) :
    Go p l e R s m args below meth c Q D dA bs b scr mi pc L st h cells slots := by
  unfold acmpq at hs
  split at hs
  · rename_i w v st0
    split at hs
    · rename_i hv
      obtain ⟨rv, rfl⟩ := isR_rf hv.1
      obtain ⟨rw_, rfl⟩ := isR_rf hv.2
      cases cd
      · simp only [acb, if_true] at hs
        obtain ⟨⟨tgt, ht, hc⟩, rfl, rfl, rfl⟩ := brq_inv hs
        rw [rf_inj] at hc
        intro H locs ls hR hL hn hq
        obtain ⟨k1, k2⟩ := go_br (P := fun pc' => W p l e R s m args below meth c H locs cells slots Q (F0 m pc' ls _)) hc (k H locs ls hR hL hn hq)
        exact lv_acmp_eq C.1 C.2.1 hd ht k1 k2
      · simp only [acb, Bool.false_eq_true, if_false] at hs
        obtain ⟨⟨tgt, ht, hc⟩, rfl, rfl, rfl⟩ := brq_inv hs
        rw [rf_inj] at hc
        intro H locs ls hR hL hn hq
        obtain ⟨k1, k2⟩ := go_br (P := fun pc' => W p l e R s m args below meth c H locs cells slots Q (F0 m pc' ls _)) hc (k H locs ls hR hL hn hq)
        exact lv_acmp_ne C.1 C.2.1 hd ht k1 (fun x => k2 (fun y => y x))
    · cases hs
  · cases hs
/-- straight instructions that touch no cell -/
theorem go_ldI (C : Cx p s m args meth c D dA scr mi) {j : Nat} (hd : (∃ f : Fin 4, (f : Nat) = j ∧ len = 1 ∧ decode (mB mi) pc = .ok (.iload_n f, 1)) ∨ (len = 2 ∧ decode (mB mi) pc = .ok (.iload j, 2))) (hs : ldI L j pc len st h = some (.inl (pc', L', st', h'))) (k : Go p l e R s m args below meth c Q D dA bs b scr mi pc' L' st' h' cells slots) :
    h' = h ∧ Go p l e R s m args below meth c Q D dA bs b scr mi pc L st h cells slots := by
  unfold ldI at hs
  split at hs
  · rename_i x hx
    obtain ⟨rfl, rfl, rfl, rfl⟩ := nxt_inv hs
    refine ⟨rfl, fun H locs ls hR hL hn hq => ?_⟩
    rcases hd with ⟨f, hf, rfl, hd⟩ | ⟨rfl, hd⟩
    · exact lv_iload_n C.1 C.2.1 hd hf (hL.get hx) (k H locs ls hR hL hn hq)
    · exact lv_iload C.1 C.2.1 hd (hL.get hx) (k H locs ls hR hL hn hq)
  · cases hs
theorem go_ldA (C : Cx p s m args meth c D dA scr mi) {j : Nat} (hd : (∃ f : Fin 4, (f : Nat) = j ∧ len = 1 ∧ decode (mB mi) pc = .ok (.aload_n f, 1)) ∨ (len = 2 ∧ decode (mB mi) pc = .ok (.aload j, 2))) (hs : ldA L j pc len st h = some (.inl (pc', L', st', h'))) (k : Go p l e R s m args below meth c Q D dA bs b scr mi pc' L' st' h' cells slots) :
    h' = h ∧ Go p l e R s m args below meth c Q D dA bs b scr mi pc L st h cells slots := by
  unfold ldA at hs
  split at hs
  · rename_i v hx
    split at hs
    · rename_i hv
      obtain ⟨rfl, rfl, rfl, rfl⟩ := nxt_inv hs
      obtain ⟨r, rfl⟩ := isR_rf hv
      refine ⟨rfl, fun H locs ls hR hL hn hq => ?_⟩
      cases r with
      | none =>
        rcases hd with ⟨f, hf, rfl, hd⟩ | ⟨rfl, hd⟩
        · exact lv_aload_nN C.1 C.2.1 hd hf (hL.get hx) (k H locs ls hR hL hn hq)
        · exact lv_aloadN C.1 C.2.1 hd (hL.get hx) (k H locs ls hR hL hn hq)
      | some a =>
        rcases hd with ⟨f, hf, rfl, hd⟩ | ⟨rfl, hd⟩
        · exact lv_aload_n C.1 C.2.1 hd hf (hL.get hx) (k H locs ls hR hL hn hq)
        · exact lv_aload C.1 C.2.1 hd (hL.get hx) (k H locs ls hR hL hn hq)
    · cases hs
  · cases hs
theorem go_stI (C : Cx p s m args meth c D dA scr mi) {j : Nat} (hd : (∃ f : Fin 4, (f : Nat) = j ∧ len = 1 ∧ decode (mB mi) pc = .ok (.istore_n f, 1)) ∨ (len = 2 ∧ decode (mB mi) pc = .ok (.istore j, 2))) (hs : stI L j pc len st h = some (.inl (pc', L', st', h'))) (k : Go p l e R s m args below meth c Q D dA bs b scr mi pc' L' st' h' cells slots) :
    h' = h ∧ Go p l e R s m args below meth c Q D dA bs b scr mi pc L st h cells slots := by
  unfold stI at hs
  split at hs
  · split at hs
    · rename_i x st0 hj
      obtain ⟨rfl, rfl, rfl, rfl⟩ := nxt_inv hs
      refine ⟨rfl, fun H locs ls hR hL hn hq => ?_⟩
      rcases hd with ⟨f, hf, rfl, hd⟩ | ⟨rfl, hd⟩
      · exact lv_istore_n C.1 C.2.1 hd hf hL hj rfl (fun ls' hl => k H locs ls' hR (Ls.stored rfl hl) (by rw [stL_len]; exact hn) hq)
      · exact lv_istore C.1 C.2.1 hd hL hj rfl (fun ls' hl => k H locs ls' hR (Ls.stored rfl hl) (by rw [stL_len]; exact hn) hq)
    · cases hs
  · cases hs
theorem go_stA (C : Cx p s m args meth c D dA scr mi) {j : Nat} (hd : (∃ f : Fin 4, (f : Nat) = j ∧ len = 1 ∧ decode (mB mi) pc = .ok (.astore_n f, 1)) ∨ (len = 2 ∧ decode (mB mi) pc = .ok (.astore j, 2))) (hs : stA L j pc len st h = some (.inl (pc', L', st', h'))) (k : Go p l e R s m args below meth c Q D dA bs b scr mi pc' L' st' h' cells slots) :
    h' = h ∧ Go p l e R s m args below meth c Q D dA bs b scr mi pc L st h cells slots := by
  unfold stA at hs
  split at hs
  · rename_i v st0
    split at hs
    · rename_i hj
      obtain ⟨rfl, rfl, rfl, rfl⟩ := nxt_inv hs
      obtain ⟨r, rfl⟩ := isR_rf hj.1
      refine ⟨rfl, fun H locs ls hR hL hn hq => ?_⟩
      cases r with
      | none =>
        rcases hd with ⟨f, hf, rfl, hd⟩ | ⟨rfl, hd⟩
        · exact lv_astore_nN C.1 C.2.1 hd hf hL hj.2 rfl (fun ls' hl => k H locs ls' hR (Ls.stored rfl hl) (by rw [stL_len]; exact hn) hq)
        · exact lv_astoreN C.1 C.2.1 hd hL hj.2 rfl (fun ls' hl => k H locs ls' hR (Ls.stored rfl hl) (by rw [stL_len]; exact hn) hq)
      | some a =>
        rcases hd with ⟨f, hf, rfl, hd⟩ | ⟨rfl, hd⟩
        · exact lv_astore_n C.1 C.2.1 hd hf hL hj.2 rfl (fun ls' hl => k H locs ls' hR (Ls.stored rfl hl) (by rw [stL_len]; exact hn) hq)
        · exact lv_astore C.1 C.2.1 hd hL hj.2 rfl (fun ls' hl => k H locs ls' hR (Ls.stored rfl hl) (by rw [stL_len]; exact hn) hq)
    · cases hs
  · cases hs
end GO
