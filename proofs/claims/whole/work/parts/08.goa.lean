/-! ===== a step of the small machine is steps of the machine: arrays, new objects, casts ===== -/
section GOA
variable {p : Program} {l : Launch} {e : Env} {R : Room} {s : State} {m : MethodId} {args : Array Value} {below : List Frame} {meth : Method} {c : Code} {Q : State → Prop} {D : va_G} {dA : Nat → ClassId} {bs b : Nat} {scr : Cell} {mi pc pc' len cells slots : Nat} {L L' : Lc} {st st' : List Value} {h h' : Hp}
theorem go_alen (C : Cx p s m args meth c D dA scr mi) (hd : decode (mB mi) pc = .ok (.arraylength, 1)) {a : Nat} (h1 : 20 ≤ (h.2.1 a).1) (h2 : (h.2.1 a).1 ≤ 30) (k : Go p l e R s m args below meth c Q D dA bs b scr mi (pc + 1) L (.int (Int32.ofNat (h.2.1 a).2) :: st) h cells slots) :
    Go p l e R s m args below meth c Q D dA bs b scr mi pc L (.ref a :: st) h cells slots := by
  intro H locs ls hR hL hn hq
  by_cases h3 : (h.2.1 a).1 ≤ 26
  · obtain ⟨o1, o2, o3⟩ := hR.arr h1 h3
    exact W.alen (n := Int32.ofNat (h.2.1 a).2) C.1 C.2.1 o3 ((C.2.2.2.2.2.2.1.2.1 _ h1 h3).1 _ _) (by rw [arrV_size] <;> rfl) rfl rfl hd (k H locs ls hR hL hn hq)
  · obtain ⟨rfl, o2, o3, o4⟩ := hR.scr (a := a) (by omega) h2
    exact W.alen (n := Int32.ofNat (h.2.1 a).2) C.1 C.2.1 o2 C.2.2.2.2.2.2.1.2.2.2.2.2.2.1 (by rw [o3] <;> rfl) rfl rfl hd (k H locs ls hR hL hn hq)
theorem inR {j : Int32} {n : Nat} (h1 : 0 ≤ j) (h2 : j.toNatClampNeg < n) : ¬ (j < 0 ∨ n ≤ j.toNatClampNeg) := by
  rintro (q | q)
  · exact absurd h1 (by rw [Int32.le_iff_toInt_le]; rw [Int32.lt_iff_toInt_lt] at q; omega)
  · omega
theorem go_iald (C : Cx p s m args meth c D dA scr mi) (hd : decode (mB mi) pc = .ok (.iaload, 1)) {a : Nat} {j : Int32} (h1 : ((h.2.1 a).1 = 20 ∨ (h.2.1 a).1 = 30) ∧ 0 ≤ j ∧ j.toNatClampNeg < (h.2.1 a).2) (k : Go p l e R s m args below meth c Q D dA bs b scr mi (pc + 1) L (h.1 a j.toNatClampNeg :: st) h cells slots) :
    Go p l e R s m args below meth c Q D dA bs b scr mi pc L (.int j :: .ref a :: st) h cells slots := by
  intro H locs ls hR hL hn hq
  obtain ⟨h0, h2, h3⟩ := h1
  rcases h0 with h0 | h0
  · obtain ⟨o1, o2, o3⟩ := hR.arr (a := a) (by omega) (by omega)
    have hA := (C.2.2.2.2.2.2.1.2.1 (h.2.1 a).1 (by omega) (by omega)).1
    rw [h0, show aTy 20 = .int from rfl] at hA
    rw [h0] at o3
    exact W.iald C.1 C.2.1 o3 (hA _ _) (fun q => by cases q) (by rw [arrV_size]; exact inR h2 h3) (arrV_read _ _ h3) rfl rfl hd (k H locs ls hR hL hn hq)
  · obtain ⟨rfl, o2, o3, o4⟩ := hR.scr (a := a) (by omega) (by omega)
    rw [o3] at h3
    exact W.iald C.1 C.2.1 o2 C.2.2.2.2.2.2.1.2.2.2.2.2.2.1 C.2.2.2.2.2.2.1.2.2.2.2.2.2.2 (inR h2 h3) (o4 _ h3) rfl rfl hd (k H locs ls hR hL hn hq)
theorem go_iast (C : Cx p s m args meth c D dA scr mi) (hd : decode (mB mi) pc = .ok (.iastore, 1)) {a : Nat} {j x : Int32} (h1 : (h.2.1 a).1 = 20 ∧ 0 ≤ j ∧ j.toNatClampNeg < (h.2.1 a).2) (k : Go p l e R s m args below meth c Q D dA bs b scr mi (pc + 1) L st (mup h.1 a j.toNatClampNeg (.int x), h.2) cells slots) :
    Go p l e R s m args below meth c Q D dA bs b scr mi pc L (.int x :: .int j :: .ref a :: st) h cells slots := by
  intro H locs ls hR hL hn hq
  obtain ⟨h0, h2, h3⟩ := h1
  obtain ⟨o1, o2, o3⟩ := hR.arr (a := a) (by omega) (by omega)
  have hA := (C.2.2.2.2.2.2.1.2.1 (h.2.1 a).1 (by omega) (by omega)).1
  rw [h0, show aTy 20 = .int from rfl] at hA
  rw [h0] at o3
  refine W.iast C.1 C.2.1 o3 (hA _ _) (fun q => by cases q) (by rw [arrV_size]; exact inR h2 h3) rfl rfl hd (fun H' e1 e2 e3 => ?_)
  refine k H' _ ls (hR.put o1 e2 e3 (fun _ => Or.inr ⟨by omega, by omega, ?_⟩)) hL hn (fun q hq' => ?_)
  · rw [h0, e1, arrV_store]
  · rcases List.mem_append.mp hq' with hq' | hq'
    · exact hq q hq'
    · rw [List.mem_singleton.mp hq']; exact o1
theorem go_aald (C : Cx p s m args meth c D dA scr mi) (hd : decode (mB mi) pc = .ok (.aaload, 1)) {a : Nat} {j : Int32} (h1 : 21 ≤ (h.2.1 a).1 ∧ (h.2.1 a).1 ≤ 26 ∧ 0 ≤ j ∧ j.toNatClampNeg < (h.2.1 a).2) (k : Go p l e R s m args below meth c Q D dA bs b scr mi (pc + 1) L (h.1 a j.toNatClampNeg :: st) h cells slots) :
    Go p l e R s m args below meth c Q D dA bs b scr mi pc L (.int j :: .ref a :: st) h cells slots := by
  intro H locs ls hR hL hn hq
  obtain ⟨h0, h9, h2, h3⟩ := h1
  obtain ⟨o1, o2, o3⟩ := hR.arr (a := a) (by omega) (by omega)
  have hA := (C.2.2.2.2.2.2.1.2.1 (h.2.1 a).1 (by omega) (by omega)).1
  refine W.aald C.1 C.2.1 o3 (hA _ _) ?_ (fun q => by cases q) (by rw [arrV_size]; exact inR h2 h3) (arrV_read _ _ h3) rfl rfl hd (k H locs ls hR hL hn hq)
  unfold aTy
  rw [if_neg (by omega)]
  split <;> rfl
/-- the class behind a tag, and its cell -/
theorem cell_of (C : Cx p s m args meth c D dA scr mi) {H : Heap} (hR : Rl D dA bs b scr h H) {a : Nat} (ht : (h.2.1 a).1 < 12) : ∃ cell : Cell, H[a]? = some cell ∧ cell.vm = .none ∧ cell.cls = D.1 (h.2.1 a).1 ∧ s.vm.findClass (pcn.getD (h.2.1 a).1 "") = some cell.cls ∧ ∃ kC : Class, s.vm.classes[cell.cls]? = some kC := by
  obtain ⟨o1, o2, cell, q1, q2, q3, q4⟩ := hR.obj ht
  obtain ⟨hS, hfc, kC, hkC, hkind⟩ := C.2.2.2.2.2.2.1.1 _ ht
  refine ⟨cell, q1, q3, q2, ?_, kC, by rw [q2]; exact hkC⟩
  rw [q2, ← (pcm_ok _ ht).2]
  exact hfc
/-- casts that the tables have -/
theorem casts_ok : ∀ q ∈ casts, q.1 < 12 ∧ (q.1 = q.2 ∨ Cond.castable (pcn.getD q.1 "") (pcn.getD q.2 "") ∈ nwb) := by decide +kernel
theorem cast_asg (C : Cx p s m args meth c D dA scr mi) {t u : Nat} (hc : casts.contains (t, u) = true) {ct cu : ClassId} (h1 : s.vm.findClass (pcn.getD t "") = some ct) (h2 : s.vm.findClass (pcn.getD u "") = some cu) : s.vm.assignable ct cu = true := by
  obtain ⟨h0, h3⟩ := casts_ok (t, u) (by simpa using hc)
  rcases h3 with h3 | h3
  · have e : t = u := h3
    subst e
    cases h1.symm.trans h2
    have hK := (C.2.2.2.2.2.2.1.1 _ h0).2
    have e1 : D.1 t = ct := by
      have h5 := hK.1
      rw [(pcm_ok _ h0).2] at h5
      exact Option.some.inj (h5.symm.trans h1)
    rw [← e1]
    exact va_assign hK
  · exact vb_asgC (C.2.2.2.2.2.2.1.2.2.1 _ h3) _ _ h2 h1
theorem elT_ok : ∀ t, 21 ≤ t → t ≤ 25 → pcn.getD (elT t) "" = aNm t ∧ aTy t = .object (aNm t) := by
  intro t h1 h2
  have : t = 21 ∨ t = 22 ∨ t = 23 ∨ t = 24 ∨ t = 25 := by omega
  rcases this with rfl | rfl | rfl | rfl | rfl <;> exact ⟨rfl, rfl⟩
theorem go_aast (C : Cx p s m args meth c D dA scr mi) (hd : decode (mB mi) pc = .ok (.aastore, 1)) {a v : Nat} {j : Int32} (h1 : 21 ≤ (h.2.1 a).1 ∧ (h.2.1 a).1 ≤ 25 ∧ casts.contains ((h.2.1 v).1, elT (h.2.1 a).1) = true ∧ 0 ≤ j ∧ j.toNatClampNeg < (h.2.1 a).2) (k : Go p l e R s m args below meth c Q D dA bs b scr mi (pc + 1) L st (mup h.1 a j.toNatClampNeg (.ref v), h.2) cells slots) :
    Go p l e R s m args below meth c Q D dA bs b scr mi pc L (.ref v :: .int j :: .ref a :: st) h cells slots := by
  intro H locs ls hR hL hn hq
  obtain ⟨h0, h9, h8, h2, h3⟩ := h1
  obtain ⟨o1, o2, o3⟩ := hR.arr (a := a) (by omega) (by omega)
  obtain ⟨e1, e2⟩ := elT_ok _ h0 h9
  obtain ⟨hA, hB⟩ := C.2.2.2.2.2.2.1.2.1 (h.2.1 a).1 (by omega) (by omega)
  rw [e2] at hA hB
  obtain ⟨kA, comp, k1, k2, k3, -⟩ := hB
  obtain ⟨kE, hkE, -⟩ := Vm.findClass_spec k3
  obtain ⟨cell, q1, q2, q3, q4, kC, hkC⟩ := cell_of C hR (a := v) (casts_ok ((h.2.1 v).1, elT (h.2.1 a).1) (by simpa using h8)).1
  rw [← e1] at k3
  refine W.aast C.1 C.2.1 o3 (fun q h => by cases h) (fun h => by cases h) k1 k2 rfl hkE ⟨fun q => inR h2 h3 (Or.inl q), by rw [arrV_size]; exact h3⟩ q1 (fun q h => by rw [q2] at h; cases h) hkC (cast_asg C h8 q4 k3) rfl rfl hd (fun H' e1 e2 e3 => ?_)
  refine k H' _ ls (hR.put o1 e2 e3 (fun _ => Or.inr ⟨by omega, by omega, ?_⟩)) hL hn (fun q hq' => ?_)
  · rw [e1, arrV_store]
  · rcases List.mem_append.mp hq' with hq' | hq'
    · exact hq q hq'
    · rw [List.mem_singleton.mp hq']; exact o1
theorem go_aastN (C : Cx p s m args meth c D dA scr mi) (hd : decode (mB mi) pc = .ok (.aastore, 1)) {a : Nat} {j : Int32} (h1 : 21 ≤ (h.2.1 a).1 ∧ (h.2.1 a).1 ≤ 25 ∧ 0 ≤ j ∧ j.toNatClampNeg < (h.2.1 a).2) (k : Go p l e R s m args below meth c Q D dA bs b scr mi (pc + 1) L st (mup h.1 a j.toNatClampNeg .null, h.2) cells slots) :
    Go p l e R s m args below meth c Q D dA bs b scr mi pc L (.null :: .int j :: .ref a :: st) h cells slots := by
  intro H locs ls hR hL hn hq
  obtain ⟨h0, h9, h2, h3⟩ := h1
  obtain ⟨o1, o2, o3⟩ := hR.arr (a := a) (by omega) (by omega)
  obtain ⟨e1, e2⟩ := elT_ok _ h0 h9
  have hA := (C.2.2.2.2.2.2.1.2.1 (h.2.1 a).1 (by omega) (by omega)).1
  rw [e2] at hA
  refine va_WaastN C.1 C.2.1 o3 (hA _ _) (fun h => by cases h) (by rw [arrV_size]; exact inR h2 h3) rfl rfl hd (fun H' e1 e2 e3 => ?_)
  refine k H' _ ls (hR.put o1 e2 e3 (fun _ => Or.inr ⟨by omega, by omega, ?_⟩)) hL hn (fun q hq' => ?_)
  · rw [e1, arrV_store]
  · rcases List.mem_append.mp hq' with hq' | hq'
    · exact hq q hq'
    · rw [List.mem_singleton.mp hq']; exact o1
/-- what the tables say of a class -/
theorem cls_facts (C : Cx p s m args meth c D dA scr mi) {x : Nat} {f : Nat × Nat × Nat} (hf : kOf (mO mi) x = some f) : (Cond.classLink (pcn.getD (mO mi) "") x (tagC f.2.1)).before args s = true := by
  obtain ⟨h1, h2, h3⟩ := key_inv hf
  have h4 := pcls_ok f h1
  have hown : ownOf f.1 = pcn.getD (mO mi) "" := by unfold ownOf; rw [h2]
  rw [hown, h3] at h4
  exact C.2.2.2.2.2.1 _ (wAt_g h4 rfl)
theorem tagC_lt {t : Nat} (h : t < 14) : tagC t = pcn.getD t "" := by
  unfold tagC
  rw [if_neg (by omega)]
theorem dfv_ok : ∀ t, t < 12 → ∀ k, k < (cOf t).2.2 → defaultValue (pty t k) = dfv (pty t k) := by decide +kernel
theorem go_new (C : Cx p s m args meth c D dA scr mi) {x : Nat} {f : Nat × Nat × Nat} (hf : kOf (mO mi) x = some f) (hlt : f.2.1 < 12) (hd : decode (mB mi) pc = .ok (.new x, 3)) (hc1 : cells + 1 ≤ R.cells) (hc2 : slots + (cOf f.2.1).2.2 ≤ R.slots)
    (k : Go p l e R s m args below meth c Q D dA bs b scr mi (pc + 3) L (.ref h.2.2.1 :: st) (mnw h.1 h.2.2.1 (fun k => dfv (pty f.2.1 k)), mnw h.2.1 h.2.2.1 (f.2.1, (cOf f.2.1).2.2), h.2.2.1 + 1, h.2.2.2 + (cOf f.2.1).2.2) (cells + 1) (slots + (cOf f.2.1).2.2)) :
    Go p l e R s m args below meth c Q D dA bs b scr mi pc L st h cells slots := by
  intro H locs ls hR hL hn hq
  have h1 := cls_facts C hf
  rw [tagC_lt (by omega)] at h1
  obtain ⟨p1, p2⟩ := pcm_ok _ hlt
  have h2 := C.2.2.2.2.2.1 _ (wAt_g p1 rfl)
  have h3 := C.2.2.2.2.2.1 _ (wAt_g (pci_ok f.2.1 (by omega)) rfl)
  rw [p2] at h2
  have hKn := C.2.2.2.2.2.2.1.1 _ hlt
  have hfc := hKn.2.1
  rw [p2] at hfc
  refine W.newcK C.1 C.2.1 C.2.2.2.2.1 h1 h2 h3 rfl hd hc1 hc2 hfc hR.1 (fun H' kC hkC e1 e2 e3 => ?_)
  refine k H' locs ls (hR.push e2 e3 (by omega) (Or.inl ⟨hlt, ?_⟩)) hL hn hq
  refine (u_born (pty f.2.1) C.2.2.2.2.2.1 (ws_in _ hlt) hKn hkC e1 (pty_ok _ hlt)).to (fun k hk => dfv_ok _ hlt k hk)
theorem ac_ok : wAt 168 (.arrayClass .int) = true := by decide +kernel
theorem go_newa (C : Cx p s m args meth c D dA scr mi) (hd : decode (mB mi) pc = .ok (.newarray .int, 2)) {n : Int32} (hn0 : ¬ n < 0) (hb : n.toNatClampNeg ≤ 10000) (hc1 : cells + 1 ≤ R.cells) (hc2 : slots + n.toNatClampNeg ≤ R.slots)
    (k : Go p l e R s m args below meth c Q D dA bs b scr mi (pc + 2) L (.ref h.2.2.1 :: st) (mnw h.1 h.2.2.1 (fun _ => .int 0), mnw h.2.1 h.2.2.1 (20, n.toNatClampNeg), h.2.2.1 + 1, h.2.2.2 + n.toNatClampNeg) (cells + 1) (slots + n.toNatClampNeg)) :
    Go p l e R s m args below meth c Q D dA bs b scr mi pc L (.int n :: st) h cells slots := by
  intro H locs ls hR hL hn hq
  have hac : (Cond.arrayClass (newarray.typeOf .int)).before args s = true := C.2.2.2.2.2.1 _ (wAt_g (i := 168) ac_ok rfl)
  refine va_newaK C.1 C.2.1 hac (g := F0 m pc ls (.int n :: st)) rfl hd rfl hn0 rfl (by show _ * 4 ≤ _; omega) hc1 hc2 hR.1 (fun H' cA e1 e2 e3 e4 e5 => ?_)
  have hA := (C.2.2.2.2.2.2.1.2.1 20 (by omega) (by omega)).2
  have e6 : cA = dA 20 := Option.some.inj (e5.symm.trans hA)
  subst e6
  exact k H' locs ls (hR.push e2 e3 (by show 20 ≤ 26; omega) (Or.inr ⟨by show 20 ≤ 20; omega, by show 20 ≤ 26; omega, e1⟩)) hL hn hq
theorem go_newr (C : Cx p s m args meth c D dA scr mi) {x t : Nat} {f : Nat × Nat × Nat} (hf : kOf (mO mi) x = some f) (ht : 21 ≤ t ∧ t ≤ 25 ∧ f.2.1 = elT t) (hd : decode (mB mi) pc = .ok (.anewarray x, 3)) {n : Int32} (hn0 : ¬ n < 0) (hb : n.toNatClampNeg ≤ 10000) (hc1 : cells + 1 ≤ R.cells) (hc2 : slots + n.toNatClampNeg ≤ R.slots)
    (k : Go p l e R s m args below meth c Q D dA bs b scr mi (pc + 3) L (.ref h.2.2.1 :: st) (mnw h.1 h.2.2.1 (fun _ => .null), mnw h.2.1 h.2.2.1 (t, n.toNatClampNeg), h.2.2.1 + 1, h.2.2.2 + n.toNatClampNeg) (cells + 1) (slots + n.toNatClampNeg)) :
    Go p l e R s m args below meth c Q D dA bs b scr mi pc L (.int n :: st) h cells slots := by
  intro H locs ls hR hL hn hq
  obtain ⟨t1, t2, t3⟩ := ht
  obtain ⟨e1, e2⟩ := elT_ok _ t1 t2
  have h1 := cls_facts C hf
  have hl : elT t < 14 := by
    have : t = 21 ∨ t = 22 ∨ t = 23 ∨ t = 24 ∨ t = 25 := by omega
    rcases this with rfl | rfl | rfl | rfl | rfl <;> decide
  rw [t3, tagC_lt hl, e1] at h1
  refine W.anew C.1 C.2.1 C.2.2.2.2.1 h1 (va_AO.use (C.2.2.2.2.2.2.1.2.2.2.2.1 t t1 t2)) (g := F0 m pc ls (.int n :: st)) rfl hd rfl hn0 (by omega) hc1 hc2 (fun cA kA comp f1 f2 f3 f4 => ?_)
  have hB := (C.2.2.2.2.2.2.1.2.1 t (by omega) (by omega)).2
  rw [e2] at hB
  obtain ⟨kA', comp', k1, k2, k3, k4⟩ := hB
  have e6 : cA = dA t := Option.some.inj (f1.symm.trans k4)
  subst e6
  rw [hR.1]
  have hsz : (H.push ({ cls := dA t, slots := Array.replicate n.toNatClampNeg .null, vm := .none } : Cell)).size = h.2.2.1 + 1 := by rw [Array.size_push, hR.1]
  refine k _ locs ls (hR.push hsz (fun q hq' => ?_) (by show t ≤ 26; omega) (Or.inr ⟨by show 20 ≤ t; omega, by show t ≤ 26; omega, ?_⟩)) hL hn hq
  · rw [Array.getElem?_push, if_neg (by rw [hR.1]; omega)]
  · rw [← hR.1, Array.getElem?_push_size, ← arrV_new]
theorem go_cast (C : Cx p s m args meth c D dA scr mi) {x : Nat} {f : Nat × Nat × Nat} (hf : kOf (mO mi) x = some f) (hlt : f.2.1 < 14) (hd : decode (mB mi) pc = .ok (.checkcast x, 3)) {a : Nat} (hc : casts.contains ((h.2.1 a).1, f.2.1) = true)
    (k : Go p l e R s m args below meth c Q D dA bs b scr mi (pc + 3) L (.ref a :: st) h cells slots) : Go p l e R s m args below meth c Q D dA bs b scr mi pc L (.ref a :: st) h cells slots := by
  intro H locs ls hR hL hn hq
  have h1 := cls_facts C hf
  rw [tagC_lt hlt] at h1
  obtain ⟨h0, h3⟩ := casts_ok _ (by simpa using hc)
  obtain ⟨cell, q1, q2, q3, q4, kC, hkC⟩ := cell_of C hR (a := a) h0
  rcases h3 with h3 | h3
  · have e0 : (h.2.1 a).1 = f.2.1 := h3
    have hK := (C.2.2.2.2.2.2.1.1 _ h0).2
    rw [(pcm_ok _ h0).2] at hK
    rw [← e0] at h1
    exact va_castS C.1 C.2.1 C.2.2.2.2.1 h1 hK ⟨cell, q1, by rw [q2]; rfl, q4⟩ hd (k H locs ls hR hL hn hq)
  · exact va_castY C.1 C.2.1 C.2.2.2.2.1 h1 (C.2.2.2.2.2.2.1.2.2.1 _ h3) ⟨cell, q1, by rw [q2]; rfl, q4⟩ hd (k H locs ls hR hL hn hq)
theorem go_inst (C : Cx p s m args meth c D dA scr mi) {x : Nat} {f : Nat × Nat × Nat} (hf : kOf (mO mi) x = some f) (hlt : f.2.1 < 14) (hd : decode (mB mi) pc = .ok (.instanceof x, 3)) {a : Nat} (hc : casts.contains ((h.2.1 a).1, f.2.1) = true)
    (k : Go p l e R s m args below meth c Q D dA bs b scr mi (pc + 3) L (.int 1 :: st) h cells slots) : Go p l e R s m args below meth c Q D dA bs b scr mi pc L (.ref a :: st) h cells slots := by
  intro H locs ls hR hL hn hq
  have h1 := cls_facts C hf
  rw [tagC_lt hlt] at h1
  obtain ⟨h0, h3⟩ := casts_ok _ (by simpa using hc)
  obtain ⟨cell, q1, q2, q3, q4, kC, hkC⟩ := cell_of C hR (a := a) h0
  rcases h3 with h3 | h3
  · have e0 : (h.2.1 a).1 = f.2.1 := h3
    have hK := (C.2.2.2.2.2.2.1.1 _ h0).2
    rw [(pcm_ok _ h0).2] at hK
    rw [← e0] at h1
    exact va_instS C.1 C.2.1 C.2.2.2.2.1 h1 hK ⟨cell, q1, by rw [q2]; rfl, q4⟩ hd (k H locs ls hR hL hn hq)
  · exact va_instY C.1 C.2.1 C.2.2.2.2.1 h1 (C.2.2.2.2.2.2.1.2.2.1 _ h3) ⟨cell, q1, by rw [q2]; rfl, q4⟩ hd (k H locs ls hR hL hn hq)
theorem nocasts_ok : ∀ q ∈ nocasts, q.1 < 12 := by decide +kernel
theorem go_instNo (C : Cx p s m args meth c D dA scr mi) {x : Nat} {f : Nat × Nat × Nat} (hf : kOf (mO mi) x = some f) (hlt : f.2.1 < 14) (hd : decode (mB mi) pc = .ok (.instanceof x, 3)) {a : Nat} (hc : nocasts.contains ((h.2.1 a).1, f.2.1) = true)
    (k : Go p l e R s m args below meth c Q D dA bs b scr mi (pc + 3) L (.int 0 :: st) h cells slots) : Go p l e R s m args below meth c Q D dA bs b scr mi pc L (.ref a :: st) h cells slots := by
  intro H locs ls hR hL hn hq
  have h1 := cls_facts C hf
  rw [tagC_lt hlt] at h1
  have hm : ((h.2.1 a).1, f.2.1) ∈ nocasts := by simpa using hc
  obtain ⟨cell, q1, q2, q3, q4, kC, hkC⟩ := cell_of C hR (a := a) (nocasts_ok ((h.2.1 a).1, f.2.1) hm)
  exact va_instNo C.1 C.2.1 C.2.2.2.2.1 h1 (C.2.2.2.2.2.2.1.2.2.2.1 _ hm) ⟨cell, q1, by rw [q2]; rfl, q4⟩ hd (k H locs ls hR hL hn hq)
end GOA
